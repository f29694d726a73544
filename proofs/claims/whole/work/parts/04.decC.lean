theorem dX0_init_0 : decode cX0_init 0 = .ok (.aload_n 0, 1) := by decide +kernel
theorem dX0_init_1 : decode cX0_init 1 = .ok (.invokespecial 1, 3) := by decide +kernel
theorem dX0_init_4 : decode cX0_init 4 = .ok (.aload_n 0, 1) := by decide +kernel
theorem dX0_init_5 : decode cX0_init 5 = .ok (.iload_n 1, 1) := by decide +kernel
theorem dX0_init_6 : decode cX0_init 6 = .ok (.putfield 7, 3) := by decide +kernel
theorem dX0_init_9 : decode cX0_init 9 = .ok (.aload_n 0, 1) := by decide +kernel
theorem dX0_init_10 : decode cX0_init 10 = .ok (.iload_n 2, 1) := by decide +kernel
theorem dX0_init_11 : decode cX0_init 11 = .ok (.putfield 13, 3) := by decide +kernel
theorem dX0_init_14 : decode cX0_init 14 = .ok (.return_, 1) := by decide +kernel
theorem dX0_low_0 : decode cX0_low 0 = .ok (.iload_n 1, 1) := by decide +kernel
theorem dX0_low_1 : decode cX0_low 1 = .ok (.iload_n 2, 1) := by decide +kernel
theorem dX0_low_2 : decode cX0_low 2 = .ok (.iadd, 1) := by decide +kernel
theorem dX0_low_3 : decode cX0_low 3 = .ok (.ireturn, 1) := by decide +kernel
theorem dX0_high_0 : decode cX0_high 0 = .ok (.iload_n 1, 1) := by decide +kernel
theorem dX0_high_1 : decode cX0_high 1 = .ok (.bipush 8, 2) := by decide +kernel
theorem dX0_high_3 : decode cX0_high 3 = .ok (.iadd, 1) := by decide +kernel
theorem dX0_high_4 : decode cX0_high 4 = .ok (.iload_n 2, 1) := by decide +kernel
theorem dX0_high_5 : decode cX0_high 5 = .ok (.iadd, 1) := by decide +kernel
theorem dX0_high_6 : decode cX0_high 6 = .ok (.ireturn, 1) := by decide +kernel
theorem dX0_softest_0 : decode cX0_softest 0 = .ok (.bipush 6, 2) := by decide +kernel
theorem dX0_softest_2 : decode cX0_softest 2 = .ok (.iconst 2, 1) := by decide +kernel
theorem dX0_softest_3 : decode cX0_softest 3 = .ok (.iload_n 1, 1) := by decide +kernel
theorem dX0_softest_4 : decode cX0_softest 4 = .ok (.imul, 1) := by decide +kernel
theorem dX0_softest_5 : decode cX0_softest 5 = .ok (.iadd, 1) := by decide +kernel
theorem dX0_softest_6 : decode cX0_softest 6 = .ok (.ireturn, 1) := by decide +kernel
theorem dX0_hardest_0 : decode cX0_hardest 0 = .ok (.iload_n 1, 1) := by decide +kernel
theorem dX0_hardest_1 : decode cX0_hardest 1 = .ok (.bipush 20, 2) := by decide +kernel
theorem dX0_hardest_3 : decode cX0_hardest 3 = .ok (.iadd, 1) := by decide +kernel
theorem dX0_hardest_4 : decode cX0_hardest 4 = .ok (.ireturn, 1) := by decide +kernel
theorem dX0_pitchAt_0 : decode cX0_pitchAt 0 = .ok (.bipush 60, 2) := by decide +kernel
theorem dX0_pitchAt_2 : decode cX0_pitchAt 2 = .ok (.iload_n 1, 1) := by decide +kernel
theorem dX0_pitchAt_3 : decode cX0_pitchAt 3 = .ok (.isub, 1) := by decide +kernel
theorem dX0_pitchAt_4 : decode cX0_pitchAt 4 = .ok (.iload_n 2, 1) := by decide +kernel
theorem dX0_pitchAt_5 : decode cX0_pitchAt 5 = .ok (.iadd, 1) := by decide +kernel
theorem dX0_pitchAt_6 : decode cX0_pitchAt 6 = .ok (.ireturn, 1) := by decide +kernel
theorem dX0_wearBy_0 : decode cX0_wearBy 0 = .ok (.iload_n 1, 1) := by decide +kernel
theorem dX0_wearBy_1 : decode cX0_wearBy 1 = .ok (.bipush 10, 2) := by decide +kernel
theorem dX0_wearBy_3 : decode cX0_wearBy 3 = .ok (.idiv, 1) := by decide +kernel
theorem dX0_wearBy_4 : decode cX0_wearBy 4 = .ok (.ireturn, 1) := by decide +kernel
theorem dX0_costs_0 : decode cX0_costs 0 = .ok (.iconst 3, 1) := by decide +kernel
theorem dX0_costs_1 : decode cX0_costs 1 = .ok (.ireturn, 1) := by decide +kernel
theorem dX0_fail_0 : decode cX0_fail 0 = .ok (.aload_n 0, 1) := by decide +kernel
theorem dX0_fail_1 : decode cX0_fail 1 = .ok (.getfield 13, 3) := by decide +kernel
theorem dX0_fail_4 : decode cX0_fail 4 = .ok (.ifCond .eq 11, 3) := by decide +kernel
theorem dX0_fail_7 : decode cX0_fail 7 = .ok (.new 16, 3) := by decide +kernel
theorem dX0_fail_10 : decode cX0_fail 10 = .ok (.dup, 1) := by decide +kernel
theorem dX0_fail_11 : decode cX0_fail 11 = .ok (.invokespecial 18, 3) := by decide +kernel
theorem dX0_fail_14 : decode cX0_fail 14 = .ok (.athrow, 1) := by decide +kernel
theorem dX0_fail_15 : decode cX0_fail 15 = .ok (.return_, 1) := by decide +kernel
theorem dX1_init_0 : decode cX1_init 0 = .ok (.aload_n 0, 1) := by decide +kernel
theorem dX1_init_1 : decode cX1_init 1 = .ok (.iload_n 1, 1) := by decide +kernel
theorem dX1_init_2 : decode cX1_init 2 = .ok (.iload_n 2, 1) := by decide +kernel
theorem dX1_init_3 : decode cX1_init 3 = .ok (.invokespecial 1, 3) := by decide +kernel
theorem dX1_init_6 : decode cX1_init 6 = .ok (.return_, 1) := by decide +kernel
theorem dX1_pitchAt_0 : decode cX1_pitchAt 0 = .ok (.aload_n 0, 1) := by decide +kernel
theorem dX1_pitchAt_1 : decode cX1_pitchAt 1 = .ok (.iload_n 1, 1) := by decide +kernel
theorem dX1_pitchAt_2 : decode cX1_pitchAt 2 = .ok (.iload_n 2, 1) := by decide +kernel
theorem dX1_pitchAt_3 : decode cX1_pitchAt 3 = .ok (.iload_n 3, 1) := by decide +kernel
theorem dX1_pitchAt_4 : decode cX1_pitchAt 4 = .ok (.invokespecial 7, 3) := by decide +kernel
theorem dX1_pitchAt_7 : decode cX1_pitchAt 7 = .ok (.iload_n 3, 1) := by decide +kernel
theorem dX1_pitchAt_8 : decode cX1_pitchAt 8 = .ok (.isub, 1) := by decide +kernel
theorem dX1_pitchAt_9 : decode cX1_pitchAt 9 = .ok (.ireturn, 1) := by decide +kernel
theorem dX1_costs_0 : decode cX1_costs 0 = .ok (.aload_n 0, 1) := by decide +kernel
theorem dX1_costs_1 : decode cX1_costs 1 = .ok (.invokespecial 11, 3) := by decide +kernel
theorem dX1_costs_4 : decode cX1_costs 4 = .ok (.iconst 2, 1) := by decide +kernel
theorem dX1_costs_5 : decode cX1_costs 5 = .ok (.iadd, 1) := by decide +kernel
theorem dX1_costs_6 : decode cX1_costs 6 = .ok (.ireturn, 1) := by decide +kernel
theorem dX2_init_0 : decode cX2_init 0 = .ok (.aload_n 0, 1) := by decide +kernel
theorem dX2_init_1 : decode cX2_init 1 = .ok (.iload_n 1, 1) := by decide +kernel
theorem dX2_init_2 : decode cX2_init 2 = .ok (.iload_n 2, 1) := by decide +kernel
theorem dX2_init_3 : decode cX2_init 3 = .ok (.invokespecial 3, 3) := by decide +kernel
theorem dX2_init_6 : decode cX2_init 6 = .ok (.return_, 1) := by decide +kernel
theorem dX2_softest_0 : decode cX2_softest 0 = .ok (.bipush 61, 2) := by decide +kernel
theorem dX2_softest_2 : decode cX2_softest 2 = .ok (.ireturn, 1) := by decide +kernel
theorem dX2_costs_0 : decode cX2_costs 0 = .ok (.aload_n 0, 1) := by decide +kernel
theorem dX2_costs_1 : decode cX2_costs 1 = .ok (.invokespecial 9, 3) := by decide +kernel
theorem dX2_costs_4 : decode cX2_costs 4 = .ok (.iconst 1, 1) := by decide +kernel
theorem dX2_costs_5 : decode cX2_costs 5 = .ok (.isub, 1) := by decide +kernel
theorem dX2_costs_6 : decode cX2_costs 6 = .ok (.ireturn, 1) := by decide +kernel
theorem dX2_fail_0 : decode cX2_fail 0 = .ok (.return_, 1) := by decide +kernel
theorem dX3_init_0 : decode cX3_init 0 = .ok (.aload_n 0, 1) := by decide +kernel
theorem dX3_init_1 : decode cX3_init 1 = .ok (.invokespecial 3, 3) := by decide +kernel
theorem dX3_init_4 : decode cX3_init 4 = .ok (.aload_n 0, 1) := by decide +kernel
theorem dX3_init_5 : decode cX3_init 5 = .ok (.bipush 6, 2) := by decide +kernel
theorem dX3_init_7 : decode cX3_init 7 = .ok (.newarray .int, 2) := by decide +kernel
theorem dX3_init_9 : decode cX3_init 9 = .ok (.putfield 9, 3) := by decide +kernel
theorem dX3_init_12 : decode cX3_init 12 = .ok (.aload_n 0, 1) := by decide +kernel
theorem dX3_init_13 : decode cX3_init 13 = .ok (.bipush 6, 2) := by decide +kernel
theorem dX3_init_15 : decode cX3_init 15 = .ok (.newarray .int, 2) := by decide +kernel
theorem dX3_init_17 : decode cX3_init 17 = .ok (.putfield 15, 3) := by decide +kernel
theorem dX3_init_20 : decode cX3_init 20 = .ok (.aload_n 0, 1) := by decide +kernel
theorem dX3_init_21 : decode cX3_init 21 = .ok (.bipush 6, 2) := by decide +kernel
theorem dX3_init_23 : decode cX3_init 23 = .ok (.newarray .int, 2) := by decide +kernel
theorem dX3_init_25 : decode cX3_init 25 = .ok (.putfield 18, 3) := by decide +kernel
theorem dX3_init_28 : decode cX3_init 28 = .ok (.aload_n 0, 1) := by decide +kernel
theorem dX3_init_29 : decode cX3_init 29 = .ok (.bipush 6, 2) := by decide +kernel
theorem dX3_init_31 : decode cX3_init 31 = .ok (.newarray .int, 2) := by decide +kernel
theorem dX3_init_33 : decode cX3_init 33 = .ok (.putfield 21, 3) := by decide +kernel
theorem dX3_init_36 : decode cX3_init 36 = .ok (.aload_n 0, 1) := by decide +kernel
theorem dX3_init_37 : decode cX3_init 37 = .ok (.iconst 4, 1) := by decide +kernel
theorem dX3_init_38 : decode cX3_init 38 = .ok (.newarray .int, 2) := by decide +kernel
theorem dX3_init_40 : decode cX3_init 40 = .ok (.putfield 24, 3) := by decide +kernel
theorem dX3_init_43 : decode cX3_init 43 = .ok (.aload_n 0, 1) := by decide +kernel
theorem dX3_init_44 : decode cX3_init 44 = .ok (.iconst 4, 1) := by decide +kernel
theorem dX3_init_45 : decode cX3_init 45 = .ok (.newarray .int, 2) := by decide +kernel
theorem dX3_init_47 : decode cX3_init 47 = .ok (.putfield 27, 3) := by decide +kernel
theorem dX3_init_50 : decode cX3_init 50 = .ok (.aload_n 0, 1) := by decide +kernel
theorem dX3_init_51 : decode cX3_init 51 = .ok (.bipush 6, 2) := by decide +kernel
theorem dX3_init_53 : decode cX3_init 53 = .ok (.anewarray 30, 3) := by decide +kernel
theorem dX3_init_56 : decode cX3_init 56 = .ok (.putfield 32, 3) := by decide +kernel
theorem dX3_init_59 : decode cX3_init 59 = .ok (.aload_n 0, 1) := by decide +kernel
theorem dX3_init_60 : decode cX3_init 60 = .ok (.new 36, 3) := by decide +kernel
theorem dX3_init_63 : decode cX3_init 63 = .ok (.dup, 1) := by decide +kernel
theorem dX3_init_64 : decode cX3_init 64 = .ok (.invokespecial 38, 3) := by decide +kernel
theorem dX3_init_67 : decode cX3_init 67 = .ok (.putfield 39, 3) := by decide +kernel
theorem dX3_init_70 : decode cX3_init 70 = .ok (.return_, 1) := by decide +kernel
theorem dX3_become_0 : decode cX3_become 0 = .ok (.aload_n 0, 1) := by decide +kernel
theorem dX3_become_1 : decode cX3_become 1 = .ok (.aload_n 1, 1) := by decide +kernel
theorem dX3_become_2 : decode cX3_become 2 = .ok (.getfield 43, 3) := by decide +kernel
theorem dX3_become_5 : decode cX3_become 5 = .ok (.putfield 43, 3) := by decide +kernel
theorem dX3_become_8 : decode cX3_become 8 = .ok (.aload_n 1, 1) := by decide +kernel
theorem dX3_become_9 : decode cX3_become 9 = .ok (.getfield 9, 3) := by decide +kernel
theorem dX3_become_12 : decode cX3_become 12 = .ok (.iconst 0, 1) := by decide +kernel
theorem dX3_become_13 : decode cX3_become 13 = .ok (.aload_n 0, 1) := by decide +kernel
theorem dX3_become_14 : decode cX3_become 14 = .ok (.getfield 9, 3) := by decide +kernel
theorem dX3_become_17 : decode cX3_become 17 = .ok (.iconst 0, 1) := by decide +kernel
theorem dX3_become_18 : decode cX3_become 18 = .ok (.bipush 6, 2) := by decide +kernel
theorem dX3_become_20 : decode cX3_become 20 = .ok (.invokestatic 47, 3) := by decide +kernel
theorem dX3_become_23 : decode cX3_become 23 = .ok (.aload_n 1, 1) := by decide +kernel
theorem dX3_become_24 : decode cX3_become 24 = .ok (.getfield 15, 3) := by decide +kernel
theorem dX3_become_27 : decode cX3_become 27 = .ok (.iconst 0, 1) := by decide +kernel
theorem dX3_become_28 : decode cX3_become 28 = .ok (.aload_n 0, 1) := by decide +kernel
theorem dX3_become_29 : decode cX3_become 29 = .ok (.getfield 15, 3) := by decide +kernel
theorem dX3_become_32 : decode cX3_become 32 = .ok (.iconst 0, 1) := by decide +kernel
theorem dX3_become_33 : decode cX3_become 33 = .ok (.bipush 6, 2) := by decide +kernel
theorem dX3_become_35 : decode cX3_become 35 = .ok (.invokestatic 47, 3) := by decide +kernel
theorem dX3_become_38 : decode cX3_become 38 = .ok (.aload_n 1, 1) := by decide +kernel
theorem dX3_become_39 : decode cX3_become 39 = .ok (.getfield 18, 3) := by decide +kernel
theorem dX3_become_42 : decode cX3_become 42 = .ok (.iconst 0, 1) := by decide +kernel
theorem dX3_become_43 : decode cX3_become 43 = .ok (.aload_n 0, 1) := by decide +kernel
theorem dX3_become_44 : decode cX3_become 44 = .ok (.getfield 18, 3) := by decide +kernel
theorem dX3_become_47 : decode cX3_become 47 = .ok (.iconst 0, 1) := by decide +kernel
theorem dX3_become_48 : decode cX3_become 48 = .ok (.bipush 6, 2) := by decide +kernel
theorem dX3_become_50 : decode cX3_become 50 = .ok (.invokestatic 47, 3) := by decide +kernel
theorem dX3_become_53 : decode cX3_become 53 = .ok (.aload_n 1, 1) := by decide +kernel
theorem dX3_become_54 : decode cX3_become 54 = .ok (.getfield 21, 3) := by decide +kernel
theorem dX3_become_57 : decode cX3_become 57 = .ok (.iconst 0, 1) := by decide +kernel
theorem dX3_become_58 : decode cX3_become 58 = .ok (.aload_n 0, 1) := by decide +kernel
theorem dX3_become_59 : decode cX3_become 59 = .ok (.getfield 21, 3) := by decide +kernel
theorem dX3_become_62 : decode cX3_become 62 = .ok (.iconst 0, 1) := by decide +kernel
theorem dX3_become_63 : decode cX3_become 63 = .ok (.bipush 6, 2) := by decide +kernel
theorem dX3_become_65 : decode cX3_become 65 = .ok (.invokestatic 47, 3) := by decide +kernel
theorem dX3_become_68 : decode cX3_become 68 = .ok (.aload_n 0, 1) := by decide +kernel
theorem dX3_become_69 : decode cX3_become 69 = .ok (.aload_n 1, 1) := by decide +kernel
theorem dX3_become_70 : decode cX3_become 70 = .ok (.getfield 53, 3) := by decide +kernel
theorem dX3_become_73 : decode cX3_become 73 = .ok (.putfield 53, 3) := by decide +kernel
theorem dX3_become_76 : decode cX3_become 76 = .ok (.aload_n 1, 1) := by decide +kernel
theorem dX3_become_77 : decode cX3_become 77 = .ok (.getfield 24, 3) := by decide +kernel
theorem dX3_become_80 : decode cX3_become 80 = .ok (.iconst 0, 1) := by decide +kernel
theorem dX3_become_81 : decode cX3_become 81 = .ok (.aload_n 0, 1) := by decide +kernel
theorem dX3_become_82 : decode cX3_become 82 = .ok (.getfield 24, 3) := by decide +kernel
theorem dX3_become_85 : decode cX3_become 85 = .ok (.iconst 0, 1) := by decide +kernel
theorem dX3_become_86 : decode cX3_become 86 = .ok (.iconst 4, 1) := by decide +kernel
theorem dX3_become_87 : decode cX3_become 87 = .ok (.invokestatic 47, 3) := by decide +kernel
theorem dX3_become_90 : decode cX3_become 90 = .ok (.aload_n 1, 1) := by decide +kernel
theorem dX3_become_91 : decode cX3_become 91 = .ok (.getfield 27, 3) := by decide +kernel
theorem dX3_become_94 : decode cX3_become 94 = .ok (.iconst 0, 1) := by decide +kernel
theorem dX3_become_95 : decode cX3_become 95 = .ok (.aload_n 0, 1) := by decide +kernel
theorem dX3_become_96 : decode cX3_become 96 = .ok (.getfield 27, 3) := by decide +kernel
theorem dX3_become_99 : decode cX3_become 99 = .ok (.iconst 0, 1) := by decide +kernel
theorem dX3_become_100 : decode cX3_become 100 = .ok (.iconst 4, 1) := by decide +kernel
theorem dX3_become_101 : decode cX3_become 101 = .ok (.invokestatic 47, 3) := by decide +kernel
theorem dX3_become_104 : decode cX3_become 104 = .ok (.aload_n 0, 1) := by decide +kernel
theorem dX3_become_105 : decode cX3_become 105 = .ok (.aload_n 1, 1) := by decide +kernel
theorem dX3_become_106 : decode cX3_become 106 = .ok (.getfield 56, 3) := by decide +kernel
theorem dX3_become_109 : decode cX3_become 109 = .ok (.putfield 56, 3) := by decide +kernel
theorem dX3_become_112 : decode cX3_become 112 = .ok (.iconst 0, 1) := by decide +kernel
theorem dX3_become_113 : decode cX3_become 113 = .ok (.istore_n 2, 1) := by decide +kernel
theorem dX3_become_114 : decode cX3_become 114 = .ok (.iload_n 2, 1) := by decide +kernel
theorem dX3_become_115 : decode cX3_become 115 = .ok (.bipush 6, 2) := by decide +kernel
theorem dX3_become_117 : decode cX3_become 117 = .ok (.if_icmp .ge 21, 3) := by decide +kernel
theorem dX3_become_120 : decode cX3_become 120 = .ok (.aload_n 0, 1) := by decide +kernel
theorem dX3_become_121 : decode cX3_become 121 = .ok (.getfield 32, 3) := by decide +kernel
theorem dX3_become_124 : decode cX3_become 124 = .ok (.iload_n 2, 1) := by decide +kernel
theorem dX3_become_125 : decode cX3_become 125 = .ok (.aload_n 1, 1) := by decide +kernel
theorem dX3_become_126 : decode cX3_become 126 = .ok (.getfield 32, 3) := by decide +kernel
theorem dX3_become_129 : decode cX3_become 129 = .ok (.iload_n 2, 1) := by decide +kernel
theorem dX3_become_130 : decode cX3_become 130 = .ok (.aaload, 1) := by decide +kernel
theorem dX3_become_131 : decode cX3_become 131 = .ok (.aastore, 1) := by decide +kernel
theorem dX3_become_132 : decode cX3_become 132 = .ok (.iinc 2 1, 3) := by decide +kernel
theorem dX3_become_135 : decode cX3_become 135 = .ok (.goto (-21), 3) := by decide +kernel
theorem dX3_become_138 : decode cX3_become 138 = .ok (.return_, 1) := by decide +kernel
theorem dX3_hasBlade_0 : decode cX3_hasBlade 0 = .ok (.iload_n 1, 1) := by decide +kernel
theorem dX3_hasBlade_1 : decode cX3_hasBlade 1 = .ok (.ifCond .lt 15, 3) := by decide +kernel
theorem dX3_hasBlade_4 : decode cX3_hasBlade 4 = .ok (.iload_n 1, 1) := by decide +kernel
theorem dX3_hasBlade_5 : decode cX3_hasBlade 5 = .ok (.aload_n 0, 1) := by decide +kernel
theorem dX3_hasBlade_6 : decode cX3_hasBlade 6 = .ok (.getfield 43, 3) := by decide +kernel
theorem dX3_hasBlade_9 : decode cX3_hasBlade 9 = .ok (.if_icmp .ge 7, 3) := by decide +kernel
theorem dX3_hasBlade_12 : decode cX3_hasBlade 12 = .ok (.iconst 1, 1) := by decide +kernel
theorem dX3_hasBlade_13 : decode cX3_hasBlade 13 = .ok (.goto 4, 3) := by decide +kernel
theorem dX3_hasBlade_16 : decode cX3_hasBlade 16 = .ok (.iconst 0, 1) := by decide +kernel
theorem dX3_hasBlade_17 : decode cX3_hasBlade 17 = .ok (.ireturn, 1) := by decide +kernel
theorem dX3_hasThumbs_0 : decode cX3_hasThumbs 0 = .ok (.iload_n 1, 1) := by decide +kernel
theorem dX3_hasThumbs_1 : decode cX3_hasThumbs 1 = .ok (.ifCond .lt 15, 3) := by decide +kernel
theorem dX3_hasThumbs_4 : decode cX3_hasThumbs 4 = .ok (.iload_n 1, 1) := by decide +kernel
theorem dX3_hasThumbs_5 : decode cX3_hasThumbs 5 = .ok (.aload_n 0, 1) := by decide +kernel
theorem dX3_hasThumbs_6 : decode cX3_hasThumbs 6 = .ok (.getfield 53, 3) := by decide +kernel
theorem dX3_hasThumbs_9 : decode cX3_hasThumbs 9 = .ok (.if_icmp .ge 7, 3) := by decide +kernel
theorem dX3_hasThumbs_12 : decode cX3_hasThumbs 12 = .ok (.iconst 1, 1) := by decide +kernel
theorem dX3_hasThumbs_13 : decode cX3_hasThumbs 13 = .ok (.goto 4, 3) := by decide +kernel
theorem dX3_hasThumbs_16 : decode cX3_hasThumbs 16 = .ok (.iconst 0, 1) := by decide +kernel
theorem dX3_hasThumbs_17 : decode cX3_hasThumbs 17 = .ok (.ireturn, 1) := by decide +kernel
theorem dX3_hasBlow_0 : decode cX3_hasBlow 0 = .ok (.iload_n 1, 1) := by decide +kernel
theorem dX3_hasBlow_1 : decode cX3_hasBlow 1 = .ok (.ifCond .lt 15, 3) := by decide +kernel
theorem dX3_hasBlow_4 : decode cX3_hasBlow 4 = .ok (.iload_n 1, 1) := by decide +kernel
theorem dX3_hasBlow_5 : decode cX3_hasBlow 5 = .ok (.aload_n 0, 1) := by decide +kernel
theorem dX3_hasBlow_6 : decode cX3_hasBlow 6 = .ok (.getfield 56, 3) := by decide +kernel
theorem dX3_hasBlow_9 : decode cX3_hasBlow 9 = .ok (.if_icmp .ge 7, 3) := by decide +kernel
theorem dX3_hasBlow_12 : decode cX3_hasBlow 12 = .ok (.iconst 1, 1) := by decide +kernel
theorem dX3_hasBlow_13 : decode cX3_hasBlow 13 = .ok (.goto 4, 3) := by decide +kernel
theorem dX3_hasBlow_16 : decode cX3_hasBlow 16 = .ok (.iconst 0, 1) := by decide +kernel
theorem dX3_hasBlow_17 : decode cX3_hasBlow 17 = .ok (.ireturn, 1) := by decide +kernel
theorem dX3_hasAll_0 : decode cX3_hasAll 0 = .ok (.aload_n 0, 1) := by decide +kernel
theorem dX3_hasAll_1 : decode cX3_hasAll 1 = .ok (.iload_n 1, 1) := by decide +kernel
theorem dX3_hasAll_2 : decode cX3_hasAll 2 = .ok (.invokevirtual 59, 3) := by decide +kernel
theorem dX3_hasAll_5 : decode cX3_hasAll 5 = .ok (.ifCond .eq 23, 3) := by decide +kernel
theorem dX3_hasAll_8 : decode cX3_hasAll 8 = .ok (.aload_n 0, 1) := by decide +kernel
theorem dX3_hasAll_9 : decode cX3_hasAll 9 = .ok (.iload_n 2, 1) := by decide +kernel
theorem dX3_hasAll_10 : decode cX3_hasAll 10 = .ok (.invokevirtual 63, 3) := by decide +kernel
theorem dX3_hasAll_13 : decode cX3_hasAll 13 = .ok (.ifCond .eq 15, 3) := by decide +kernel
theorem dX3_hasAll_16 : decode cX3_hasAll 16 = .ok (.aload_n 0, 1) := by decide +kernel
theorem dX3_hasAll_17 : decode cX3_hasAll 17 = .ok (.iload_n 3, 1) := by decide +kernel
theorem dX3_hasAll_18 : decode cX3_hasAll 18 = .ok (.invokevirtual 66, 3) := by decide +kernel
theorem dX3_hasAll_21 : decode cX3_hasAll 21 = .ok (.ifCond .eq 7, 3) := by decide +kernel
theorem dX3_hasAll_24 : decode cX3_hasAll 24 = .ok (.iconst 1, 1) := by decide +kernel
theorem dX3_hasAll_25 : decode cX3_hasAll 25 = .ok (.goto 4, 3) := by decide +kernel
theorem dX3_hasAll_28 : decode cX3_hasAll 28 = .ok (.iconst 0, 1) := by decide +kernel
theorem dX3_hasAll_29 : decode cX3_hasAll 29 = .ok (.ireturn, 1) := by decide +kernel
theorem dX3_addBlade_0 : decode cX3_addBlade 0 = .ok (.iload_n 1, 1) := by decide +kernel
theorem dX3_addBlade_1 : decode cX3_addBlade 1 = .ok (.iconst 1, 1) := by decide +kernel
theorem dX3_addBlade_2 : decode cX3_addBlade 2 = .ok (.bipush 24, 2) := by decide +kernel
theorem dX3_addBlade_4 : decode cX3_addBlade 4 = .ok (.invokestatic 69, 3) := by decide +kernel
theorem dX3_addBlade_7 : decode cX3_addBlade 7 = .ok (.ifCond .ne 23, 3) := by decide +kernel
theorem dX3_addBlade_10 : decode cX3_addBlade 10 = .ok (.iload_n 2, 1) := by decide +kernel
theorem dX3_addBlade_11 : decode cX3_addBlade 11 = .ok (.iconst 1, 1) := by decide +kernel
theorem dX3_addBlade_12 : decode cX3_addBlade 12 = .ok (.bipush 24, 2) := by decide +kernel
theorem dX3_addBlade_14 : decode cX3_addBlade 14 = .ok (.invokestatic 69, 3) := by decide +kernel
theorem dX3_addBlade_17 : decode cX3_addBlade 17 = .ok (.ifCond .ne 13, 3) := by decide +kernel
theorem dX3_addBlade_20 : decode cX3_addBlade 20 = .ok (.iload_n 3, 1) := by decide +kernel
theorem dX3_addBlade_21 : decode cX3_addBlade 21 = .ok (.iconst 0, 1) := by decide +kernel
theorem dX3_addBlade_22 : decode cX3_addBlade 22 = .ok (.bipush 9, 2) := by decide +kernel
theorem dX3_addBlade_24 : decode cX3_addBlade 24 = .ok (.invokestatic 69, 3) := by decide +kernel
theorem dX3_addBlade_27 : decode cX3_addBlade 27 = .ok (.ifCond .eq 5, 3) := by decide +kernel
theorem dX3_addBlade_30 : decode cX3_addBlade 30 = .ok (.iconst (-1), 1) := by decide +kernel
theorem dX3_addBlade_31 : decode cX3_addBlade 31 = .ok (.ireturn, 1) := by decide +kernel
theorem dX3_addBlade_32 : decode cX3_addBlade 32 = .ok (.aload_n 0, 1) := by decide +kernel
theorem dX3_addBlade_33 : decode cX3_addBlade 33 = .ok (.getfield 43, 3) := by decide +kernel
theorem dX3_addBlade_36 : decode cX3_addBlade 36 = .ok (.bipush 6, 2) := by decide +kernel
theorem dX3_addBlade_38 : decode cX3_addBlade 38 = .ok (.if_icmp .lt 6, 3) := by decide +kernel
theorem dX3_addBlade_41 : decode cX3_addBlade 41 = .ok (.bipush (-2), 2) := by decide +kernel
theorem dX3_addBlade_43 : decode cX3_addBlade 43 = .ok (.ireturn, 1) := by decide +kernel
theorem dX3_addBlade_44 : decode cX3_addBlade 44 = .ok (.aload_n 0, 1) := by decide +kernel
theorem dX3_addBlade_45 : decode cX3_addBlade 45 = .ok (.getfield 9, 3) := by decide +kernel
theorem dX3_addBlade_48 : decode cX3_addBlade 48 = .ok (.aload_n 0, 1) := by decide +kernel
theorem dX3_addBlade_49 : decode cX3_addBlade 49 = .ok (.getfield 43, 3) := by decide +kernel
theorem dX3_addBlade_52 : decode cX3_addBlade 52 = .ok (.iload_n 1, 1) := by decide +kernel
theorem dX3_addBlade_53 : decode cX3_addBlade 53 = .ok (.iastore, 1) := by decide +kernel
theorem dX3_addBlade_54 : decode cX3_addBlade 54 = .ok (.aload_n 0, 1) := by decide +kernel
theorem dX3_addBlade_55 : decode cX3_addBlade 55 = .ok (.getfield 15, 3) := by decide +kernel
theorem dX3_addBlade_58 : decode cX3_addBlade 58 = .ok (.aload_n 0, 1) := by decide +kernel
theorem dX3_addBlade_59 : decode cX3_addBlade 59 = .ok (.getfield 43, 3) := by decide +kernel
theorem dX3_addBlade_62 : decode cX3_addBlade 62 = .ok (.iload_n 2, 1) := by decide +kernel
theorem dX3_addBlade_63 : decode cX3_addBlade 63 = .ok (.iastore, 1) := by decide +kernel
theorem dX3_addBlade_64 : decode cX3_addBlade 64 = .ok (.aload_n 0, 1) := by decide +kernel
theorem dX3_addBlade_65 : decode cX3_addBlade 65 = .ok (.getfield 18, 3) := by decide +kernel
theorem dX3_addBlade_68 : decode cX3_addBlade 68 = .ok (.aload_n 0, 1) := by decide +kernel
theorem dX3_addBlade_69 : decode cX3_addBlade 69 = .ok (.getfield 43, 3) := by decide +kernel
theorem dX3_addBlade_72 : decode cX3_addBlade 72 = .ok (.iload_n 3, 1) := by decide +kernel
theorem dX3_addBlade_73 : decode cX3_addBlade 73 = .ok (.iastore, 1) := by decide +kernel
theorem dX3_addBlade_74 : decode cX3_addBlade 74 = .ok (.aload_n 0, 1) := by decide +kernel
theorem dX3_addBlade_75 : decode cX3_addBlade 75 = .ok (.getfield 21, 3) := by decide +kernel
theorem dX3_addBlade_78 : decode cX3_addBlade 78 = .ok (.aload_n 0, 1) := by decide +kernel
theorem dX3_addBlade_79 : decode cX3_addBlade 79 = .ok (.getfield 43, 3) := by decide +kernel
theorem dX3_addBlade_82 : decode cX3_addBlade 82 = .ok (.iconst 0, 1) := by decide +kernel
theorem dX3_addBlade_83 : decode cX3_addBlade 83 = .ok (.iastore, 1) := by decide +kernel
theorem dX3_addBlade_84 : decode cX3_addBlade 84 = .ok (.aload_n 0, 1) := by decide +kernel
theorem dX3_addBlade_85 : decode cX3_addBlade 85 = .ok (.dup, 1) := by decide +kernel
theorem dX3_addBlade_86 : decode cX3_addBlade 86 = .ok (.getfield 43, 3) := by decide +kernel
theorem dX3_addBlade_89 : decode cX3_addBlade 89 = .ok (.dup_x1, 1) := by decide +kernel
theorem dX3_addBlade_90 : decode cX3_addBlade 90 = .ok (.iconst 1, 1) := by decide +kernel
theorem dX3_addBlade_91 : decode cX3_addBlade 91 = .ok (.iadd, 1) := by decide +kernel
theorem dX3_addBlade_92 : decode cX3_addBlade 92 = .ok (.putfield 43, 3) := by decide +kernel
theorem dX3_addBlade_95 : decode cX3_addBlade 95 = .ok (.ireturn, 1) := by decide +kernel
theorem dX3_addThumbs_0 : decode cX3_addThumbs 0 = .ok (.iload_n 1, 1) := by decide +kernel
theorem dX3_addThumbs_1 : decode cX3_addThumbs 1 = .ok (.iconst 0, 1) := by decide +kernel
theorem dX3_addThumbs_2 : decode cX3_addThumbs 2 = .ok (.bipush 9, 2) := by decide +kernel
theorem dX3_addThumbs_4 : decode cX3_addThumbs 4 = .ok (.invokestatic 69, 3) := by decide +kernel
theorem dX3_addThumbs_7 : decode cX3_addThumbs 7 = .ok (.ifCond .ne 13, 3) := by decide +kernel
theorem dX3_addThumbs_10 : decode cX3_addThumbs 10 = .ok (.iload_n 2, 1) := by decide +kernel
theorem dX3_addThumbs_11 : decode cX3_addThumbs 11 = .ok (.iconst 0, 1) := by decide +kernel
theorem dX3_addThumbs_12 : decode cX3_addThumbs 12 = .ok (.bipush 60, 2) := by decide +kernel
theorem dX3_addThumbs_14 : decode cX3_addThumbs 14 = .ok (.invokestatic 69, 3) := by decide +kernel
theorem dX3_addThumbs_17 : decode cX3_addThumbs 17 = .ok (.ifCond .eq 5, 3) := by decide +kernel
theorem dX3_addThumbs_20 : decode cX3_addThumbs 20 = .ok (.iconst (-1), 1) := by decide +kernel
theorem dX3_addThumbs_21 : decode cX3_addThumbs 21 = .ok (.ireturn, 1) := by decide +kernel
theorem dX3_addThumbs_22 : decode cX3_addThumbs 22 = .ok (.aload_n 0, 1) := by decide +kernel
theorem dX3_addThumbs_23 : decode cX3_addThumbs 23 = .ok (.getfield 53, 3) := by decide +kernel
theorem dX3_addThumbs_26 : decode cX3_addThumbs 26 = .ok (.iconst 4, 1) := by decide +kernel
theorem dX3_addThumbs_27 : decode cX3_addThumbs 27 = .ok (.if_icmp .lt 6, 3) := by decide +kernel
theorem dX3_addThumbs_30 : decode cX3_addThumbs 30 = .ok (.bipush (-2), 2) := by decide +kernel
theorem dX3_addThumbs_32 : decode cX3_addThumbs 32 = .ok (.ireturn, 1) := by decide +kernel
theorem dX3_addThumbs_33 : decode cX3_addThumbs 33 = .ok (.aload_n 0, 1) := by decide +kernel
theorem dX3_addThumbs_34 : decode cX3_addThumbs 34 = .ok (.getfield 24, 3) := by decide +kernel
theorem dX3_addThumbs_37 : decode cX3_addThumbs 37 = .ok (.aload_n 0, 1) := by decide +kernel
theorem dX3_addThumbs_38 : decode cX3_addThumbs 38 = .ok (.getfield 53, 3) := by decide +kernel
theorem dX3_addThumbs_41 : decode cX3_addThumbs 41 = .ok (.iload_n 1, 1) := by decide +kernel
theorem dX3_addThumbs_42 : decode cX3_addThumbs 42 = .ok (.iastore, 1) := by decide +kernel
theorem dX3_addThumbs_43 : decode cX3_addThumbs 43 = .ok (.aload_n 0, 1) := by decide +kernel
theorem dX3_addThumbs_44 : decode cX3_addThumbs 44 = .ok (.getfield 27, 3) := by decide +kernel
theorem dX3_addThumbs_47 : decode cX3_addThumbs 47 = .ok (.aload_n 0, 1) := by decide +kernel
theorem dX3_addThumbs_48 : decode cX3_addThumbs 48 = .ok (.getfield 53, 3) := by decide +kernel
theorem dX3_addThumbs_51 : decode cX3_addThumbs 51 = .ok (.iload_n 2, 1) := by decide +kernel
theorem dX3_addThumbs_52 : decode cX3_addThumbs 52 = .ok (.iastore, 1) := by decide +kernel
theorem dX3_addThumbs_53 : decode cX3_addThumbs 53 = .ok (.aload_n 0, 1) := by decide +kernel
theorem dX3_addThumbs_54 : decode cX3_addThumbs 54 = .ok (.dup, 1) := by decide +kernel
theorem dX3_addThumbs_55 : decode cX3_addThumbs 55 = .ok (.getfield 53, 3) := by decide +kernel
theorem dX3_addThumbs_58 : decode cX3_addThumbs 58 = .ok (.dup_x1, 1) := by decide +kernel
theorem dX3_addThumbs_59 : decode cX3_addThumbs 59 = .ok (.iconst 1, 1) := by decide +kernel
theorem dX3_addThumbs_60 : decode cX3_addThumbs 60 = .ok (.iadd, 1) := by decide +kernel
theorem dX3_addThumbs_61 : decode cX3_addThumbs 61 = .ok (.putfield 53, 3) := by decide +kernel
theorem dX3_addThumbs_64 : decode cX3_addThumbs 64 = .ok (.ireturn, 1) := by decide +kernel
theorem dX3_addBlow_0 : decode cX3_addBlow 0 = .ok (.aload_n 1, 1) := by decide +kernel
theorem dX3_addBlow_1 : decode cX3_addBlow 1 = .ok (.ifnonnull 5, 3) := by decide +kernel
theorem dX3_addBlow_4 : decode cX3_addBlow 4 = .ok (.iconst (-1), 1) := by decide +kernel
theorem dX3_addBlow_5 : decode cX3_addBlow 5 = .ok (.ireturn, 1) := by decide +kernel
theorem dX3_addBlow_6 : decode cX3_addBlow 6 = .ok (.aload_n 0, 1) := by decide +kernel
theorem dX3_addBlow_7 : decode cX3_addBlow 7 = .ok (.getfield 56, 3) := by decide +kernel
theorem dX3_addBlow_10 : decode cX3_addBlow 10 = .ok (.bipush 6, 2) := by decide +kernel
theorem dX3_addBlow_12 : decode cX3_addBlow 12 = .ok (.if_icmp .lt 6, 3) := by decide +kernel
theorem dX3_addBlow_15 : decode cX3_addBlow 15 = .ok (.bipush (-2), 2) := by decide +kernel
theorem dX3_addBlow_17 : decode cX3_addBlow 17 = .ok (.ireturn, 1) := by decide +kernel
theorem dX3_addBlow_18 : decode cX3_addBlow 18 = .ok (.aload_n 0, 1) := by decide +kernel
theorem dX3_addBlow_19 : decode cX3_addBlow 19 = .ok (.getfield 32, 3) := by decide +kernel
theorem dX3_addBlow_22 : decode cX3_addBlow 22 = .ok (.aload_n 0, 1) := by decide +kernel
theorem dX3_addBlow_23 : decode cX3_addBlow 23 = .ok (.getfield 56, 3) := by decide +kernel
theorem dX3_addBlow_26 : decode cX3_addBlow 26 = .ok (.aload_n 1, 1) := by decide +kernel
theorem dX3_addBlow_27 : decode cX3_addBlow 27 = .ok (.aastore, 1) := by decide +kernel
theorem dX3_addBlow_28 : decode cX3_addBlow 28 = .ok (.aload_n 0, 1) := by decide +kernel
theorem dX3_addBlow_29 : decode cX3_addBlow 29 = .ok (.dup, 1) := by decide +kernel
theorem dX3_addBlow_30 : decode cX3_addBlow 30 = .ok (.getfield 56, 3) := by decide +kernel
theorem dX3_addBlow_33 : decode cX3_addBlow 33 = .ok (.dup_x1, 1) := by decide +kernel
theorem dX3_addBlow_34 : decode cX3_addBlow 34 = .ok (.iconst 1, 1) := by decide +kernel
theorem dX3_addBlow_35 : decode cX3_addBlow 35 = .ok (.iadd, 1) := by decide +kernel
theorem dX3_addBlow_36 : decode cX3_addBlow 36 = .ok (.putfield 56, 3) := by decide +kernel
theorem dX3_addBlow_39 : decode cX3_addBlow 39 = .ok (.ireturn, 1) := by decide +kernel
theorem dX3_isSplit_0 : decode cX3_isSplit 0 = .ok (.aload_n 0, 1) := by decide +kernel
theorem dX3_isSplit_1 : decode cX3_isSplit 1 = .ok (.getfield 21, 3) := by decide +kernel
theorem dX3_isSplit_4 : decode cX3_isSplit 4 = .ok (.iload_n 1, 1) := by decide +kernel
theorem dX3_isSplit_5 : decode cX3_isSplit 5 = .ok (.iaload, 1) := by decide +kernel
theorem dX3_isSplit_6 : decode cX3_isSplit 6 = .ok (.aload_n 0, 1) := by decide +kernel
theorem dX3_isSplit_7 : decode cX3_isSplit 7 = .ok (.getfield 15, 3) := by decide +kernel
theorem dX3_isSplit_10 : decode cX3_isSplit 10 = .ok (.iload_n 1, 1) := by decide +kernel
theorem dX3_isSplit_11 : decode cX3_isSplit 11 = .ok (.iaload, 1) := by decide +kernel
theorem dX3_isSplit_12 : decode cX3_isSplit 12 = .ok (.aload_n 0, 1) := by decide +kernel
theorem dX3_isSplit_13 : decode cX3_isSplit 13 = .ok (.getfield 18, 3) := by decide +kernel
theorem dX3_isSplit_16 : decode cX3_isSplit 16 = .ok (.iload_n 1, 1) := by decide +kernel
theorem dX3_isSplit_17 : decode cX3_isSplit 17 = .ok (.iaload, 1) := by decide +kernel
theorem dX3_isSplit_18 : decode cX3_isSplit 18 = .ok (.iadd, 1) := by decide +kernel
theorem dX3_isSplit_19 : decode cX3_isSplit 19 = .ok (.if_icmp .le 7, 3) := by decide +kernel
theorem dX3_isSplit_22 : decode cX3_isSplit 22 = .ok (.iconst 1, 1) := by decide +kernel
theorem dX3_isSplit_23 : decode cX3_isSplit 23 = .ok (.goto 4, 3) := by decide +kernel
theorem dX3_isSplit_26 : decode cX3_isSplit 26 = .ok (.iconst 0, 1) := by decide +kernel
theorem dX3_isSplit_27 : decode cX3_isSplit 27 = .ok (.ireturn, 1) := by decide +kernel
theorem dX3_splitBits_0 : decode cX3_splitBits 0 = .ok (.iconst 0, 1) := by decide +kernel
theorem dX3_splitBits_1 : decode cX3_splitBits 1 = .ok (.istore_n 1, 1) := by decide +kernel
theorem dX3_splitBits_2 : decode cX3_splitBits 2 = .ok (.iconst 0, 1) := by decide +kernel
theorem dX3_splitBits_3 : decode cX3_splitBits 3 = .ok (.istore_n 2, 1) := by decide +kernel
theorem dX3_splitBits_4 : decode cX3_splitBits 4 = .ok (.iload_n 2, 1) := by decide +kernel
theorem dX3_splitBits_5 : decode cX3_splitBits 5 = .ok (.aload_n 0, 1) := by decide +kernel
theorem dX3_splitBits_6 : decode cX3_splitBits 6 = .ok (.getfield 43, 3) := by decide +kernel
theorem dX3_splitBits_9 : decode cX3_splitBits 9 = .ok (.if_icmp .ge 23, 3) := by decide +kernel
theorem dX3_splitBits_12 : decode cX3_splitBits 12 = .ok (.aload_n 0, 1) := by decide +kernel
theorem dX3_splitBits_13 : decode cX3_splitBits 13 = .ok (.iload_n 2, 1) := by decide +kernel
theorem dX3_splitBits_14 : decode cX3_splitBits 14 = .ok (.invokevirtual 73, 3) := by decide +kernel
theorem dX3_splitBits_17 : decode cX3_splitBits 17 = .ok (.ifCond .eq 9, 3) := by decide +kernel
theorem dX3_splitBits_20 : decode cX3_splitBits 20 = .ok (.iload_n 1, 1) := by decide +kernel
theorem dX3_splitBits_21 : decode cX3_splitBits 21 = .ok (.iconst 1, 1) := by decide +kernel
theorem dX3_splitBits_22 : decode cX3_splitBits 22 = .ok (.iload_n 2, 1) := by decide +kernel
theorem dX3_splitBits_23 : decode cX3_splitBits 23 = .ok (.ishl, 1) := by decide +kernel
theorem dX3_splitBits_24 : decode cX3_splitBits 24 = .ok (.ior, 1) := by decide +kernel
theorem dX3_splitBits_25 : decode cX3_splitBits 25 = .ok (.istore_n 1, 1) := by decide +kernel
theorem dX3_splitBits_26 : decode cX3_splitBits 26 = .ok (.iinc 2 1, 3) := by decide +kernel
theorem dX3_splitBits_29 : decode cX3_splitBits 29 = .ok (.goto (-25), 3) := by decide +kernel
theorem dX3_splitBits_32 : decode cX3_splitBits 32 = .ok (.iload_n 1, 1) := by decide +kernel
theorem dX3_splitBits_33 : decode cX3_splitBits 33 = .ok (.ireturn, 1) := by decide +kernel
theorem dX3_spanOf_0 : decode cX3_spanOf 0 = .ok (.aload_n 0, 1) := by decide +kernel
theorem dX3_spanOf_1 : decode cX3_spanOf 1 = .ok (.getfield 39, 3) := by decide +kernel
theorem dX3_spanOf_4 : decode cX3_spanOf 4 = .ok (.aload_n 0, 1) := by decide +kernel
theorem dX3_spanOf_5 : decode cX3_spanOf 5 = .ok (.getfield 32, 3) := by decide +kernel
theorem dX3_spanOf_8 : decode cX3_spanOf 8 = .ok (.iload_n 3, 1) := by decide +kernel
theorem dX3_spanOf_9 : decode cX3_spanOf 9 = .ok (.aaload, 1) := by decide +kernel
theorem dX3_spanOf_10 : decode cX3_spanOf 10 = .ok (.aload_n 0, 1) := by decide +kernel
theorem dX3_spanOf_11 : decode cX3_spanOf 11 = .ok (.getfield 9, 3) := by decide +kernel
theorem dX3_spanOf_14 : decode cX3_spanOf 14 = .ok (.iload_n 1, 1) := by decide +kernel
theorem dX3_spanOf_15 : decode cX3_spanOf 15 = .ok (.iaload, 1) := by decide +kernel
theorem dX3_spanOf_16 : decode cX3_spanOf 16 = .ok (.aload_n 0, 1) := by decide +kernel
theorem dX3_spanOf_17 : decode cX3_spanOf 17 = .ok (.getfield 24, 3) := by decide +kernel
theorem dX3_spanOf_20 : decode cX3_spanOf 20 = .ok (.iload_n 2, 1) := by decide +kernel
theorem dX3_spanOf_21 : decode cX3_spanOf 21 = .ok (.iaload, 1) := by decide +kernel
theorem dX3_spanOf_22 : decode cX3_spanOf 22 = .ok (.invokevirtual 76, 3) := by decide +kernel
theorem dX3_spanOf_25 : decode cX3_spanOf 25 = .ok (.putfield 80, 3) := by decide +kernel
theorem dX3_spanOf_28 : decode cX3_spanOf 28 = .ok (.aload_n 0, 1) := by decide +kernel
theorem dX3_spanOf_29 : decode cX3_spanOf 29 = .ok (.getfield 39, 3) := by decide +kernel
theorem dX3_spanOf_32 : decode cX3_spanOf 32 = .ok (.aload_n 0, 1) := by decide +kernel
theorem dX3_spanOf_33 : decode cX3_spanOf 33 = .ok (.getfield 32, 3) := by decide +kernel
theorem dX3_spanOf_36 : decode cX3_spanOf 36 = .ok (.iload_n 3, 1) := by decide +kernel
theorem dX3_spanOf_37 : decode cX3_spanOf 37 = .ok (.aaload, 1) := by decide +kernel
theorem dX3_spanOf_38 : decode cX3_spanOf 38 = .ok (.aload_n 0, 1) := by decide +kernel
theorem dX3_spanOf_39 : decode cX3_spanOf 39 = .ok (.getfield 39, 3) := by decide +kernel
theorem dX3_spanOf_42 : decode cX3_spanOf 42 = .ok (.getfield 80, 3) := by decide +kernel
theorem dX3_spanOf_45 : decode cX3_spanOf 45 = .ok (.aload_n 0, 1) := by decide +kernel
theorem dX3_spanOf_46 : decode cX3_spanOf 46 = .ok (.getfield 18, 3) := by decide +kernel
theorem dX3_spanOf_49 : decode cX3_spanOf 49 = .ok (.iload_n 1, 1) := by decide +kernel
theorem dX3_spanOf_50 : decode cX3_spanOf 50 = .ok (.iaload, 1) := by decide +kernel
theorem dX3_spanOf_51 : decode cX3_spanOf 51 = .ok (.invokevirtual 82, 3) := by decide +kernel
theorem dX3_spanOf_54 : decode cX3_spanOf 54 = .ok (.putfield 85, 3) := by decide +kernel
theorem dX3_spanOf_57 : decode cX3_spanOf 57 = .ok (.aload_n 0, 1) := by decide +kernel
theorem dX3_spanOf_58 : decode cX3_spanOf 58 = .ok (.getfield 39, 3) := by decide +kernel
theorem dX3_spanOf_61 : decode cX3_spanOf 61 = .ok (.aload_n 0, 1) := by decide +kernel
theorem dX3_spanOf_62 : decode cX3_spanOf 62 = .ok (.getfield 27, 3) := by decide +kernel
theorem dX3_spanOf_65 : decode cX3_spanOf 65 = .ok (.iload_n 2, 1) := by decide +kernel
theorem dX3_spanOf_66 : decode cX3_spanOf 66 = .ok (.iaload, 1) := by decide +kernel
theorem dX3_spanOf_67 : decode cX3_spanOf 67 = .ok (.putfield 87, 3) := by decide +kernel
theorem dX3_spanOf_70 : decode cX3_spanOf 70 = .ok (.aload_n 0, 1) := by decide +kernel
theorem dX3_spanOf_71 : decode cX3_spanOf 71 = .ok (.getfield 39, 3) := by decide +kernel
theorem dX3_spanOf_74 : decode cX3_spanOf 74 = .ok (.aload_n 0, 1) := by decide +kernel
theorem dX3_spanOf_75 : decode cX3_spanOf 75 = .ok (.getfield 32, 3) := by decide +kernel
theorem dX3_spanOf_78 : decode cX3_spanOf 78 = .ok (.iload_n 3, 1) := by decide +kernel
theorem dX3_spanOf_79 : decode cX3_spanOf 79 = .ok (.aaload, 1) := by decide +kernel
theorem dX3_spanOf_80 : decode cX3_spanOf 80 = .ok (.aload_n 0, 1) := by decide +kernel
theorem dX3_spanOf_81 : decode cX3_spanOf 81 = .ok (.getfield 24, 3) := by decide +kernel
theorem dX3_spanOf_84 : decode cX3_spanOf 84 = .ok (.iload_n 2, 1) := by decide +kernel
theorem dX3_spanOf_85 : decode cX3_spanOf 85 = .ok (.iaload, 1) := by decide +kernel
theorem dX3_spanOf_86 : decode cX3_spanOf 86 = .ok (.invokevirtual 89, 3) := by decide +kernel
theorem dX3_spanOf_89 : decode cX3_spanOf 89 = .ok (.putfield 93, 3) := by decide +kernel
theorem dX3_spanOf_92 : decode cX3_spanOf 92 = .ok (.aload_n 0, 1) := by decide +kernel
theorem dX3_spanOf_93 : decode cX3_spanOf 93 = .ok (.getfield 39, 3) := by decide +kernel
theorem dX3_spanOf_96 : decode cX3_spanOf 96 = .ok (.aload_n 0, 1) := by decide +kernel
theorem dX3_spanOf_97 : decode cX3_spanOf 97 = .ok (.getfield 32, 3) := by decide +kernel
theorem dX3_spanOf_100 : decode cX3_spanOf 100 = .ok (.iload_n 3, 1) := by decide +kernel
theorem dX3_spanOf_101 : decode cX3_spanOf 101 = .ok (.aaload, 1) := by decide +kernel
theorem dX3_spanOf_102 : decode cX3_spanOf 102 = .ok (.aload_n 0, 1) := by decide +kernel
theorem dX3_spanOf_103 : decode cX3_spanOf 103 = .ok (.getfield 39, 3) := by decide +kernel
theorem dX3_spanOf_106 : decode cX3_spanOf 106 = .ok (.getfield 93, 3) := by decide +kernel
theorem dX3_spanOf_109 : decode cX3_spanOf 109 = .ok (.invokevirtual 95, 3) := by decide +kernel
theorem dX3_spanOf_112 : decode cX3_spanOf 112 = .ok (.putfield 98, 3) := by decide +kernel
theorem dX3_spanOf_115 : decode cX3_spanOf 115 = .ok (.aload_n 0, 1) := by decide +kernel
theorem dX3_spanOf_116 : decode cX3_spanOf 116 = .ok (.getfield 39, 3) := by decide +kernel
theorem dX3_spanOf_119 : decode cX3_spanOf 119 = .ok (.areturn, 1) := by decide +kernel
theorem dX3_blowOnce_0 : decode cX3_blowOnce 0 = .ok (.aload_n 0, 1) := by decide +kernel
theorem dX3_blowOnce_1 : decode cX3_blowOnce 1 = .ok (.getfield 21, 3) := by decide +kernel
theorem dX3_blowOnce_4 : decode cX3_blowOnce 4 = .ok (.iload_n 1, 1) := by decide +kernel
theorem dX3_blowOnce_5 : decode cX3_blowOnce 5 = .ok (.dup2, 1) := by decide +kernel
theorem dX3_blowOnce_6 : decode cX3_blowOnce 6 = .ok (.iaload, 1) := by decide +kernel
theorem dX3_blowOnce_7 : decode cX3_blowOnce 7 = .ok (.aload_n 0, 1) := by decide +kernel
theorem dX3_blowOnce_8 : decode cX3_blowOnce 8 = .ok (.getfield 32, 3) := by decide +kernel
theorem dX3_blowOnce_11 : decode cX3_blowOnce 11 = .ok (.iload_n 3, 1) := by decide +kernel
theorem dX3_blowOnce_12 : decode cX3_blowOnce 12 = .ok (.aaload, 1) := by decide +kernel
theorem dX3_blowOnce_13 : decode cX3_blowOnce 13 = .ok (.iload 5, 2) := by decide +kernel
theorem dX3_blowOnce_15 : decode cX3_blowOnce 15 = .ok (.invokevirtual 100, 3) := by decide +kernel
theorem dX3_blowOnce_18 : decode cX3_blowOnce 18 = .ok (.iadd, 1) := by decide +kernel
theorem dX3_blowOnce_19 : decode cX3_blowOnce 19 = .ok (.iastore, 1) := by decide +kernel
theorem dX3_blowOnce_20 : decode cX3_blowOnce 20 = .ok (.aload_n 0, 1) := by decide +kernel
theorem dX3_blowOnce_21 : decode cX3_blowOnce 21 = .ok (.iload_n 1, 1) := by decide +kernel
theorem dX3_blowOnce_22 : decode cX3_blowOnce 22 = .ok (.iload_n 2, 1) := by decide +kernel
theorem dX3_blowOnce_23 : decode cX3_blowOnce 23 = .ok (.iload_n 3, 1) := by decide +kernel
theorem dX3_blowOnce_24 : decode cX3_blowOnce 24 = .ok (.invokevirtual 103, 3) := by decide +kernel
theorem dX3_blowOnce_27 : decode cX3_blowOnce 27 = .ok (.iload 4, 2) := by decide +kernel
theorem dX3_blowOnce_29 : decode cX3_blowOnce 29 = .ok (.iload 5, 2) := by decide +kernel
theorem dX3_blowOnce_31 : decode cX3_blowOnce 31 = .ok (.invokevirtual 107, 3) := by decide +kernel
theorem dX3_blowOnce_34 : decode cX3_blowOnce 34 = .ok (.ifCond .ne 7, 3) := by decide +kernel
theorem dX3_blowOnce_37 : decode cX3_blowOnce 37 = .ok (.iconst 1, 1) := by decide +kernel
theorem dX3_blowOnce_38 : decode cX3_blowOnce 38 = .ok (.goto 4, 3) := by decide +kernel
theorem dX3_blowOnce_41 : decode cX3_blowOnce 41 = .ok (.iconst 0, 1) := by decide +kernel
theorem dX3_blowOnce_42 : decode cX3_blowOnce 42 = .ok (.ireturn, 1) := by decide +kernel
theorem dX4_init_0 : decode cX4_init 0 = .ok (.aload_n 0, 1) := by decide +kernel
theorem dX4_init_1 : decode cX4_init 1 = .ok (.invokespecial 3, 3) := by decide +kernel
theorem dX4_init_4 : decode cX4_init 4 = .ok (.aload_n 0, 1) := by decide +kernel
theorem dX4_init_5 : decode cX4_init 5 = .ok (.bipush 100, 2) := by decide +kernel
theorem dX4_init_7 : decode cX4_init 7 = .ok (.newarray .int, 2) := by decide +kernel
theorem dX4_init_9 : decode cX4_init 9 = .ok (.putfield 9, 3) := by decide +kernel
theorem dX4_init_12 : decode cX4_init 12 = .ok (.return_, 1) := by decide +kernel
theorem dX4_isEmpty_0 : decode cX4_isEmpty 0 = .ok (.aload_n 0, 1) := by decide +kernel
theorem dX4_isEmpty_1 : decode cX4_isEmpty 1 = .ok (.getfield 15, 3) := by decide +kernel
theorem dX4_isEmpty_4 : decode cX4_isEmpty 4 = .ok (.ifnonnull 14, 3) := by decide +kernel
theorem dX4_isEmpty_7 : decode cX4_isEmpty 7 = .ok (.aload_n 0, 1) := by decide +kernel
theorem dX4_isEmpty_8 : decode cX4_isEmpty 8 = .ok (.getfield 19, 3) := by decide +kernel
theorem dX4_isEmpty_11 : decode cX4_isEmpty 11 = .ok (.ifCond .ne 7, 3) := by decide +kernel
theorem dX4_isEmpty_14 : decode cX4_isEmpty 14 = .ok (.iconst 1, 1) := by decide +kernel
theorem dX4_isEmpty_15 : decode cX4_isEmpty 15 = .ok (.goto 4, 3) := by decide +kernel
theorem dX4_isEmpty_18 : decode cX4_isEmpty 18 = .ok (.iconst 0, 1) := by decide +kernel
theorem dX4_isEmpty_19 : decode cX4_isEmpty 19 = .ok (.ireturn, 1) := by decide +kernel
theorem dX4_holdNothing_0 : decode cX4_holdNothing 0 = .ok (.aload_n 0, 1) := by decide +kernel
theorem dX4_holdNothing_1 : decode cX4_holdNothing 1 = .ok (.aconst_null, 1) := by decide +kernel
theorem dX4_holdNothing_2 : decode cX4_holdNothing 2 = .ok (.putfield 15, 3) := by decide +kernel
theorem dX4_holdNothing_5 : decode cX4_holdNothing 5 = .ok (.aload_n 0, 1) := by decide +kernel
theorem dX4_holdNothing_6 : decode cX4_holdNothing 6 = .ok (.iconst 0, 1) := by decide +kernel
theorem dX4_holdNothing_7 : decode cX4_holdNothing 7 = .ok (.putfield 19, 3) := by decide +kernel
theorem dX4_holdNothing_10 : decode cX4_holdNothing 10 = .ok (.aload_n 0, 1) := by decide +kernel
theorem dX4_holdNothing_11 : decode cX4_holdNothing 11 = .ok (.iconst 0, 1) := by decide +kernel
theorem dX4_holdNothing_12 : decode cX4_holdNothing 12 = .ok (.putfield 23, 3) := by decide +kernel
theorem dX4_holdNothing_15 : decode cX4_holdNothing 15 = .ok (.return_, 1) := by decide +kernel
theorem dX4_holdBlow_0 : decode cX4_holdBlow 0 = .ok (.aload_n 0, 1) := by decide +kernel
theorem dX4_holdBlow_1 : decode cX4_holdBlow 1 = .ok (.invokevirtual 27, 3) := by decide +kernel
theorem dX4_holdBlow_4 : decode cX4_holdBlow 4 = .ok (.aload_n 0, 1) := by decide +kernel
theorem dX4_holdBlow_5 : decode cX4_holdBlow 5 = .ok (.aload_n 1, 1) := by decide +kernel
theorem dX4_holdBlow_6 : decode cX4_holdBlow 6 = .ok (.putfield 15, 3) := by decide +kernel
theorem dX4_holdBlow_9 : decode cX4_holdBlow 9 = .ok (.return_, 1) := by decide +kernel
theorem dX4_holdRow_0 : decode cX4_holdRow 0 = .ok (.aload_n 0, 1) := by decide +kernel
theorem dX4_holdRow_1 : decode cX4_holdRow 1 = .ok (.aconst_null, 1) := by decide +kernel
theorem dX4_holdRow_2 : decode cX4_holdRow 2 = .ok (.putfield 15, 3) := by decide +kernel
theorem dX4_holdRow_5 : decode cX4_holdRow 5 = .ok (.aload_n 0, 1) := by decide +kernel
theorem dX4_holdRow_6 : decode cX4_holdRow 6 = .ok (.iconst 1, 1) := by decide +kernel
theorem dX4_holdRow_7 : decode cX4_holdRow 7 = .ok (.putfield 19, 3) := by decide +kernel
theorem dX4_holdRow_10 : decode cX4_holdRow 10 = .ok (.aload_n 0, 1) := by decide +kernel
theorem dX4_holdRow_11 : decode cX4_holdRow 11 = .ok (.iload_n 1, 1) := by decide +kernel
theorem dX4_holdRow_12 : decode cX4_holdRow 12 = .ok (.putfield 30, 3) := by decide +kernel
theorem dX4_holdRow_15 : decode cX4_holdRow 15 = .ok (.aload_n 0, 1) := by decide +kernel
theorem dX4_holdRow_16 : decode cX4_holdRow 16 = .ok (.iload_n 2, 1) := by decide +kernel
theorem dX4_holdRow_17 : decode cX4_holdRow 17 = .ok (.putfield 23, 3) := by decide +kernel
theorem dX4_holdRow_20 : decode cX4_holdRow 20 = .ok (.aload_n 0, 1) := by decide +kernel
theorem dX4_holdRow_21 : decode cX4_holdRow 21 = .ok (.getfield 9, 3) := by decide +kernel
theorem dX4_holdRow_24 : decode cX4_holdRow 24 = .ok (.iconst 0, 1) := by decide +kernel
theorem dX4_holdRow_25 : decode cX4_holdRow 25 = .ok (.invokestatic 33, 3) := by decide +kernel
theorem dX4_holdRow_28 : decode cX4_holdRow 28 = .ok (.return_, 1) := by decide +kernel
theorem dX4_hasPlace_0 : decode cX4_hasPlace 0 = .ok (.iload_n 1, 1) := by decide +kernel
theorem dX4_hasPlace_1 : decode cX4_hasPlace 1 = .ok (.ifCond .lt 15, 3) := by decide +kernel
theorem dX4_hasPlace_4 : decode cX4_hasPlace 4 = .ok (.iload_n 1, 1) := by decide +kernel
theorem dX4_hasPlace_5 : decode cX4_hasPlace 5 = .ok (.aload_n 0, 1) := by decide +kernel
theorem dX4_hasPlace_6 : decode cX4_hasPlace 6 = .ok (.getfield 23, 3) := by decide +kernel
theorem dX4_hasPlace_9 : decode cX4_hasPlace 9 = .ok (.if_icmp .ge 7, 3) := by decide +kernel
theorem dX4_hasPlace_12 : decode cX4_hasPlace 12 = .ok (.iconst 1, 1) := by decide +kernel
theorem dX4_hasPlace_13 : decode cX4_hasPlace 13 = .ok (.goto 4, 3) := by decide +kernel
theorem dX4_hasPlace_16 : decode cX4_hasPlace 16 = .ok (.iconst 0, 1) := by decide +kernel
theorem dX4_hasPlace_17 : decode cX4_hasPlace 17 = .ok (.ireturn, 1) := by decide +kernel
theorem dX4_hasPlaces_0 : decode cX4_hasPlaces 0 = .ok (.iload_n 1, 1) := by decide +kernel
theorem dX4_hasPlaces_1 : decode cX4_hasPlaces 1 = .ok (.ifCond .lt 25, 3) := by decide +kernel
theorem dX4_hasPlaces_4 : decode cX4_hasPlaces 4 = .ok (.iload_n 1, 1) := by decide +kernel
theorem dX4_hasPlaces_5 : decode cX4_hasPlaces 5 = .ok (.aload_n 0, 1) := by decide +kernel
theorem dX4_hasPlaces_6 : decode cX4_hasPlaces 6 = .ok (.getfield 23, 3) := by decide +kernel
theorem dX4_hasPlaces_9 : decode cX4_hasPlaces 9 = .ok (.if_icmp .gt 17, 3) := by decide +kernel
theorem dX4_hasPlaces_12 : decode cX4_hasPlaces 12 = .ok (.iload_n 2, 1) := by decide +kernel
theorem dX4_hasPlaces_13 : decode cX4_hasPlaces 13 = .ok (.aload_n 0, 1) := by decide +kernel
theorem dX4_hasPlaces_14 : decode cX4_hasPlaces 14 = .ok (.getfield 23, 3) := by decide +kernel
theorem dX4_hasPlaces_17 : decode cX4_hasPlaces 17 = .ok (.iload_n 1, 1) := by decide +kernel
theorem dX4_hasPlaces_18 : decode cX4_hasPlaces 18 = .ok (.isub, 1) := by decide +kernel
theorem dX4_hasPlaces_19 : decode cX4_hasPlaces 19 = .ok (.if_icmp .gt 7, 3) := by decide +kernel
theorem dX4_hasPlaces_22 : decode cX4_hasPlaces 22 = .ok (.iconst 1, 1) := by decide +kernel
theorem dX4_hasPlaces_23 : decode cX4_hasPlaces 23 = .ok (.goto 4, 3) := by decide +kernel
theorem dX4_hasPlaces_26 : decode cX4_hasPlaces 26 = .ok (.iconst 0, 1) := by decide +kernel
theorem dX4_hasPlaces_27 : decode cX4_hasPlaces 27 = .ok (.ireturn, 1) := by decide +kernel
theorem dX4_cutToSort_0 : decode cX4_cutToSort 0 = .ok (.aload_n 0, 1) := by decide +kernel
theorem dX4_cutToSort_1 : decode cX4_cutToSort 1 = .ok (.getfield 30, 3) := by decide +kernel
theorem dX4_cutToSort_4 : decode cX4_cutToSort 4 = .ok (.ifCond .ne 6, 3) := by decide +kernel
theorem dX4_cutToSort_7 : decode cX4_cutToSort 7 = .ok (.iload_n 1, 1) := by decide +kernel
theorem dX4_cutToSort_8 : decode cX4_cutToSort 8 = .ok (.i2b, 1) := by decide +kernel
theorem dX4_cutToSort_9 : decode cX4_cutToSort 9 = .ok (.ireturn, 1) := by decide +kernel
theorem dX4_cutToSort_10 : decode cX4_cutToSort 10 = .ok (.aload_n 0, 1) := by decide +kernel
theorem dX4_cutToSort_11 : decode cX4_cutToSort 11 = .ok (.getfield 30, 3) := by decide +kernel
theorem dX4_cutToSort_14 : decode cX4_cutToSort 14 = .ok (.iconst 1, 1) := by decide +kernel
theorem dX4_cutToSort_15 : decode cX4_cutToSort 15 = .ok (.if_icmp .ne 8, 3) := by decide +kernel
theorem dX4_cutToSort_18 : decode cX4_cutToSort 18 = .ok (.iload_n 1, 1) := by decide +kernel
theorem dX4_cutToSort_19 : decode cX4_cutToSort 19 = .ok (.i2s, 1) := by decide +kernel
theorem dX4_cutToSort_20 : decode cX4_cutToSort 20 = .ok (.goto 4, 3) := by decide +kernel
theorem dX4_cutToSort_23 : decode cX4_cutToSort 23 = .ok (.iload_n 1, 1) := by decide +kernel
theorem dX4_cutToSort_24 : decode cX4_cutToSort 24 = .ok (.ireturn, 1) := by decide +kernel
theorem dX4_leastOfSort_0 : decode cX4_leastOfSort 0 = .ok (.aload_n 0, 1) := by decide +kernel
theorem dX4_leastOfSort_1 : decode cX4_leastOfSort 1 = .ok (.getfield 30, 3) := by decide +kernel
theorem dX4_leastOfSort_4 : decode cX4_leastOfSort 4 = .ok (.ifCond .ne 6, 3) := by decide +kernel
theorem dX4_leastOfSort_7 : decode cX4_leastOfSort 7 = .ok (.bipush (-128), 2) := by decide +kernel
theorem dX4_leastOfSort_9 : decode cX4_leastOfSort 9 = .ok (.ireturn, 1) := by decide +kernel
theorem dX4_leastOfSort_10 : decode cX4_leastOfSort 10 = .ok (.aload_n 0, 1) := by decide +kernel
theorem dX4_leastOfSort_11 : decode cX4_leastOfSort 11 = .ok (.getfield 30, 3) := by decide +kernel
theorem dX4_leastOfSort_14 : decode cX4_leastOfSort 14 = .ok (.iconst 1, 1) := by decide +kernel
theorem dX4_leastOfSort_15 : decode cX4_leastOfSort 15 = .ok (.if_icmp .ne 9, 3) := by decide +kernel
theorem dX4_leastOfSort_18 : decode cX4_leastOfSort 18 = .ok (.sipush (-32768), 3) := by decide +kernel
theorem dX4_leastOfSort_21 : decode cX4_leastOfSort 21 = .ok (.goto 5, 3) := by decide +kernel
theorem dX4_leastOfSort_24 : decode cX4_leastOfSort 24 = .ok (.ldc 39, 2) := by decide +kernel
theorem dX4_leastOfSort_26 : decode cX4_leastOfSort 26 = .ok (.ireturn, 1) := by decide +kernel
theorem dX4_byteAt_0 : decode cX4_byteAt 0 = .ok (.aload_n 0, 1) := by decide +kernel
theorem dX4_byteAt_1 : decode cX4_byteAt 1 = .ok (.iload_n 1, 1) := by decide +kernel
theorem dX4_byteAt_2 : decode cX4_byteAt 2 = .ok (.invokevirtual 40, 3) := by decide +kernel
theorem dX4_byteAt_5 : decode cX4_byteAt 5 = .ok (.ifCond .eq 12, 3) := by decide +kernel
theorem dX4_byteAt_8 : decode cX4_byteAt 8 = .ok (.aload_n 0, 1) := by decide +kernel
theorem dX4_byteAt_9 : decode cX4_byteAt 9 = .ok (.getfield 9, 3) := by decide +kernel
theorem dX4_byteAt_12 : decode cX4_byteAt 12 = .ok (.iload_n 1, 1) := by decide +kernel
theorem dX4_byteAt_13 : decode cX4_byteAt 13 = .ok (.iaload, 1) := by decide +kernel
theorem dX4_byteAt_14 : decode cX4_byteAt 14 = .ok (.goto 4, 3) := by decide +kernel
theorem dX4_byteAt_17 : decode cX4_byteAt 17 = .ok (.iconst 0, 1) := by decide +kernel
theorem dX4_byteAt_18 : decode cX4_byteAt 18 = .ok (.ireturn, 1) := by decide +kernel
theorem dX4_digitAt_0 : decode cX4_digitAt 0 = .ok (.aload_n 0, 1) := by decide +kernel
theorem dX4_digitAt_1 : decode cX4_digitAt 1 = .ok (.iload_n 1, 1) := by decide +kernel
theorem dX4_digitAt_2 : decode cX4_digitAt 2 = .ok (.invokevirtual 44, 3) := by decide +kernel
theorem dX4_digitAt_5 : decode cX4_digitAt 5 = .ok (.bipush 48, 2) := by decide +kernel
theorem dX4_digitAt_7 : decode cX4_digitAt 7 = .ok (.isub, 1) := by decide +kernel
theorem dX4_digitAt_8 : decode cX4_digitAt 8 = .ok (.ireturn, 1) := by decide +kernel
theorem dX4_twoDigitsAt_0 : decode cX4_twoDigitsAt 0 = .ok (.bipush 10, 2) := by decide +kernel
theorem dX4_twoDigitsAt_2 : decode cX4_twoDigitsAt 2 = .ok (.aload_n 0, 1) := by decide +kernel
theorem dX4_twoDigitsAt_3 : decode cX4_twoDigitsAt 3 = .ok (.iload_n 1, 1) := by decide +kernel
theorem dX4_twoDigitsAt_4 : decode cX4_twoDigitsAt 4 = .ok (.invokevirtual 48, 3) := by decide +kernel
theorem dX4_twoDigitsAt_7 : decode cX4_twoDigitsAt 7 = .ok (.imul, 1) := by decide +kernel
theorem dX4_twoDigitsAt_8 : decode cX4_twoDigitsAt 8 = .ok (.aload_n 0, 1) := by decide +kernel
theorem dX4_twoDigitsAt_9 : decode cX4_twoDigitsAt 9 = .ok (.iload_n 1, 1) := by decide +kernel
theorem dX4_twoDigitsAt_10 : decode cX4_twoDigitsAt 10 = .ok (.iconst 1, 1) := by decide +kernel
theorem dX4_twoDigitsAt_11 : decode cX4_twoDigitsAt 11 = .ok (.iadd, 1) := by decide +kernel
theorem dX4_twoDigitsAt_12 : decode cX4_twoDigitsAt 12 = .ok (.invokevirtual 48, 3) := by decide +kernel
theorem dX4_twoDigitsAt_15 : decode cX4_twoDigitsAt 15 = .ok (.iadd, 1) := by decide +kernel
theorem dX4_twoDigitsAt_16 : decode cX4_twoDigitsAt 16 = .ok (.ireturn, 1) := by decide +kernel
theorem dX5_init_0 : decode cX5_init 0 = .ok (.aload_n 0, 1) := by decide +kernel
theorem dX5_init_1 : decode cX5_init 1 = .ok (.iload_n 1, 1) := by decide +kernel
theorem dX5_init_2 : decode cX5_init 2 = .ok (.iload_n 2, 1) := by decide +kernel
theorem dX5_init_3 : decode cX5_init 3 = .ok (.invokespecial 1, 3) := by decide +kernel
theorem dX5_init_6 : decode cX5_init 6 = .ok (.return_, 1) := by decide +kernel
theorem dX5_low_0 : decode cX5_low 0 = .ok (.aload_n 0, 1) := by decide +kernel
theorem dX5_low_1 : decode cX5_low 1 = .ok (.iload_n 1, 1) := by decide +kernel
theorem dX5_low_2 : decode cX5_low 2 = .ok (.iload_n 2, 1) := by decide +kernel
theorem dX5_low_3 : decode cX5_low 3 = .ok (.invokespecial 7, 3) := by decide +kernel
theorem dX5_low_6 : decode cX5_low 6 = .ok (.bipush 10, 2) := by decide +kernel
theorem dX5_low_8 : decode cX5_low 8 = .ok (.iadd, 1) := by decide +kernel
theorem dX5_low_9 : decode cX5_low 9 = .ok (.ireturn, 1) := by decide +kernel
theorem dX5_high_0 : decode cX5_high 0 = .ok (.iload_n 1, 1) := by decide +kernel
theorem dX5_high_1 : decode cX5_high 1 = .ok (.aload_n 0, 1) := by decide +kernel
theorem dX5_high_2 : decode cX5_high 2 = .ok (.iload_n 1, 1) := by decide +kernel
theorem dX5_high_3 : decode cX5_high 3 = .ok (.iload_n 2, 1) := by decide +kernel
theorem dX5_high_4 : decode cX5_high 4 = .ok (.invokespecial 11, 3) := by decide +kernel
theorem dX5_high_7 : decode cX5_high 7 = .ok (.iload_n 1, 1) := by decide +kernel
theorem dX5_high_8 : decode cX5_high 8 = .ok (.isub, 1) := by decide +kernel
theorem dX5_high_9 : decode cX5_high 9 = .ok (.iconst 2, 1) := by decide +kernel
theorem dX5_high_10 : decode cX5_high 10 = .ok (.idiv, 1) := by decide +kernel
theorem dX5_high_11 : decode cX5_high 11 = .ok (.iadd, 1) := by decide +kernel
theorem dX5_high_12 : decode cX5_high 12 = .ok (.ireturn, 1) := by decide +kernel
theorem dX5_softest_0 : decode cX5_softest 0 = .ok (.iconst 2, 1) := by decide +kernel
theorem dX5_softest_1 : decode cX5_softest 1 = .ok (.aload_n 0, 1) := by decide +kernel
theorem dX5_softest_2 : decode cX5_softest 2 = .ok (.iload_n 1, 1) := by decide +kernel
theorem dX5_softest_3 : decode cX5_softest 3 = .ok (.invokespecial 14, 3) := by decide +kernel
theorem dX5_softest_6 : decode cX5_softest 6 = .ok (.imul, 1) := by decide +kernel
theorem dX5_softest_7 : decode cX5_softest 7 = .ok (.ireturn, 1) := by decide +kernel
theorem dX5_pitchAt_0 : decode cX5_pitchAt 0 = .ok (.aload_n 0, 1) := by decide +kernel
theorem dX5_pitchAt_1 : decode cX5_pitchAt 1 = .ok (.iload_n 1, 1) := by decide +kernel
theorem dX5_pitchAt_2 : decode cX5_pitchAt 2 = .ok (.iload_n 2, 1) := by decide +kernel
theorem dX5_pitchAt_3 : decode cX5_pitchAt 3 = .ok (.iload_n 3, 1) := by decide +kernel
theorem dX5_pitchAt_4 : decode cX5_pitchAt 4 = .ok (.invokespecial 18, 3) := by decide +kernel
theorem dX5_pitchAt_7 : decode cX5_pitchAt 7 = .ok (.bipush 12, 2) := by decide +kernel
theorem dX5_pitchAt_9 : decode cX5_pitchAt 9 = .ok (.iadd, 1) := by decide +kernel
theorem dX5_pitchAt_10 : decode cX5_pitchAt 10 = .ok (.ireturn, 1) := by decide +kernel
theorem dX5_wearBy_0 : decode cX5_wearBy 0 = .ok (.iconst 2, 1) := by decide +kernel
theorem dX5_wearBy_1 : decode cX5_wearBy 1 = .ok (.aload_n 0, 1) := by decide +kernel
theorem dX5_wearBy_2 : decode cX5_wearBy 2 = .ok (.iload_n 1, 1) := by decide +kernel
theorem dX5_wearBy_3 : decode cX5_wearBy 3 = .ok (.invokespecial 22, 3) := by decide +kernel
theorem dX5_wearBy_6 : decode cX5_wearBy 6 = .ok (.imul, 1) := by decide +kernel
theorem dX5_wearBy_7 : decode cX5_wearBy 7 = .ok (.ireturn, 1) := by decide +kernel
theorem dX5_costs_0 : decode cX5_costs 0 = .ok (.iconst 2, 1) := by decide +kernel
theorem dX5_costs_1 : decode cX5_costs 1 = .ok (.aload_n 0, 1) := by decide +kernel
theorem dX5_costs_2 : decode cX5_costs 2 = .ok (.invokespecial 25, 3) := by decide +kernel
theorem dX5_costs_5 : decode cX5_costs 5 = .ok (.imul, 1) := by decide +kernel
theorem dX5_costs_6 : decode cX5_costs 6 = .ok (.ireturn, 1) := by decide +kernel
theorem dX5_fail_0 : decode cX5_fail 0 = .ok (.aload_n 0, 1) := by decide +kernel
theorem dX5_fail_1 : decode cX5_fail 1 = .ok (.getfield 29, 3) := by decide +kernel
theorem dX5_fail_4 : decode cX5_fail 4 = .ok (.ifCond .eq 11, 3) := by decide +kernel
theorem dX5_fail_7 : decode cX5_fail 7 = .ok (.new 35, 3) := by decide +kernel
theorem dX5_fail_10 : decode cX5_fail 10 = .ok (.dup, 1) := by decide +kernel
theorem dX5_fail_11 : decode cX5_fail 11 = .ok (.invokespecial 37, 3) := by decide +kernel
theorem dX5_fail_14 : decode cX5_fail 14 = .ok (.athrow, 1) := by decide +kernel
theorem dX5_fail_15 : decode cX5_fail 15 = .ok (.return_, 1) := by decide +kernel
theorem dX6_init_0 : decode cX6_init 0 = .ok (.aload_n 0, 1) := by decide +kernel
theorem dX6_init_1 : decode cX6_init 1 = .ok (.iload_n 1, 1) := by decide +kernel
theorem dX6_init_2 : decode cX6_init 2 = .ok (.iload_n 2, 1) := by decide +kernel
theorem dX6_init_3 : decode cX6_init 3 = .ok (.invokespecial 1, 3) := by decide +kernel
theorem dX6_init_6 : decode cX6_init 6 = .ok (.return_, 1) := by decide +kernel
theorem dX6_wearBy_0 : decode cX6_wearBy 0 = .ok (.aload_n 0, 1) := by decide +kernel
theorem dX6_wearBy_1 : decode cX6_wearBy 1 = .ok (.iload_n 1, 1) := by decide +kernel
theorem dX6_wearBy_2 : decode cX6_wearBy 2 = .ok (.invokespecial 7, 3) := by decide +kernel
theorem dX6_wearBy_5 : decode cX6_wearBy 5 = .ok (.iconst 1, 1) := by decide +kernel
theorem dX6_wearBy_6 : decode cX6_wearBy 6 = .ok (.iadd, 1) := by decide +kernel
theorem dX6_wearBy_7 : decode cX6_wearBy 7 = .ok (.ireturn, 1) := by decide +kernel
theorem dX6_costs_0 : decode cX6_costs 0 = .ok (.aload_n 0, 1) := by decide +kernel
theorem dX6_costs_1 : decode cX6_costs 1 = .ok (.invokespecial 11, 3) := by decide +kernel
theorem dX6_costs_4 : decode cX6_costs 4 = .ok (.aload_n 0, 1) := by decide +kernel
theorem dX6_costs_5 : decode cX6_costs 5 = .ok (.getfield 15, 3) := by decide +kernel
theorem dX6_costs_8 : decode cX6_costs 8 = .ok (.iadd, 1) := by decide +kernel
theorem dX6_costs_9 : decode cX6_costs 9 = .ok (.ireturn, 1) := by decide +kernel
theorem dX7_init_0 : decode cX7_init 0 = .ok (.aload_n 0, 1) := by decide +kernel
theorem dX7_init_1 : decode cX7_init 1 = .ok (.iload_n 1, 1) := by decide +kernel
theorem dX7_init_2 : decode cX7_init 2 = .ok (.iload_n 2, 1) := by decide +kernel
theorem dX7_init_3 : decode cX7_init 3 = .ok (.invokespecial 1, 3) := by decide +kernel
theorem dX7_init_6 : decode cX7_init 6 = .ok (.return_, 1) := by decide +kernel
theorem dX7_low_0 : decode cX7_low 0 = .ok (.aload_n 0, 1) := by decide +kernel
theorem dX7_low_1 : decode cX7_low 1 = .ok (.iload_n 1, 1) := by decide +kernel
theorem dX7_low_2 : decode cX7_low 2 = .ok (.iload_n 2, 1) := by decide +kernel
theorem dX7_low_3 : decode cX7_low 3 = .ok (.invokespecial 7, 3) := by decide +kernel
theorem dX7_low_6 : decode cX7_low 6 = .ok (.iconst 1, 1) := by decide +kernel
theorem dX7_low_7 : decode cX7_low 7 = .ok (.iadd, 1) := by decide +kernel
theorem dX7_low_8 : decode cX7_low 8 = .ok (.ireturn, 1) := by decide +kernel
theorem dX7_softest_0 : decode cX7_softest 0 = .ok (.aload_n 0, 1) := by decide +kernel
theorem dX7_softest_1 : decode cX7_softest 1 = .ok (.iload_n 1, 1) := by decide +kernel
theorem dX7_softest_2 : decode cX7_softest 2 = .ok (.invokespecial 11, 3) := by decide +kernel
theorem dX7_softest_5 : decode cX7_softest 5 = .ok (.iconst 2, 1) := by decide +kernel
theorem dX7_softest_6 : decode cX7_softest 6 = .ok (.idiv, 1) := by decide +kernel
theorem dX7_softest_7 : decode cX7_softest 7 = .ok (.ireturn, 1) := by decide +kernel
theorem dX7_hardest_0 : decode cX7_hardest 0 = .ok (.iload_n 1, 1) := by decide +kernel
theorem dX7_hardest_1 : decode cX7_hardest 1 = .ok (.aload_n 0, 1) := by decide +kernel
theorem dX7_hardest_2 : decode cX7_hardest 2 = .ok (.iload_n 1, 1) := by decide +kernel
theorem dX7_hardest_3 : decode cX7_hardest 3 = .ok (.invokespecial 15, 3) := by decide +kernel
theorem dX7_hardest_6 : decode cX7_hardest 6 = .ok (.iload_n 1, 1) := by decide +kernel
theorem dX7_hardest_7 : decode cX7_hardest 7 = .ok (.isub, 1) := by decide +kernel
theorem dX7_hardest_8 : decode cX7_hardest 8 = .ok (.iconst 2, 1) := by decide +kernel
theorem dX7_hardest_9 : decode cX7_hardest 9 = .ok (.idiv, 1) := by decide +kernel
theorem dX7_hardest_10 : decode cX7_hardest 10 = .ok (.iadd, 1) := by decide +kernel
theorem dX7_hardest_11 : decode cX7_hardest 11 = .ok (.ireturn, 1) := by decide +kernel
theorem dX7_wearBy_0 : decode cX7_wearBy 0 = .ok (.iconst 0, 1) := by decide +kernel
theorem dX7_wearBy_1 : decode cX7_wearBy 1 = .ok (.ireturn, 1) := by decide +kernel
theorem dX7_costs_0 : decode cX7_costs 0 = .ok (.aload_n 0, 1) := by decide +kernel
theorem dX7_costs_1 : decode cX7_costs 1 = .ok (.invokespecial 18, 3) := by decide +kernel
theorem dX7_costs_4 : decode cX7_costs 4 = .ok (.iconst 2, 1) := by decide +kernel
theorem dX7_costs_5 : decode cX7_costs 5 = .ok (.idiv, 1) := by decide +kernel
theorem dX7_costs_6 : decode cX7_costs 6 = .ok (.ireturn, 1) := by decide +kernel
theorem dX8_init_0 : decode cX8_init 0 = .ok (.aload_n 0, 1) := by decide +kernel
theorem dX8_init_1 : decode cX8_init 1 = .ok (.iload_n 1, 1) := by decide +kernel
theorem dX8_init_2 : decode cX8_init 2 = .ok (.iload_n 2, 1) := by decide +kernel
theorem dX8_init_3 : decode cX8_init 3 = .ok (.invokespecial 1, 3) := by decide +kernel
theorem dX8_init_6 : decode cX8_init 6 = .ok (.return_, 1) := by decide +kernel
theorem dX8_low_0 : decode cX8_low 0 = .ok (.iconst 0, 1) := by decide +kernel
theorem dX8_low_1 : decode cX8_low 1 = .ok (.aload_n 0, 1) := by decide +kernel
theorem dX8_low_2 : decode cX8_low 2 = .ok (.iload_n 1, 1) := by decide +kernel
theorem dX8_low_3 : decode cX8_low 3 = .ok (.iload_n 2, 1) := by decide +kernel
theorem dX8_low_4 : decode cX8_low 4 = .ok (.invokespecial 7, 3) := by decide +kernel
theorem dX8_low_7 : decode cX8_low 7 = .ok (.iconst 2, 1) := by decide +kernel
theorem dX8_low_8 : decode cX8_low 8 = .ok (.isub, 1) := by decide +kernel
theorem dX8_low_9 : decode cX8_low 9 = .ok (.invokestatic 11, 3) := by decide +kernel
theorem dX8_low_12 : decode cX8_low 12 = .ok (.ireturn, 1) := by decide +kernel
theorem dX8_wearBy_0 : decode cX8_wearBy 0 = .ok (.aload_n 0, 1) := by decide +kernel
theorem dX8_wearBy_1 : decode cX8_wearBy 1 = .ok (.iload_n 1, 1) := by decide +kernel
theorem dX8_wearBy_2 : decode cX8_wearBy 2 = .ok (.invokespecial 16, 3) := by decide +kernel
theorem dX8_wearBy_5 : decode cX8_wearBy 5 = .ok (.iconst 1, 1) := by decide +kernel
theorem dX8_wearBy_6 : decode cX8_wearBy 6 = .ok (.iadd, 1) := by decide +kernel
theorem dX8_wearBy_7 : decode cX8_wearBy 7 = .ok (.ireturn, 1) := by decide +kernel
theorem dX8_costs_0 : decode cX8_costs 0 = .ok (.aload_n 0, 1) := by decide +kernel
theorem dX8_costs_1 : decode cX8_costs 1 = .ok (.invokespecial 20, 3) := by decide +kernel
theorem dX8_costs_4 : decode cX8_costs 4 = .ok (.aload_n 0, 1) := by decide +kernel
theorem dX8_costs_5 : decode cX8_costs 5 = .ok (.getfield 24, 3) := by decide +kernel
theorem dX8_costs_8 : decode cX8_costs 8 = .ok (.iadd, 1) := by decide +kernel
theorem dX8_costs_9 : decode cX8_costs 9 = .ok (.ireturn, 1) := by decide +kernel
theorem dX8_fail_0 : decode cX8_fail 0 = .ok (.aload_n 0, 1) := by decide +kernel
theorem dX8_fail_1 : decode cX8_fail 1 = .ok (.getfield 24, 3) := by decide +kernel
theorem dX8_fail_4 : decode cX8_fail 4 = .ok (.ifCond .eq 11, 3) := by decide +kernel
theorem dX8_fail_7 : decode cX8_fail 7 = .ok (.new 30, 3) := by decide +kernel
theorem dX8_fail_10 : decode cX8_fail 10 = .ok (.dup, 1) := by decide +kernel
theorem dX8_fail_11 : decode cX8_fail 11 = .ok (.invokespecial 32, 3) := by decide +kernel
theorem dX8_fail_14 : decode cX8_fail 14 = .ok (.athrow, 1) := by decide +kernel
theorem dX8_fail_15 : decode cX8_fail 15 = .ok (.return_, 1) := by decide +kernel
theorem dX9_init_0 : decode cX9_init 0 = .ok (.aload_n 0, 1) := by decide +kernel
theorem dX9_init_1 : decode cX9_init 1 = .ok (.invokespecial 3, 3) := by decide +kernel
theorem dX9_init_4 : decode cX9_init 4 = .ok (.return_, 1) := by decide +kernel
theorem dX9_topTight_0 : decode cX9_topTight 0 = .ok (.bipush 60, 2) := by decide +kernel
theorem dX9_topTight_2 : decode cX9_topTight 2 = .ok (.aload_n 0, 1) := by decide +kernel
theorem dX9_topTight_3 : decode cX9_topTight 3 = .ok (.getfield 9, 3) := by decide +kernel
theorem dX9_topTight_6 : decode cX9_topTight 6 = .ok (.aload_n 0, 1) := by decide +kernel
theorem dX9_topTight_7 : decode cX9_topTight 7 = .ok (.getfield 15, 3) := by decide +kernel
theorem dX9_topTight_10 : decode cX9_topTight 10 = .ok (.invokestatic 18, 3) := by decide +kernel
theorem dX9_topTight_13 : decode cX9_topTight 13 = .ok (.invokestatic 18, 3) := by decide +kernel
theorem dX9_topTight_16 : decode cX9_topTight 16 = .ok (.ireturn, 1) := by decide +kernel
theorem dX9_topForce_0 : decode cX9_topForce 0 = .ok (.bipush 60, 2) := by decide +kernel
theorem dX9_topForce_2 : decode cX9_topForce 2 = .ok (.aload_n 0, 1) := by decide +kernel
theorem dX9_topForce_3 : decode cX9_topForce 3 = .ok (.getfield 24, 3) := by decide +kernel
theorem dX9_topForce_6 : decode cX9_topForce 6 = .ok (.invokestatic 18, 3) := by decide +kernel
theorem dX9_topForce_9 : decode cX9_topForce 9 = .ok (.ireturn, 1) := by decide +kernel
theorem dX9_pairs_0 : decode cX9_pairs 0 = .ok (.iconst 0, 1) := by decide +kernel
theorem dX9_pairs_1 : decode cX9_pairs 1 = .ok (.aload_n 0, 1) := by decide +kernel
theorem dX9_pairs_2 : decode cX9_pairs 2 = .ok (.invokevirtual 27, 3) := by decide +kernel
theorem dX9_pairs_5 : decode cX9_pairs 5 = .ok (.aload_n 0, 1) := by decide +kernel
theorem dX9_pairs_6 : decode cX9_pairs 6 = .ok (.getfield 31, 3) := by decide +kernel
theorem dX9_pairs_9 : decode cX9_pairs 9 = .ok (.isub, 1) := by decide +kernel
theorem dX9_pairs_10 : decode cX9_pairs 10 = .ok (.iconst 1, 1) := by decide +kernel
theorem dX9_pairs_11 : decode cX9_pairs 11 = .ok (.iadd, 1) := by decide +kernel
theorem dX9_pairs_12 : decode cX9_pairs 12 = .ok (.invokestatic 34, 3) := by decide +kernel
theorem dX9_pairs_15 : decode cX9_pairs 15 = .ok (.iconst 0, 1) := by decide +kernel
theorem dX9_pairs_16 : decode cX9_pairs 16 = .ok (.aload_n 0, 1) := by decide +kernel
theorem dX9_pairs_17 : decode cX9_pairs 17 = .ok (.invokevirtual 37, 3) := by decide +kernel
theorem dX9_pairs_20 : decode cX9_pairs 20 = .ok (.aload_n 0, 1) := by decide +kernel
theorem dX9_pairs_21 : decode cX9_pairs 21 = .ok (.getfield 40, 3) := by decide +kernel
theorem dX9_pairs_24 : decode cX9_pairs 24 = .ok (.isub, 1) := by decide +kernel
theorem dX9_pairs_25 : decode cX9_pairs 25 = .ok (.iconst 1, 1) := by decide +kernel
theorem dX9_pairs_26 : decode cX9_pairs 26 = .ok (.iadd, 1) := by decide +kernel
theorem dX9_pairs_27 : decode cX9_pairs 27 = .ok (.invokestatic 34, 3) := by decide +kernel
theorem dX9_pairs_30 : decode cX9_pairs 30 = .ok (.imul, 1) := by decide +kernel
theorem dX9_pairs_31 : decode cX9_pairs 31 = .ok (.ireturn, 1) := by decide +kernel
theorem dX9_wrongBits_0 : decode cX9_wrongBits 0 = .ok (.iload_n 1, 1) := by decide +kernel
theorem dX9_wrongBits_1 : decode cX9_wrongBits 1 = .ok (.aload_n 0, 1) := by decide +kernel
theorem dX9_wrongBits_2 : decode cX9_wrongBits 2 = .ok (.getfield 31, 3) := by decide +kernel
theorem dX9_wrongBits_5 : decode cX9_wrongBits 5 = .ok (.if_icmp .ge 7, 3) := by decide +kernel
theorem dX9_wrongBits_8 : decode cX9_wrongBits 8 = .ok (.iconst 1, 1) := by decide +kernel
theorem dX9_wrongBits_9 : decode cX9_wrongBits 9 = .ok (.goto 4, 3) := by decide +kernel
theorem dX9_wrongBits_12 : decode cX9_wrongBits 12 = .ok (.iconst 0, 1) := by decide +kernel
theorem dX9_wrongBits_13 : decode cX9_wrongBits 13 = .ok (.istore_n 3, 1) := by decide +kernel
theorem dX9_wrongBits_14 : decode cX9_wrongBits 14 = .ok (.iload_n 3, 1) := by decide +kernel
theorem dX9_wrongBits_15 : decode cX9_wrongBits 15 = .ok (.iload_n 1, 1) := by decide +kernel
theorem dX9_wrongBits_16 : decode cX9_wrongBits 16 = .ok (.aload_n 0, 1) := by decide +kernel
theorem dX9_wrongBits_17 : decode cX9_wrongBits 17 = .ok (.getfield 9, 3) := by decide +kernel
theorem dX9_wrongBits_20 : decode cX9_wrongBits 20 = .ok (.if_icmp .le 7, 3) := by decide +kernel
theorem dX9_wrongBits_23 : decode cX9_wrongBits 23 = .ok (.iconst 2, 1) := by decide +kernel
theorem dX9_wrongBits_24 : decode cX9_wrongBits 24 = .ok (.goto 4, 3) := by decide +kernel
theorem dX9_wrongBits_27 : decode cX9_wrongBits 27 = .ok (.iconst 0, 1) := by decide +kernel
theorem dX9_wrongBits_28 : decode cX9_wrongBits 28 = .ok (.ior, 1) := by decide +kernel
theorem dX9_wrongBits_29 : decode cX9_wrongBits 29 = .ok (.istore_n 3, 1) := by decide +kernel
theorem dX9_wrongBits_30 : decode cX9_wrongBits 30 = .ok (.iload_n 3, 1) := by decide +kernel
theorem dX9_wrongBits_31 : decode cX9_wrongBits 31 = .ok (.iload_n 1, 1) := by decide +kernel
theorem dX9_wrongBits_32 : decode cX9_wrongBits 32 = .ok (.aload_n 0, 1) := by decide +kernel
theorem dX9_wrongBits_33 : decode cX9_wrongBits 33 = .ok (.getfield 15, 3) := by decide +kernel
theorem dX9_wrongBits_36 : decode cX9_wrongBits 36 = .ok (.if_icmp .le 7, 3) := by decide +kernel
theorem dX9_wrongBits_39 : decode cX9_wrongBits 39 = .ok (.iconst 4, 1) := by decide +kernel
theorem dX9_wrongBits_40 : decode cX9_wrongBits 40 = .ok (.goto 4, 3) := by decide +kernel
theorem dX9_wrongBits_43 : decode cX9_wrongBits 43 = .ok (.iconst 0, 1) := by decide +kernel
theorem dX9_wrongBits_44 : decode cX9_wrongBits 44 = .ok (.ior, 1) := by decide +kernel
theorem dX9_wrongBits_45 : decode cX9_wrongBits 45 = .ok (.istore_n 3, 1) := by decide +kernel
theorem dX9_wrongBits_46 : decode cX9_wrongBits 46 = .ok (.iload_n 3, 1) := by decide +kernel
theorem dX9_wrongBits_47 : decode cX9_wrongBits 47 = .ok (.iload_n 2, 1) := by decide +kernel
theorem dX9_wrongBits_48 : decode cX9_wrongBits 48 = .ok (.aload_n 0, 1) := by decide +kernel
theorem dX9_wrongBits_49 : decode cX9_wrongBits 49 = .ok (.getfield 40, 3) := by decide +kernel
theorem dX9_wrongBits_52 : decode cX9_wrongBits 52 = .ok (.if_icmp .ge 8, 3) := by decide +kernel
theorem dX9_wrongBits_55 : decode cX9_wrongBits 55 = .ok (.bipush 8, 2) := by decide +kernel
theorem dX9_wrongBits_57 : decode cX9_wrongBits 57 = .ok (.goto 4, 3) := by decide +kernel
theorem dX9_wrongBits_60 : decode cX9_wrongBits 60 = .ok (.iconst 0, 1) := by decide +kernel
theorem dX9_wrongBits_61 : decode cX9_wrongBits 61 = .ok (.ior, 1) := by decide +kernel
theorem dX9_wrongBits_62 : decode cX9_wrongBits 62 = .ok (.istore_n 3, 1) := by decide +kernel
theorem dX9_wrongBits_63 : decode cX9_wrongBits 63 = .ok (.iload_n 3, 1) := by decide +kernel
theorem dX9_wrongBits_64 : decode cX9_wrongBits 64 = .ok (.iload_n 2, 1) := by decide +kernel
theorem dX9_wrongBits_65 : decode cX9_wrongBits 65 = .ok (.aload_n 0, 1) := by decide +kernel
theorem dX9_wrongBits_66 : decode cX9_wrongBits 66 = .ok (.getfield 24, 3) := by decide +kernel
theorem dX9_wrongBits_69 : decode cX9_wrongBits 69 = .ok (.if_icmp .le 8, 3) := by decide +kernel
theorem dX9_wrongBits_72 : decode cX9_wrongBits 72 = .ok (.bipush 16, 2) := by decide +kernel
theorem dX9_wrongBits_74 : decode cX9_wrongBits 74 = .ok (.goto 4, 3) := by decide +kernel
theorem dX9_wrongBits_77 : decode cX9_wrongBits 77 = .ok (.iconst 0, 1) := by decide +kernel
theorem dX9_wrongBits_78 : decode cX9_wrongBits 78 = .ok (.ior, 1) := by decide +kernel
theorem dX9_wrongBits_79 : decode cX9_wrongBits 79 = .ok (.istore_n 3, 1) := by decide +kernel
theorem dX9_wrongBits_80 : decode cX9_wrongBits 80 = .ok (.iload_n 3, 1) := by decide +kernel
theorem dX9_wrongBits_81 : decode cX9_wrongBits 81 = .ok (.ireturn, 1) := by decide +kernel
theorem dX10_init_0 : decode cX10_init 0 = .ok (.aload_n 0, 1) := by decide +kernel
theorem dX10_init_1 : decode cX10_init 1 = .ok (.iload_n 1, 1) := by decide +kernel
theorem dX10_init_2 : decode cX10_init 2 = .ok (.iload_n 2, 1) := by decide +kernel
theorem dX10_init_3 : decode cX10_init 3 = .ok (.invokespecial 1, 3) := by decide +kernel
theorem dX10_init_6 : decode cX10_init 6 = .ok (.return_, 1) := by decide +kernel
theorem dX10_hardest_0 : decode cX10_hardest 0 = .ok (.aload_n 0, 1) := by decide +kernel
theorem dX10_hardest_1 : decode cX10_hardest 1 = .ok (.iload_n 1, 1) := by decide +kernel
theorem dX10_hardest_2 : decode cX10_hardest 2 = .ok (.invokespecial 7, 3) := by decide +kernel
theorem dX10_hardest_5 : decode cX10_hardest 5 = .ok (.aload_n 0, 1) := by decide +kernel
theorem dX10_hardest_6 : decode cX10_hardest 6 = .ok (.getfield 11, 3) := by decide +kernel
theorem dX10_hardest_9 : decode cX10_hardest 9 = .ok (.isub, 1) := by decide +kernel
theorem dX10_hardest_10 : decode cX10_hardest 10 = .ok (.ireturn, 1) := by decide +kernel
theorem dX10_pitchAt_0 : decode cX10_pitchAt 0 = .ok (.aload_n 0, 1) := by decide +kernel
theorem dX10_pitchAt_1 : decode cX10_pitchAt 1 = .ok (.iload_n 1, 1) := by decide +kernel
theorem dX10_pitchAt_2 : decode cX10_pitchAt 2 = .ok (.iload_n 2, 1) := by decide +kernel
theorem dX10_pitchAt_3 : decode cX10_pitchAt 3 = .ok (.iload_n 3, 1) := by decide +kernel
theorem dX10_pitchAt_4 : decode cX10_pitchAt 4 = .ok (.invokespecial 17, 3) := by decide +kernel
theorem dX10_pitchAt_7 : decode cX10_pitchAt 7 = .ok (.aload_n 0, 1) := by decide +kernel
theorem dX10_pitchAt_8 : decode cX10_pitchAt 8 = .ok (.getfield 11, 3) := by decide +kernel
theorem dX10_pitchAt_11 : decode cX10_pitchAt 11 = .ok (.iadd, 1) := by decide +kernel
theorem dX10_pitchAt_12 : decode cX10_pitchAt 12 = .ok (.ireturn, 1) := by decide +kernel
theorem dX10_wearBy_0 : decode cX10_wearBy 0 = .ok (.aload_n 0, 1) := by decide +kernel
theorem dX10_wearBy_1 : decode cX10_wearBy 1 = .ok (.iload_n 1, 1) := by decide +kernel
theorem dX10_wearBy_2 : decode cX10_wearBy 2 = .ok (.invokespecial 21, 3) := by decide +kernel
theorem dX10_wearBy_5 : decode cX10_wearBy 5 = .ok (.aload_n 0, 1) := by decide +kernel
theorem dX10_wearBy_6 : decode cX10_wearBy 6 = .ok (.getfield 11, 3) := by decide +kernel
theorem dX10_wearBy_9 : decode cX10_wearBy 9 = .ok (.iadd, 1) := by decide +kernel
theorem dX10_wearBy_10 : decode cX10_wearBy 10 = .ok (.ireturn, 1) := by decide +kernel
theorem dX10_costs_0 : decode cX10_costs 0 = .ok (.aload_n 0, 1) := by decide +kernel
theorem dX10_costs_1 : decode cX10_costs 1 = .ok (.invokespecial 24, 3) := by decide +kernel
theorem dX10_costs_4 : decode cX10_costs 4 = .ok (.iconst 4, 1) := by decide +kernel
theorem dX10_costs_5 : decode cX10_costs 5 = .ok (.iadd, 1) := by decide +kernel
theorem dX10_costs_6 : decode cX10_costs 6 = .ok (.ireturn, 1) := by decide +kernel
theorem dX11_init_0 : decode cX11_init 0 = .ok (.aload_n 0, 1) := by decide +kernel
theorem dX11_init_1 : decode cX11_init 1 = .ok (.invokespecial 1, 3) := by decide +kernel
theorem dX11_init_4 : decode cX11_init 4 = .ok (.aload_n 0, 1) := by decide +kernel
theorem dX11_init_5 : decode cX11_init 5 = .ok (.new 7, 3) := by decide +kernel
theorem dX11_init_8 : decode cX11_init 8 = .ok (.dup, 1) := by decide +kernel
theorem dX11_init_9 : decode cX11_init 9 = .ok (.invokespecial 9, 3) := by decide +kernel
theorem dX11_init_12 : decode cX11_init 12 = .ok (.putfield 10, 3) := by decide +kernel
theorem dX11_init_15 : decode cX11_init 15 = .ok (.aload_n 0, 1) := by decide +kernel
theorem dX11_init_16 : decode cX11_init 16 = .ok (.new 7, 3) := by decide +kernel
theorem dX11_init_19 : decode cX11_init 19 = .ok (.dup, 1) := by decide +kernel
theorem dX11_init_20 : decode cX11_init 20 = .ok (.invokespecial 9, 3) := by decide +kernel
theorem dX11_init_23 : decode cX11_init 23 = .ok (.putfield 16, 3) := by decide +kernel
theorem dX11_init_26 : decode cX11_init 26 = .ok (.aload_n 0, 1) := by decide +kernel
theorem dX11_init_27 : decode cX11_init 27 = .ok (.new 7, 3) := by decide +kernel
theorem dX11_init_30 : decode cX11_init 30 = .ok (.dup, 1) := by decide +kernel
theorem dX11_init_31 : decode cX11_init 31 = .ok (.invokespecial 9, 3) := by decide +kernel
theorem dX11_init_34 : decode cX11_init 34 = .ok (.putfield 19, 3) := by decide +kernel
theorem dX11_init_37 : decode cX11_init 37 = .ok (.aload_n 0, 1) := by decide +kernel
theorem dX11_init_38 : decode cX11_init 38 = .ok (.bipush 8, 2) := by decide +kernel
theorem dX11_init_40 : decode cX11_init 40 = .ok (.anewarray 22, 3) := by decide +kernel
theorem dX11_init_43 : decode cX11_init 43 = .ok (.putfield 24, 3) := by decide +kernel
theorem dX11_init_46 : decode cX11_init 46 = .ok (.aload_n 0, 1) := by decide +kernel
theorem dX11_init_47 : decode cX11_init 47 = .ok (.bipush 13, 2) := by decide +kernel
theorem dX11_init_49 : decode cX11_init 49 = .ok (.newarray .long, 2) := by decide +kernel
theorem dX11_init_51 : decode cX11_init 51 = .ok (.putfield 28, 3) := by decide +kernel
theorem dX11_init_54 : decode cX11_init 54 = .ok (.aload_n 0, 1) := by decide +kernel
theorem dX11_init_55 : decode cX11_init 55 = .ok (.bipush 13, 2) := by decide +kernel
theorem dX11_init_57 : decode cX11_init 57 = .ok (.newarray .long, 2) := by decide +kernel
theorem dX11_init_59 : decode cX11_init 59 = .ok (.putfield 32, 3) := by decide +kernel
theorem dX11_init_62 : decode cX11_init 62 = .ok (.iconst 0, 1) := by decide +kernel
theorem dX11_init_63 : decode cX11_init 63 = .ok (.istore_n 1, 1) := by decide +kernel
theorem dX11_init_64 : decode cX11_init 64 = .ok (.iload_n 1, 1) := by decide +kernel
theorem dX11_init_65 : decode cX11_init 65 = .ok (.bipush 8, 2) := by decide +kernel
theorem dX11_init_67 : decode cX11_init 67 = .ok (.if_icmp .ge 22, 3) := by decide +kernel
theorem dX11_init_70 : decode cX11_init 70 = .ok (.aload_n 0, 1) := by decide +kernel
theorem dX11_init_71 : decode cX11_init 71 = .ok (.getfield 24, 3) := by decide +kernel
theorem dX11_init_74 : decode cX11_init 74 = .ok (.iload_n 1, 1) := by decide +kernel
theorem dX11_init_75 : decode cX11_init 75 = .ok (.new 22, 3) := by decide +kernel
theorem dX11_init_78 : decode cX11_init 78 = .ok (.dup, 1) := by decide +kernel
theorem dX11_init_79 : decode cX11_init 79 = .ok (.invokespecial 35, 3) := by decide +kernel
theorem dX11_init_82 : decode cX11_init 82 = .ok (.aastore, 1) := by decide +kernel
theorem dX11_init_83 : decode cX11_init 83 = .ok (.iinc 1 1, 3) := by decide +kernel
theorem dX11_init_86 : decode cX11_init 86 = .ok (.goto (-22), 3) := by decide +kernel
theorem dX11_init_89 : decode cX11_init 89 = .ok (.return_, 1) := by decide +kernel
theorem dX11_hedge_0 : decode cX11_hedge 0 = .ok (.aload_n 0, 1) := by decide +kernel
theorem dX11_hedge_1 : decode cX11_hedge 1 = .ok (.iload_n 1, 1) := by decide +kernel
theorem dX11_hedge_2 : decode cX11_hedge 2 = .ok (.invokevirtual 36, 3) := by decide +kernel
theorem dX11_hedge_5 : decode cX11_hedge 5 = .ok (.istore_n 2, 1) := by decide +kernel
theorem dX11_hedge_6 : decode cX11_hedge 6 = .ok (.iload_n 2, 1) := by decide +kernel
theorem dX11_hedge_7 : decode cX11_hedge 7 = .ok (.ifCond .ge 5, 3) := by decide +kernel
theorem dX11_hedge_10 : decode cX11_hedge 10 = .ok (.iload_n 2, 1) := by decide +kernel
theorem dX11_hedge_11 : decode cX11_hedge 11 = .ok (.ireturn, 1) := by decide +kernel
theorem dX11_hedge_12 : decode cX11_hedge 12 = .ok (.aload_n 0, 1) := by decide +kernel
theorem dX11_hedge_13 : decode cX11_hedge 13 = .ok (.getfield 24, 3) := by decide +kernel
theorem dX11_hedge_16 : decode cX11_hedge 16 = .ok (.iload_n 1, 1) := by decide +kernel
theorem dX11_hedge_17 : decode cX11_hedge 17 = .ok (.aaload, 1) := by decide +kernel
theorem dX11_hedge_18 : decode cX11_hedge 18 = .ok (.astore_n 3, 1) := by decide +kernel
theorem dX11_hedge_19 : decode cX11_hedge 19 = .ok (.aload_n 3, 1) := by decide +kernel
theorem dX11_hedge_20 : decode cX11_hedge 20 = .ok (.getfield 40, 3) := by decide +kernel
theorem dX11_hedge_23 : decode cX11_hedge 23 = .ok (.ifCond .eq 6, 3) := by decide +kernel
theorem dX11_hedge_26 : decode cX11_hedge 26 = .ok (.bipush (-12), 2) := by decide +kernel
theorem dX11_hedge_28 : decode cX11_hedge 28 = .ok (.ireturn, 1) := by decide +kernel
theorem dX11_hedge_29 : decode cX11_hedge 29 = .ok (.aload_n 3, 1) := by decide +kernel
theorem dX11_hedge_30 : decode cX11_hedge 30 = .ok (.invokestatic 44, 3) := by decide +kernel
theorem dX11_hedge_33 : decode cX11_hedge 33 = .ok (.istore 4, 2) := by decide +kernel
theorem dX11_hedge_35 : decode cX11_hedge 35 = .ok (.iload 4, 2) := by decide +kernel
theorem dX11_hedge_37 : decode cX11_hedge 37 = .ok (.ifCond .lt 10, 3) := by decide +kernel
theorem dX11_hedge_40 : decode cX11_hedge 40 = .ok (.sipush (-1000), 3) := by decide +kernel
theorem dX11_hedge_43 : decode cX11_hedge 43 = .ok (.iload 4, 2) := by decide +kernel
theorem dX11_hedge_45 : decode cX11_hedge 45 = .ok (.isub, 1) := by decide +kernel
theorem dX11_hedge_46 : decode cX11_hedge 46 = .ok (.ireturn, 1) := by decide +kernel
theorem dX11_hedge_47 : decode cX11_hedge 47 = .ok (.aload_n 0, 1) := by decide +kernel
theorem dX11_hedge_48 : decode cX11_hedge 48 = .ok (.getfield 19, 3) := by decide +kernel
theorem dX11_hedge_51 : decode cX11_hedge 51 = .ok (.aload_n 0, 1) := by decide +kernel
theorem dX11_hedge_52 : decode cX11_hedge 52 = .ok (.getfield 10, 3) := by decide +kernel
theorem dX11_hedge_55 : decode cX11_hedge 55 = .ok (.invokevirtual 48, 3) := by decide +kernel
theorem dX11_hedge_58 : decode cX11_hedge 58 = .ok (.iconst 0, 1) := by decide +kernel
theorem dX11_hedge_59 : decode cX11_hedge 59 = .ok (.istore 5, 2) := by decide +kernel
theorem dX11_hedge_61 : decode cX11_hedge 61 = .ok (.iconst 0, 1) := by decide +kernel
theorem dX11_hedge_62 : decode cX11_hedge 62 = .ok (.istore 6, 2) := by decide +kernel
theorem dX11_hedge_64 : decode cX11_hedge 64 = .ok (.iload 6, 2) := by decide +kernel
theorem dX11_hedge_66 : decode cX11_hedge 66 = .ok (.aload_n 3, 1) := by decide +kernel
theorem dX11_hedge_67 : decode cX11_hedge 67 = .ok (.getfield 52, 3) := by decide +kernel
theorem dX11_hedge_70 : decode cX11_hedge 70 = .ok (.if_icmp .ge 37, 3) := by decide +kernel
theorem dX11_hedge_73 : decode cX11_hedge 73 = .ok (.aload_n 0, 1) := by decide +kernel
theorem dX11_hedge_74 : decode cX11_hedge 74 = .ok (.aload_n 3, 1) := by decide +kernel
theorem dX11_hedge_75 : decode cX11_hedge 75 = .ok (.iload 6, 2) := by decide +kernel
theorem dX11_hedge_77 : decode cX11_hedge 77 = .ok (.invokevirtual 55, 3) := by decide +kernel
theorem dX11_hedge_80 : decode cX11_hedge 80 = .ok (.ifCond .ne 10, 3) := by decide +kernel
theorem dX11_hedge_83 : decode cX11_hedge 83 = .ok (.sipush (-2000), 3) := by decide +kernel
theorem dX11_hedge_86 : decode cX11_hedge 86 = .ok (.iload 6, 2) := by decide +kernel
theorem dX11_hedge_88 : decode cX11_hedge 88 = .ok (.isub, 1) := by decide +kernel
theorem dX11_hedge_89 : decode cX11_hedge 89 = .ok (.ireturn, 1) := by decide +kernel
theorem dX11_hedge_90 : decode cX11_hedge 90 = .ok (.iinc 5 1, 3) := by decide +kernel
theorem dX11_hedge_93 : decode cX11_hedge 93 = .ok (.iload 6, 2) := by decide +kernel
theorem dX11_hedge_95 : decode cX11_hedge 95 = .ok (.aload_n 3, 1) := by decide +kernel
theorem dX11_hedge_96 : decode cX11_hedge 96 = .ok (.iload 6, 2) := by decide +kernel
theorem dX11_hedge_98 : decode cX11_hedge 98 = .ok (.invokestatic 59, 3) := by decide +kernel
theorem dX11_hedge_101 : decode cX11_hedge 101 = .ok (.iadd, 1) := by decide +kernel
theorem dX11_hedge_102 : decode cX11_hedge 102 = .ok (.istore 6, 2) := by decide +kernel
theorem dX11_hedge_104 : decode cX11_hedge 104 = .ok (.goto (-40), 3) := by decide +kernel
theorem dX11_hedge_107 : decode cX11_hedge 107 = .ok (.aload_n 0, 1) := by decide +kernel
theorem dX11_hedge_108 : decode cX11_hedge 108 = .ok (.getfield 10, 3) := by decide +kernel
theorem dX11_hedge_111 : decode cX11_hedge 111 = .ok (.aload_n 0, 1) := by decide +kernel
theorem dX11_hedge_112 : decode cX11_hedge 112 = .ok (.getfield 19, 3) := by decide +kernel
theorem dX11_hedge_115 : decode cX11_hedge 115 = .ok (.invokevirtual 48, 3) := by decide +kernel
theorem dX11_hedge_118 : decode cX11_hedge 118 = .ok (.iload 5, 2) := by decide +kernel
theorem dX11_hedge_120 : decode cX11_hedge 120 = .ok (.ireturn, 1) := by decide +kernel
theorem dX11_blade_0 : decode cX11_blade 0 = .ok (.aload_n 0, 1) := by decide +kernel
theorem dX11_blade_1 : decode cX11_blade 1 = .ok (.getfield 10, 3) := by decide +kernel
theorem dX11_blade_4 : decode cX11_blade 4 = .ok (.iload_n 1, 1) := by decide +kernel
theorem dX11_blade_5 : decode cX11_blade 5 = .ok (.invokevirtual 63, 3) := by decide +kernel
theorem dX11_blade_8 : decode cX11_blade 8 = .ok (.ifCond .ne 5, 3) := by decide +kernel
theorem dX11_blade_11 : decode cX11_blade 11 = .ok (.iconst (-1), 1) := by decide +kernel
theorem dX11_blade_12 : decode cX11_blade 12 = .ok (.ireturn, 1) := by decide +kernel
theorem dX11_blade_13 : decode cX11_blade 13 = .ok (.iload_n 2, 1) := by decide +kernel
theorem dX11_blade_14 : decode cX11_blade 14 = .ok (.tableswitch 91 0 4 #[34, 44, 54, 64, 74], 34) := by decide +kernel
theorem dX11_blade_48 : decode cX11_blade 48 = .ok (.aload_n 0, 1) := by decide +kernel
theorem dX11_blade_49 : decode cX11_blade 49 = .ok (.getfield 10, 3) := by decide +kernel
theorem dX11_blade_52 : decode cX11_blade 52 = .ok (.getfield 67, 3) := by decide +kernel
theorem dX11_blade_55 : decode cX11_blade 55 = .ok (.iload_n 1, 1) := by decide +kernel
theorem dX11_blade_56 : decode cX11_blade 56 = .ok (.iaload, 1) := by decide +kernel
theorem dX11_blade_57 : decode cX11_blade 57 = .ok (.ireturn, 1) := by decide +kernel
theorem dX11_blade_58 : decode cX11_blade 58 = .ok (.aload_n 0, 1) := by decide +kernel
theorem dX11_blade_59 : decode cX11_blade 59 = .ok (.getfield 10, 3) := by decide +kernel
theorem dX11_blade_62 : decode cX11_blade 62 = .ok (.getfield 71, 3) := by decide +kernel
theorem dX11_blade_65 : decode cX11_blade 65 = .ok (.iload_n 1, 1) := by decide +kernel
theorem dX11_blade_66 : decode cX11_blade 66 = .ok (.iaload, 1) := by decide +kernel
theorem dX11_blade_67 : decode cX11_blade 67 = .ok (.ireturn, 1) := by decide +kernel
theorem dX11_blade_68 : decode cX11_blade 68 = .ok (.aload_n 0, 1) := by decide +kernel
theorem dX11_blade_69 : decode cX11_blade 69 = .ok (.getfield 10, 3) := by decide +kernel
theorem dX11_blade_72 : decode cX11_blade 72 = .ok (.getfield 74, 3) := by decide +kernel
theorem dX11_blade_75 : decode cX11_blade 75 = .ok (.iload_n 1, 1) := by decide +kernel
theorem dX11_blade_76 : decode cX11_blade 76 = .ok (.iaload, 1) := by decide +kernel
theorem dX11_blade_77 : decode cX11_blade 77 = .ok (.ireturn, 1) := by decide +kernel
theorem dX11_blade_78 : decode cX11_blade 78 = .ok (.aload_n 0, 1) := by decide +kernel
theorem dX11_blade_79 : decode cX11_blade 79 = .ok (.getfield 10, 3) := by decide +kernel
theorem dX11_blade_82 : decode cX11_blade 82 = .ok (.getfield 77, 3) := by decide +kernel
theorem dX11_blade_85 : decode cX11_blade 85 = .ok (.iload_n 1, 1) := by decide +kernel
theorem dX11_blade_86 : decode cX11_blade 86 = .ok (.iaload, 1) := by decide +kernel
theorem dX11_blade_87 : decode cX11_blade 87 = .ok (.ireturn, 1) := by decide +kernel
theorem dX11_blade_88 : decode cX11_blade 88 = .ok (.aload_n 0, 1) := by decide +kernel
theorem dX11_blade_89 : decode cX11_blade 89 = .ok (.getfield 10, 3) := by decide +kernel
theorem dX11_blade_92 : decode cX11_blade 92 = .ok (.iload_n 1, 1) := by decide +kernel
theorem dX11_blade_93 : decode cX11_blade 93 = .ok (.invokevirtual 80, 3) := by decide +kernel
theorem dX11_blade_96 : decode cX11_blade 96 = .ok (.ifCond .eq 7, 3) := by decide +kernel
theorem dX11_blade_99 : decode cX11_blade 99 = .ok (.iconst 1, 1) := by decide +kernel
theorem dX11_blade_100 : decode cX11_blade 100 = .ok (.goto 4, 3) := by decide +kernel
theorem dX11_blade_103 : decode cX11_blade 103 = .ok (.iconst 0, 1) := by decide +kernel
theorem dX11_blade_104 : decode cX11_blade 104 = .ok (.ireturn, 1) := by decide +kernel
theorem dX11_blade_105 : decode cX11_blade 105 = .ok (.iconst (-1), 1) := by decide +kernel
theorem dX11_blade_106 : decode cX11_blade 106 = .ok (.ireturn, 1) := by decide +kernel
theorem dX11_thumbs_0 : decode cX11_thumbs 0 = .ok (.aload_n 0, 1) := by decide +kernel
theorem dX11_thumbs_1 : decode cX11_thumbs 1 = .ok (.getfield 10, 3) := by decide +kernel
theorem dX11_thumbs_4 : decode cX11_thumbs 4 = .ok (.iload_n 1, 1) := by decide +kernel
theorem dX11_thumbs_5 : decode cX11_thumbs 5 = .ok (.invokevirtual 83, 3) := by decide +kernel
theorem dX11_thumbs_8 : decode cX11_thumbs 8 = .ok (.ifCond .eq 12, 3) := by decide +kernel
theorem dX11_thumbs_11 : decode cX11_thumbs 11 = .ok (.iload_n 2, 1) := by decide +kernel
theorem dX11_thumbs_12 : decode cX11_thumbs 12 = .ok (.iconst 0, 1) := by decide +kernel
theorem dX11_thumbs_13 : decode cX11_thumbs 13 = .ok (.iconst 1, 1) := by decide +kernel
theorem dX11_thumbs_14 : decode cX11_thumbs 14 = .ok (.invokestatic 86, 3) := by decide +kernel
theorem dX11_thumbs_17 : decode cX11_thumbs 17 = .ok (.ifCond .eq 5, 3) := by decide +kernel
theorem dX11_thumbs_20 : decode cX11_thumbs 20 = .ok (.iconst (-1), 1) := by decide +kernel
theorem dX11_thumbs_21 : decode cX11_thumbs 21 = .ok (.ireturn, 1) := by decide +kernel
theorem dX11_thumbs_22 : decode cX11_thumbs 22 = .ok (.iload_n 2, 1) := by decide +kernel
theorem dX11_thumbs_23 : decode cX11_thumbs 23 = .ok (.ifCond .ne 15, 3) := by decide +kernel
theorem dX11_thumbs_26 : decode cX11_thumbs 26 = .ok (.aload_n 0, 1) := by decide +kernel
theorem dX11_thumbs_27 : decode cX11_thumbs 27 = .ok (.getfield 10, 3) := by decide +kernel
theorem dX11_thumbs_30 : decode cX11_thumbs 30 = .ok (.getfield 90, 3) := by decide +kernel
theorem dX11_thumbs_33 : decode cX11_thumbs 33 = .ok (.iload_n 1, 1) := by decide +kernel
theorem dX11_thumbs_34 : decode cX11_thumbs 34 = .ok (.iaload, 1) := by decide +kernel
theorem dX11_thumbs_35 : decode cX11_thumbs 35 = .ok (.goto 12, 3) := by decide +kernel
theorem dX11_thumbs_38 : decode cX11_thumbs 38 = .ok (.aload_n 0, 1) := by decide +kernel
theorem dX11_thumbs_39 : decode cX11_thumbs 39 = .ok (.getfield 10, 3) := by decide +kernel
theorem dX11_thumbs_42 : decode cX11_thumbs 42 = .ok (.getfield 93, 3) := by decide +kernel
theorem dX11_thumbs_45 : decode cX11_thumbs 45 = .ok (.iload_n 1, 1) := by decide +kernel
theorem dX11_thumbs_46 : decode cX11_thumbs 46 = .ok (.iaload, 1) := by decide +kernel
theorem dX11_thumbs_47 : decode cX11_thumbs 47 = .ok (.ireturn, 1) := by decide +kernel
theorem dX11_blow_0 : decode cX11_blow 0 = .ok (.aload_n 0, 1) := by decide +kernel
theorem dX11_blow_1 : decode cX11_blow 1 = .ok (.getfield 10, 3) := by decide +kernel
theorem dX11_blow_4 : decode cX11_blow 4 = .ok (.iload_n 1, 1) := by decide +kernel
theorem dX11_blow_5 : decode cX11_blow 5 = .ok (.invokevirtual 96, 3) := by decide +kernel
theorem dX11_blow_8 : decode cX11_blow 8 = .ok (.ifCond .ne 5, 3) := by decide +kernel
theorem dX11_blow_11 : decode cX11_blow 11 = .ok (.iconst (-1), 1) := by decide +kernel
theorem dX11_blow_12 : decode cX11_blow 12 = .ok (.ireturn, 1) := by decide +kernel
theorem dX11_blow_13 : decode cX11_blow 13 = .ok (.iload_n 2, 1) := by decide +kernel
theorem dX11_blow_14 : decode cX11_blow 14 = .ok (.tableswitch 67 0 2 #[26, 39, 52], 26) := by decide +kernel
theorem dX11_blow_40 : decode cX11_blow 40 = .ok (.aload_n 0, 1) := by decide +kernel
theorem dX11_blow_41 : decode cX11_blow 41 = .ok (.getfield 10, 3) := by decide +kernel
theorem dX11_blow_44 : decode cX11_blow 44 = .ok (.getfield 99, 3) := by decide +kernel
theorem dX11_blow_47 : decode cX11_blow 47 = .ok (.iload_n 1, 1) := by decide +kernel
theorem dX11_blow_48 : decode cX11_blow 48 = .ok (.aaload, 1) := by decide +kernel
theorem dX11_blow_49 : decode cX11_blow 49 = .ok (.getfield 103, 3) := by decide +kernel
theorem dX11_blow_52 : decode cX11_blow 52 = .ok (.ireturn, 1) := by decide +kernel
theorem dX11_blow_53 : decode cX11_blow 53 = .ok (.aload_n 0, 1) := by decide +kernel
theorem dX11_blow_54 : decode cX11_blow 54 = .ok (.getfield 10, 3) := by decide +kernel
theorem dX11_blow_57 : decode cX11_blow 57 = .ok (.getfield 99, 3) := by decide +kernel
theorem dX11_blow_60 : decode cX11_blow 60 = .ok (.iload_n 1, 1) := by decide +kernel
theorem dX11_blow_61 : decode cX11_blow 61 = .ok (.aaload, 1) := by decide +kernel
theorem dX11_blow_62 : decode cX11_blow 62 = .ok (.getfield 108, 3) := by decide +kernel
theorem dX11_blow_65 : decode cX11_blow 65 = .ok (.ireturn, 1) := by decide +kernel
theorem dX11_blow_66 : decode cX11_blow 66 = .ok (.aload_n 0, 1) := by decide +kernel
theorem dX11_blow_67 : decode cX11_blow 67 = .ok (.getfield 10, 3) := by decide +kernel
theorem dX11_blow_70 : decode cX11_blow 70 = .ok (.getfield 99, 3) := by decide +kernel
theorem dX11_blow_73 : decode cX11_blow 73 = .ok (.iload_n 1, 1) := by decide +kernel
theorem dX11_blow_74 : decode cX11_blow 74 = .ok (.aaload, 1) := by decide +kernel
theorem dX11_blow_75 : decode cX11_blow 75 = .ok (.bipush 30, 2) := by decide +kernel
theorem dX11_blow_77 : decode cX11_blow 77 = .ok (.invokevirtual 111, 3) := by decide +kernel
theorem dX11_blow_80 : decode cX11_blow 80 = .ok (.ireturn, 1) := by decide +kernel
theorem dX11_blow_81 : decode cX11_blow 81 = .ok (.iconst (-1), 1) := by decide +kernel
theorem dX11_blow_82 : decode cX11_blow 82 = .ok (.ireturn, 1) := by decide +kernel
theorem dX11_grows_0 : decode cX11_grows 0 = .ok (.aload_n 0, 1) := by decide +kernel
theorem dX11_grows_1 : decode cX11_grows 1 = .ok (.getfield 10, 3) := by decide +kernel
theorem dX11_grows_4 : decode cX11_grows 4 = .ok (.iload_n 1, 1) := by decide +kernel
theorem dX11_grows_5 : decode cX11_grows 5 = .ok (.iload_n 2, 1) := by decide +kernel
theorem dX11_grows_6 : decode cX11_grows 6 = .ok (.iload_n 3, 1) := by decide +kernel
theorem dX11_grows_7 : decode cX11_grows 7 = .ok (.invokevirtual 114, 3) := by decide +kernel
theorem dX11_grows_10 : decode cX11_grows 10 = .ok (.ireturn, 1) := by decide +kernel
theorem dX11_learns_0 : decode cX11_learns 0 = .ok (.aload_n 0, 1) := by decide +kernel
theorem dX11_learns_1 : decode cX11_learns 1 = .ok (.iload_n 1, 1) := by decide +kernel
theorem dX11_learns_2 : decode cX11_learns 2 = .ok (.invokevirtual 118, 3) := by decide +kernel
theorem dX11_learns_5 : decode cX11_learns 5 = .ok (.istore_n 2, 1) := by decide +kernel
theorem dX11_learns_6 : decode cX11_learns 6 = .ok (.iload_n 2, 1) := by decide +kernel
theorem dX11_learns_7 : decode cX11_learns 7 = .ok (.ifCond .ge 7, 3) := by decide +kernel
theorem dX11_learns_10 : decode cX11_learns 10 = .ok (.iload_n 2, 1) := by decide +kernel
theorem dX11_learns_11 : decode cX11_learns 11 = .ok (.goto 19, 3) := by decide +kernel
theorem dX11_learns_14 : decode cX11_learns 14 = .ok (.aload_n 0, 1) := by decide +kernel
theorem dX11_learns_15 : decode cX11_learns 15 = .ok (.getfield 10, 3) := by decide +kernel
theorem dX11_learns_18 : decode cX11_learns 18 = .ok (.aload_n 0, 1) := by decide +kernel
theorem dX11_learns_19 : decode cX11_learns 19 = .ok (.getfield 24, 3) := by decide +kernel
theorem dX11_learns_22 : decode cX11_learns 22 = .ok (.iload_n 1, 1) := by decide +kernel
theorem dX11_learns_23 : decode cX11_learns 23 = .ok (.aaload, 1) := by decide +kernel
theorem dX11_learns_24 : decode cX11_learns 24 = .ok (.getfield 121, 3) := by decide +kernel
theorem dX11_learns_27 : decode cX11_learns 27 = .ok (.invokevirtual 124, 3) := by decide +kernel
theorem dX11_learns_30 : decode cX11_learns 30 = .ok (.ireturn, 1) := by decide +kernel
theorem dX11_comes_0 : decode cX11_comes 0 = .ok (.aload_n 0, 1) := by decide +kernel
theorem dX11_comes_1 : decode cX11_comes 1 = .ok (.getfield 10, 3) := by decide +kernel
theorem dX11_comes_4 : decode cX11_comes 4 = .ok (.iload_n 1, 1) := by decide +kernel
theorem dX11_comes_5 : decode cX11_comes 5 = .ok (.iload_n 2, 1) := by decide +kernel
theorem dX11_comes_6 : decode cX11_comes 6 = .ok (.invokevirtual 128, 3) := by decide +kernel
theorem dX11_comes_9 : decode cX11_comes 9 = .ok (.ireturn, 1) := by decide +kernel
theorem dX11_wets_0 : decode cX11_wets 0 = .ok (.aload_n 0, 1) := by decide +kernel
theorem dX11_wets_1 : decode cX11_wets 1 = .ok (.getfield 10, 3) := by decide +kernel
theorem dX11_wets_4 : decode cX11_wets 4 = .ok (.iload_n 1, 1) := by decide +kernel
theorem dX11_wets_5 : decode cX11_wets 5 = .ok (.invokevirtual 63, 3) := by decide +kernel
theorem dX11_wets_8 : decode cX11_wets 8 = .ok (.ifCond .eq 13, 3) := by decide +kernel
theorem dX11_wets_11 : decode cX11_wets 11 = .ok (.iload_n 2, 1) := by decide +kernel
theorem dX11_wets_12 : decode cX11_wets 12 = .ok (.iconst 0, 1) := by decide +kernel
theorem dX11_wets_13 : decode cX11_wets 13 = .ok (.bipush 9, 2) := by decide +kernel
theorem dX11_wets_15 : decode cX11_wets 15 = .ok (.invokestatic 86, 3) := by decide +kernel
theorem dX11_wets_18 : decode cX11_wets 18 = .ok (.ifCond .eq 5, 3) := by decide +kernel
theorem dX11_wets_21 : decode cX11_wets 21 = .ok (.iconst (-1), 1) := by decide +kernel
theorem dX11_wets_22 : decode cX11_wets 22 = .ok (.ireturn, 1) := by decide +kernel
theorem dX11_wets_23 : decode cX11_wets 23 = .ok (.aload_n 0, 1) := by decide +kernel
theorem dX11_wets_24 : decode cX11_wets 24 = .ok (.getfield 10, 3) := by decide +kernel
theorem dX11_wets_27 : decode cX11_wets 27 = .ok (.getfield 74, 3) := by decide +kernel
theorem dX11_wets_30 : decode cX11_wets 30 = .ok (.iload_n 1, 1) := by decide +kernel
theorem dX11_wets_31 : decode cX11_wets 31 = .ok (.iaload, 1) := by decide +kernel
theorem dX11_wets_32 : decode cX11_wets 32 = .ok (.istore_n 3, 1) := by decide +kernel
theorem dX11_wets_33 : decode cX11_wets 33 = .ok (.aload_n 0, 1) := by decide +kernel
theorem dX11_wets_34 : decode cX11_wets 34 = .ok (.getfield 10, 3) := by decide +kernel
theorem dX11_wets_37 : decode cX11_wets 37 = .ok (.getfield 74, 3) := by decide +kernel
theorem dX11_wets_40 : decode cX11_wets 40 = .ok (.iload_n 1, 1) := by decide +kernel
theorem dX11_wets_41 : decode cX11_wets 41 = .ok (.iload_n 2, 1) := by decide +kernel
theorem dX11_wets_42 : decode cX11_wets 42 = .ok (.iastore, 1) := by decide +kernel
theorem dX11_wets_43 : decode cX11_wets 43 = .ok (.iload_n 3, 1) := by decide +kernel
theorem dX11_wets_44 : decode cX11_wets 44 = .ok (.ireturn, 1) := by decide +kernel
theorem dX11_span_0 : decode cX11_span 0 = .ok (.aload_n 0, 1) := by decide +kernel
theorem dX11_span_1 : decode cX11_span 1 = .ok (.getfield 10, 3) := by decide +kernel
theorem dX11_span_4 : decode cX11_span 4 = .ok (.iload_n 1, 1) := by decide +kernel
theorem dX11_span_5 : decode cX11_span 5 = .ok (.iload_n 2, 1) := by decide +kernel
theorem dX11_span_6 : decode cX11_span 6 = .ok (.iload_n 3, 1) := by decide +kernel
theorem dX11_span_7 : decode cX11_span 7 = .ok (.invokevirtual 132, 3) := by decide +kernel
theorem dX11_span_10 : decode cX11_span 10 = .ok (.ifCond .ne 5, 3) := by decide +kernel
theorem dX11_span_13 : decode cX11_span 13 = .ok (.iconst (-1), 1) := by decide +kernel
theorem dX11_span_14 : decode cX11_span 14 = .ok (.ireturn, 1) := by decide +kernel
theorem dX11_span_15 : decode cX11_span 15 = .ok (.aload_n 0, 1) := by decide +kernel
theorem dX11_span_16 : decode cX11_span 16 = .ok (.getfield 10, 3) := by decide +kernel
theorem dX11_span_19 : decode cX11_span 19 = .ok (.iload_n 1, 1) := by decide +kernel
theorem dX11_span_20 : decode cX11_span 20 = .ok (.iload_n 2, 1) := by decide +kernel
theorem dX11_span_21 : decode cX11_span 21 = .ok (.iload_n 3, 1) := by decide +kernel
theorem dX11_span_22 : decode cX11_span 22 = .ok (.invokevirtual 135, 3) := by decide +kernel
theorem dX11_span_25 : decode cX11_span 25 = .ok (.astore 5, 2) := by decide +kernel
theorem dX11_span_27 : decode cX11_span 27 = .ok (.iload 4, 2) := by decide +kernel
theorem dX11_span_29 : decode cX11_span 29 = .ok (.tableswitch 55 0 3 #[31, 37, 43, 49], 31) := by decide +kernel
theorem dX11_span_60 : decode cX11_span 60 = .ok (.aload 5, 2) := by decide +kernel
theorem dX11_span_62 : decode cX11_span 62 = .ok (.getfield 139, 3) := by decide +kernel
theorem dX11_span_65 : decode cX11_span 65 = .ok (.ireturn, 1) := by decide +kernel
theorem dX11_span_66 : decode cX11_span 66 = .ok (.aload 5, 2) := by decide +kernel
theorem dX11_span_68 : decode cX11_span 68 = .ok (.getfield 144, 3) := by decide +kernel
theorem dX11_span_71 : decode cX11_span 71 = .ok (.ireturn, 1) := by decide +kernel
theorem dX11_span_72 : decode cX11_span 72 = .ok (.aload 5, 2) := by decide +kernel
theorem dX11_span_74 : decode cX11_span 74 = .ok (.getfield 147, 3) := by decide +kernel
theorem dX11_span_77 : decode cX11_span 77 = .ok (.ireturn, 1) := by decide +kernel
theorem dX11_span_78 : decode cX11_span 78 = .ok (.aload 5, 2) := by decide +kernel
theorem dX11_span_80 : decode cX11_span 80 = .ok (.getfield 150, 3) := by decide +kernel
theorem dX11_span_83 : decode cX11_span 83 = .ok (.ireturn, 1) := by decide +kernel
theorem dX11_span_84 : decode cX11_span 84 = .ok (.iconst (-1), 1) := by decide +kernel
theorem dX11_span_85 : decode cX11_span 85 = .ok (.ireturn, 1) := by decide +kernel
theorem dX11_sounds_0 : decode cX11_sounds 0 = .ok (.aload_n 0, 1) := by decide +kernel
theorem dX11_sounds_1 : decode cX11_sounds 1 = .ok (.getfield 10, 3) := by decide +kernel
theorem dX11_sounds_4 : decode cX11_sounds 4 = .ok (.iload_n 1, 1) := by decide +kernel
theorem dX11_sounds_5 : decode cX11_sounds 5 = .ok (.iload_n 2, 1) := by decide +kernel
theorem dX11_sounds_6 : decode cX11_sounds 6 = .ok (.iload_n 3, 1) := by decide +kernel
theorem dX11_sounds_7 : decode cX11_sounds 7 = .ok (.invokevirtual 132, 3) := by decide +kernel
theorem dX11_sounds_10 : decode cX11_sounds 10 = .ok (.ifCond .eq 25, 3) := by decide +kernel
theorem dX11_sounds_13 : decode cX11_sounds 13 = .ok (.iload 4, 2) := by decide +kernel
theorem dX11_sounds_15 : decode cX11_sounds 15 = .ok (.iconst 0, 1) := by decide +kernel
theorem dX11_sounds_16 : decode cX11_sounds 16 = .ok (.bipush 60, 2) := by decide +kernel
theorem dX11_sounds_18 : decode cX11_sounds 18 = .ok (.invokestatic 86, 3) := by decide +kernel
theorem dX11_sounds_21 : decode cX11_sounds 21 = .ok (.ifCond .ne 14, 3) := by decide +kernel
theorem dX11_sounds_24 : decode cX11_sounds 24 = .ok (.iload 5, 2) := by decide +kernel
theorem dX11_sounds_26 : decode cX11_sounds 26 = .ok (.iconst 0, 1) := by decide +kernel
theorem dX11_sounds_27 : decode cX11_sounds 27 = .ok (.bipush 60, 2) := by decide +kernel
theorem dX11_sounds_29 : decode cX11_sounds 29 = .ok (.invokestatic 86, 3) := by decide +kernel
theorem dX11_sounds_32 : decode cX11_sounds 32 = .ok (.ifCond .eq 5, 3) := by decide +kernel
theorem dX11_sounds_35 : decode cX11_sounds 35 = .ok (.iconst (-1), 1) := by decide +kernel
theorem dX11_sounds_36 : decode cX11_sounds 36 = .ok (.ireturn, 1) := by decide +kernel
theorem dX11_sounds_37 : decode cX11_sounds 37 = .ok (.aload_n 0, 1) := by decide +kernel
theorem dX11_sounds_38 : decode cX11_sounds 38 = .ok (.getfield 10, 3) := by decide +kernel
theorem dX11_sounds_41 : decode cX11_sounds 41 = .ok (.iload_n 1, 1) := by decide +kernel
theorem dX11_sounds_42 : decode cX11_sounds 42 = .ok (.iload_n 2, 1) := by decide +kernel
theorem dX11_sounds_43 : decode cX11_sounds 43 = .ok (.iload_n 3, 1) := by decide +kernel
theorem dX11_sounds_44 : decode cX11_sounds 44 = .ok (.invokevirtual 135, 3) := by decide +kernel
theorem dX11_sounds_47 : decode cX11_sounds 47 = .ok (.iload 4, 2) := by decide +kernel
theorem dX11_sounds_49 : decode cX11_sounds 49 = .ok (.iload 5, 2) := by decide +kernel
theorem dX11_sounds_51 : decode cX11_sounds 51 = .ok (.invokevirtual 153, 3) := by decide +kernel
theorem dX11_sounds_54 : decode cX11_sounds 54 = .ok (.ifCond .ne 7, 3) := by decide +kernel
theorem dX11_sounds_57 : decode cX11_sounds 57 = .ok (.iconst 1, 1) := by decide +kernel
theorem dX11_sounds_58 : decode cX11_sounds 58 = .ok (.goto 4, 3) := by decide +kernel
theorem dX11_sounds_61 : decode cX11_sounds 61 = .ok (.iconst 0, 1) := by decide +kernel
theorem dX11_sounds_62 : decode cX11_sounds 62 = .ok (.ireturn, 1) := by decide +kernel
theorem dX11_pitch_0 : decode cX11_pitch 0 = .ok (.aload_n 0, 1) := by decide +kernel
theorem dX11_pitch_1 : decode cX11_pitch 1 = .ok (.getfield 10, 3) := by decide +kernel
theorem dX11_pitch_4 : decode cX11_pitch 4 = .ok (.iload_n 1, 1) := by decide +kernel
theorem dX11_pitch_5 : decode cX11_pitch 5 = .ok (.invokevirtual 63, 3) := by decide +kernel
theorem dX11_pitch_8 : decode cX11_pitch 8 = .ok (.ifCond .eq 35, 3) := by decide +kernel
theorem dX11_pitch_11 : decode cX11_pitch 11 = .ok (.aload_n 0, 1) := by decide +kernel
theorem dX11_pitch_12 : decode cX11_pitch 12 = .ok (.getfield 10, 3) := by decide +kernel
theorem dX11_pitch_15 : decode cX11_pitch 15 = .ok (.iload_n 2, 1) := by decide +kernel
theorem dX11_pitch_16 : decode cX11_pitch 16 = .ok (.invokevirtual 96, 3) := by decide +kernel
theorem dX11_pitch_19 : decode cX11_pitch 19 = .ok (.ifCond .eq 24, 3) := by decide +kernel
theorem dX11_pitch_22 : decode cX11_pitch 22 = .ok (.iload_n 3, 1) := by decide +kernel
theorem dX11_pitch_23 : decode cX11_pitch 23 = .ok (.iconst 0, 1) := by decide +kernel
theorem dX11_pitch_24 : decode cX11_pitch 24 = .ok (.bipush 60, 2) := by decide +kernel
theorem dX11_pitch_26 : decode cX11_pitch 26 = .ok (.invokestatic 86, 3) := by decide +kernel
theorem dX11_pitch_29 : decode cX11_pitch 29 = .ok (.ifCond .ne 14, 3) := by decide +kernel
theorem dX11_pitch_32 : decode cX11_pitch 32 = .ok (.iload 4, 2) := by decide +kernel
theorem dX11_pitch_34 : decode cX11_pitch 34 = .ok (.iconst 0, 1) := by decide +kernel
theorem dX11_pitch_35 : decode cX11_pitch 35 = .ok (.bipush 9, 2) := by decide +kernel
theorem dX11_pitch_37 : decode cX11_pitch 37 = .ok (.invokestatic 86, 3) := by decide +kernel
theorem dX11_pitch_40 : decode cX11_pitch 40 = .ok (.ifCond .eq 6, 3) := by decide +kernel
theorem dX11_pitch_43 : decode cX11_pitch 43 = .ok (.ldc 156, 2) := by decide +kernel
theorem dX11_pitch_45 : decode cX11_pitch 45 = .ok (.ireturn, 1) := by decide +kernel
theorem dX11_pitch_46 : decode cX11_pitch 46 = .ok (.aload_n 0, 1) := by decide +kernel
theorem dX11_pitch_47 : decode cX11_pitch 47 = .ok (.getfield 10, 3) := by decide +kernel
theorem dX11_pitch_50 : decode cX11_pitch 50 = .ok (.getfield 99, 3) := by decide +kernel
theorem dX11_pitch_53 : decode cX11_pitch 53 = .ok (.iload_n 2, 1) := by decide +kernel
theorem dX11_pitch_54 : decode cX11_pitch 54 = .ok (.aaload, 1) := by decide +kernel
theorem dX11_pitch_55 : decode cX11_pitch 55 = .ok (.aload_n 0, 1) := by decide +kernel
theorem dX11_pitch_56 : decode cX11_pitch 56 = .ok (.getfield 10, 3) := by decide +kernel
theorem dX11_pitch_59 : decode cX11_pitch 59 = .ok (.getfield 67, 3) := by decide +kernel
theorem dX11_pitch_62 : decode cX11_pitch 62 = .ok (.iload_n 1, 1) := by decide +kernel
theorem dX11_pitch_63 : decode cX11_pitch 63 = .ok (.iaload, 1) := by decide +kernel
theorem dX11_pitch_64 : decode cX11_pitch 64 = .ok (.iload_n 3, 1) := by decide +kernel
theorem dX11_pitch_65 : decode cX11_pitch 65 = .ok (.iload 4, 2) := by decide +kernel
theorem dX11_pitch_67 : decode cX11_pitch 67 = .ok (.invokevirtual 157, 3) := by decide +kernel
theorem dX11_pitch_70 : decode cX11_pitch 70 = .ok (.ireturn, 1) := by decide +kernel
theorem dX11_tries_0 : decode cX11_tries 0 = .ok (.aload_n 0, 1) := by decide +kernel
theorem dX11_tries_1 : decode cX11_tries 1 = .ok (.getfield 10, 3) := by decide +kernel
theorem dX11_tries_4 : decode cX11_tries 4 = .ok (.iload_n 1, 1) := by decide +kernel
theorem dX11_tries_5 : decode cX11_tries 5 = .ok (.iload_n 2, 1) := by decide +kernel
theorem dX11_tries_6 : decode cX11_tries 6 = .ok (.iload_n 3, 1) := by decide +kernel
theorem dX11_tries_7 : decode cX11_tries 7 = .ok (.invokevirtual 132, 3) := by decide +kernel
theorem dX11_tries_10 : decode cX11_tries 10 = .ok (.ifCond .eq 25, 3) := by decide +kernel
theorem dX11_tries_13 : decode cX11_tries 13 = .ok (.iload 4, 2) := by decide +kernel
theorem dX11_tries_15 : decode cX11_tries 15 = .ok (.iconst 0, 1) := by decide +kernel
theorem dX11_tries_16 : decode cX11_tries 16 = .ok (.bipush 60, 2) := by decide +kernel
theorem dX11_tries_18 : decode cX11_tries 18 = .ok (.invokestatic 86, 3) := by decide +kernel
theorem dX11_tries_21 : decode cX11_tries 21 = .ok (.ifCond .ne 14, 3) := by decide +kernel
theorem dX11_tries_24 : decode cX11_tries 24 = .ok (.iload 5, 2) := by decide +kernel
theorem dX11_tries_26 : decode cX11_tries 26 = .ok (.iconst 0, 1) := by decide +kernel
theorem dX11_tries_27 : decode cX11_tries 27 = .ok (.bipush 60, 2) := by decide +kernel
theorem dX11_tries_29 : decode cX11_tries 29 = .ok (.invokestatic 86, 3) := by decide +kernel
theorem dX11_tries_32 : decode cX11_tries 32 = .ok (.ifCond .eq 5, 3) := by decide +kernel
theorem dX11_tries_35 : decode cX11_tries 35 = .ok (.iconst (-1), 1) := by decide +kernel
theorem dX11_tries_36 : decode cX11_tries 36 = .ok (.ireturn, 1) := by decide +kernel
theorem dX11_tries_37 : decode cX11_tries 37 = .ok (.aload_n 0, 1) := by decide +kernel
theorem dX11_tries_38 : decode cX11_tries 38 = .ok (.getfield 10, 3) := by decide +kernel
theorem dX11_tries_41 : decode cX11_tries 41 = .ok (.iload_n 1, 1) := by decide +kernel
theorem dX11_tries_42 : decode cX11_tries 42 = .ok (.invokevirtual 80, 3) := by decide +kernel
theorem dX11_tries_45 : decode cX11_tries 45 = .ok (.ifCond .eq 6, 3) := by decide +kernel
theorem dX11_tries_48 : decode cX11_tries 48 = .ok (.bipush (-3), 2) := by decide +kernel
theorem dX11_tries_50 : decode cX11_tries 50 = .ok (.ireturn, 1) := by decide +kernel
theorem dX11_tries_51 : decode cX11_tries 51 = .ok (.aload_n 0, 1) := by decide +kernel
theorem dX11_tries_52 : decode cX11_tries 52 = .ok (.getfield 10, 3) := by decide +kernel
theorem dX11_tries_55 : decode cX11_tries 55 = .ok (.iload_n 1, 1) := by decide +kernel
theorem dX11_tries_56 : decode cX11_tries 56 = .ok (.iload_n 2, 1) := by decide +kernel
theorem dX11_tries_57 : decode cX11_tries 57 = .ok (.iload_n 3, 1) := by decide +kernel
theorem dX11_tries_58 : decode cX11_tries 58 = .ok (.iload 4, 2) := by decide +kernel
theorem dX11_tries_60 : decode cX11_tries 60 = .ok (.iload 5, 2) := by decide +kernel
theorem dX11_tries_62 : decode cX11_tries 62 = .ok (.invokevirtual 160, 3) := by decide +kernel
theorem dX11_tries_65 : decode cX11_tries 65 = .ok (.istore 6, 2) := by decide +kernel
theorem dX11_tries_67 : decode cX11_tries 67 = .ok (.aload_n 0, 1) := by decide +kernel
theorem dX11_tries_68 : decode cX11_tries 68 = .ok (.getfield 10, 3) := by decide +kernel
theorem dX11_tries_71 : decode cX11_tries 71 = .ok (.iload_n 1, 1) := by decide +kernel
theorem dX11_tries_72 : decode cX11_tries 72 = .ok (.invokevirtual 80, 3) := by decide +kernel
theorem dX11_tries_75 : decode cX11_tries 75 = .ok (.ifCond .eq 10, 3) := by decide +kernel
theorem dX11_tries_78 : decode cX11_tries 78 = .ok (.iload 6, 2) := by decide +kernel
theorem dX11_tries_80 : decode cX11_tries 80 = .ok (.iconst 2, 1) := by decide +kernel
theorem dX11_tries_81 : decode cX11_tries 81 = .ok (.iadd, 1) := by decide +kernel
theorem dX11_tries_82 : decode cX11_tries 82 = .ok (.goto 5, 3) := by decide +kernel
theorem dX11_tries_85 : decode cX11_tries 85 = .ok (.iload 6, 2) := by decide +kernel
theorem dX11_tries_87 : decode cX11_tries 87 = .ok (.ireturn, 1) := by decide +kernel
theorem dX11_where_0 : decode cX11_where 0 = .ok (.aload_n 0, 1) := by decide +kernel
theorem dX11_where_1 : decode cX11_where 1 = .ok (.getfield 10, 3) := by decide +kernel
theorem dX11_where_4 : decode cX11_where 4 = .ok (.iload_n 1, 1) := by decide +kernel
theorem dX11_where_5 : decode cX11_where 5 = .ok (.iload_n 2, 1) := by decide +kernel
theorem dX11_where_6 : decode cX11_where 6 = .ok (.iload_n 3, 1) := by decide +kernel
theorem dX11_where_7 : decode cX11_where 7 = .ok (.invokevirtual 132, 3) := by decide +kernel
theorem dX11_where_10 : decode cX11_where 10 = .ok (.ifCond .eq 13, 3) := by decide +kernel
theorem dX11_where_13 : decode cX11_where 13 = .ok (.iload 4, 2) := by decide +kernel
theorem dX11_where_15 : decode cX11_where 15 = .ok (.iconst 0, 1) := by decide +kernel
theorem dX11_where_16 : decode cX11_where 16 = .ok (.iconst 2, 1) := by decide +kernel
theorem dX11_where_17 : decode cX11_where 17 = .ok (.invokestatic 86, 3) := by decide +kernel
theorem dX11_where_20 : decode cX11_where 20 = .ok (.ifCond .eq 5, 3) := by decide +kernel
theorem dX11_where_23 : decode cX11_where 23 = .ok (.iconst (-1), 1) := by decide +kernel
theorem dX11_where_24 : decode cX11_where 24 = .ok (.ireturn, 1) := by decide +kernel
theorem dX11_where_25 : decode cX11_where 25 = .ok (.aload_n 0, 1) := by decide +kernel
theorem dX11_where_26 : decode cX11_where 26 = .ok (.getfield 10, 3) := by decide +kernel
theorem dX11_where_29 : decode cX11_where 29 = .ok (.iload_n 1, 1) := by decide +kernel
theorem dX11_where_30 : decode cX11_where 30 = .ok (.iload_n 2, 1) := by decide +kernel
theorem dX11_where_31 : decode cX11_where 31 = .ok (.iload_n 3, 1) := by decide +kernel
theorem dX11_where_32 : decode cX11_where 32 = .ok (.invokevirtual 135, 3) := by decide +kernel
theorem dX11_where_35 : decode cX11_where 35 = .ok (.astore 5, 2) := by decide +kernel
theorem dX11_where_37 : decode cX11_where 37 = .ok (.aload 5, 2) := by decide +kernel
theorem dX11_where_39 : decode cX11_where 39 = .ok (.invokevirtual 164, 3) := by decide +kernel
theorem dX11_where_42 : decode cX11_where 42 = .ok (.istore 6, 2) := by decide +kernel
theorem dX11_where_44 : decode cX11_where 44 = .ok (.iload 4, 2) := by decide +kernel
theorem dX11_where_46 : decode cX11_where 46 = .ok (.ifCond .ne 6, 3) := by decide +kernel
theorem dX11_where_49 : decode cX11_where 49 = .ok (.iload 6, 2) := by decide +kernel
theorem dX11_where_51 : decode cX11_where 51 = .ok (.ireturn, 1) := by decide +kernel
theorem dX11_where_52 : decode cX11_where 52 = .ok (.iload 6, 2) := by decide +kernel
theorem dX11_where_54 : decode cX11_where 54 = .ok (.ifCond .ne 6, 3) := by decide +kernel
theorem dX11_where_57 : decode cX11_where 57 = .ok (.bipush (-4), 2) := by decide +kernel
theorem dX11_where_59 : decode cX11_where 59 = .ok (.ireturn, 1) := by decide +kernel
theorem dX11_where_60 : decode cX11_where 60 = .ok (.iload 4, 2) := by decide +kernel
theorem dX11_where_62 : decode cX11_where 62 = .ok (.iconst 1, 1) := by decide +kernel
theorem dX11_where_63 : decode cX11_where 63 = .ok (.if_icmp .ne 11, 3) := by decide +kernel
theorem dX11_where_66 : decode cX11_where 66 = .ok (.aload 5, 2) := by decide +kernel
theorem dX11_where_68 : decode cX11_where 68 = .ok (.getfield 139, 3) := by decide +kernel
theorem dX11_where_71 : decode cX11_where 71 = .ok (.goto 8, 3) := by decide +kernel
theorem dX11_where_74 : decode cX11_where 74 = .ok (.aload 5, 2) := by decide +kernel
theorem dX11_where_76 : decode cX11_where 76 = .ok (.getfield 147, 3) := by decide +kernel
theorem dX11_where_79 : decode cX11_where 79 = .ok (.ireturn, 1) := by decide +kernel
theorem dX11_whoCan_0 : decode cX11_whoCan 0 = .ok (.iconst 0, 1) := by decide +kernel
theorem dX11_whoCan_1 : decode cX11_whoCan 1 = .ok (.istore_n 1, 1) := by decide +kernel
theorem dX11_whoCan_2 : decode cX11_whoCan 2 = .ok (.iconst 0, 1) := by decide +kernel
theorem dX11_whoCan_3 : decode cX11_whoCan 3 = .ok (.istore_n 2, 1) := by decide +kernel
theorem dX11_whoCan_4 : decode cX11_whoCan 4 = .ok (.iload_n 2, 1) := by decide +kernel
theorem dX11_whoCan_5 : decode cX11_whoCan 5 = .ok (.aload_n 0, 1) := by decide +kernel
theorem dX11_whoCan_6 : decode cX11_whoCan 6 = .ok (.getfield 10, 3) := by decide +kernel
theorem dX11_whoCan_9 : decode cX11_whoCan 9 = .ok (.getfield 168, 3) := by decide +kernel
theorem dX11_whoCan_12 : decode cX11_whoCan 12 = .ok (.if_icmp .ge 23, 3) := by decide +kernel
theorem dX11_whoCan_15 : decode cX11_whoCan 15 = .ok (.aload_n 0, 1) := by decide +kernel
theorem dX11_whoCan_16 : decode cX11_whoCan 16 = .ok (.iload_n 2, 1) := by decide +kernel
theorem dX11_whoCan_17 : decode cX11_whoCan 17 = .ok (.invokevirtual 171, 3) := by decide +kernel
theorem dX11_whoCan_20 : decode cX11_whoCan 20 = .ok (.ifCond .eq 9, 3) := by decide +kernel
theorem dX11_whoCan_23 : decode cX11_whoCan 23 = .ok (.iload_n 1, 1) := by decide +kernel
theorem dX11_whoCan_24 : decode cX11_whoCan 24 = .ok (.iconst 1, 1) := by decide +kernel
theorem dX11_whoCan_25 : decode cX11_whoCan 25 = .ok (.iload_n 2, 1) := by decide +kernel
theorem dX11_whoCan_26 : decode cX11_whoCan 26 = .ok (.ishl, 1) := by decide +kernel
theorem dX11_whoCan_27 : decode cX11_whoCan 27 = .ok (.ior, 1) := by decide +kernel
theorem dX11_whoCan_28 : decode cX11_whoCan 28 = .ok (.istore_n 1, 1) := by decide +kernel
theorem dX11_whoCan_29 : decode cX11_whoCan 29 = .ok (.iinc 2 1, 3) := by decide +kernel
theorem dX11_whoCan_32 : decode cX11_whoCan 32 = .ok (.goto (-28), 3) := by decide +kernel
theorem dX11_whoCan_35 : decode cX11_whoCan 35 = .ok (.iload_n 1, 1) := by decide +kernel
theorem dX11_whoCan_36 : decode cX11_whoCan 36 = .ok (.ireturn, 1) := by decide +kernel
theorem dX11_which_0 : decode cX11_which 0 = .ok (.aload_n 0, 1) := by decide +kernel
theorem dX11_which_1 : decode cX11_which 1 = .ok (.getfield 10, 3) := by decide +kernel
theorem dX11_which_4 : decode cX11_which 4 = .ok (.iload_n 1, 1) := by decide +kernel
theorem dX11_which_5 : decode cX11_which 5 = .ok (.invokevirtual 83, 3) := by decide +kernel
theorem dX11_which_8 : decode cX11_which 8 = .ok (.ifCond .eq 14, 3) := by decide +kernel
theorem dX11_which_11 : decode cX11_which 11 = .ok (.aload_n 0, 1) := by decide +kernel
theorem dX11_which_12 : decode cX11_which 12 = .ok (.getfield 10, 3) := by decide +kernel
theorem dX11_which_15 : decode cX11_which 15 = .ok (.iload_n 2, 1) := by decide +kernel
theorem dX11_which_16 : decode cX11_which 16 = .ok (.invokevirtual 96, 3) := by decide +kernel
theorem dX11_which_19 : decode cX11_which 19 = .ok (.ifCond .ne 5, 3) := by decide +kernel
theorem dX11_which_22 : decode cX11_which 22 = .ok (.iconst (-1), 1) := by decide +kernel
theorem dX11_which_23 : decode cX11_which 23 = .ok (.ireturn, 1) := by decide +kernel
theorem dX11_which_24 : decode cX11_which 24 = .ok (.bipush (-4), 2) := by decide +kernel
theorem dX11_which_26 : decode cX11_which 26 = .ok (.istore_n 3, 1) := by decide +kernel
theorem dX11_which_27 : decode cX11_which 27 = .ok (.iconst 0, 1) := by decide +kernel
theorem dX11_which_28 : decode cX11_which 28 = .ok (.istore 4, 2) := by decide +kernel
theorem dX11_which_30 : decode cX11_which 30 = .ok (.iconst 0, 1) := by decide +kernel
theorem dX11_which_31 : decode cX11_which 31 = .ok (.istore 5, 2) := by decide +kernel
theorem dX11_which_33 : decode cX11_which 33 = .ok (.iload 5, 2) := by decide +kernel
theorem dX11_which_35 : decode cX11_which 35 = .ok (.aload_n 0, 1) := by decide +kernel
theorem dX11_which_36 : decode cX11_which 36 = .ok (.getfield 10, 3) := by decide +kernel
theorem dX11_which_39 : decode cX11_which 39 = .ok (.getfield 174, 3) := by decide +kernel
theorem dX11_which_42 : decode cX11_which 42 = .ok (.if_icmp .ge 55, 3) := by decide +kernel
theorem dX11_which_45 : decode cX11_which 45 = .ok (.aload_n 0, 1) := by decide +kernel
theorem dX11_which_46 : decode cX11_which 46 = .ok (.getfield 10, 3) := by decide +kernel
theorem dX11_which_49 : decode cX11_which 49 = .ok (.iload 5, 2) := by decide +kernel
theorem dX11_which_51 : decode cX11_which 51 = .ok (.invokevirtual 80, 3) := by decide +kernel
theorem dX11_which_54 : decode cX11_which 54 = .ok (.ifCond .eq 7, 3) := by decide +kernel
theorem dX11_which_57 : decode cX11_which 57 = .ok (.iconst 0, 1) := by decide +kernel
theorem dX11_which_58 : decode cX11_which 58 = .ok (.goto 17, 3) := by decide +kernel
theorem dX11_which_61 : decode cX11_which 61 = .ok (.aload_n 0, 1) := by decide +kernel
theorem dX11_which_62 : decode cX11_which 62 = .ok (.getfield 10, 3) := by decide +kernel
theorem dX11_which_65 : decode cX11_which 65 = .ok (.iload 5, 2) := by decide +kernel
theorem dX11_which_67 : decode cX11_which 67 = .ok (.iload_n 1, 1) := by decide +kernel
theorem dX11_which_68 : decode cX11_which 68 = .ok (.iload_n 2, 1) := by decide +kernel
theorem dX11_which_69 : decode cX11_which 69 = .ok (.invokevirtual 135, 3) := by decide +kernel
theorem dX11_which_72 : decode cX11_which 72 = .ok (.invokevirtual 164, 3) := by decide +kernel
theorem dX11_which_75 : decode cX11_which 75 = .ok (.istore 6, 2) := by decide +kernel
theorem dX11_which_77 : decode cX11_which 77 = .ok (.iload 6, 2) := by decide +kernel
theorem dX11_which_79 : decode cX11_which 79 = .ok (.iload 4, 2) := by decide +kernel
theorem dX11_which_81 : decode cX11_which 81 = .ok (.if_icmp .le 10, 3) := by decide +kernel
theorem dX11_which_84 : decode cX11_which 84 = .ok (.iload 6, 2) := by decide +kernel
theorem dX11_which_86 : decode cX11_which 86 = .ok (.istore 4, 2) := by decide +kernel
theorem dX11_which_88 : decode cX11_which 88 = .ok (.iload 5, 2) := by decide +kernel
theorem dX11_which_90 : decode cX11_which 90 = .ok (.istore_n 3, 1) := by decide +kernel
theorem dX11_which_91 : decode cX11_which 91 = .ok (.iinc 5 1, 3) := by decide +kernel
theorem dX11_which_94 : decode cX11_which 94 = .ok (.goto (-61), 3) := by decide +kernel
theorem dX11_which_97 : decode cX11_which 97 = .ok (.iload_n 3, 1) := by decide +kernel
theorem dX11_which_98 : decode cX11_which 98 = .ok (.ireturn, 1) := by decide +kernel
theorem dX11_wrong_0 : decode cX11_wrong 0 = .ok (.aload_n 0, 1) := by decide +kernel
theorem dX11_wrong_1 : decode cX11_wrong 1 = .ok (.getfield 10, 3) := by decide +kernel
theorem dX11_wrong_4 : decode cX11_wrong 4 = .ok (.iload_n 1, 1) := by decide +kernel
theorem dX11_wrong_5 : decode cX11_wrong 5 = .ok (.iload_n 2, 1) := by decide +kernel
theorem dX11_wrong_6 : decode cX11_wrong 6 = .ok (.iload_n 3, 1) := by decide +kernel
theorem dX11_wrong_7 : decode cX11_wrong 7 = .ok (.invokevirtual 132, 3) := by decide +kernel
theorem dX11_wrong_10 : decode cX11_wrong 10 = .ok (.ifCond .eq 25, 3) := by decide +kernel
theorem dX11_wrong_13 : decode cX11_wrong 13 = .ok (.iload 4, 2) := by decide +kernel
theorem dX11_wrong_15 : decode cX11_wrong 15 = .ok (.iconst 0, 1) := by decide +kernel
theorem dX11_wrong_16 : decode cX11_wrong 16 = .ok (.bipush 60, 2) := by decide +kernel
theorem dX11_wrong_18 : decode cX11_wrong 18 = .ok (.invokestatic 86, 3) := by decide +kernel
theorem dX11_wrong_21 : decode cX11_wrong 21 = .ok (.ifCond .ne 14, 3) := by decide +kernel
theorem dX11_wrong_24 : decode cX11_wrong 24 = .ok (.iload 5, 2) := by decide +kernel
theorem dX11_wrong_26 : decode cX11_wrong 26 = .ok (.iconst 0, 1) := by decide +kernel
theorem dX11_wrong_27 : decode cX11_wrong 27 = .ok (.bipush 60, 2) := by decide +kernel
theorem dX11_wrong_29 : decode cX11_wrong 29 = .ok (.invokestatic 86, 3) := by decide +kernel
theorem dX11_wrong_32 : decode cX11_wrong 32 = .ok (.ifCond .eq 5, 3) := by decide +kernel
theorem dX11_wrong_35 : decode cX11_wrong 35 = .ok (.iconst (-1), 1) := by decide +kernel
theorem dX11_wrong_36 : decode cX11_wrong 36 = .ok (.ireturn, 1) := by decide +kernel
theorem dX11_wrong_37 : decode cX11_wrong 37 = .ok (.aload_n 0, 1) := by decide +kernel
theorem dX11_wrong_38 : decode cX11_wrong 38 = .ok (.getfield 10, 3) := by decide +kernel
theorem dX11_wrong_41 : decode cX11_wrong 41 = .ok (.iload_n 1, 1) := by decide +kernel
theorem dX11_wrong_42 : decode cX11_wrong 42 = .ok (.iload_n 2, 1) := by decide +kernel
theorem dX11_wrong_43 : decode cX11_wrong 43 = .ok (.iload_n 3, 1) := by decide +kernel
theorem dX11_wrong_44 : decode cX11_wrong 44 = .ok (.invokevirtual 135, 3) := by decide +kernel
theorem dX11_wrong_47 : decode cX11_wrong 47 = .ok (.iload 4, 2) := by decide +kernel
theorem dX11_wrong_49 : decode cX11_wrong 49 = .ok (.iload 5, 2) := by decide +kernel
theorem dX11_wrong_51 : decode cX11_wrong 51 = .ok (.invokevirtual 153, 3) := by decide +kernel
theorem dX11_wrong_54 : decode cX11_wrong 54 = .ok (.ireturn, 1) := by decide +kernel
theorem dX11_next_0 : decode cX11_next 0 = .ok (.iload 4, 2) := by decide +kernel
theorem dX11_next_2 : decode cX11_next 2 = .ok (.bipush 100, 2) := by decide +kernel
theorem dX11_next_4 : decode cX11_next 4 = .ok (.idiv, 1) := by decide +kernel
theorem dX11_next_5 : decode cX11_next 5 = .ok (.istore 6, 2) := by decide +kernel
theorem dX11_next_7 : decode cX11_next 7 = .ok (.iload 4, 2) := by decide +kernel
theorem dX11_next_9 : decode cX11_next 9 = .ok (.bipush 100, 2) := by decide +kernel
theorem dX11_next_11 : decode cX11_next 11 = .ok (.irem, 1) := by decide +kernel
theorem dX11_next_12 : decode cX11_next 12 = .ok (.istore 7, 2) := by decide +kernel
theorem dX11_next_14 : decode cX11_next 14 = .ok (.aload_n 0, 1) := by decide +kernel
theorem dX11_next_15 : decode cX11_next 15 = .ok (.getfield 10, 3) := by decide +kernel
theorem dX11_next_18 : decode cX11_next 18 = .ok (.iload_n 1, 1) := by decide +kernel
theorem dX11_next_19 : decode cX11_next 19 = .ok (.iload_n 2, 1) := by decide +kernel
theorem dX11_next_20 : decode cX11_next 20 = .ok (.iload_n 3, 1) := by decide +kernel
theorem dX11_next_21 : decode cX11_next 21 = .ok (.invokevirtual 132, 3) := by decide +kernel
theorem dX11_next_24 : decode cX11_next 24 = .ok (.ifCond .eq 35, 3) := by decide +kernel
theorem dX11_next_27 : decode cX11_next 27 = .ok (.iload 5, 2) := by decide +kernel
theorem dX11_next_29 : decode cX11_next 29 = .ok (.iconst 0, 1) := by decide +kernel
theorem dX11_next_30 : decode cX11_next 30 = .ok (.iconst 1, 1) := by decide +kernel
theorem dX11_next_31 : decode cX11_next 31 = .ok (.invokestatic 86, 3) := by decide +kernel
theorem dX11_next_34 : decode cX11_next 34 = .ok (.ifCond .ne 25, 3) := by decide +kernel
theorem dX11_next_37 : decode cX11_next 37 = .ok (.iload 6, 2) := by decide +kernel
theorem dX11_next_39 : decode cX11_next 39 = .ok (.iconst 0, 1) := by decide +kernel
theorem dX11_next_40 : decode cX11_next 40 = .ok (.bipush 60, 2) := by decide +kernel
theorem dX11_next_42 : decode cX11_next 42 = .ok (.invokestatic 86, 3) := by decide +kernel
theorem dX11_next_45 : decode cX11_next 45 = .ok (.ifCond .ne 14, 3) := by decide +kernel
theorem dX11_next_48 : decode cX11_next 48 = .ok (.iload 7, 2) := by decide +kernel
theorem dX11_next_50 : decode cX11_next 50 = .ok (.iconst 0, 1) := by decide +kernel
theorem dX11_next_51 : decode cX11_next 51 = .ok (.bipush 60, 2) := by decide +kernel
theorem dX11_next_53 : decode cX11_next 53 = .ok (.invokestatic 86, 3) := by decide +kernel
theorem dX11_next_56 : decode cX11_next 56 = .ok (.ifCond .eq 5, 3) := by decide +kernel
theorem dX11_next_59 : decode cX11_next 59 = .ok (.iconst (-1), 1) := by decide +kernel
theorem dX11_next_60 : decode cX11_next 60 = .ok (.ireturn, 1) := by decide +kernel
theorem dX11_next_61 : decode cX11_next 61 = .ok (.aload_n 0, 1) := by decide +kernel
theorem dX11_next_62 : decode cX11_next 62 = .ok (.getfield 10, 3) := by decide +kernel
theorem dX11_next_65 : decode cX11_next 65 = .ok (.iload_n 1, 1) := by decide +kernel
theorem dX11_next_66 : decode cX11_next 66 = .ok (.iload_n 2, 1) := by decide +kernel
theorem dX11_next_67 : decode cX11_next 67 = .ok (.iload_n 3, 1) := by decide +kernel
theorem dX11_next_68 : decode cX11_next 68 = .ok (.invokevirtual 135, 3) := by decide +kernel
theorem dX11_next_71 : decode cX11_next 71 = .ok (.astore 8, 2) := by decide +kernel
theorem dX11_next_73 : decode cX11_next 73 = .ok (.aload 8, 2) := by decide +kernel
theorem dX11_next_75 : decode cX11_next 75 = .ok (.invokevirtual 164, 3) := by decide +kernel
theorem dX11_next_78 : decode cX11_next 78 = .ok (.ifCond .ne 6, 3) := by decide +kernel
theorem dX11_next_81 : decode cX11_next 81 = .ok (.bipush (-4), 2) := by decide +kernel
theorem dX11_next_83 : decode cX11_next 83 = .ok (.ireturn, 1) := by decide +kernel
theorem dX11_next_84 : decode cX11_next 84 = .ok (.aload 8, 2) := by decide +kernel
theorem dX11_next_86 : decode cX11_next 86 = .ok (.getfield 139, 3) := by decide +kernel
theorem dX11_next_89 : decode cX11_next 89 = .ok (.aload 8, 2) := by decide +kernel
theorem dX11_next_91 : decode cX11_next 91 = .ok (.invokevirtual 177, 3) := by decide +kernel
theorem dX11_next_94 : decode cX11_next 94 = .ok (.iload 6, 2) := by decide +kernel
theorem dX11_next_96 : decode cX11_next 96 = .ok (.invokestatic 180, 3) := by decide +kernel
theorem dX11_next_99 : decode cX11_next 99 = .ok (.invokestatic 185, 3) := by decide +kernel
theorem dX11_next_102 : decode cX11_next 102 = .ok (.istore 9, 2) := by decide +kernel
theorem dX11_next_104 : decode cX11_next 104 = .ok (.aload 8, 2) := by decide +kernel
theorem dX11_next_106 : decode cX11_next 106 = .ok (.getfield 147, 3) := by decide +kernel
theorem dX11_next_109 : decode cX11_next 109 = .ok (.aload 8, 2) := by decide +kernel
theorem dX11_next_111 : decode cX11_next 111 = .ok (.invokevirtual 188, 3) := by decide +kernel
theorem dX11_next_114 : decode cX11_next 114 = .ok (.iload 7, 2) := by decide +kernel
theorem dX11_next_116 : decode cX11_next 116 = .ok (.invokestatic 180, 3) := by decide +kernel
theorem dX11_next_119 : decode cX11_next 119 = .ok (.invokestatic 185, 3) := by decide +kernel
theorem dX11_next_122 : decode cX11_next 122 = .ok (.istore 10, 2) := by decide +kernel
theorem dX11_next_124 : decode cX11_next 124 = .ok (.iload 5, 2) := by decide +kernel
theorem dX11_next_126 : decode cX11_next 126 = .ok (.ifCond .ne 12, 3) := by decide +kernel
theorem dX11_next_129 : decode cX11_next 129 = .ok (.bipush 100, 2) := by decide +kernel
theorem dX11_next_131 : decode cX11_next 131 = .ok (.iload 9, 2) := by decide +kernel
theorem dX11_next_133 : decode cX11_next 133 = .ok (.imul, 1) := by decide +kernel
theorem dX11_next_134 : decode cX11_next 134 = .ok (.iload 10, 2) := by decide +kernel
theorem dX11_next_136 : decode cX11_next 136 = .ok (.iadd, 1) := by decide +kernel
theorem dX11_next_137 : decode cX11_next 137 = .ok (.ireturn, 1) := by decide +kernel
theorem dX11_next_138 : decode cX11_next 138 = .ok (.iload 9, 2) := by decide +kernel
theorem dX11_next_140 : decode cX11_next 140 = .ok (.iload 6, 2) := by decide +kernel
theorem dX11_next_142 : decode cX11_next 142 = .ok (.isub, 1) := by decide +kernel
theorem dX11_next_143 : decode cX11_next 143 = .ok (.invokestatic 191, 3) := by decide +kernel
theorem dX11_next_146 : decode cX11_next 146 = .ok (.iload 10, 2) := by decide +kernel
theorem dX11_next_148 : decode cX11_next 148 = .ok (.iload 7, 2) := by decide +kernel
theorem dX11_next_150 : decode cX11_next 150 = .ok (.isub, 1) := by decide +kernel
theorem dX11_next_151 : decode cX11_next 151 = .ok (.invokestatic 191, 3) := by decide +kernel
theorem dX11_next_154 : decode cX11_next 154 = .ok (.iadd, 1) := by decide +kernel
theorem dX11_next_155 : decode cX11_next 155 = .ok (.ireturn, 1) := by decide +kernel
theorem dX11_halves_0 : decode cX11_halves 0 = .ok (.aload_n 0, 1) := by decide +kernel
theorem dX11_halves_1 : decode cX11_halves 1 = .ok (.getfield 10, 3) := by decide +kernel
theorem dX11_halves_4 : decode cX11_halves 4 = .ok (.iload_n 1, 1) := by decide +kernel
theorem dX11_halves_5 : decode cX11_halves 5 = .ok (.iload_n 2, 1) := by decide +kernel
theorem dX11_halves_6 : decode cX11_halves 6 = .ok (.iload_n 3, 1) := by decide +kernel
theorem dX11_halves_7 : decode cX11_halves 7 = .ok (.invokevirtual 132, 3) := by decide +kernel
theorem dX11_halves_10 : decode cX11_halves 10 = .ok (.ifCond .ne 5, 3) := by decide +kernel
theorem dX11_halves_13 : decode cX11_halves 13 = .ok (.iconst (-1), 1) := by decide +kernel
theorem dX11_halves_14 : decode cX11_halves 14 = .ok (.ireturn, 1) := by decide +kernel
theorem dX11_halves_15 : decode cX11_halves 15 = .ok (.aload_n 0, 1) := by decide +kernel
theorem dX11_halves_16 : decode cX11_halves 16 = .ok (.getfield 10, 3) := by decide +kernel
theorem dX11_halves_19 : decode cX11_halves 19 = .ok (.iload_n 1, 1) := by decide +kernel
theorem dX11_halves_20 : decode cX11_halves 20 = .ok (.iload_n 2, 1) := by decide +kernel
theorem dX11_halves_21 : decode cX11_halves 21 = .ok (.iload_n 3, 1) := by decide +kernel
theorem dX11_halves_22 : decode cX11_halves 22 = .ok (.invokevirtual 135, 3) := by decide +kernel
theorem dX11_halves_25 : decode cX11_halves 25 = .ok (.astore 4, 2) := by decide +kernel
theorem dX11_halves_27 : decode cX11_halves 27 = .ok (.iconst 0, 1) := by decide +kernel
theorem dX11_halves_28 : decode cX11_halves 28 = .ok (.istore 5, 2) := by decide +kernel
theorem dX11_halves_30 : decode cX11_halves 30 = .ok (.bipush 60, 2) := by decide +kernel
theorem dX11_halves_32 : decode cX11_halves 32 = .ok (.istore 6, 2) := by decide +kernel
theorem dX11_halves_34 : decode cX11_halves 34 = .ok (.iconst 1, 1) := by decide +kernel
theorem dX11_halves_35 : decode cX11_halves 35 = .ok (.istore 7, 2) := by decide +kernel
theorem dX11_halves_37 : decode cX11_halves 37 = .ok (.iload 7, 2) := by decide +kernel
theorem dX11_halves_39 : decode cX11_halves 39 = .ok (.bipush 61, 2) := by decide +kernel
theorem dX11_halves_41 : decode cX11_halves 41 = .ok (.if_icmp .gt 66, 3) := by decide +kernel
theorem dX11_halves_44 : decode cX11_halves 44 = .ok (.iload 5, 2) := by decide +kernel
theorem dX11_halves_46 : decode cX11_halves 46 = .ok (.iload 6, 2) := by decide +kernel
theorem dX11_halves_48 : decode cX11_halves 48 = .ok (.if_icmp .gt 59, 3) := by decide +kernel
theorem dX11_halves_51 : decode cX11_halves 51 = .ok (.iload 5, 2) := by decide +kernel
theorem dX11_halves_53 : decode cX11_halves 53 = .ok (.iload 6, 2) := by decide +kernel
theorem dX11_halves_55 : decode cX11_halves 55 = .ok (.iadd, 1) := by decide +kernel
theorem dX11_halves_56 : decode cX11_halves 56 = .ok (.iconst 2, 1) := by decide +kernel
theorem dX11_halves_57 : decode cX11_halves 57 = .ok (.idiv, 1) := by decide +kernel
theorem dX11_halves_58 : decode cX11_halves 58 = .ok (.istore 8, 2) := by decide +kernel
theorem dX11_halves_60 : decode cX11_halves 60 = .ok (.iload 8, 2) := by decide +kernel
theorem dX11_halves_62 : decode cX11_halves 62 = .ok (.aload 4, 2) := by decide +kernel
theorem dX11_halves_64 : decode cX11_halves 64 = .ok (.getfield 139, 3) := by decide +kernel
theorem dX11_halves_67 : decode cX11_halves 67 = .ok (.if_icmp .ge 12, 3) := by decide +kernel
theorem dX11_halves_70 : decode cX11_halves 70 = .ok (.iload 8, 2) := by decide +kernel
theorem dX11_halves_72 : decode cX11_halves 72 = .ok (.iconst 1, 1) := by decide +kernel
theorem dX11_halves_73 : decode cX11_halves 73 = .ok (.iadd, 1) := by decide +kernel
theorem dX11_halves_74 : decode cX11_halves 74 = .ok (.istore 5, 2) := by decide +kernel
theorem dX11_halves_76 : decode cX11_halves 76 = .ok (.goto 25, 3) := by decide +kernel
theorem dX11_halves_79 : decode cX11_halves 79 = .ok (.iload 8, 2) := by decide +kernel
theorem dX11_halves_81 : decode cX11_halves 81 = .ok (.aload 4, 2) := by decide +kernel
theorem dX11_halves_83 : decode cX11_halves 83 = .ok (.getfield 144, 3) := by decide +kernel
theorem dX11_halves_86 : decode cX11_halves 86 = .ok (.if_icmp .le 12, 3) := by decide +kernel
theorem dX11_halves_89 : decode cX11_halves 89 = .ok (.iload 8, 2) := by decide +kernel
theorem dX11_halves_91 : decode cX11_halves 91 = .ok (.iconst 1, 1) := by decide +kernel
theorem dX11_halves_92 : decode cX11_halves 92 = .ok (.isub, 1) := by decide +kernel
theorem dX11_halves_93 : decode cX11_halves 93 = .ok (.istore 6, 2) := by decide +kernel
theorem dX11_halves_95 : decode cX11_halves 95 = .ok (.goto 6, 3) := by decide +kernel
theorem dX11_halves_98 : decode cX11_halves 98 = .ok (.iload 7, 2) := by decide +kernel
theorem dX11_halves_100 : decode cX11_halves 100 = .ok (.ireturn, 1) := by decide +kernel
theorem dX11_halves_101 : decode cX11_halves 101 = .ok (.iinc 7 1, 3) := by decide +kernel
theorem dX11_halves_104 : decode cX11_halves 104 = .ok (.goto (-67), 3) := by decide +kernel
theorem dX11_halves_107 : decode cX11_halves 107 = .ok (.bipush (-4), 2) := by decide +kernel
theorem dX11_halves_109 : decode cX11_halves 109 = .ok (.ireturn, 1) := by decide +kernel
theorem dX11_ways_0 : decode cX11_ways 0 = .ok (.aload_n 0, 1) := by decide +kernel
theorem dX11_ways_1 : decode cX11_ways 1 = .ok (.getfield 10, 3) := by decide +kernel
theorem dX11_ways_4 : decode cX11_ways 4 = .ok (.iload_n 1, 1) := by decide +kernel
theorem dX11_ways_5 : decode cX11_ways 5 = .ok (.invokevirtual 83, 3) := by decide +kernel
theorem dX11_ways_8 : decode cX11_ways 8 = .ok (.ifCond .eq 13, 3) := by decide +kernel
theorem dX11_ways_11 : decode cX11_ways 11 = .ok (.iload_n 2, 1) := by decide +kernel
theorem dX11_ways_12 : decode cX11_ways 12 = .ok (.iconst 0, 1) := by decide +kernel
theorem dX11_ways_13 : decode cX11_ways 13 = .ok (.bipush 99, 2) := by decide +kernel
theorem dX11_ways_15 : decode cX11_ways 15 = .ok (.invokestatic 86, 3) := by decide +kernel
theorem dX11_ways_18 : decode cX11_ways 18 = .ok (.ifCond .eq 5, 3) := by decide +kernel
theorem dX11_ways_21 : decode cX11_ways 21 = .ok (.iconst (-1), 1) := by decide +kernel
theorem dX11_ways_22 : decode cX11_ways 22 = .ok (.ireturn, 1) := by decide +kernel
theorem dX11_ways_23 : decode cX11_ways 23 = .ok (.iconst 0, 1) := by decide +kernel
theorem dX11_ways_24 : decode cX11_ways 24 = .ok (.istore_n 3, 1) := by decide +kernel
theorem dX11_ways_25 : decode cX11_ways 25 = .ok (.iconst 0, 1) := by decide +kernel
theorem dX11_ways_26 : decode cX11_ways 26 = .ok (.istore 4, 2) := by decide +kernel
theorem dX11_ways_28 : decode cX11_ways 28 = .ok (.iload 4, 2) := by decide +kernel
theorem dX11_ways_30 : decode cX11_ways 30 = .ok (.aload_n 0, 1) := by decide +kernel
theorem dX11_ways_31 : decode cX11_ways 31 = .ok (.getfield 10, 3) := by decide +kernel
theorem dX11_ways_34 : decode cX11_ways 34 = .ok (.getfield 174, 3) := by decide +kernel
theorem dX11_ways_37 : decode cX11_ways 37 = .ok (.if_icmp .ge 43, 3) := by decide +kernel
theorem dX11_ways_40 : decode cX11_ways 40 = .ok (.iconst 0, 1) := by decide +kernel
theorem dX11_ways_41 : decode cX11_ways 41 = .ok (.istore 5, 2) := by decide +kernel
theorem dX11_ways_43 : decode cX11_ways 43 = .ok (.iload 5, 2) := by decide +kernel
theorem dX11_ways_45 : decode cX11_ways 45 = .ok (.aload_n 0, 1) := by decide +kernel
theorem dX11_ways_46 : decode cX11_ways 46 = .ok (.getfield 10, 3) := by decide +kernel
theorem dX11_ways_49 : decode cX11_ways 49 = .ok (.getfield 194, 3) := by decide +kernel
theorem dX11_ways_52 : decode cX11_ways 52 = .ok (.if_icmp .ge 22, 3) := by decide +kernel
theorem dX11_ways_55 : decode cX11_ways 55 = .ok (.iload_n 3, 1) := by decide +kernel
theorem dX11_ways_56 : decode cX11_ways 56 = .ok (.aload_n 0, 1) := by decide +kernel
theorem dX11_ways_57 : decode cX11_ways 57 = .ok (.iload 4, 2) := by decide +kernel
theorem dX11_ways_59 : decode cX11_ways 59 = .ok (.iload_n 1, 1) := by decide +kernel
theorem dX11_ways_60 : decode cX11_ways 60 = .ok (.iload 5, 2) := by decide +kernel
theorem dX11_ways_62 : decode cX11_ways 62 = .ok (.iload_n 2, 1) := by decide +kernel
theorem dX11_ways_63 : decode cX11_ways 63 = .ok (.invokevirtual 197, 3) := by decide +kernel
theorem dX11_ways_66 : decode cX11_ways 66 = .ok (.iadd, 1) := by decide +kernel
theorem dX11_ways_67 : decode cX11_ways 67 = .ok (.istore_n 3, 1) := by decide +kernel
theorem dX11_ways_68 : decode cX11_ways 68 = .ok (.iinc 5 1, 3) := by decide +kernel
theorem dX11_ways_71 : decode cX11_ways 71 = .ok (.goto (-28), 3) := by decide +kernel
theorem dX11_ways_74 : decode cX11_ways 74 = .ok (.iinc 4 1, 3) := by decide +kernel
theorem dX11_ways_77 : decode cX11_ways 77 = .ok (.goto (-49), 3) := by decide +kernel
theorem dX11_ways_80 : decode cX11_ways 80 = .ok (.iload_n 3, 1) := by decide +kernel
theorem dX11_ways_81 : decode cX11_ways 81 = .ok (.ireturn, 1) := by decide +kernel
theorem dX11_tune_0 : decode cX11_tune 0 = .ok (.aload_n 0, 1) := by decide +kernel
theorem dX11_tune_1 : decode cX11_tune 1 = .ok (.getfield 10, 3) := by decide +kernel
theorem dX11_tune_4 : decode cX11_tune 4 = .ok (.iload_n 1, 1) := by decide +kernel
theorem dX11_tune_5 : decode cX11_tune 5 = .ok (.invokevirtual 83, 3) := by decide +kernel
theorem dX11_tune_8 : decode cX11_tune 8 = .ok (.ifCond .eq 22, 3) := by decide +kernel
theorem dX11_tune_11 : decode cX11_tune 11 = .ok (.iload_n 2, 1) := by decide +kernel
theorem dX11_tune_12 : decode cX11_tune 12 = .ok (.iconst 0, 1) := by decide +kernel
theorem dX11_tune_13 : decode cX11_tune 13 = .ok (.ldc 201, 2) := by decide +kernel
theorem dX11_tune_15 : decode cX11_tune 15 = .ok (.invokestatic 86, 3) := by decide +kernel
theorem dX11_tune_18 : decode cX11_tune 18 = .ok (.ifCond .ne 12, 3) := by decide +kernel
theorem dX11_tune_21 : decode cX11_tune 21 = .ok (.iload_n 3, 1) := by decide +kernel
theorem dX11_tune_22 : decode cX11_tune 22 = .ok (.iconst 0, 1) := by decide +kernel
theorem dX11_tune_23 : decode cX11_tune 23 = .ok (.iconst 1, 1) := by decide +kernel
theorem dX11_tune_24 : decode cX11_tune 24 = .ok (.invokestatic 86, 3) := by decide +kernel
theorem dX11_tune_27 : decode cX11_tune 27 = .ok (.ifCond .eq 5, 3) := by decide +kernel
theorem dX11_tune_30 : decode cX11_tune 30 = .ok (.iconst (-1), 1) := by decide +kernel
theorem dX11_tune_31 : decode cX11_tune 31 = .ok (.ireturn, 1) := by decide +kernel
theorem dX11_tune_32 : decode cX11_tune 32 = .ok (.aload_n 0, 1) := by decide +kernel
theorem dX11_tune_33 : decode cX11_tune 33 = .ok (.iload_n 1, 1) := by decide +kernel
theorem dX11_tune_34 : decode cX11_tune 34 = .ok (.iload_n 2, 1) := by decide +kernel
theorem dX11_tune_35 : decode cX11_tune 35 = .ok (.sipush 10000, 3) := by decide +kernel
theorem dX11_tune_38 : decode cX11_tune 38 = .ok (.idiv, 1) := by decide +kernel
theorem dX11_tune_39 : decode cX11_tune 39 = .ok (.invokevirtual 202, 3) := by decide +kernel
theorem dX11_tune_42 : decode cX11_tune 42 = .ok (.istore 4, 2) := by decide +kernel
theorem dX11_tune_44 : decode cX11_tune 44 = .ok (.aload_n 0, 1) := by decide +kernel
theorem dX11_tune_45 : decode cX11_tune 45 = .ok (.iload_n 1, 1) := by decide +kernel
theorem dX11_tune_46 : decode cX11_tune 46 = .ok (.iload_n 2, 1) := by decide +kernel
theorem dX11_tune_47 : decode cX11_tune 47 = .ok (.bipush 100, 2) := by decide +kernel
theorem dX11_tune_49 : decode cX11_tune 49 = .ok (.idiv, 1) := by decide +kernel
theorem dX11_tune_50 : decode cX11_tune 50 = .ok (.bipush 100, 2) := by decide +kernel
theorem dX11_tune_52 : decode cX11_tune 52 = .ok (.irem, 1) := by decide +kernel
theorem dX11_tune_53 : decode cX11_tune 53 = .ok (.invokevirtual 202, 3) := by decide +kernel
theorem dX11_tune_56 : decode cX11_tune 56 = .ok (.istore 5, 2) := by decide +kernel
theorem dX11_tune_58 : decode cX11_tune 58 = .ok (.aload_n 0, 1) := by decide +kernel
theorem dX11_tune_59 : decode cX11_tune 59 = .ok (.iload_n 1, 1) := by decide +kernel
theorem dX11_tune_60 : decode cX11_tune 60 = .ok (.iload_n 2, 1) := by decide +kernel
theorem dX11_tune_61 : decode cX11_tune 61 = .ok (.bipush 100, 2) := by decide +kernel
theorem dX11_tune_63 : decode cX11_tune 63 = .ok (.irem, 1) := by decide +kernel
theorem dX11_tune_64 : decode cX11_tune 64 = .ok (.invokevirtual 202, 3) := by decide +kernel
theorem dX11_tune_67 : decode cX11_tune 67 = .ok (.istore 6, 2) := by decide +kernel
theorem dX11_tune_69 : decode cX11_tune 69 = .ok (.iload_n 3, 1) := by decide +kernel
theorem dX11_tune_70 : decode cX11_tune 70 = .ok (.ifCond .ne 21, 3) := by decide +kernel
theorem dX11_tune_73 : decode cX11_tune 73 = .ok (.iload 4, 2) := by decide +kernel
theorem dX11_tune_75 : decode cX11_tune 75 = .ok (.iload 5, 2) := by decide +kernel
theorem dX11_tune_77 : decode cX11_tune 77 = .ok (.iload 6, 2) := by decide +kernel
theorem dX11_tune_79 : decode cX11_tune 79 = .ok (.invokestatic 205, 3) := by decide +kernel
theorem dX11_tune_82 : decode cX11_tune 82 = .ok (.ifCond .eq 7, 3) := by decide +kernel
theorem dX11_tune_85 : decode cX11_tune 85 = .ok (.iconst 1, 1) := by decide +kernel
theorem dX11_tune_86 : decode cX11_tune 86 = .ok (.goto 4, 3) := by decide +kernel
theorem dX11_tune_89 : decode cX11_tune 89 = .ok (.iconst 0, 1) := by decide +kernel
theorem dX11_tune_90 : decode cX11_tune 90 = .ok (.ireturn, 1) := by decide +kernel
theorem dX11_tune_91 : decode cX11_tune 91 = .ok (.iload 4, 2) := by decide +kernel
theorem dX11_tune_93 : decode cX11_tune 93 = .ok (.ifCond .eq 7, 3) := by decide +kernel
theorem dX11_tune_96 : decode cX11_tune 96 = .ok (.iconst 1, 1) := by decide +kernel
theorem dX11_tune_97 : decode cX11_tune 97 = .ok (.goto 4, 3) := by decide +kernel
theorem dX11_tune_100 : decode cX11_tune 100 = .ok (.iconst 0, 1) := by decide +kernel
theorem dX11_tune_101 : decode cX11_tune 101 = .ok (.iload 5, 2) := by decide +kernel
theorem dX11_tune_103 : decode cX11_tune 103 = .ok (.ifCond .eq 7, 3) := by decide +kernel
theorem dX11_tune_106 : decode cX11_tune 106 = .ok (.iconst 1, 1) := by decide +kernel
theorem dX11_tune_107 : decode cX11_tune 107 = .ok (.goto 4, 3) := by decide +kernel
theorem dX11_tune_110 : decode cX11_tune 110 = .ok (.iconst 0, 1) := by decide +kernel
theorem dX11_tune_111 : decode cX11_tune 111 = .ok (.iadd, 1) := by decide +kernel
theorem dX11_tune_112 : decode cX11_tune 112 = .ok (.iload 6, 2) := by decide +kernel
theorem dX11_tune_114 : decode cX11_tune 114 = .ok (.ifCond .eq 7, 3) := by decide +kernel
theorem dX11_tune_117 : decode cX11_tune 117 = .ok (.iconst 1, 1) := by decide +kernel
theorem dX11_tune_118 : decode cX11_tune 118 = .ok (.goto 4, 3) := by decide +kernel
theorem dX11_tune_121 : decode cX11_tune 121 = .ok (.iconst 0, 1) := by decide +kernel
theorem dX11_tune_122 : decode cX11_tune 122 = .ok (.iadd, 1) := by decide +kernel
theorem dX11_tune_123 : decode cX11_tune 123 = .ok (.ireturn, 1) := by decide +kernel
theorem dX11_lasts_0 : decode cX11_lasts 0 = .ok (.aload_n 0, 1) := by decide +kernel
theorem dX11_lasts_1 : decode cX11_lasts 1 = .ok (.getfield 10, 3) := by decide +kernel
theorem dX11_lasts_4 : decode cX11_lasts 4 = .ok (.iload_n 1, 1) := by decide +kernel
theorem dX11_lasts_5 : decode cX11_lasts 5 = .ok (.invokevirtual 63, 3) := by decide +kernel
theorem dX11_lasts_8 : decode cX11_lasts 8 = .ok (.ifCond .eq 24, 3) := by decide +kernel
theorem dX11_lasts_11 : decode cX11_lasts 11 = .ok (.aload_n 0, 1) := by decide +kernel
theorem dX11_lasts_12 : decode cX11_lasts 12 = .ok (.getfield 10, 3) := by decide +kernel
theorem dX11_lasts_15 : decode cX11_lasts 15 = .ok (.iload_n 2, 1) := by decide +kernel
theorem dX11_lasts_16 : decode cX11_lasts 16 = .ok (.invokevirtual 96, 3) := by decide +kernel
theorem dX11_lasts_19 : decode cX11_lasts 19 = .ok (.ifCond .eq 13, 3) := by decide +kernel
theorem dX11_lasts_22 : decode cX11_lasts 22 = .ok (.iload_n 3, 1) := by decide +kernel
theorem dX11_lasts_23 : decode cX11_lasts 23 = .ok (.iconst 0, 1) := by decide +kernel
theorem dX11_lasts_24 : decode cX11_lasts 24 = .ok (.bipush 60, 2) := by decide +kernel
theorem dX11_lasts_26 : decode cX11_lasts 26 = .ok (.invokestatic 86, 3) := by decide +kernel
theorem dX11_lasts_29 : decode cX11_lasts 29 = .ok (.ifCond .eq 5, 3) := by decide +kernel
theorem dX11_lasts_32 : decode cX11_lasts 32 = .ok (.iconst (-1), 1) := by decide +kernel
theorem dX11_lasts_33 : decode cX11_lasts 33 = .ok (.ireturn, 1) := by decide +kernel
theorem dX11_lasts_34 : decode cX11_lasts 34 = .ok (.aload_n 0, 1) := by decide +kernel
theorem dX11_lasts_35 : decode cX11_lasts 35 = .ok (.getfield 10, 3) := by decide +kernel
theorem dX11_lasts_38 : decode cX11_lasts 38 = .ok (.iload_n 1, 1) := by decide +kernel
theorem dX11_lasts_39 : decode cX11_lasts 39 = .ok (.invokevirtual 80, 3) := by decide +kernel
theorem dX11_lasts_42 : decode cX11_lasts 42 = .ok (.ifCond .eq 8, 3) := by decide +kernel
theorem dX11_lasts_45 : decode cX11_lasts 45 = .ok (.bipush (-3), 2) := by decide +kernel
theorem dX11_lasts_47 : decode cX11_lasts 47 = .ok (.goto 10, 3) := by decide +kernel
theorem dX11_lasts_50 : decode cX11_lasts 50 = .ok (.aload_n 0, 1) := by decide +kernel
theorem dX11_lasts_51 : decode cX11_lasts 51 = .ok (.iload_n 1, 1) := by decide +kernel
theorem dX11_lasts_52 : decode cX11_lasts 52 = .ok (.iload_n 2, 1) := by decide +kernel
theorem dX11_lasts_53 : decode cX11_lasts 53 = .ok (.iload_n 3, 1) := by decide +kernel
theorem dX11_lasts_54 : decode cX11_lasts 54 = .ok (.invokevirtual 208, 3) := by decide +kernel
theorem dX11_lasts_57 : decode cX11_lasts 57 = .ok (.ireturn, 1) := by decide +kernel
theorem dX11_bestForce_0 : decode cX11_bestForce 0 = .ok (.aload_n 0, 1) := by decide +kernel
theorem dX11_bestForce_1 : decode cX11_bestForce 1 = .ok (.getfield 10, 3) := by decide +kernel
theorem dX11_bestForce_4 : decode cX11_bestForce 4 = .ok (.iload_n 1, 1) := by decide +kernel
theorem dX11_bestForce_5 : decode cX11_bestForce 5 = .ok (.iload_n 2, 1) := by decide +kernel
theorem dX11_bestForce_6 : decode cX11_bestForce 6 = .ok (.iload_n 3, 1) := by decide +kernel
theorem dX11_bestForce_7 : decode cX11_bestForce 7 = .ok (.invokevirtual 132, 3) := by decide +kernel
theorem dX11_bestForce_10 : decode cX11_bestForce 10 = .ok (.ifCond .ne 5, 3) := by decide +kernel
theorem dX11_bestForce_13 : decode cX11_bestForce 13 = .ok (.iconst (-1), 1) := by decide +kernel
theorem dX11_bestForce_14 : decode cX11_bestForce 14 = .ok (.ireturn, 1) := by decide +kernel
theorem dX11_bestForce_15 : decode cX11_bestForce 15 = .ok (.aload_n 0, 1) := by decide +kernel
theorem dX11_bestForce_16 : decode cX11_bestForce 16 = .ok (.getfield 10, 3) := by decide +kernel
theorem dX11_bestForce_19 : decode cX11_bestForce 19 = .ok (.iload_n 1, 1) := by decide +kernel
theorem dX11_bestForce_20 : decode cX11_bestForce 20 = .ok (.invokevirtual 80, 3) := by decide +kernel
theorem dX11_bestForce_23 : decode cX11_bestForce 23 = .ok (.ifCond .eq 6, 3) := by decide +kernel
theorem dX11_bestForce_26 : decode cX11_bestForce 26 = .ok (.bipush (-3), 2) := by decide +kernel
theorem dX11_bestForce_28 : decode cX11_bestForce 28 = .ok (.ireturn, 1) := by decide +kernel
theorem dX11_bestForce_29 : decode cX11_bestForce 29 = .ok (.aload_n 0, 1) := by decide +kernel
theorem dX11_bestForce_30 : decode cX11_bestForce 30 = .ok (.getfield 10, 3) := by decide +kernel
theorem dX11_bestForce_33 : decode cX11_bestForce 33 = .ok (.iload_n 1, 1) := by decide +kernel
theorem dX11_bestForce_34 : decode cX11_bestForce 34 = .ok (.iload_n 2, 1) := by decide +kernel
theorem dX11_bestForce_35 : decode cX11_bestForce 35 = .ok (.iload_n 3, 1) := by decide +kernel
theorem dX11_bestForce_36 : decode cX11_bestForce 36 = .ok (.invokevirtual 135, 3) := by decide +kernel
theorem dX11_bestForce_39 : decode cX11_bestForce 39 = .ok (.astore 4, 2) := by decide +kernel
theorem dX11_bestForce_41 : decode cX11_bestForce 41 = .ok (.aload 4, 2) := by decide +kernel
theorem dX11_bestForce_43 : decode cX11_bestForce 43 = .ok (.invokevirtual 164, 3) := by decide +kernel
theorem dX11_bestForce_46 : decode cX11_bestForce 46 = .ok (.ifCond .ne 6, 3) := by decide +kernel
theorem dX11_bestForce_49 : decode cX11_bestForce 49 = .ok (.bipush (-4), 2) := by decide +kernel
theorem dX11_bestForce_51 : decode cX11_bestForce 51 = .ok (.ireturn, 1) := by decide +kernel
theorem dX11_bestForce_52 : decode cX11_bestForce 52 = .ok (.bipush (-4), 2) := by decide +kernel
theorem dX11_bestForce_54 : decode cX11_bestForce 54 = .ok (.istore 5, 2) := by decide +kernel
theorem dX11_bestForce_56 : decode cX11_bestForce 56 = .ok (.iconst 0, 1) := by decide +kernel
theorem dX11_bestForce_57 : decode cX11_bestForce 57 = .ok (.istore 6, 2) := by decide +kernel
theorem dX11_bestForce_59 : decode cX11_bestForce 59 = .ok (.aload 4, 2) := by decide +kernel
theorem dX11_bestForce_61 : decode cX11_bestForce 61 = .ok (.getfield 147, 3) := by decide +kernel
theorem dX11_bestForce_64 : decode cX11_bestForce 64 = .ok (.istore 7, 2) := by decide +kernel
theorem dX11_bestForce_66 : decode cX11_bestForce 66 = .ok (.iload 7, 2) := by decide +kernel
theorem dX11_bestForce_68 : decode cX11_bestForce 68 = .ok (.aload 4, 2) := by decide +kernel
theorem dX11_bestForce_70 : decode cX11_bestForce 70 = .ok (.invokevirtual 188, 3) := by decide +kernel
theorem dX11_bestForce_73 : decode cX11_bestForce 73 = .ok (.if_icmp .gt 34, 3) := by decide +kernel
theorem dX11_bestForce_76 : decode cX11_bestForce 76 = .ok (.aload_n 0, 1) := by decide +kernel
theorem dX11_bestForce_77 : decode cX11_bestForce 77 = .ok (.iload_n 1, 1) := by decide +kernel
theorem dX11_bestForce_78 : decode cX11_bestForce 78 = .ok (.iload_n 3, 1) := by decide +kernel
theorem dX11_bestForce_79 : decode cX11_bestForce 79 = .ok (.iload 7, 2) := by decide +kernel
theorem dX11_bestForce_81 : decode cX11_bestForce 81 = .ok (.invokevirtual 208, 3) := by decide +kernel
theorem dX11_bestForce_84 : decode cX11_bestForce 84 = .ok (.istore 8, 2) := by decide +kernel
theorem dX11_bestForce_86 : decode cX11_bestForce 86 = .ok (.iload 8, 2) := by decide +kernel
theorem dX11_bestForce_88 : decode cX11_bestForce 88 = .ok (.iload 6, 2) := by decide +kernel
theorem dX11_bestForce_90 : decode cX11_bestForce 90 = .ok (.if_icmp .le 11, 3) := by decide +kernel
theorem dX11_bestForce_93 : decode cX11_bestForce 93 = .ok (.iload 8, 2) := by decide +kernel
theorem dX11_bestForce_95 : decode cX11_bestForce 95 = .ok (.istore 6, 2) := by decide +kernel
theorem dX11_bestForce_97 : decode cX11_bestForce 97 = .ok (.iload 7, 2) := by decide +kernel
theorem dX11_bestForce_99 : decode cX11_bestForce 99 = .ok (.istore 5, 2) := by decide +kernel
theorem dX11_bestForce_101 : decode cX11_bestForce 101 = .ok (.iinc 7 1, 3) := by decide +kernel
theorem dX11_bestForce_104 : decode cX11_bestForce 104 = .ok (.goto (-38), 3) := by decide +kernel
theorem dX11_bestForce_107 : decode cX11_bestForce 107 = .ok (.iload 5, 2) := by decide +kernel
theorem dX11_bestForce_109 : decode cX11_bestForce 109 = .ok (.ireturn, 1) := by decide +kernel
theorem dX11_clash_0 : decode cX11_clash 0 = .ok (.aload_n 0, 1) := by decide +kernel
theorem dX11_clash_1 : decode cX11_clash 1 = .ok (.getfield 10, 3) := by decide +kernel
theorem dX11_clash_4 : decode cX11_clash 4 = .ok (.iload_n 1, 1) := by decide +kernel
theorem dX11_clash_5 : decode cX11_clash 5 = .ok (.invokevirtual 96, 3) := by decide +kernel
theorem dX11_clash_8 : decode cX11_clash 8 = .ok (.ifCond .eq 22, 3) := by decide +kernel
theorem dX11_clash_11 : decode cX11_clash 11 = .ok (.iload_n 2, 1) := by decide +kernel
theorem dX11_clash_12 : decode cX11_clash 12 = .ok (.iconst 0, 1) := by decide +kernel
theorem dX11_clash_13 : decode cX11_clash 13 = .ok (.bipush 60, 2) := by decide +kernel
theorem dX11_clash_15 : decode cX11_clash 15 = .ok (.invokestatic 86, 3) := by decide +kernel
theorem dX11_clash_18 : decode cX11_clash 18 = .ok (.ifCond .ne 12, 3) := by decide +kernel
theorem dX11_clash_21 : decode cX11_clash 21 = .ok (.iload_n 3, 1) := by decide +kernel
theorem dX11_clash_22 : decode cX11_clash 22 = .ok (.iconst 0, 1) := by decide +kernel
theorem dX11_clash_23 : decode cX11_clash 23 = .ok (.iconst 1, 1) := by decide +kernel
theorem dX11_clash_24 : decode cX11_clash 24 = .ok (.invokestatic 86, 3) := by decide +kernel
theorem dX11_clash_27 : decode cX11_clash 27 = .ok (.ifCond .eq 5, 3) := by decide +kernel
theorem dX11_clash_30 : decode cX11_clash 30 = .ok (.iconst (-1), 1) := by decide +kernel
theorem dX11_clash_31 : decode cX11_clash 31 = .ok (.ireturn, 1) := by decide +kernel
theorem dX11_clash_32 : decode cX11_clash 32 = .ok (.iconst 0, 1) := by decide +kernel
theorem dX11_clash_33 : decode cX11_clash 33 = .ok (.istore 4, 2) := by decide +kernel
theorem dX11_clash_35 : decode cX11_clash 35 = .ok (.bipush (-4), 2) := by decide +kernel
theorem dX11_clash_37 : decode cX11_clash 37 = .ok (.istore 5, 2) := by decide +kernel
theorem dX11_clash_39 : decode cX11_clash 39 = .ok (.iconst 0, 1) := by decide +kernel
theorem dX11_clash_40 : decode cX11_clash 40 = .ok (.istore 6, 2) := by decide +kernel
theorem dX11_clash_42 : decode cX11_clash 42 = .ok (.iload 6, 2) := by decide +kernel
theorem dX11_clash_44 : decode cX11_clash 44 = .ok (.aload_n 0, 1) := by decide +kernel
theorem dX11_clash_45 : decode cX11_clash 45 = .ok (.getfield 10, 3) := by decide +kernel
theorem dX11_clash_48 : decode cX11_clash 48 = .ok (.getfield 174, 3) := by decide +kernel
theorem dX11_clash_51 : decode cX11_clash 51 = .ok (.if_icmp .ge 70, 3) := by decide +kernel
theorem dX11_clash_54 : decode cX11_clash 54 = .ok (.iload 6, 2) := by decide +kernel
theorem dX11_clash_56 : decode cX11_clash 56 = .ok (.iconst 1, 1) := by decide +kernel
theorem dX11_clash_57 : decode cX11_clash 57 = .ok (.iadd, 1) := by decide +kernel
theorem dX11_clash_58 : decode cX11_clash 58 = .ok (.istore 7, 2) := by decide +kernel
theorem dX11_clash_60 : decode cX11_clash 60 = .ok (.iload 7, 2) := by decide +kernel
theorem dX11_clash_62 : decode cX11_clash 62 = .ok (.aload_n 0, 1) := by decide +kernel
theorem dX11_clash_63 : decode cX11_clash 63 = .ok (.getfield 10, 3) := by decide +kernel
theorem dX11_clash_66 : decode cX11_clash 66 = .ok (.getfield 174, 3) := by decide +kernel
theorem dX11_clash_69 : decode cX11_clash 69 = .ok (.if_icmp .ge 46, 3) := by decide +kernel
theorem dX11_clash_72 : decode cX11_clash 72 = .ok (.aload_n 0, 1) := by decide +kernel
theorem dX11_clash_73 : decode cX11_clash 73 = .ok (.iload 6, 2) := by decide +kernel
theorem dX11_clash_75 : decode cX11_clash 75 = .ok (.iload 7, 2) := by decide +kernel
theorem dX11_clash_77 : decode cX11_clash 77 = .ok (.iload_n 1, 1) := by decide +kernel
theorem dX11_clash_78 : decode cX11_clash 78 = .ok (.iload_n 2, 1) := by decide +kernel
theorem dX11_clash_79 : decode cX11_clash 79 = .ok (.invokevirtual 211, 3) := by decide +kernel
theorem dX11_clash_82 : decode cX11_clash 82 = .ok (.ifCond .eq 27, 3) := by decide +kernel
theorem dX11_clash_85 : decode cX11_clash 85 = .ok (.iinc 4 1, 3) := by decide +kernel
theorem dX11_clash_88 : decode cX11_clash 88 = .ok (.iload 4, 2) := by decide +kernel
theorem dX11_clash_90 : decode cX11_clash 90 = .ok (.iconst 1, 1) := by decide +kernel
theorem dX11_clash_91 : decode cX11_clash 91 = .ok (.if_icmp .ne 14, 3) := by decide +kernel
theorem dX11_clash_94 : decode cX11_clash 94 = .ok (.bipush 10, 2) := by decide +kernel
theorem dX11_clash_96 : decode cX11_clash 96 = .ok (.iload 6, 2) := by decide +kernel
theorem dX11_clash_98 : decode cX11_clash 98 = .ok (.imul, 1) := by decide +kernel
theorem dX11_clash_99 : decode cX11_clash 99 = .ok (.iload 7, 2) := by decide +kernel
theorem dX11_clash_101 : decode cX11_clash 101 = .ok (.iadd, 1) := by decide +kernel
theorem dX11_clash_102 : decode cX11_clash 102 = .ok (.goto 5, 3) := by decide +kernel
theorem dX11_clash_105 : decode cX11_clash 105 = .ok (.iload 5, 2) := by decide +kernel
theorem dX11_clash_107 : decode cX11_clash 107 = .ok (.istore 5, 2) := by decide +kernel
theorem dX11_clash_109 : decode cX11_clash 109 = .ok (.iinc 7 1, 3) := by decide +kernel
theorem dX11_clash_112 : decode cX11_clash 112 = .ok (.goto (-52), 3) := by decide +kernel
theorem dX11_clash_115 : decode cX11_clash 115 = .ok (.iinc 6 1, 3) := by decide +kernel
theorem dX11_clash_118 : decode cX11_clash 118 = .ok (.goto (-76), 3) := by decide +kernel
theorem dX11_clash_121 : decode cX11_clash 121 = .ok (.iload_n 3, 1) := by decide +kernel
theorem dX11_clash_122 : decode cX11_clash 122 = .ok (.ifCond .ne 8, 3) := by decide +kernel
theorem dX11_clash_125 : decode cX11_clash 125 = .ok (.iload 4, 2) := by decide +kernel
theorem dX11_clash_127 : decode cX11_clash 127 = .ok (.goto 5, 3) := by decide +kernel
theorem dX11_clash_130 : decode cX11_clash 130 = .ok (.iload 5, 2) := by decide +kernel
theorem dX11_clash_132 : decode cX11_clash 132 = .ok (.ireturn, 1) := by decide +kernel
theorem dX11_heard_0 : decode cX11_heard 0 = .ok (.iload_n 1, 1) := by decide +kernel
theorem dX11_heard_1 : decode cX11_heard 1 = .ok (.iconst 0, 1) := by decide +kernel
theorem dX11_heard_2 : decode cX11_heard 2 = .ok (.bipush 99, 2) := by decide +kernel
theorem dX11_heard_4 : decode cX11_heard 4 = .ok (.invokestatic 86, 3) := by decide +kernel
theorem dX11_heard_7 : decode cX11_heard 7 = .ok (.ifCond .ne 13, 3) := by decide +kernel
theorem dX11_heard_10 : decode cX11_heard 10 = .ok (.iload_n 2, 1) := by decide +kernel
theorem dX11_heard_11 : decode cX11_heard 11 = .ok (.iconst 0, 1) := by decide +kernel
theorem dX11_heard_12 : decode cX11_heard 12 = .ok (.bipush 60, 2) := by decide +kernel
theorem dX11_heard_14 : decode cX11_heard 14 = .ok (.invokestatic 86, 3) := by decide +kernel
theorem dX11_heard_17 : decode cX11_heard 17 = .ok (.ifCond .eq 5, 3) := by decide +kernel
theorem dX11_heard_20 : decode cX11_heard 20 = .ok (.iconst (-1), 1) := by decide +kernel
theorem dX11_heard_21 : decode cX11_heard 21 = .ok (.ireturn, 1) := by decide +kernel
theorem dX11_heard_22 : decode cX11_heard 22 = .ok (.iload_n 1, 1) := by decide +kernel
theorem dX11_heard_23 : decode cX11_heard 23 = .ok (.bipush 70, 2) := by decide +kernel
theorem dX11_heard_25 : decode cX11_heard 25 = .ok (.if_icmp .le 7, 3) := by decide +kernel
theorem dX11_heard_28 : decode cX11_heard 28 = .ok (.iconst 1, 1) := by decide +kernel
theorem dX11_heard_29 : decode cX11_heard 29 = .ok (.goto 4, 3) := by decide +kernel
theorem dX11_heard_32 : decode cX11_heard 32 = .ok (.iconst 0, 1) := by decide +kernel
theorem dX11_heard_33 : decode cX11_heard 33 = .ok (.istore_n 3, 1) := by decide +kernel
theorem dX11_heard_34 : decode cX11_heard 34 = .ok (.iload_n 1, 1) := by decide +kernel
theorem dX11_heard_35 : decode cX11_heard 35 = .ok (.bipush 50, 2) := by decide +kernel
theorem dX11_heard_37 : decode cX11_heard 37 = .ok (.if_icmp .lt 19, 3) := by decide +kernel
theorem dX11_heard_40 : decode cX11_heard 40 = .ok (.iload_n 1, 1) := by decide +kernel
theorem dX11_heard_41 : decode cX11_heard 41 = .ok (.bipush 70, 2) := by decide +kernel
theorem dX11_heard_43 : decode cX11_heard 43 = .ok (.if_icmp .gt 13, 3) := by decide +kernel
theorem dX11_heard_46 : decode cX11_heard 46 = .ok (.iload_n 2, 1) := by decide +kernel
theorem dX11_heard_47 : decode cX11_heard 47 = .ok (.bipush 20, 2) := by decide +kernel
theorem dX11_heard_49 : decode cX11_heard 49 = .ok (.if_icmp .gt 7, 3) := by decide +kernel
theorem dX11_heard_52 : decode cX11_heard 52 = .ok (.iconst 2, 1) := by decide +kernel
theorem dX11_heard_53 : decode cX11_heard 53 = .ok (.goto 4, 3) := by decide +kernel
theorem dX11_heard_56 : decode cX11_heard 56 = .ok (.iconst 0, 1) := by decide +kernel
theorem dX11_heard_57 : decode cX11_heard 57 = .ok (.istore 4, 2) := by decide +kernel
theorem dX11_heard_59 : decode cX11_heard 59 = .ok (.iload_n 1, 1) := by decide +kernel
theorem dX11_heard_60 : decode cX11_heard 60 = .ok (.bipush 60, 2) := by decide +kernel
theorem dX11_heard_62 : decode cX11_heard 62 = .ok (.if_icmp .le 13, 3) := by decide +kernel
theorem dX11_heard_65 : decode cX11_heard 65 = .ok (.iload_n 2, 1) := by decide +kernel
theorem dX11_heard_66 : decode cX11_heard 66 = .ok (.bipush 20, 2) := by decide +kernel
theorem dX11_heard_68 : decode cX11_heard 68 = .ok (.if_icmp .le 7, 3) := by decide +kernel
theorem dX11_heard_71 : decode cX11_heard 71 = .ok (.iconst 4, 1) := by decide +kernel
theorem dX11_heard_72 : decode cX11_heard 72 = .ok (.goto 4, 3) := by decide +kernel
theorem dX11_heard_75 : decode cX11_heard 75 = .ok (.iconst 0, 1) := by decide +kernel
theorem dX11_heard_76 : decode cX11_heard 76 = .ok (.istore 5, 2) := by decide +kernel
theorem dX11_heard_78 : decode cX11_heard 78 = .ok (.iload_n 1, 1) := by decide +kernel
theorem dX11_heard_79 : decode cX11_heard 79 = .ok (.bipush 7, 2) := by decide +kernel
theorem dX11_heard_81 : decode cX11_heard 81 = .ok (.irem, 1) := by decide +kernel
theorem dX11_heard_82 : decode cX11_heard 82 = .ok (.iconst 3, 1) := by decide +kernel
theorem dX11_heard_83 : decode cX11_heard 83 = .ok (.if_icmp .ne 8, 3) := by decide +kernel
theorem dX11_heard_86 : decode cX11_heard 86 = .ok (.bipush 8, 2) := by decide +kernel
theorem dX11_heard_88 : decode cX11_heard 88 = .ok (.goto 4, 3) := by decide +kernel
theorem dX11_heard_91 : decode cX11_heard 91 = .ok (.iconst 0, 1) := by decide +kernel
theorem dX11_heard_92 : decode cX11_heard 92 = .ok (.istore 6, 2) := by decide +kernel
theorem dX11_heard_94 : decode cX11_heard 94 = .ok (.iload_n 3, 1) := by decide +kernel
theorem dX11_heard_95 : decode cX11_heard 95 = .ok (.iload 4, 2) := by decide +kernel
theorem dX11_heard_97 : decode cX11_heard 97 = .ok (.iadd, 1) := by decide +kernel
theorem dX11_heard_98 : decode cX11_heard 98 = .ok (.iload 5, 2) := by decide +kernel
theorem dX11_heard_100 : decode cX11_heard 100 = .ok (.iadd, 1) := by decide +kernel
theorem dX11_heard_101 : decode cX11_heard 101 = .ok (.iload 6, 2) := by decide +kernel
theorem dX11_heard_103 : decode cX11_heard 103 = .ok (.iadd, 1) := by decide +kernel
theorem dX11_heard_104 : decode cX11_heard 104 = .ok (.ireturn, 1) := by decide +kernel
theorem dX11_nearer_0 : decode cX11_nearer 0 = .ok (.iload_n 1, 1) := by decide +kernel
theorem dX11_nearer_1 : decode cX11_nearer 1 = .ok (.iconst 0, 1) := by decide +kernel
theorem dX11_nearer_2 : decode cX11_nearer 2 = .ok (.bipush 12, 2) := by decide +kernel
theorem dX11_nearer_4 : decode cX11_nearer 4 = .ok (.invokestatic 86, 3) := by decide +kernel
theorem dX11_nearer_7 : decode cX11_nearer 7 = .ok (.ifCond .ne 30, 3) := by decide +kernel
theorem dX11_nearer_10 : decode cX11_nearer 10 = .ok (.iload_n 2, 1) := by decide +kernel
theorem dX11_nearer_11 : decode cX11_nearer 11 = .ok (.invokestatic 215, 3) := by decide +kernel
theorem dX11_nearer_14 : decode cX11_nearer 14 = .ok (.ifCond .eq 23, 3) := by decide +kernel
theorem dX11_nearer_17 : decode cX11_nearer 17 = .ok (.iload_n 3, 1) := by decide +kernel
theorem dX11_nearer_18 : decode cX11_nearer 18 = .ok (.iconst 0, 1) := by decide +kernel
theorem dX11_nearer_19 : decode cX11_nearer 19 = .ok (.bipush 9, 2) := by decide +kernel
theorem dX11_nearer_21 : decode cX11_nearer 21 = .ok (.invokestatic 86, 3) := by decide +kernel
theorem dX11_nearer_24 : decode cX11_nearer 24 = .ok (.ifCond .ne 13, 3) := by decide +kernel
theorem dX11_nearer_27 : decode cX11_nearer 27 = .ok (.iload 4, 2) := by decide +kernel
theorem dX11_nearer_29 : decode cX11_nearer 29 = .ok (.iconst 0, 1) := by decide +kernel
theorem dX11_nearer_30 : decode cX11_nearer 30 = .ok (.iconst 1, 1) := by decide +kernel
theorem dX11_nearer_31 : decode cX11_nearer 31 = .ok (.invokestatic 86, 3) := by decide +kernel
theorem dX11_nearer_34 : decode cX11_nearer 34 = .ok (.ifCond .eq 7, 3) := by decide +kernel
theorem dX11_nearer_37 : decode cX11_nearer 37 = .ok (.ldc2_w 218, 3) := by decide +kernel
theorem dX11_nearer_40 : decode cX11_nearer 40 = .ok (.lreturn, 1) := by decide +kernel
theorem dX11_nearer_41 : decode cX11_nearer 41 = .ok (.aload_n 0, 1) := by decide +kernel
theorem dX11_nearer_42 : decode cX11_nearer 42 = .ok (.iload_n 1, 1) := by decide +kernel
theorem dX11_nearer_43 : decode cX11_nearer 43 = .ok (.iload_n 2, 1) := by decide +kernel
theorem dX11_nearer_44 : decode cX11_nearer 44 = .ok (.iload_n 3, 1) := by decide +kernel
theorem dX11_nearer_45 : decode cX11_nearer 45 = .ok (.invokevirtual 220, 3) := by decide +kernel
theorem dX11_nearer_48 : decode cX11_nearer 48 = .ok (.iload_n 3, 1) := by decide +kernel
theorem dX11_nearer_49 : decode cX11_nearer 49 = .ok (.invokestatic 224, 3) := by decide +kernel
theorem dX11_nearer_52 : decode cX11_nearer 52 = .ok (.iload 4, 2) := by decide +kernel
theorem dX11_nearer_54 : decode cX11_nearer 54 = .ok (.invokestatic 228, 3) := by decide +kernel
theorem dX11_nearer_57 : decode cX11_nearer 57 = .ok (.lreturn, 1) := by decide +kernel
theorem dX11_often_0 : decode cX11_often 0 = .ok (.iload_n 1, 1) := by decide +kernel
theorem dX11_often_1 : decode cX11_often 1 = .ok (.iconst 0, 1) := by decide +kernel
theorem dX11_often_2 : decode cX11_often 2 = .ok (.bipush 12, 2) := by decide +kernel
theorem dX11_often_4 : decode cX11_often 4 = .ok (.invokestatic 86, 3) := by decide +kernel
theorem dX11_often_7 : decode cX11_often 7 = .ok (.ifCond .ne 10, 3) := by decide +kernel
theorem dX11_often_10 : decode cX11_often 10 = .ok (.iload_n 2, 1) := by decide +kernel
theorem dX11_often_11 : decode cX11_often 11 = .ok (.invokestatic 215, 3) := by decide +kernel
theorem dX11_often_14 : decode cX11_often 14 = .ok (.ifCond .ne 5, 3) := by decide +kernel
theorem dX11_often_17 : decode cX11_often 17 = .ok (.iconst (-1), 1) := by decide +kernel
theorem dX11_often_18 : decode cX11_often 18 = .ok (.ireturn, 1) := by decide +kernel
theorem dX11_often_19 : decode cX11_often 19 = .ok (.iconst 0, 1) := by decide +kernel
theorem dX11_often_20 : decode cX11_often 20 = .ok (.istore_n 3, 1) := by decide +kernel
theorem dX11_often_21 : decode cX11_often 21 = .ok (.iload_n 3, 1) := by decide +kernel
theorem dX11_often_22 : decode cX11_often 22 = .ok (.bipush 9, 2) := by decide +kernel
theorem dX11_often_24 : decode cX11_often 24 = .ok (.if_icmp .gt 30, 3) := by decide +kernel
theorem dX11_often_27 : decode cX11_often 27 = .ok (.ldc2_w 232, 3) := by decide +kernel
theorem dX11_often_30 : decode cX11_often 30 = .ok (.aload_n 0, 1) := by decide +kernel
theorem dX11_often_31 : decode cX11_often 31 = .ok (.iload_n 1, 1) := by decide +kernel
theorem dX11_often_32 : decode cX11_often 32 = .ok (.iload_n 2, 1) := by decide +kernel
theorem dX11_often_33 : decode cX11_often 33 = .ok (.iload_n 3, 1) := by decide +kernel
theorem dX11_often_34 : decode cX11_often 34 = .ok (.invokevirtual 220, 3) := by decide +kernel
theorem dX11_often_37 : decode cX11_often 37 = .ok (.lmul, 1) := by decide +kernel
theorem dX11_often_38 : decode cX11_often 38 = .ok (.iload_n 3, 1) := by decide +kernel
theorem dX11_often_39 : decode cX11_often 39 = .ok (.invokestatic 224, 3) := by decide +kernel
theorem dX11_often_42 : decode cX11_often 42 = .ok (.lcmp, 1) := by decide +kernel
theorem dX11_often_43 : decode cX11_often 43 = .ok (.ifCond .lt 5, 3) := by decide +kernel
theorem dX11_often_46 : decode cX11_often 46 = .ok (.iload_n 3, 1) := by decide +kernel
theorem dX11_often_47 : decode cX11_often 47 = .ok (.ireturn, 1) := by decide +kernel
theorem dX11_often_48 : decode cX11_often 48 = .ok (.iinc 3 1, 3) := by decide +kernel
theorem dX11_often_51 : decode cX11_often 51 = .ok (.goto (-30), 3) := by decide +kernel
theorem dX11_often_54 : decode cX11_often 54 = .ok (.bipush (-4), 2) := by decide +kernel
theorem dX11_often_56 : decode cX11_often 56 = .ok (.ireturn, 1) := by decide +kernel
theorem dX11_answer_0 : decode cX11_answer 0 = .ok (.iload_n 1, 1) := by decide +kernel
theorem dX11_answer_1 : decode cX11_answer 1 = .ok (.iconst 0, 1) := by decide +kernel
theorem dX11_answer_2 : decode cX11_answer 2 = .ok (.bipush 9, 2) := by decide +kernel
theorem dX11_answer_4 : decode cX11_answer 4 = .ok (.invokestatic 86, 3) := by decide +kernel
theorem dX11_answer_7 : decode cX11_answer 7 = .ok (.ifCond .ne 22, 3) := by decide +kernel
theorem dX11_answer_10 : decode cX11_answer 10 = .ok (.iload_n 2, 1) := by decide +kernel
theorem dX11_answer_11 : decode cX11_answer 11 = .ok (.iconst 0, 1) := by decide +kernel
theorem dX11_answer_12 : decode cX11_answer 12 = .ok (.bipush 9, 2) := by decide +kernel
theorem dX11_answer_14 : decode cX11_answer 14 = .ok (.invokestatic 86, 3) := by decide +kernel
theorem dX11_answer_17 : decode cX11_answer 17 = .ok (.ifCond .ne 12, 3) := by decide +kernel
theorem dX11_answer_20 : decode cX11_answer 20 = .ok (.iload_n 3, 1) := by decide +kernel
theorem dX11_answer_21 : decode cX11_answer 21 = .ok (.iconst 0, 1) := by decide +kernel
theorem dX11_answer_22 : decode cX11_answer 22 = .ok (.iconst 1, 1) := by decide +kernel
theorem dX11_answer_23 : decode cX11_answer 23 = .ok (.invokestatic 86, 3) := by decide +kernel
theorem dX11_answer_26 : decode cX11_answer 26 = .ok (.ifCond .eq 7, 3) := by decide +kernel
theorem dX11_answer_29 : decode cX11_answer 29 = .ok (.ldc2_w 218, 3) := by decide +kernel
theorem dX11_answer_32 : decode cX11_answer 32 = .ok (.lreturn, 1) := by decide +kernel
theorem dX11_answer_33 : decode cX11_answer 33 = .ok (.iload_n 2, 1) := by decide +kernel
theorem dX11_answer_34 : decode cX11_answer 34 = .ok (.ifCond .ne 13, 3) := by decide +kernel
theorem dX11_answer_37 : decode cX11_answer 37 = .ok (.iload_n 1, 1) := by decide +kernel
theorem dX11_answer_38 : decode cX11_answer 38 = .ok (.iconst 2, 1) := by decide +kernel
theorem dX11_answer_39 : decode cX11_answer 39 = .ok (.if_icmp .ne 8, 3) := by decide +kernel
theorem dX11_answer_42 : decode cX11_answer 42 = .ok (.bipush 10, 2) := by decide +kernel
theorem dX11_answer_44 : decode cX11_answer 44 = .ok (.goto 4, 3) := by decide +kernel
theorem dX11_answer_47 : decode cX11_answer 47 = .ok (.iconst 0, 1) := by decide +kernel
theorem dX11_answer_48 : decode cX11_answer 48 = .ok (.istore 4, 2) := by decide +kernel
theorem dX11_answer_50 : decode cX11_answer 50 = .ok (.iload_n 2, 1) := by decide +kernel
theorem dX11_answer_51 : decode cX11_answer 51 = .ok (.iconst 1, 1) := by decide +kernel
theorem dX11_answer_52 : decode cX11_answer 52 = .ok (.if_icmp .ne 8, 3) := by decide +kernel
theorem dX11_answer_55 : decode cX11_answer 55 = .ok (.bipush 10, 2) := by decide +kernel
theorem dX11_answer_57 : decode cX11_answer 57 = .ok (.goto 12, 3) := by decide +kernel
theorem dX11_answer_60 : decode cX11_answer 60 = .ok (.iload_n 2, 1) := by decide +kernel
theorem dX11_answer_61 : decode cX11_answer 61 = .ok (.ifCond .ne 7, 3) := by decide +kernel
theorem dX11_answer_64 : decode cX11_answer 64 = .ok (.iconst 5, 1) := by decide +kernel
theorem dX11_answer_65 : decode cX11_answer 65 = .ok (.goto 4, 3) := by decide +kernel
theorem dX11_answer_68 : decode cX11_answer 68 = .ok (.iconst 0, 1) := by decide +kernel
theorem dX11_answer_69 : decode cX11_answer 69 = .ok (.istore 5, 2) := by decide +kernel
theorem dX11_answer_71 : decode cX11_answer 71 = .ok (.iconst 3, 1) := by decide +kernel
theorem dX11_answer_72 : decode cX11_answer 72 = .ok (.istore 6, 2) := by decide +kernel
theorem dX11_answer_74 : decode cX11_answer 74 = .ok (.iload 5, 2) := by decide +kernel
theorem dX11_answer_76 : decode cX11_answer 76 = .ok (.i2l, 1) := by decide +kernel
theorem dX11_answer_77 : decode cX11_answer 77 = .ok (.iload 4, 2) := by decide +kernel
theorem dX11_answer_79 : decode cX11_answer 79 = .ok (.iload 5, 2) := by decide +kernel
theorem dX11_answer_81 : decode cX11_answer 81 = .ok (.iadd, 1) := by decide +kernel
theorem dX11_answer_82 : decode cX11_answer 82 = .ok (.iload 6, 2) := by decide +kernel
theorem dX11_answer_84 : decode cX11_answer 84 = .ok (.iadd, 1) := by decide +kernel
theorem dX11_answer_85 : decode cX11_answer 85 = .ok (.i2l, 1) := by decide +kernel
theorem dX11_answer_86 : decode cX11_answer 86 = .ok (.iload_n 3, 1) := by decide +kernel
theorem dX11_answer_87 : decode cX11_answer 87 = .ok (.invokestatic 228, 3) := by decide +kernel
theorem dX11_answer_90 : decode cX11_answer 90 = .ok (.lreturn, 1) := by decide +kernel
theorem dX11_telling_0 : decode cX11_telling 0 = .ok (.aload_n 0, 1) := by decide +kernel
theorem dX11_telling_1 : decode cX11_telling 1 = .ok (.getfield 10, 3) := by decide +kernel
theorem dX11_telling_4 : decode cX11_telling 4 = .ok (.iload_n 1, 1) := by decide +kernel
theorem dX11_telling_5 : decode cX11_telling 5 = .ok (.iload_n 2, 1) := by decide +kernel
theorem dX11_telling_6 : decode cX11_telling 6 = .ok (.iload_n 3, 1) := by decide +kernel
theorem dX11_telling_7 : decode cX11_telling 7 = .ok (.invokevirtual 132, 3) := by decide +kernel
theorem dX11_telling_10 : decode cX11_telling 10 = .ok (.ifCond .eq 13, 3) := by decide +kernel
theorem dX11_telling_13 : decode cX11_telling 13 = .ok (.iload 4, 2) := by decide +kernel
theorem dX11_telling_15 : decode cX11_telling 15 = .ok (.iconst 0, 1) := by decide +kernel
theorem dX11_telling_16 : decode cX11_telling 16 = .ok (.iconst 3, 1) := by decide +kernel
theorem dX11_telling_17 : decode cX11_telling 17 = .ok (.invokestatic 86, 3) := by decide +kernel
theorem dX11_telling_20 : decode cX11_telling 20 = .ok (.ifCond .eq 5, 3) := by decide +kernel
theorem dX11_telling_23 : decode cX11_telling 23 = .ok (.iconst (-1), 1) := by decide +kernel
theorem dX11_telling_24 : decode cX11_telling 24 = .ok (.ireturn, 1) := by decide +kernel
theorem dX11_telling_25 : decode cX11_telling 25 = .ok (.iload 4, 2) := by decide +kernel
theorem dX11_telling_27 : decode cX11_telling 27 = .ok (.iconst 3, 1) := by decide +kernel
theorem dX11_telling_28 : decode cX11_telling 28 = .ok (.if_icmp .ge 13, 3) := by decide +kernel
theorem dX11_telling_31 : decode cX11_telling 31 = .ok (.aload_n 0, 1) := by decide +kernel
theorem dX11_telling_32 : decode cX11_telling 32 = .ok (.iload_n 1, 1) := by decide +kernel
theorem dX11_telling_33 : decode cX11_telling 33 = .ok (.iload_n 2, 1) := by decide +kernel
theorem dX11_telling_34 : decode cX11_telling 34 = .ok (.iload_n 3, 1) := by decide +kernel
theorem dX11_telling_35 : decode cX11_telling 35 = .ok (.iload 4, 2) := by decide +kernel
theorem dX11_telling_37 : decode cX11_telling 37 = .ok (.invokevirtual 234, 3) := by decide +kernel
theorem dX11_telling_40 : decode cX11_telling 40 = .ok (.ireturn, 1) := by decide +kernel
theorem dX11_telling_41 : decode cX11_telling 41 = .ok (.bipush (-4), 2) := by decide +kernel
theorem dX11_telling_43 : decode cX11_telling 43 = .ok (.istore 5, 2) := by decide +kernel
theorem dX11_telling_45 : decode cX11_telling 45 = .ok (.iconst 0, 1) := by decide +kernel
theorem dX11_telling_46 : decode cX11_telling 46 = .ok (.istore 6, 2) := by decide +kernel
theorem dX11_telling_48 : decode cX11_telling 48 = .ok (.iconst 0, 1) := by decide +kernel
theorem dX11_telling_49 : decode cX11_telling 49 = .ok (.istore 7, 2) := by decide +kernel
theorem dX11_telling_51 : decode cX11_telling 51 = .ok (.iload 7, 2) := by decide +kernel
theorem dX11_telling_53 : decode cX11_telling 53 = .ok (.iconst 3, 1) := by decide +kernel
theorem dX11_telling_54 : decode cX11_telling 54 = .ok (.if_icmp .ge 35, 3) := by decide +kernel
theorem dX11_telling_57 : decode cX11_telling 57 = .ok (.aload_n 0, 1) := by decide +kernel
theorem dX11_telling_58 : decode cX11_telling 58 = .ok (.iload_n 1, 1) := by decide +kernel
theorem dX11_telling_59 : decode cX11_telling 59 = .ok (.iload_n 2, 1) := by decide +kernel
theorem dX11_telling_60 : decode cX11_telling 60 = .ok (.iload_n 3, 1) := by decide +kernel
theorem dX11_telling_61 : decode cX11_telling 61 = .ok (.iload 7, 2) := by decide +kernel
theorem dX11_telling_63 : decode cX11_telling 63 = .ok (.invokevirtual 234, 3) := by decide +kernel
theorem dX11_telling_66 : decode cX11_telling 66 = .ok (.istore 8, 2) := by decide +kernel
theorem dX11_telling_68 : decode cX11_telling 68 = .ok (.iload 8, 2) := by decide +kernel
theorem dX11_telling_70 : decode cX11_telling 70 = .ok (.iload 6, 2) := by decide +kernel
theorem dX11_telling_72 : decode cX11_telling 72 = .ok (.if_icmp .le 11, 3) := by decide +kernel
theorem dX11_telling_75 : decode cX11_telling 75 = .ok (.iload 8, 2) := by decide +kernel
theorem dX11_telling_77 : decode cX11_telling 77 = .ok (.istore 6, 2) := by decide +kernel
theorem dX11_telling_79 : decode cX11_telling 79 = .ok (.iload 7, 2) := by decide +kernel
theorem dX11_telling_81 : decode cX11_telling 81 = .ok (.istore 5, 2) := by decide +kernel
theorem dX11_telling_83 : decode cX11_telling 83 = .ok (.iinc 7 1, 3) := by decide +kernel
theorem dX11_telling_86 : decode cX11_telling 86 = .ok (.goto (-35), 3) := by decide +kernel
theorem dX11_telling_89 : decode cX11_telling 89 = .ok (.iload 5, 2) := by decide +kernel
theorem dX11_telling_91 : decode cX11_telling 91 = .ok (.ireturn, 1) := by decide +kernel
theorem dX11_odds_0 : decode cX11_odds 0 = .ok (.aload_n 0, 1) := by decide +kernel
theorem dX11_odds_1 : decode cX11_odds 1 = .ok (.getfield 10, 3) := by decide +kernel
theorem dX11_odds_4 : decode cX11_odds 4 = .ok (.iload_n 1, 1) := by decide +kernel
theorem dX11_odds_5 : decode cX11_odds 5 = .ok (.iload_n 2, 1) := by decide +kernel
theorem dX11_odds_6 : decode cX11_odds 6 = .ok (.iload_n 3, 1) := by decide +kernel
theorem dX11_odds_7 : decode cX11_odds 7 = .ok (.invokevirtual 132, 3) := by decide +kernel
theorem dX11_odds_10 : decode cX11_odds 10 = .ok (.ifCond .eq 13, 3) := by decide +kernel
theorem dX11_odds_13 : decode cX11_odds 13 = .ok (.iload 4, 2) := by decide +kernel
theorem dX11_odds_15 : decode cX11_odds 15 = .ok (.iconst 0, 1) := by decide +kernel
theorem dX11_odds_16 : decode cX11_odds 16 = .ok (.iconst 1, 1) := by decide +kernel
theorem dX11_odds_17 : decode cX11_odds 17 = .ok (.invokestatic 86, 3) := by decide +kernel
theorem dX11_odds_20 : decode cX11_odds 20 = .ok (.ifCond .eq 7, 3) := by decide +kernel
theorem dX11_odds_23 : decode cX11_odds 23 = .ok (.ldc2_w 218, 3) := by decide +kernel
theorem dX11_odds_26 : decode cX11_odds 26 = .ok (.lreturn, 1) := by decide +kernel
theorem dX11_odds_27 : decode cX11_odds 27 = .ok (.aload_n 0, 1) := by decide +kernel
theorem dX11_odds_28 : decode cX11_odds 28 = .ok (.getfield 10, 3) := by decide +kernel
theorem dX11_odds_31 : decode cX11_odds 31 = .ok (.iload_n 1, 1) := by decide +kernel
theorem dX11_odds_32 : decode cX11_odds 32 = .ok (.iload_n 2, 1) := by decide +kernel
theorem dX11_odds_33 : decode cX11_odds 33 = .ok (.iload_n 3, 1) := by decide +kernel
theorem dX11_odds_34 : decode cX11_odds 34 = .ok (.invokevirtual 135, 3) := by decide +kernel
theorem dX11_odds_37 : decode cX11_odds 37 = .ok (.invokevirtual 164, 3) := by decide +kernel
theorem dX11_odds_40 : decode cX11_odds 40 = .ok (.i2l, 1) := by decide +kernel
theorem dX11_odds_41 : decode cX11_odds 41 = .ok (.aload_n 0, 1) := by decide +kernel
theorem dX11_odds_42 : decode cX11_odds 42 = .ok (.iload_n 2, 1) := by decide +kernel
theorem dX11_odds_43 : decode cX11_odds 43 = .ok (.invokevirtual 237, 3) := by decide +kernel
theorem dX11_odds_46 : decode cX11_odds 46 = .ok (.i2l, 1) := by decide +kernel
theorem dX11_odds_47 : decode cX11_odds 47 = .ok (.iload 4, 2) := by decide +kernel
theorem dX11_odds_49 : decode cX11_odds 49 = .ok (.invokestatic 228, 3) := by decide +kernel
theorem dX11_odds_52 : decode cX11_odds 52 = .ok (.lreturn, 1) := by decide +kernel
theorem dX11_enough_0 : decode cX11_enough 0 = .ok (.aload_n 0, 1) := by decide +kernel
theorem dX11_enough_1 : decode cX11_enough 1 = .ok (.getfield 10, 3) := by decide +kernel
theorem dX11_enough_4 : decode cX11_enough 4 = .ok (.iload_n 1, 1) := by decide +kernel
theorem dX11_enough_5 : decode cX11_enough 5 = .ok (.iload_n 2, 1) := by decide +kernel
theorem dX11_enough_6 : decode cX11_enough 6 = .ok (.iload_n 3, 1) := by decide +kernel
theorem dX11_enough_7 : decode cX11_enough 7 = .ok (.invokevirtual 132, 3) := by decide +kernel
theorem dX11_enough_10 : decode cX11_enough 10 = .ok (.ifCond .ne 5, 3) := by decide +kernel
theorem dX11_enough_13 : decode cX11_enough 13 = .ok (.iconst (-1), 1) := by decide +kernel
theorem dX11_enough_14 : decode cX11_enough 14 = .ok (.ireturn, 1) := by decide +kernel
theorem dX11_enough_15 : decode cX11_enough 15 = .ok (.aload_n 0, 1) := by decide +kernel
theorem dX11_enough_16 : decode cX11_enough 16 = .ok (.getfield 10, 3) := by decide +kernel
theorem dX11_enough_19 : decode cX11_enough 19 = .ok (.iload_n 1, 1) := by decide +kernel
theorem dX11_enough_20 : decode cX11_enough 20 = .ok (.iload_n 2, 1) := by decide +kernel
theorem dX11_enough_21 : decode cX11_enough 21 = .ok (.iload_n 3, 1) := by decide +kernel
theorem dX11_enough_22 : decode cX11_enough 22 = .ok (.invokevirtual 135, 3) := by decide +kernel
theorem dX11_enough_25 : decode cX11_enough 25 = .ok (.invokevirtual 164, 3) := by decide +kernel
theorem dX11_enough_28 : decode cX11_enough 28 = .ok (.istore 4, 2) := by decide +kernel
theorem dX11_enough_30 : decode cX11_enough 30 = .ok (.iconst 1, 1) := by decide +kernel
theorem dX11_enough_31 : decode cX11_enough 31 = .ok (.istore 5, 2) := by decide +kernel
theorem dX11_enough_33 : decode cX11_enough 33 = .ok (.iload 5, 2) := by decide +kernel
theorem dX11_enough_35 : decode cX11_enough 35 = .ok (.bipush 50, 2) := by decide +kernel
theorem dX11_enough_37 : decode cX11_enough 37 = .ok (.if_icmp .gt 25, 3) := by decide +kernel
theorem dX11_enough_40 : decode cX11_enough 40 = .ok (.iload 5, 2) := by decide +kernel
theorem dX11_enough_42 : decode cX11_enough 42 = .ok (.iload 4, 2) := by decide +kernel
theorem dX11_enough_44 : decode cX11_enough 44 = .ok (.imul, 1) := by decide +kernel
theorem dX11_enough_45 : decode cX11_enough 45 = .ok (.aload_n 0, 1) := by decide +kernel
theorem dX11_enough_46 : decode cX11_enough 46 = .ok (.iload_n 2, 1) := by decide +kernel
theorem dX11_enough_47 : decode cX11_enough 47 = .ok (.invokevirtual 237, 3) := by decide +kernel
theorem dX11_enough_50 : decode cX11_enough 50 = .ok (.if_icmp .lt 6, 3) := by decide +kernel
theorem dX11_enough_53 : decode cX11_enough 53 = .ok (.iload 5, 2) := by decide +kernel
theorem dX11_enough_55 : decode cX11_enough 55 = .ok (.ireturn, 1) := by decide +kernel
theorem dX11_enough_56 : decode cX11_enough 56 = .ok (.iinc 5 1, 3) := by decide +kernel
theorem dX11_enough_59 : decode cX11_enough 59 = .ok (.goto (-26), 3) := by decide +kernel
theorem dX11_enough_62 : decode cX11_enough 62 = .ok (.bipush (-4), 2) := by decide +kernel
theorem dX11_enough_64 : decode cX11_enough 64 = .ok (.ireturn, 1) := by decide +kernel
theorem dX11_heap_0 : decode cX11_heap 0 = .ok (.aload_n 0, 1) := by decide +kernel
theorem dX11_heap_1 : decode cX11_heap 1 = .ok (.getfield 10, 3) := by decide +kernel
theorem dX11_heap_4 : decode cX11_heap 4 = .ok (.iload_n 1, 1) := by decide +kernel
theorem dX11_heap_5 : decode cX11_heap 5 = .ok (.invokevirtual 96, 3) := by decide +kernel
theorem dX11_heap_8 : decode cX11_heap 8 = .ok (.ifCond .eq 12, 3) := by decide +kernel
theorem dX11_heap_11 : decode cX11_heap 11 = .ok (.iload_n 3, 1) := by decide +kernel
theorem dX11_heap_12 : decode cX11_heap 12 = .ok (.iconst 0, 1) := by decide +kernel
theorem dX11_heap_13 : decode cX11_heap 13 = .ok (.iconst 1, 1) := by decide +kernel
theorem dX11_heap_14 : decode cX11_heap 14 = .ok (.invokestatic 86, 3) := by decide +kernel
theorem dX11_heap_17 : decode cX11_heap 17 = .ok (.ifCond .eq 5, 3) := by decide +kernel
theorem dX11_heap_20 : decode cX11_heap 20 = .ok (.iconst (-1), 1) := by decide +kernel
theorem dX11_heap_21 : decode cX11_heap 21 = .ok (.ireturn, 1) := by decide +kernel
theorem dX11_heap_22 : decode cX11_heap 22 = .ok (.aload_n 0, 1) := by decide +kernel
theorem dX11_heap_23 : decode cX11_heap 23 = .ok (.iload_n 2, 1) := by decide +kernel
theorem dX11_heap_24 : decode cX11_heap 24 = .ok (.invokevirtual 36, 3) := by decide +kernel
theorem dX11_heap_27 : decode cX11_heap 27 = .ok (.istore 4, 2) := by decide +kernel
theorem dX11_heap_29 : decode cX11_heap 29 = .ok (.iload 4, 2) := by decide +kernel
theorem dX11_heap_31 : decode cX11_heap 31 = .ok (.ifCond .ge 6, 3) := by decide +kernel
theorem dX11_heap_34 : decode cX11_heap 34 = .ok (.iload 4, 2) := by decide +kernel
theorem dX11_heap_36 : decode cX11_heap 36 = .ok (.ireturn, 1) := by decide +kernel
theorem dX11_heap_37 : decode cX11_heap 37 = .ok (.aload_n 0, 1) := by decide +kernel
theorem dX11_heap_38 : decode cX11_heap 38 = .ok (.getfield 24, 3) := by decide +kernel
theorem dX11_heap_41 : decode cX11_heap 41 = .ok (.iload_n 2, 1) := by decide +kernel
theorem dX11_heap_42 : decode cX11_heap 42 = .ok (.aaload, 1) := by decide +kernel
theorem dX11_heap_43 : decode cX11_heap 43 = .ok (.astore 5, 2) := by decide +kernel
theorem dX11_heap_45 : decode cX11_heap 45 = .ok (.aload_n 0, 1) := by decide +kernel
theorem dX11_heap_46 : decode cX11_heap 46 = .ok (.iload_n 1, 1) := by decide +kernel
theorem dX11_heap_47 : decode cX11_heap 47 = .ok (.aload 5, 2) := by decide +kernel
theorem dX11_heap_49 : decode cX11_heap 49 = .ok (.invokevirtual 240, 3) := by decide +kernel
theorem dX11_heap_52 : decode cX11_heap 52 = .ok (.ifCond .lt 6, 3) := by decide +kernel
theorem dX11_heap_55 : decode cX11_heap 55 = .ok (.bipush (-4), 2) := by decide +kernel
theorem dX11_heap_57 : decode cX11_heap 57 = .ok (.ireturn, 1) := by decide +kernel
theorem dX11_heap_58 : decode cX11_heap 58 = .ok (.iload_n 3, 1) := by decide +kernel
theorem dX11_heap_59 : decode cX11_heap 59 = .ok (.iconst 1, 1) := by decide +kernel
theorem dX11_heap_60 : decode cX11_heap 60 = .ok (.if_icmp .ne 29, 3) := by decide +kernel
theorem dX11_heap_63 : decode cX11_heap 63 = .ok (.aload 5, 2) := by decide +kernel
theorem dX11_heap_65 : decode cX11_heap 65 = .ok (.getfield 52, 3) := by decide +kernel
theorem dX11_heap_68 : decode cX11_heap 68 = .ok (.ifCond .ne 8, 3) := by decide +kernel
theorem dX11_heap_71 : decode cX11_heap 71 = .ok (.bipush (-4), 2) := by decide +kernel
theorem dX11_heap_73 : decode cX11_heap 73 = .ok (.goto 15, 3) := by decide +kernel
theorem dX11_heap_76 : decode cX11_heap 76 = .ok (.aload_n 0, 1) := by decide +kernel
theorem dX11_heap_77 : decode cX11_heap 77 = .ok (.iload_n 1, 1) := by decide +kernel
theorem dX11_heap_78 : decode cX11_heap 78 = .ok (.aload 5, 2) := by decide +kernel
theorem dX11_heap_80 : decode cX11_heap 80 = .ok (.getfield 244, 3) := by decide +kernel
theorem dX11_heap_83 : decode cX11_heap 83 = .ok (.iconst 0, 1) := by decide +kernel
theorem dX11_heap_84 : decode cX11_heap 84 = .ok (.iaload, 1) := by decide +kernel
theorem dX11_heap_85 : decode cX11_heap 85 = .ok (.invokevirtual 247, 3) := by decide +kernel
theorem dX11_heap_88 : decode cX11_heap 88 = .ok (.ireturn, 1) := by decide +kernel
theorem dX11_heap_89 : decode cX11_heap 89 = .ok (.iconst 0, 1) := by decide +kernel
theorem dX11_heap_90 : decode cX11_heap 90 = .ok (.istore 6, 2) := by decide +kernel
theorem dX11_heap_92 : decode cX11_heap 92 = .ok (.iconst 0, 1) := by decide +kernel
theorem dX11_heap_93 : decode cX11_heap 93 = .ok (.istore 7, 2) := by decide +kernel
theorem dX11_heap_95 : decode cX11_heap 95 = .ok (.iload 7, 2) := by decide +kernel
theorem dX11_heap_97 : decode cX11_heap 97 = .ok (.aload 5, 2) := by decide +kernel
theorem dX11_heap_99 : decode cX11_heap 99 = .ok (.getfield 52, 3) := by decide +kernel
theorem dX11_heap_102 : decode cX11_heap 102 = .ok (.if_icmp .ge 29, 3) := by decide +kernel
theorem dX11_heap_105 : decode cX11_heap 105 = .ok (.aload_n 0, 1) := by decide +kernel
theorem dX11_heap_106 : decode cX11_heap 106 = .ok (.iload_n 1, 1) := by decide +kernel
theorem dX11_heap_107 : decode cX11_heap 107 = .ok (.aload 5, 2) := by decide +kernel
theorem dX11_heap_109 : decode cX11_heap 109 = .ok (.getfield 244, 3) := by decide +kernel
theorem dX11_heap_112 : decode cX11_heap 112 = .ok (.iload 7, 2) := by decide +kernel
theorem dX11_heap_114 : decode cX11_heap 114 = .ok (.iaload, 1) := by decide +kernel
theorem dX11_heap_115 : decode cX11_heap 115 = .ok (.invokevirtual 250, 3) := by decide +kernel
theorem dX11_heap_118 : decode cX11_heap 118 = .ok (.iconst 1, 1) := by decide +kernel
theorem dX11_heap_119 : decode cX11_heap 119 = .ok (.if_icmp .ne 6, 3) := by decide +kernel
theorem dX11_heap_122 : decode cX11_heap 122 = .ok (.iinc 6 1, 3) := by decide +kernel
theorem dX11_heap_125 : decode cX11_heap 125 = .ok (.iinc 7 1, 3) := by decide +kernel
theorem dX11_heap_128 : decode cX11_heap 128 = .ok (.goto (-33), 3) := by decide +kernel
theorem dX11_heap_131 : decode cX11_heap 131 = .ok (.iload 6, 2) := by decide +kernel
theorem dX11_heap_133 : decode cX11_heap 133 = .ok (.ireturn, 1) := by decide +kernel
theorem dX11_forged_0 : decode cX11_forged 0 = .ok (.aload_n 0, 1) := by decide +kernel
theorem dX11_forged_1 : decode cX11_forged 1 = .ok (.getfield 10, 3) := by decide +kernel
theorem dX11_forged_4 : decode cX11_forged 4 = .ok (.iload_n 1, 1) := by decide +kernel
theorem dX11_forged_5 : decode cX11_forged 5 = .ok (.invokevirtual 96, 3) := by decide +kernel
theorem dX11_forged_8 : decode cX11_forged 8 = .ok (.ifCond .ne 5, 3) := by decide +kernel
theorem dX11_forged_11 : decode cX11_forged 11 = .ok (.iconst (-1), 1) := by decide +kernel
theorem dX11_forged_12 : decode cX11_forged 12 = .ok (.ireturn, 1) := by decide +kernel
theorem dX11_forged_13 : decode cX11_forged 13 = .ok (.aload_n 0, 1) := by decide +kernel
theorem dX11_forged_14 : decode cX11_forged 14 = .ok (.iload_n 2, 1) := by decide +kernel
theorem dX11_forged_15 : decode cX11_forged 15 = .ok (.invokevirtual 36, 3) := by decide +kernel
theorem dX11_forged_18 : decode cX11_forged 18 = .ok (.istore_n 3, 1) := by decide +kernel
theorem dX11_forged_19 : decode cX11_forged 19 = .ok (.iload_n 3, 1) := by decide +kernel
theorem dX11_forged_20 : decode cX11_forged 20 = .ok (.ifCond .ge 7, 3) := by decide +kernel
theorem dX11_forged_23 : decode cX11_forged 23 = .ok (.iload_n 3, 1) := by decide +kernel
theorem dX11_forged_24 : decode cX11_forged 24 = .ok (.goto 14, 3) := by decide +kernel
theorem dX11_forged_27 : decode cX11_forged 27 = .ok (.aload_n 0, 1) := by decide +kernel
theorem dX11_forged_28 : decode cX11_forged 28 = .ok (.iload_n 1, 1) := by decide +kernel
theorem dX11_forged_29 : decode cX11_forged 29 = .ok (.aload_n 0, 1) := by decide +kernel
theorem dX11_forged_30 : decode cX11_forged 30 = .ok (.getfield 24, 3) := by decide +kernel
theorem dX11_forged_33 : decode cX11_forged 33 = .ok (.iload_n 2, 1) := by decide +kernel
theorem dX11_forged_34 : decode cX11_forged 34 = .ok (.aaload, 1) := by decide +kernel
theorem dX11_forged_35 : decode cX11_forged 35 = .ok (.invokevirtual 240, 3) := by decide +kernel
theorem dX11_forged_38 : decode cX11_forged 38 = .ok (.ireturn, 1) := by decide +kernel
theorem dX11_remainder_0 : decode cX11_remainder 0 = .ok (.aload_n 0, 1) := by decide +kernel
theorem dX11_remainder_1 : decode cX11_remainder 1 = .ok (.iload_n 1, 1) := by decide +kernel
theorem dX11_remainder_2 : decode cX11_remainder 2 = .ok (.invokevirtual 36, 3) := by decide +kernel
theorem dX11_remainder_5 : decode cX11_remainder 5 = .ok (.istore 4, 2) := by decide +kernel
theorem dX11_remainder_7 : decode cX11_remainder 7 = .ok (.iload 4, 2) := by decide +kernel
theorem dX11_remainder_9 : decode cX11_remainder 9 = .ok (.ifCond .ge 9, 3) := by decide +kernel
theorem dX11_remainder_12 : decode cX11_remainder 12 = .ok (.ldc 253, 2) := by decide +kernel
theorem dX11_remainder_14 : decode cX11_remainder 14 = .ok (.iload 4, 2) := by decide +kernel
theorem dX11_remainder_16 : decode cX11_remainder 16 = .ok (.isub, 1) := by decide +kernel
theorem dX11_remainder_17 : decode cX11_remainder 17 = .ok (.ireturn, 1) := by decide +kernel
theorem dX11_remainder_18 : decode cX11_remainder 18 = .ok (.aload_n 0, 1) := by decide +kernel
theorem dX11_remainder_19 : decode cX11_remainder 19 = .ok (.getfield 24, 3) := by decide +kernel
theorem dX11_remainder_22 : decode cX11_remainder 22 = .ok (.iload_n 1, 1) := by decide +kernel
theorem dX11_remainder_23 : decode cX11_remainder 23 = .ok (.aaload, 1) := by decide +kernel
theorem dX11_remainder_24 : decode cX11_remainder 24 = .ok (.astore 5, 2) := by decide +kernel
theorem dX11_remainder_26 : decode cX11_remainder 26 = .ok (.aload 5, 2) := by decide +kernel
theorem dX11_remainder_28 : decode cX11_remainder 28 = .ok (.iload_n 2, 1) := by decide +kernel
theorem dX11_remainder_29 : decode cX11_remainder 29 = .ok (.invokevirtual 254, 3) := by decide +kernel
theorem dX11_remainder_32 : decode cX11_remainder 32 = .ok (.ifCond .eq 12, 3) := by decide +kernel
theorem dX11_remainder_35 : decode cX11_remainder 35 = .ok (.aload 5, 2) := by decide +kernel
theorem dX11_remainder_37 : decode cX11_remainder 37 = .ok (.iload_n 3, 1) := by decide +kernel
theorem dX11_remainder_38 : decode cX11_remainder 38 = .ok (.invokevirtual 254, 3) := by decide +kernel
theorem dX11_remainder_41 : decode cX11_remainder 41 = .ok (.ifCond .ne 7, 3) := by decide +kernel
theorem dX11_remainder_44 : decode cX11_remainder 44 = .ok (.ldc_w 257, 3) := by decide +kernel
theorem dX11_remainder_47 : decode cX11_remainder 47 = .ok (.ireturn, 1) := by decide +kernel
theorem dX11_remainder_48 : decode cX11_remainder 48 = .ok (.aload 5, 2) := by decide +kernel
theorem dX11_remainder_50 : decode cX11_remainder 50 = .ok (.getfield 244, 3) := by decide +kernel
theorem dX11_remainder_53 : decode cX11_remainder 53 = .ok (.iload_n 3, 1) := by decide +kernel
theorem dX11_remainder_54 : decode cX11_remainder 54 = .ok (.iaload, 1) := by decide +kernel
theorem dX11_remainder_55 : decode cX11_remainder 55 = .ok (.istore 6, 2) := by decide +kernel
theorem dX11_remainder_57 : decode cX11_remainder 57 = .ok (.iload 6, 2) := by decide +kernel
theorem dX11_remainder_59 : decode cX11_remainder 59 = .ok (.ifCond .ne 9, 3) := by decide +kernel
theorem dX11_remainder_62 : decode cX11_remainder 62 = .ok (.ldc_w 258, 3) := by decide +kernel
theorem dX11_remainder_65 : decode cX11_remainder 65 = .ok (.goto 13, 3) := by decide +kernel
theorem dX11_remainder_68 : decode cX11_remainder 68 = .ok (.aload 5, 2) := by decide +kernel
theorem dX11_remainder_70 : decode cX11_remainder 70 = .ok (.getfield 244, 3) := by decide +kernel
theorem dX11_remainder_73 : decode cX11_remainder 73 = .ok (.iload_n 2, 1) := by decide +kernel
theorem dX11_remainder_74 : decode cX11_remainder 74 = .ok (.iaload, 1) := by decide +kernel
theorem dX11_remainder_75 : decode cX11_remainder 75 = .ok (.iload 6, 2) := by decide +kernel
theorem dX11_remainder_77 : decode cX11_remainder 77 = .ok (.irem, 1) := by decide +kernel
theorem dX11_remainder_78 : decode cX11_remainder 78 = .ok (.ireturn, 1) := by decide +kernel
theorem dX11_judge_0 : decode cX11_judge 0 = .ok (.iload_n 1, 1) := by decide +kernel
theorem dX11_judge_1 : decode cX11_judge 1 = .ok (.bipush 100, 2) := by decide +kernel
theorem dX11_judge_3 : decode cX11_judge 3 = .ok (.idiv, 1) := by decide +kernel
theorem dX11_judge_4 : decode cX11_judge 4 = .ok (.istore 5, 2) := by decide +kernel
theorem dX11_judge_6 : decode cX11_judge 6 = .ok (.iload_n 1, 1) := by decide +kernel
theorem dX11_judge_7 : decode cX11_judge 7 = .ok (.bipush 10, 2) := by decide +kernel
theorem dX11_judge_9 : decode cX11_judge 9 = .ok (.idiv, 1) := by decide +kernel
theorem dX11_judge_10 : decode cX11_judge 10 = .ok (.bipush 10, 2) := by decide +kernel
theorem dX11_judge_12 : decode cX11_judge 12 = .ok (.irem, 1) := by decide +kernel
theorem dX11_judge_13 : decode cX11_judge 13 = .ok (.istore 6, 2) := by decide +kernel
theorem dX11_judge_15 : decode cX11_judge 15 = .ok (.iload_n 1, 1) := by decide +kernel
theorem dX11_judge_16 : decode cX11_judge 16 = .ok (.bipush 10, 2) := by decide +kernel
theorem dX11_judge_18 : decode cX11_judge 18 = .ok (.irem, 1) := by decide +kernel
theorem dX11_judge_19 : decode cX11_judge 19 = .ok (.istore 7, 2) := by decide +kernel
theorem dX11_judge_21 : decode cX11_judge 21 = .ok (.iload_n 1, 1) := by decide +kernel
theorem dX11_judge_22 : decode cX11_judge 22 = .ok (.ifCond .lt 29, 3) := by decide +kernel
theorem dX11_judge_25 : decode cX11_judge 25 = .ok (.aload_n 0, 1) := by decide +kernel
theorem dX11_judge_26 : decode cX11_judge 26 = .ok (.getfield 10, 3) := by decide +kernel
theorem dX11_judge_29 : decode cX11_judge 29 = .ok (.iload 5, 2) := by decide +kernel
theorem dX11_judge_31 : decode cX11_judge 31 = .ok (.iload 6, 2) := by decide +kernel
theorem dX11_judge_33 : decode cX11_judge 33 = .ok (.iload 7, 2) := by decide +kernel
theorem dX11_judge_35 : decode cX11_judge 35 = .ok (.invokevirtual 132, 3) := by decide +kernel
theorem dX11_judge_38 : decode cX11_judge 38 = .ok (.ifCond .eq 13, 3) := by decide +kernel
theorem dX11_judge_41 : decode cX11_judge 41 = .ok (.iload_n 2, 1) := by decide +kernel
theorem dX11_judge_42 : decode cX11_judge 42 = .ok (.iconst 0, 1) := by decide +kernel
theorem dX11_judge_43 : decode cX11_judge 43 = .ok (.bipush 60, 2) := by decide +kernel
theorem dX11_judge_45 : decode cX11_judge 45 = .ok (.invokestatic 86, 3) := by decide +kernel
theorem dX11_judge_48 : decode cX11_judge 48 = .ok (.ifCond .eq 5, 3) := by decide +kernel
theorem dX11_judge_51 : decode cX11_judge 51 = .ok (.iconst (-1), 1) := by decide +kernel
theorem dX11_judge_52 : decode cX11_judge 52 = .ok (.ireturn, 1) := by decide +kernel
theorem dX11_judge_53 : decode cX11_judge 53 = .ok (.aload_n 0, 1) := by decide +kernel
theorem dX11_judge_54 : decode cX11_judge 54 = .ok (.iload_n 3, 1) := by decide +kernel
theorem dX11_judge_55 : decode cX11_judge 55 = .ok (.iload 4, 2) := by decide +kernel
theorem dX11_judge_57 : decode cX11_judge 57 = .ok (.invokevirtual 259, 3) := by decide +kernel
theorem dX11_judge_60 : decode cX11_judge 60 = .ok (.istore 8, 2) := by decide +kernel
theorem dX11_judge_62 : decode cX11_judge 62 = .ok (.iload 8, 2) := by decide +kernel
theorem dX11_judge_64 : decode cX11_judge 64 = .ok (.ifCond .ge 6, 3) := by decide +kernel
theorem dX11_judge_67 : decode cX11_judge 67 = .ok (.iload 8, 2) := by decide +kernel
theorem dX11_judge_69 : decode cX11_judge 69 = .ok (.ireturn, 1) := by decide +kernel
theorem dX11_judge_70 : decode cX11_judge 70 = .ok (.aload_n 0, 1) := by decide +kernel
theorem dX11_judge_71 : decode cX11_judge 71 = .ok (.getfield 24, 3) := by decide +kernel
theorem dX11_judge_74 : decode cX11_judge 74 = .ok (.iload 4, 2) := by decide +kernel
theorem dX11_judge_76 : decode cX11_judge 76 = .ok (.aaload, 1) := by decide +kernel
theorem dX11_judge_77 : decode cX11_judge 77 = .ok (.astore 9, 2) := by decide +kernel
theorem dX11_judge_79 : decode cX11_judge 79 = .ok (.iconst 0, 1) := by decide +kernel
theorem dX11_judge_80 : decode cX11_judge 80 = .ok (.istore 10, 2) := by decide +kernel
theorem dX11_judge_82 : decode cX11_judge 82 = .ok (.iload 10, 2) := by decide +kernel
theorem dX11_judge_84 : decode cX11_judge 84 = .ok (.aload 9, 2) := by decide +kernel
theorem dX11_judge_86 : decode cX11_judge 86 = .ok (.getfield 52, 3) := by decide +kernel
theorem dX11_judge_89 : decode cX11_judge 89 = .ok (.if_icmp .ge 29, 3) := by decide +kernel
theorem dX11_judge_92 : decode cX11_judge 92 = .ok (.aload 9, 2) := by decide +kernel
theorem dX11_judge_94 : decode cX11_judge 94 = .ok (.getfield 244, 3) := by decide +kernel
theorem dX11_judge_97 : decode cX11_judge 97 = .ok (.iload 10, 2) := by decide +kernel
theorem dX11_judge_99 : decode cX11_judge 99 = .ok (.iaload, 1) := by decide +kernel
theorem dX11_judge_100 : decode cX11_judge 100 = .ok (.iconst 0, 1) := by decide +kernel
theorem dX11_judge_101 : decode cX11_judge 101 = .ok (.bipush 60, 2) := by decide +kernel
theorem dX11_judge_103 : decode cX11_judge 103 = .ok (.invokestatic 86, 3) := by decide +kernel
theorem dX11_judge_106 : decode cX11_judge 106 = .ok (.ifCond .eq 6, 3) := by decide +kernel
theorem dX11_judge_109 : decode cX11_judge 109 = .ok (.bipush (-13), 2) := by decide +kernel
theorem dX11_judge_111 : decode cX11_judge 111 = .ok (.ireturn, 1) := by decide +kernel
theorem dX11_judge_112 : decode cX11_judge 112 = .ok (.iinc 10 1, 3) := by decide +kernel
theorem dX11_judge_115 : decode cX11_judge 115 = .ok (.goto (-33), 3) := by decide +kernel
theorem dX11_judge_118 : decode cX11_judge 118 = .ok (.aload_n 0, 1) := by decide +kernel
theorem dX11_judge_119 : decode cX11_judge 119 = .ok (.iload 5, 2) := by decide +kernel
theorem dX11_judge_121 : decode cX11_judge 121 = .ok (.iload 6, 2) := by decide +kernel
theorem dX11_judge_123 : decode cX11_judge 123 = .ok (.iload 7, 2) := by decide +kernel
theorem dX11_judge_125 : decode cX11_judge 125 = .ok (.iload_n 2, 1) := by decide +kernel
theorem dX11_judge_126 : decode cX11_judge 126 = .ok (.aload_n 0, 1) := by decide +kernel
theorem dX11_judge_127 : decode cX11_judge 127 = .ok (.getfield 24, 3) := by decide +kernel
theorem dX11_judge_130 : decode cX11_judge 130 = .ok (.iload_n 3, 1) := by decide +kernel
theorem dX11_judge_131 : decode cX11_judge 131 = .ok (.aaload, 1) := by decide +kernel
theorem dX11_judge_132 : decode cX11_judge 132 = .ok (.aload 9, 2) := by decide +kernel
theorem dX11_judge_134 : decode cX11_judge 134 = .ok (.invokevirtual 262, 3) := by decide +kernel
theorem dX11_judge_137 : decode cX11_judge 137 = .ok (.ireturn, 1) := by decide +kernel
theorem dX11_walks_0 : decode cX11_walks 0 = .ok (.iload_n 1, 1) := by decide +kernel
theorem dX11_walks_1 : decode cX11_walks 1 = .ok (.iconst 1, 1) := by decide +kernel
theorem dX11_walks_2 : decode cX11_walks 2 = .ok (.bipush 20, 2) := by decide +kernel
theorem dX11_walks_4 : decode cX11_walks 4 = .ok (.invokestatic 86, 3) := by decide +kernel
theorem dX11_walks_7 : decode cX11_walks 7 = .ok (.ifCond .ne 12, 3) := by decide +kernel
theorem dX11_walks_10 : decode cX11_walks 10 = .ok (.iload_n 3, 1) := by decide +kernel
theorem dX11_walks_11 : decode cX11_walks 11 = .ok (.iconst 0, 1) := by decide +kernel
theorem dX11_walks_12 : decode cX11_walks 12 = .ok (.iconst 1, 1) := by decide +kernel
theorem dX11_walks_13 : decode cX11_walks 13 = .ok (.invokestatic 86, 3) := by decide +kernel
theorem dX11_walks_16 : decode cX11_walks 16 = .ok (.ifCond .eq 5, 3) := by decide +kernel
theorem dX11_walks_19 : decode cX11_walks 19 = .ok (.iconst (-1), 1) := by decide +kernel
theorem dX11_walks_20 : decode cX11_walks 20 = .ok (.ireturn, 1) := by decide +kernel
theorem dX11_walks_21 : decode cX11_walks 21 = .ok (.aload_n 0, 1) := by decide +kernel
theorem dX11_walks_22 : decode cX11_walks 22 = .ok (.getfield 10, 3) := by decide +kernel
theorem dX11_walks_25 : decode cX11_walks 25 = .ok (.getfield 174, 3) := by decide +kernel
theorem dX11_walks_28 : decode cX11_walks 28 = .ok (.ifCond .eq 23, 3) := by decide +kernel
theorem dX11_walks_31 : decode cX11_walks 31 = .ok (.aload_n 0, 1) := by decide +kernel
theorem dX11_walks_32 : decode cX11_walks 32 = .ok (.getfield 10, 3) := by decide +kernel
theorem dX11_walks_35 : decode cX11_walks 35 = .ok (.getfield 168, 3) := by decide +kernel
theorem dX11_walks_38 : decode cX11_walks 38 = .ok (.ifCond .eq 13, 3) := by decide +kernel
theorem dX11_walks_41 : decode cX11_walks 41 = .ok (.aload_n 0, 1) := by decide +kernel
theorem dX11_walks_42 : decode cX11_walks 42 = .ok (.getfield 10, 3) := by decide +kernel
theorem dX11_walks_45 : decode cX11_walks 45 = .ok (.getfield 194, 3) := by decide +kernel
theorem dX11_walks_48 : decode cX11_walks 48 = .ok (.ifCond .ne 6, 3) := by decide +kernel
theorem dX11_walks_51 : decode cX11_walks 51 = .ok (.bipush (-3), 2) := by decide +kernel
theorem dX11_walks_53 : decode cX11_walks 53 = .ok (.ireturn, 1) := by decide +kernel
theorem dX11_walks_54 : decode cX11_walks 54 = .ok (.aload_n 0, 1) := by decide +kernel
theorem dX11_walks_55 : decode cX11_walks 55 = .ok (.iload_n 2, 1) := by decide +kernel
theorem dX11_walks_56 : decode cX11_walks 56 = .ok (.putfield 266, 3) := by decide +kernel
theorem dX11_walks_59 : decode cX11_walks 59 = .ok (.iconst 0, 1) := by decide +kernel
theorem dX11_walks_60 : decode cX11_walks 60 = .ok (.istore 4, 2) := by decide +kernel
theorem dX11_walks_62 : decode cX11_walks 62 = .ok (.iconst 0, 1) := by decide +kernel
theorem dX11_walks_63 : decode cX11_walks 63 = .ok (.istore 5, 2) := by decide +kernel
theorem dX11_walks_65 : decode cX11_walks 65 = .ok (.iconst 0, 1) := by decide +kernel
theorem dX11_walks_66 : decode cX11_walks 66 = .ok (.istore 6, 2) := by decide +kernel
theorem dX11_walks_68 : decode cX11_walks 68 = .ok (.iload 6, 2) := by decide +kernel
theorem dX11_walks_70 : decode cX11_walks 70 = .ok (.iload_n 1, 1) := by decide +kernel
theorem dX11_walks_71 : decode cX11_walks 71 = .ok (.if_icmp .ge 44, 3) := by decide +kernel
theorem dX11_walks_74 : decode cX11_walks 74 = .ok (.aload_n 0, 1) := by decide +kernel
theorem dX11_walks_75 : decode cX11_walks 75 = .ok (.getfield 19, 3) := by decide +kernel
theorem dX11_walks_78 : decode cX11_walks 78 = .ok (.aload_n 0, 1) := by decide +kernel
theorem dX11_walks_79 : decode cX11_walks 79 = .ok (.getfield 10, 3) := by decide +kernel
theorem dX11_walks_82 : decode cX11_walks 82 = .ok (.invokevirtual 48, 3) := by decide +kernel
theorem dX11_walks_85 : decode cX11_walks 85 = .ok (.iload 4, 2) := by decide +kernel
theorem dX11_walks_87 : decode cX11_walks 87 = .ok (.aload_n 0, 1) := by decide +kernel
theorem dX11_walks_88 : decode cX11_walks 88 = .ok (.invokevirtual 269, 3) := by decide +kernel
theorem dX11_walks_91 : decode cX11_walks 91 = .ok (.iadd, 1) := by decide +kernel
theorem dX11_walks_92 : decode cX11_walks 92 = .ok (.istore 4, 2) := by decide +kernel
theorem dX11_walks_94 : decode cX11_walks 94 = .ok (.iload 5, 2) := by decide +kernel
theorem dX11_walks_96 : decode cX11_walks 96 = .ok (.aload_n 0, 1) := by decide +kernel
theorem dX11_walks_97 : decode cX11_walks 97 = .ok (.getfield 19, 3) := by decide +kernel
theorem dX11_walks_100 : decode cX11_walks 100 = .ok (.invokevirtual 272, 3) := by decide +kernel
theorem dX11_walks_103 : decode cX11_walks 103 = .ok (.invokestatic 275, 3) := by decide +kernel
theorem dX11_walks_106 : decode cX11_walks 106 = .ok (.iadd, 1) := by decide +kernel
theorem dX11_walks_107 : decode cX11_walks 107 = .ok (.istore 5, 2) := by decide +kernel
theorem dX11_walks_109 : decode cX11_walks 109 = .ok (.iinc 6 1, 3) := by decide +kernel
theorem dX11_walks_112 : decode cX11_walks 112 = .ok (.goto (-44), 3) := by decide +kernel
theorem dX11_walks_115 : decode cX11_walks 115 = .ok (.iload_n 3, 1) := by decide +kernel
theorem dX11_walks_116 : decode cX11_walks 116 = .ok (.ifCond .ne 8, 3) := by decide +kernel
theorem dX11_walks_119 : decode cX11_walks 119 = .ok (.iload 4, 2) := by decide +kernel
theorem dX11_walks_121 : decode cX11_walks 121 = .ok (.goto 5, 3) := by decide +kernel
theorem dX11_walks_124 : decode cX11_walks 124 = .ok (.iload 5, 2) := by decide +kernel
theorem dX11_walks_126 : decode cX11_walks 126 = .ok (.ireturn, 1) := by decide +kernel
theorem dX11_image_0 : decode cX11_image 0 = .ok (.aload_n 0, 1) := by decide +kernel
theorem dX11_image_1 : decode cX11_image 1 = .ok (.getfield 16, 3) := by decide +kernel
theorem dX11_image_4 : decode cX11_image 4 = .ok (.aload_n 0, 1) := by decide +kernel
theorem dX11_image_5 : decode cX11_image 5 = .ok (.getfield 10, 3) := by decide +kernel
theorem dX11_image_8 : decode cX11_image 8 = .ok (.invokevirtual 48, 3) := by decide +kernel
theorem dX11_image_11 : decode cX11_image 11 = .ok (.aload_n 0, 1) := by decide +kernel
theorem dX11_image_12 : decode cX11_image 12 = .ok (.iconst 1, 1) := by decide +kernel
theorem dX11_image_13 : decode cX11_image 13 = .ok (.putfield 280, 3) := by decide +kernel
theorem dX11_image_16 : decode cX11_image 16 = .ok (.aload_n 0, 1) := by decide +kernel
theorem dX11_image_17 : decode cX11_image 17 = .ok (.getfield 10, 3) := by decide +kernel
theorem dX11_image_20 : decode cX11_image 20 = .ok (.getfield 174, 3) := by decide +kernel
theorem dX11_image_23 : decode cX11_image 23 = .ok (.ireturn, 1) := by decide +kernel
theorem dX11_restore_0 : decode cX11_restore 0 = .ok (.aload_n 0, 1) := by decide +kernel
theorem dX11_restore_1 : decode cX11_restore 1 = .ok (.getfield 280, 3) := by decide +kernel
theorem dX11_restore_4 : decode cX11_restore 4 = .ok (.ifCond .ne 6, 3) := by decide +kernel
theorem dX11_restore_7 : decode cX11_restore 7 = .ok (.bipush (-3), 2) := by decide +kernel
theorem dX11_restore_9 : decode cX11_restore 9 = .ok (.ireturn, 1) := by decide +kernel
theorem dX11_restore_10 : decode cX11_restore 10 = .ok (.aload_n 0, 1) := by decide +kernel
theorem dX11_restore_11 : decode cX11_restore 11 = .ok (.getfield 10, 3) := by decide +kernel
theorem dX11_restore_14 : decode cX11_restore 14 = .ok (.aload_n 0, 1) := by decide +kernel
theorem dX11_restore_15 : decode cX11_restore 15 = .ok (.getfield 16, 3) := by decide +kernel
theorem dX11_restore_18 : decode cX11_restore 18 = .ok (.invokevirtual 48, 3) := by decide +kernel
theorem dX11_restore_21 : decode cX11_restore 21 = .ok (.aload_n 0, 1) := by decide +kernel
theorem dX11_restore_22 : decode cX11_restore 22 = .ok (.getfield 10, 3) := by decide +kernel
theorem dX11_restore_25 : decode cX11_restore 25 = .ok (.getfield 174, 3) := by decide +kernel
theorem dX11_restore_28 : decode cX11_restore 28 = .ok (.ireturn, 1) := by decide +kernel
theorem dX11_count_0 : decode cX11_count 0 = .ok (.iload_n 1, 1) := by decide +kernel
theorem dX11_count_1 : decode cX11_count 1 = .ok (.tableswitch 107 0 5 #[39, 47, 55, 63, 71, 89], 39) := by decide +kernel
theorem dX11_count_40 : decode cX11_count 40 = .ok (.aload_n 0, 1) := by decide +kernel
theorem dX11_count_41 : decode cX11_count 41 = .ok (.getfield 10, 3) := by decide +kernel
theorem dX11_count_44 : decode cX11_count 44 = .ok (.getfield 174, 3) := by decide +kernel
theorem dX11_count_47 : decode cX11_count 47 = .ok (.ireturn, 1) := by decide +kernel
theorem dX11_count_48 : decode cX11_count 48 = .ok (.aload_n 0, 1) := by decide +kernel
theorem dX11_count_49 : decode cX11_count 49 = .ok (.getfield 10, 3) := by decide +kernel
theorem dX11_count_52 : decode cX11_count 52 = .ok (.getfield 168, 3) := by decide +kernel
theorem dX11_count_55 : decode cX11_count 55 = .ok (.ireturn, 1) := by decide +kernel
theorem dX11_count_56 : decode cX11_count 56 = .ok (.aload_n 0, 1) := by decide +kernel
theorem dX11_count_57 : decode cX11_count 57 = .ok (.getfield 10, 3) := by decide +kernel
theorem dX11_count_60 : decode cX11_count 60 = .ok (.getfield 194, 3) := by decide +kernel
theorem dX11_count_63 : decode cX11_count 63 = .ok (.ireturn, 1) := by decide +kernel
theorem dX11_count_64 : decode cX11_count 64 = .ok (.aload_n 0, 1) := by decide +kernel
theorem dX11_count_65 : decode cX11_count 65 = .ok (.getfield 10, 3) := by decide +kernel
theorem dX11_count_68 : decode cX11_count 68 = .ok (.invokevirtual 272, 3) := by decide +kernel
theorem dX11_count_71 : decode cX11_count 71 = .ok (.ireturn, 1) := by decide +kernel
theorem dX11_count_72 : decode cX11_count 72 = .ok (.aload_n 0, 1) := by decide +kernel
theorem dX11_count_73 : decode cX11_count 73 = .ok (.getfield 10, 3) := by decide +kernel
theorem dX11_count_76 : decode cX11_count 76 = .ok (.getfield 77, 3) := by decide +kernel
theorem dX11_count_79 : decode cX11_count 79 = .ok (.aload_n 0, 1) := by decide +kernel
theorem dX11_count_80 : decode cX11_count 80 = .ok (.getfield 10, 3) := by decide +kernel
theorem dX11_count_83 : decode cX11_count 83 = .ok (.getfield 174, 3) := by decide +kernel
theorem dX11_count_86 : decode cX11_count 86 = .ok (.invokestatic 284, 3) := by decide +kernel
theorem dX11_count_89 : decode cX11_count 89 = .ok (.ireturn, 1) := by decide +kernel
theorem dX11_count_90 : decode cX11_count 90 = .ok (.aload_n 0, 1) := by decide +kernel
theorem dX11_count_91 : decode cX11_count 91 = .ok (.getfield 10, 3) := by decide +kernel
theorem dX11_count_94 : decode cX11_count 94 = .ok (.getfield 93, 3) := by decide +kernel
theorem dX11_count_97 : decode cX11_count 97 = .ok (.aload_n 0, 1) := by decide +kernel
theorem dX11_count_98 : decode cX11_count 98 = .ok (.getfield 10, 3) := by decide +kernel
theorem dX11_count_101 : decode cX11_count 101 = .ok (.getfield 168, 3) := by decide +kernel
theorem dX11_count_104 : decode cX11_count 104 = .ok (.invokestatic 284, 3) := by decide +kernel
theorem dX11_count_107 : decode cX11_count 107 = .ok (.ireturn, 1) := by decide +kernel
theorem dX11_count_108 : decode cX11_count 108 = .ok (.iconst (-1), 1) := by decide +kernel
theorem dX11_count_109 : decode cX11_count 109 = .ok (.ireturn, 1) := by decide +kernel
theorem dX11_keep_0 : decode cX11_keep 0 = .ok (.iload_n 1, 1) := by decide +kernel
theorem dX11_keep_1 : decode cX11_keep 1 = .ok (.iconst 0, 1) := by decide +kernel
theorem dX11_keep_2 : decode cX11_keep 2 = .ok (.bipush 7, 2) := by decide +kernel
theorem dX11_keep_4 : decode cX11_keep 4 = .ok (.invokestatic 86, 3) := by decide +kernel
theorem dX11_keep_7 : decode cX11_keep 7 = .ok (.ifCond .ne 12, 3) := by decide +kernel
theorem dX11_keep_10 : decode cX11_keep 10 = .ok (.iload_n 2, 1) := by decide +kernel
theorem dX11_keep_11 : decode cX11_keep 11 = .ok (.iconst 0, 1) := by decide +kernel
theorem dX11_keep_12 : decode cX11_keep 12 = .ok (.iconst 1, 1) := by decide +kernel
theorem dX11_keep_13 : decode cX11_keep 13 = .ok (.invokestatic 86, 3) := by decide +kernel
theorem dX11_keep_16 : decode cX11_keep 16 = .ok (.ifCond .eq 5, 3) := by decide +kernel
theorem dX11_keep_19 : decode cX11_keep 19 = .ok (.iconst (-1), 1) := by decide +kernel
theorem dX11_keep_20 : decode cX11_keep 20 = .ok (.ireturn, 1) := by decide +kernel
theorem dX11_keep_21 : decode cX11_keep 21 = .ok (.iload_n 2, 1) := by decide +kernel
theorem dX11_keep_22 : decode cX11_keep 22 = .ok (.ifCond .ne 14, 3) := by decide +kernel
theorem dX11_keep_25 : decode cX11_keep 25 = .ok (.aload_n 0, 1) := by decide +kernel
theorem dX11_keep_26 : decode cX11_keep 26 = .ok (.getfield 24, 3) := by decide +kernel
theorem dX11_keep_29 : decode cX11_keep 29 = .ok (.iload_n 1, 1) := by decide +kernel
theorem dX11_keep_30 : decode cX11_keep 30 = .ok (.aaload, 1) := by decide +kernel
theorem dX11_keep_31 : decode cX11_keep 31 = .ok (.invokevirtual 288, 3) := by decide +kernel
theorem dX11_keep_34 : decode cX11_keep 34 = .ok (.iconst 0, 1) := by decide +kernel
theorem dX11_keep_35 : decode cX11_keep 35 = .ok (.ireturn, 1) := by decide +kernel
theorem dX11_keep_36 : decode cX11_keep 36 = .ok (.iload_n 3, 1) := by decide +kernel
theorem dX11_keep_37 : decode cX11_keep 37 = .ok (.iload 4, 2) := by decide +kernel
theorem dX11_keep_39 : decode cX11_keep 39 = .ok (.invokestatic 291, 3) := by decide +kernel
theorem dX11_keep_42 : decode cX11_keep 42 = .ok (.astore 5, 2) := by decide +kernel
theorem dX11_keep_44 : decode cX11_keep 44 = .ok (.aload 5, 2) := by decide +kernel
theorem dX11_keep_46 : decode cX11_keep 46 = .ok (.ifnonnull 5, 3) := by decide +kernel
theorem dX11_keep_49 : decode cX11_keep 49 = .ok (.iconst (-1), 1) := by decide +kernel
theorem dX11_keep_50 : decode cX11_keep 50 = .ok (.ireturn, 1) := by decide +kernel
theorem dX11_keep_51 : decode cX11_keep 51 = .ok (.aload_n 0, 1) := by decide +kernel
theorem dX11_keep_52 : decode cX11_keep 52 = .ok (.getfield 24, 3) := by decide +kernel
theorem dX11_keep_55 : decode cX11_keep 55 = .ok (.iload_n 1, 1) := by decide +kernel
theorem dX11_keep_56 : decode cX11_keep 56 = .ok (.aaload, 1) := by decide +kernel
theorem dX11_keep_57 : decode cX11_keep 57 = .ok (.aload 5, 2) := by decide +kernel
theorem dX11_keep_59 : decode cX11_keep 59 = .ok (.invokevirtual 295, 3) := by decide +kernel
theorem dX11_keep_62 : decode cX11_keep 62 = .ok (.iconst 0, 1) := by decide +kernel
theorem dX11_keep_63 : decode cX11_keep 63 = .ok (.ireturn, 1) := by decide +kernel
theorem dX11_row_0 : decode cX11_row 0 = .ok (.iload_n 1, 1) := by decide +kernel
theorem dX11_row_1 : decode cX11_row 1 = .ok (.iconst 0, 1) := by decide +kernel
theorem dX11_row_2 : decode cX11_row 2 = .ok (.bipush 7, 2) := by decide +kernel
theorem dX11_row_4 : decode cX11_row 4 = .ok (.invokestatic 86, 3) := by decide +kernel
theorem dX11_row_7 : decode cX11_row 7 = .ok (.ifCond .ne 18, 3) := by decide +kernel
theorem dX11_row_10 : decode cX11_row 10 = .ok (.iload_n 2, 1) := by decide +kernel
theorem dX11_row_11 : decode cX11_row 11 = .ok (.iconst 0, 1) := by decide +kernel
theorem dX11_row_12 : decode cX11_row 12 = .ok (.iconst 2, 1) := by decide +kernel
theorem dX11_row_13 : decode cX11_row 13 = .ok (.invokestatic 86, 3) := by decide +kernel
theorem dX11_row_16 : decode cX11_row 16 = .ok (.ifCond .ne 9, 3) := by decide +kernel
theorem dX11_row_19 : decode cX11_row 19 = .ok (.iload_n 3, 1) := by decide +kernel
theorem dX11_row_20 : decode cX11_row 20 = .ok (.bipush 100, 2) := by decide +kernel
theorem dX11_row_22 : decode cX11_row 22 = .ok (.if_icmp .le 5, 3) := by decide +kernel
theorem dX11_row_25 : decode cX11_row 25 = .ok (.iconst (-1), 1) := by decide +kernel
theorem dX11_row_26 : decode cX11_row 26 = .ok (.ireturn, 1) := by decide +kernel
theorem dX11_row_27 : decode cX11_row 27 = .ok (.iload_n 3, 1) := by decide +kernel
theorem dX11_row_28 : decode cX11_row 28 = .ok (.ifCond .ge 6, 3) := by decide +kernel
theorem dX11_row_31 : decode cX11_row 31 = .ok (.bipush (-14), 2) := by decide +kernel
theorem dX11_row_33 : decode cX11_row 33 = .ok (.ireturn, 1) := by decide +kernel
theorem dX11_row_34 : decode cX11_row 34 = .ok (.aload_n 0, 1) := by decide +kernel
theorem dX11_row_35 : decode cX11_row 35 = .ok (.getfield 24, 3) := by decide +kernel
theorem dX11_row_38 : decode cX11_row 38 = .ok (.iload_n 1, 1) := by decide +kernel
theorem dX11_row_39 : decode cX11_row 39 = .ok (.aaload, 1) := by decide +kernel
theorem dX11_row_40 : decode cX11_row 40 = .ok (.iload_n 2, 1) := by decide +kernel
theorem dX11_row_41 : decode cX11_row 41 = .ok (.iload_n 3, 1) := by decide +kernel
theorem dX11_row_42 : decode cX11_row 42 = .ok (.invokevirtual 299, 3) := by decide +kernel
theorem dX11_row_45 : decode cX11_row 45 = .ok (.iconst 0, 1) := by decide +kernel
theorem dX11_row_46 : decode cX11_row 46 = .ok (.ireturn, 1) := by decide +kernel
theorem dX11_put_0 : decode cX11_put 0 = .ok (.aload_n 0, 1) := by decide +kernel
theorem dX11_put_1 : decode cX11_put 1 = .ok (.iload_n 1, 1) := by decide +kernel
theorem dX11_put_2 : decode cX11_put 2 = .ok (.invokevirtual 36, 3) := by decide +kernel
theorem dX11_put_5 : decode cX11_put 5 = .ok (.istore 4, 2) := by decide +kernel
theorem dX11_put_7 : decode cX11_put 7 = .ok (.iload 4, 2) := by decide +kernel
theorem dX11_put_9 : decode cX11_put 9 = .ok (.ifCond .ge 6, 3) := by decide +kernel
theorem dX11_put_12 : decode cX11_put 12 = .ok (.iload 4, 2) := by decide +kernel
theorem dX11_put_14 : decode cX11_put 14 = .ok (.ireturn, 1) := by decide +kernel
theorem dX11_put_15 : decode cX11_put 15 = .ok (.aload_n 0, 1) := by decide +kernel
theorem dX11_put_16 : decode cX11_put 16 = .ok (.getfield 24, 3) := by decide +kernel
theorem dX11_put_19 : decode cX11_put 19 = .ok (.iload_n 1, 1) := by decide +kernel
theorem dX11_put_20 : decode cX11_put 20 = .ok (.aaload, 1) := by decide +kernel
theorem dX11_put_21 : decode cX11_put 21 = .ok (.astore 5, 2) := by decide +kernel
theorem dX11_put_23 : decode cX11_put 23 = .ok (.aload 5, 2) := by decide +kernel
theorem dX11_put_25 : decode cX11_put 25 = .ok (.iload_n 2, 1) := by decide +kernel
theorem dX11_put_26 : decode cX11_put 26 = .ok (.invokevirtual 254, 3) := by decide +kernel
theorem dX11_put_29 : decode cX11_put 29 = .ok (.ifCond .ne 6, 3) := by decide +kernel
theorem dX11_put_32 : decode cX11_put 32 = .ok (.bipush (-13), 2) := by decide +kernel
theorem dX11_put_34 : decode cX11_put 34 = .ok (.ireturn, 1) := by decide +kernel
theorem dX11_put_35 : decode cX11_put 35 = .ok (.aload 5, 2) := by decide +kernel
theorem dX11_put_37 : decode cX11_put 37 = .ok (.getfield 244, 3) := by decide +kernel
theorem dX11_put_40 : decode cX11_put 40 = .ok (.iload_n 2, 1) := by decide +kernel
theorem dX11_put_41 : decode cX11_put 41 = .ok (.aload 5, 2) := by decide +kernel
theorem dX11_put_43 : decode cX11_put 43 = .ok (.iload_n 3, 1) := by decide +kernel
theorem dX11_put_44 : decode cX11_put 44 = .ok (.invokevirtual 303, 3) := by decide +kernel
theorem dX11_put_47 : decode cX11_put 47 = .ok (.iastore, 1) := by decide +kernel
theorem dX11_put_48 : decode cX11_put 48 = .ok (.iconst 0, 1) := by decide +kernel
theorem dX11_put_49 : decode cX11_put 49 = .ok (.ireturn, 1) := by decide +kernel
theorem dX11_element_0 : decode cX11_element 0 = .ok (.iload_n 1, 1) := by decide +kernel
theorem dX11_element_1 : decode cX11_element 1 = .ok (.iconst 0, 1) := by decide +kernel
theorem dX11_element_2 : decode cX11_element 2 = .ok (.bipush 7, 2) := by decide +kernel
theorem dX11_element_4 : decode cX11_element 4 = .ok (.invokestatic 86, 3) := by decide +kernel
theorem dX11_element_7 : decode cX11_element 7 = .ok (.ifCond .eq 14, 3) := by decide +kernel
theorem dX11_element_10 : decode cX11_element 10 = .ok (.new 306, 3) := by decide +kernel
theorem dX11_element_13 : decode cX11_element 13 = .ok (.dup, 1) := by decide +kernel
theorem dX11_element_14 : decode cX11_element 14 = .ok (.ldc_w 308, 3) := by decide +kernel
theorem dX11_element_17 : decode cX11_element 17 = .ok (.invokespecial 310, 3) := by decide +kernel
theorem dX11_element_20 : decode cX11_element 20 = .ok (.athrow, 1) := by decide +kernel
theorem dX11_element_21 : decode cX11_element 21 = .ok (.aload_n 0, 1) := by decide +kernel
theorem dX11_element_22 : decode cX11_element 22 = .ok (.getfield 24, 3) := by decide +kernel
theorem dX11_element_25 : decode cX11_element 25 = .ok (.iload_n 1, 1) := by decide +kernel
theorem dX11_element_26 : decode cX11_element 26 = .ok (.aaload, 1) := by decide +kernel
theorem dX11_element_27 : decode cX11_element 27 = .ok (.astore_n 3, 1) := by decide +kernel
theorem dX11_element_28 : decode cX11_element 28 = .ok (.aload_n 3, 1) := by decide +kernel
theorem dX11_element_29 : decode cX11_element 29 = .ok (.getfield 313, 3) := by decide +kernel
theorem dX11_element_32 : decode cX11_element 32 = .ok (.ifCond .eq 11, 3) := by decide +kernel
theorem dX11_element_35 : decode cX11_element 35 = .ok (.aload_n 3, 1) := by decide +kernel
theorem dX11_element_36 : decode cX11_element 36 = .ok (.iload_n 2, 1) := by decide +kernel
theorem dX11_element_37 : decode cX11_element 37 = .ok (.invokevirtual 254, 3) := by decide +kernel
theorem dX11_element_40 : decode cX11_element 40 = .ok (.ifCond .ne 14, 3) := by decide +kernel
theorem dX11_element_43 : decode cX11_element 43 = .ok (.new 316, 3) := by decide +kernel
theorem dX11_element_46 : decode cX11_element 46 = .ok (.dup, 1) := by decide +kernel
theorem dX11_element_47 : decode cX11_element 47 = .ok (.ldc_w 318, 3) := by decide +kernel
theorem dX11_element_50 : decode cX11_element 50 = .ok (.invokespecial 320, 3) := by decide +kernel
theorem dX11_element_53 : decode cX11_element 53 = .ok (.athrow, 1) := by decide +kernel
theorem dX11_element_54 : decode cX11_element 54 = .ok (.aload_n 3, 1) := by decide +kernel
theorem dX11_element_55 : decode cX11_element 55 = .ok (.getfield 244, 3) := by decide +kernel
theorem dX11_element_58 : decode cX11_element 58 = .ok (.iload_n 2, 1) := by decide +kernel
theorem dX11_element_59 : decode cX11_element 59 = .ok (.iaload, 1) := by decide +kernel
theorem dX11_element_60 : decode cX11_element 60 = .ok (.i2l, 1) := by decide +kernel
theorem dX11_element_61 : decode cX11_element 61 = .ok (.lreturn, 1) := by decide +kernel
theorem dX11_copy_0 : decode cX11_copy 0 = .ok (.aload_n 0, 1) := by decide +kernel
theorem dX11_copy_1 : decode cX11_copy 1 = .ok (.iload_n 1, 1) := by decide +kernel
theorem dX11_copy_2 : decode cX11_copy 2 = .ok (.iload_n 3, 1) := by decide +kernel
theorem dX11_copy_3 : decode cX11_copy 3 = .ok (.invokevirtual 259, 3) := by decide +kernel
theorem dX11_copy_6 : decode cX11_copy 6 = .ok (.istore 6, 2) := by decide +kernel
theorem dX11_copy_8 : decode cX11_copy 8 = .ok (.iload 6, 2) := by decide +kernel
theorem dX11_copy_10 : decode cX11_copy 10 = .ok (.ifCond .ge 6, 3) := by decide +kernel
theorem dX11_copy_13 : decode cX11_copy 13 = .ok (.iload 6, 2) := by decide +kernel
theorem dX11_copy_15 : decode cX11_copy 15 = .ok (.ireturn, 1) := by decide +kernel
theorem dX11_copy_16 : decode cX11_copy 16 = .ok (.aload_n 0, 1) := by decide +kernel
theorem dX11_copy_17 : decode cX11_copy 17 = .ok (.getfield 24, 3) := by decide +kernel
theorem dX11_copy_20 : decode cX11_copy 20 = .ok (.iload_n 1, 1) := by decide +kernel
theorem dX11_copy_21 : decode cX11_copy 21 = .ok (.aaload, 1) := by decide +kernel
theorem dX11_copy_22 : decode cX11_copy 22 = .ok (.astore 7, 2) := by decide +kernel
theorem dX11_copy_24 : decode cX11_copy 24 = .ok (.aload_n 0, 1) := by decide +kernel
theorem dX11_copy_25 : decode cX11_copy 25 = .ok (.getfield 24, 3) := by decide +kernel
theorem dX11_copy_28 : decode cX11_copy 28 = .ok (.iload_n 3, 1) := by decide +kernel
theorem dX11_copy_29 : decode cX11_copy 29 = .ok (.aaload, 1) := by decide +kernel
theorem dX11_copy_30 : decode cX11_copy 30 = .ok (.astore 8, 2) := by decide +kernel
theorem dX11_copy_32 : decode cX11_copy 32 = .ok (.aload 7, 2) := by decide +kernel
theorem dX11_copy_34 : decode cX11_copy 34 = .ok (.getfield 40, 3) := by decide +kernel
theorem dX11_copy_37 : decode cX11_copy 37 = .ok (.aload 8, 2) := by decide +kernel
theorem dX11_copy_39 : decode cX11_copy 39 = .ok (.getfield 40, 3) := by decide +kernel
theorem dX11_copy_42 : decode cX11_copy 42 = .ok (.if_icmp .eq 6, 3) := by decide +kernel
theorem dX11_copy_45 : decode cX11_copy 45 = .ok (.bipush (-12), 2) := by decide +kernel
theorem dX11_copy_47 : decode cX11_copy 47 = .ok (.ireturn, 1) := by decide +kernel
theorem dX11_copy_48 : decode cX11_copy 48 = .ok (.iload 5, 2) := by decide +kernel
theorem dX11_copy_50 : decode cX11_copy 50 = .ok (.ifCond .lt 26, 3) := by decide +kernel
theorem dX11_copy_53 : decode cX11_copy 53 = .ok (.aload 7, 2) := by decide +kernel
theorem dX11_copy_55 : decode cX11_copy 55 = .ok (.iload_n 2, 1) := by decide +kernel
theorem dX11_copy_56 : decode cX11_copy 56 = .ok (.iload 5, 2) := by decide +kernel
theorem dX11_copy_58 : decode cX11_copy 58 = .ok (.invokevirtual 321, 3) := by decide +kernel
theorem dX11_copy_61 : decode cX11_copy 61 = .ok (.ifCond .eq 15, 3) := by decide +kernel
theorem dX11_copy_64 : decode cX11_copy 64 = .ok (.aload 8, 2) := by decide +kernel
theorem dX11_copy_66 : decode cX11_copy 66 = .ok (.iload 4, 2) := by decide +kernel
theorem dX11_copy_68 : decode cX11_copy 68 = .ok (.iload 5, 2) := by decide +kernel
theorem dX11_copy_70 : decode cX11_copy 70 = .ok (.invokevirtual 321, 3) := by decide +kernel
theorem dX11_copy_73 : decode cX11_copy 73 = .ok (.ifCond .ne 6, 3) := by decide +kernel
theorem dX11_copy_76 : decode cX11_copy 76 = .ok (.bipush (-13), 2) := by decide +kernel
theorem dX11_copy_78 : decode cX11_copy 78 = .ok (.ireturn, 1) := by decide +kernel
theorem dX11_copy_79 : decode cX11_copy 79 = .ok (.aload 7, 2) := by decide +kernel
theorem dX11_copy_81 : decode cX11_copy 81 = .ok (.getfield 244, 3) := by decide +kernel
theorem dX11_copy_84 : decode cX11_copy 84 = .ok (.iload_n 2, 1) := by decide +kernel
theorem dX11_copy_85 : decode cX11_copy 85 = .ok (.aload 8, 2) := by decide +kernel
theorem dX11_copy_87 : decode cX11_copy 87 = .ok (.getfield 244, 3) := by decide +kernel
theorem dX11_copy_90 : decode cX11_copy 90 = .ok (.iload 4, 2) := by decide +kernel
theorem dX11_copy_92 : decode cX11_copy 92 = .ok (.iload 5, 2) := by decide +kernel
theorem dX11_copy_94 : decode cX11_copy 94 = .ok (.invokestatic 325, 3) := by decide +kernel
theorem dX11_copy_97 : decode cX11_copy 97 = .ok (.iload 5, 2) := by decide +kernel
theorem dX11_copy_99 : decode cX11_copy 99 = .ok (.ireturn, 1) := by decide +kernel
theorem dX11_cost_0 : decode cX11_cost 0 = .ok (.aload_n 0, 1) := by decide +kernel
theorem dX11_cost_1 : decode cX11_cost 1 = .ok (.iload_n 1, 1) := by decide +kernel
theorem dX11_cost_2 : decode cX11_cost 2 = .ok (.invokevirtual 118, 3) := by decide +kernel
theorem dX11_cost_5 : decode cX11_cost 5 = .ok (.istore_n 2, 1) := by decide +kernel
theorem dX11_cost_6 : decode cX11_cost 6 = .ok (.iload_n 2, 1) := by decide +kernel
theorem dX11_cost_7 : decode cX11_cost 7 = .ok (.ifCond .ge 7, 3) := by decide +kernel
theorem dX11_cost_10 : decode cX11_cost 10 = .ok (.iload_n 2, 1) := by decide +kernel
theorem dX11_cost_11 : decode cX11_cost 11 = .ok (.goto 15, 3) := by decide +kernel
theorem dX11_cost_14 : decode cX11_cost 14 = .ok (.aload_n 0, 1) := by decide +kernel
theorem dX11_cost_15 : decode cX11_cost 15 = .ok (.getfield 24, 3) := by decide +kernel
theorem dX11_cost_18 : decode cX11_cost 18 = .ok (.iload_n 1, 1) := by decide +kernel
theorem dX11_cost_19 : decode cX11_cost 19 = .ok (.aaload, 1) := by decide +kernel
theorem dX11_cost_20 : decode cX11_cost 20 = .ok (.getfield 121, 3) := by decide +kernel
theorem dX11_cost_23 : decode cX11_cost 23 = .ok (.invokevirtual 331, 3) := by decide +kernel
theorem dX11_cost_26 : decode cX11_cost 26 = .ok (.ireturn, 1) := by decide +kernel
theorem dX11_toss_0 : decode cX11_toss 0 = .ok (.aload_n 0, 1) := by decide +kernel
theorem dX11_toss_1 : decode cX11_toss 1 = .ok (.iload_n 1, 1) := by decide +kernel
theorem dX11_toss_2 : decode cX11_toss 2 = .ok (.invokevirtual 118, 3) := by decide +kernel
theorem dX11_toss_5 : decode cX11_toss 5 = .ok (.istore_n 2, 1) := by decide +kernel
theorem dX11_toss_6 : decode cX11_toss 6 = .ok (.iload_n 2, 1) := by decide +kernel
theorem dX11_toss_7 : decode cX11_toss 7 = .ok (.ifCond .ge 5, 3) := by decide +kernel
theorem dX11_toss_10 : decode cX11_toss 10 = .ok (.iload_n 2, 1) := by decide +kernel
theorem dX11_toss_11 : decode cX11_toss 11 = .ok (.ireturn, 1) := by decide +kernel
theorem dX11_toss_12 : decode cX11_toss 12 = .ok (.aload_n 0, 1) := by decide +kernel
theorem dX11_toss_13 : decode cX11_toss 13 = .ok (.getfield 24, 3) := by decide +kernel
theorem dX11_toss_16 : decode cX11_toss 16 = .ok (.iload_n 1, 1) := by decide +kernel
theorem dX11_toss_17 : decode cX11_toss 17 = .ok (.aaload, 1) := by decide +kernel
theorem dX11_toss_18 : decode cX11_toss 18 = .ok (.getfield 121, 3) := by decide +kernel
theorem dX11_toss_21 : decode cX11_toss 21 = .ok (.astore_n 3, 1) := by decide +kernel
theorem dX11_toss_22 : decode cX11_toss 22 = .ok (.aload_n 3, 1) := by decide +kernel
theorem dX11_toss_23 : decode cX11_toss 23 = .ok (.invokevirtual 334, 3) := by decide +kernel
theorem dX11_toss_26 : decode cX11_toss 26 = .ok (.bipush (-15), 2) := by decide +kernel
theorem dX11_toss_28 : decode cX11_toss 28 = .ok (.ireturn, 1) := by decide +kernel
theorem dX11_toss_29 : decode cX11_toss 29 = .ok (.astore 4, 2) := by decide +kernel
theorem dX11_toss_31 : decode cX11_toss 31 = .ok (.aload_n 3, 1) := by decide +kernel
theorem dX11_toss_32 : decode cX11_toss 32 = .ok (.getfield 108, 3) := by decide +kernel
theorem dX11_toss_35 : decode cX11_toss 35 = .ok (.ireturn, 1) := by decide +kernel
theorem dX11_toss_36 : decode cX11_toss 36 = .ok (.astore 4, 2) := by decide +kernel
theorem dX11_toss_38 : decode cX11_toss 38 = .ok (.bipush 100, 2) := by decide +kernel
theorem dX11_toss_40 : decode cX11_toss 40 = .ok (.aload_n 3, 1) := by decide +kernel
theorem dX11_toss_41 : decode cX11_toss 41 = .ok (.getfield 108, 3) := by decide +kernel
theorem dX11_toss_44 : decode cX11_toss 44 = .ok (.iadd, 1) := by decide +kernel
theorem dX11_toss_45 : decode cX11_toss 45 = .ok (.ireturn, 1) := by decide +kernel
theorem dX11_toss_46 : decode cX11_toss 46 = .ok (.astore 4, 2) := by decide +kernel
theorem dX11_toss_48 : decode cX11_toss 48 = .ok (.sipush 200, 3) := by decide +kernel
theorem dX11_toss_51 : decode cX11_toss 51 = .ok (.aload_n 3, 1) := by decide +kernel
theorem dX11_toss_52 : decode cX11_toss 52 = .ok (.invokevirtual 331, 3) := by decide +kernel
theorem dX11_toss_55 : decode cX11_toss 55 = .ok (.iadd, 1) := by decide +kernel
theorem dX11_toss_56 : decode cX11_toss 56 = .ok (.ireturn, 1) := by decide +kernel
theorem dX11_isOut_0 : decode cX11_isOut 0 = .ok (.iload_n 0, 1) := by decide +kernel
theorem dX11_isOut_1 : decode cX11_isOut 1 = .ok (.iload_n 1, 1) := by decide +kernel
theorem dX11_isOut_2 : decode cX11_isOut 2 = .ok (.if_icmp .lt 8, 3) := by decide +kernel
theorem dX11_isOut_5 : decode cX11_isOut 5 = .ok (.iload_n 0, 1) := by decide +kernel
theorem dX11_isOut_6 : decode cX11_isOut 6 = .ok (.iload_n 2, 1) := by decide +kernel
theorem dX11_isOut_7 : decode cX11_isOut 7 = .ok (.if_icmp .le 7, 3) := by decide +kernel
theorem dX11_isOut_10 : decode cX11_isOut 10 = .ok (.iconst 1, 1) := by decide +kernel
theorem dX11_isOut_11 : decode cX11_isOut 11 = .ok (.goto 4, 3) := by decide +kernel
theorem dX11_isOut_14 : decode cX11_isOut 14 = .ok (.iconst 0, 1) := by decide +kernel
theorem dX11_isOut_15 : decode cX11_isOut 15 = .ok (.ireturn, 1) := by decide +kernel
theorem dX11_rowRefusal_0 : decode cX11_rowRefusal 0 = .ok (.iload_n 1, 1) := by decide +kernel
theorem dX11_rowRefusal_1 : decode cX11_rowRefusal 1 = .ok (.iconst 0, 1) := by decide +kernel
theorem dX11_rowRefusal_2 : decode cX11_rowRefusal 2 = .ok (.bipush 7, 2) := by decide +kernel
theorem dX11_rowRefusal_4 : decode cX11_rowRefusal 4 = .ok (.invokestatic 86, 3) := by decide +kernel
theorem dX11_rowRefusal_7 : decode cX11_rowRefusal 7 = .ok (.ifCond .eq 5, 3) := by decide +kernel
theorem dX11_rowRefusal_10 : decode cX11_rowRefusal 10 = .ok (.iconst (-1), 1) := by decide +kernel
theorem dX11_rowRefusal_11 : decode cX11_rowRefusal 11 = .ok (.ireturn, 1) := by decide +kernel
theorem dX11_rowRefusal_12 : decode cX11_rowRefusal 12 = .ok (.aload_n 0, 1) := by decide +kernel
theorem dX11_rowRefusal_13 : decode cX11_rowRefusal 13 = .ok (.getfield 24, 3) := by decide +kernel
theorem dX11_rowRefusal_16 : decode cX11_rowRefusal 16 = .ok (.iload_n 1, 1) := by decide +kernel
theorem dX11_rowRefusal_17 : decode cX11_rowRefusal 17 = .ok (.aaload, 1) := by decide +kernel
theorem dX11_rowRefusal_18 : decode cX11_rowRefusal 18 = .ok (.invokevirtual 339, 3) := by decide +kernel
theorem dX11_rowRefusal_21 : decode cX11_rowRefusal 21 = .ok (.ifCond .eq 6, 3) := by decide +kernel
theorem dX11_rowRefusal_24 : decode cX11_rowRefusal 24 = .ok (.bipush (-11), 2) := by decide +kernel
theorem dX11_rowRefusal_26 : decode cX11_rowRefusal 26 = .ok (.ireturn, 1) := by decide +kernel
theorem dX11_rowRefusal_27 : decode cX11_rowRefusal 27 = .ok (.aload_n 0, 1) := by decide +kernel
theorem dX11_rowRefusal_28 : decode cX11_rowRefusal 28 = .ok (.getfield 24, 3) := by decide +kernel
theorem dX11_rowRefusal_31 : decode cX11_rowRefusal 31 = .ok (.iload_n 1, 1) := by decide +kernel
theorem dX11_rowRefusal_32 : decode cX11_rowRefusal 32 = .ok (.aaload, 1) := by decide +kernel
theorem dX11_rowRefusal_33 : decode cX11_rowRefusal 33 = .ok (.getfield 313, 3) := by decide +kernel
theorem dX11_rowRefusal_36 : decode cX11_rowRefusal 36 = .ok (.ifCond .eq 7, 3) := by decide +kernel
theorem dX11_rowRefusal_39 : decode cX11_rowRefusal 39 = .ok (.iconst 0, 1) := by decide +kernel
theorem dX11_rowRefusal_40 : decode cX11_rowRefusal 40 = .ok (.goto 5, 3) := by decide +kernel
theorem dX11_rowRefusal_43 : decode cX11_rowRefusal 43 = .ok (.bipush (-12), 2) := by decide +kernel
theorem dX11_rowRefusal_45 : decode cX11_rowRefusal 45 = .ok (.ireturn, 1) := by decide +kernel
theorem dX11_rowsRefusal_0 : decode cX11_rowsRefusal 0 = .ok (.aload_n 0, 1) := by decide +kernel
theorem dX11_rowsRefusal_1 : decode cX11_rowsRefusal 1 = .ok (.iload_n 1, 1) := by decide +kernel
theorem dX11_rowsRefusal_2 : decode cX11_rowsRefusal 2 = .ok (.invokevirtual 36, 3) := by decide +kernel
theorem dX11_rowsRefusal_5 : decode cX11_rowsRefusal 5 = .ok (.istore_n 3, 1) := by decide +kernel
theorem dX11_rowsRefusal_6 : decode cX11_rowsRefusal 6 = .ok (.aload_n 0, 1) := by decide +kernel
theorem dX11_rowsRefusal_7 : decode cX11_rowsRefusal 7 = .ok (.iload_n 2, 1) := by decide +kernel
theorem dX11_rowsRefusal_8 : decode cX11_rowsRefusal 8 = .ok (.invokevirtual 36, 3) := by decide +kernel
theorem dX11_rowsRefusal_11 : decode cX11_rowsRefusal 11 = .ok (.istore 4, 2) := by decide +kernel
theorem dX11_rowsRefusal_13 : decode cX11_rowsRefusal 13 = .ok (.iload_n 3, 1) := by decide +kernel
theorem dX11_rowsRefusal_14 : decode cX11_rowsRefusal 14 = .ok (.iconst (-1), 1) := by decide +kernel
theorem dX11_rowsRefusal_15 : decode cX11_rowsRefusal 15 = .ok (.if_icmp .eq 9, 3) := by decide +kernel
theorem dX11_rowsRefusal_18 : decode cX11_rowsRefusal 18 = .ok (.iload 4, 2) := by decide +kernel
theorem dX11_rowsRefusal_20 : decode cX11_rowsRefusal 20 = .ok (.iconst (-1), 1) := by decide +kernel
theorem dX11_rowsRefusal_21 : decode cX11_rowsRefusal 21 = .ok (.if_icmp .ne 5, 3) := by decide +kernel
theorem dX11_rowsRefusal_24 : decode cX11_rowsRefusal 24 = .ok (.iconst (-1), 1) := by decide +kernel
theorem dX11_rowsRefusal_25 : decode cX11_rowsRefusal 25 = .ok (.ireturn, 1) := by decide +kernel
theorem dX11_rowsRefusal_26 : decode cX11_rowsRefusal 26 = .ok (.iload_n 3, 1) := by decide +kernel
theorem dX11_rowsRefusal_27 : decode cX11_rowsRefusal 27 = .ok (.bipush (-11), 2) := by decide +kernel
theorem dX11_rowsRefusal_29 : decode cX11_rowsRefusal 29 = .ok (.if_icmp .eq 10, 3) := by decide +kernel
theorem dX11_rowsRefusal_32 : decode cX11_rowsRefusal 32 = .ok (.iload 4, 2) := by decide +kernel
theorem dX11_rowsRefusal_34 : decode cX11_rowsRefusal 34 = .ok (.bipush (-11), 2) := by decide +kernel
theorem dX11_rowsRefusal_36 : decode cX11_rowsRefusal 36 = .ok (.if_icmp .ne 6, 3) := by decide +kernel
theorem dX11_rowsRefusal_39 : decode cX11_rowsRefusal 39 = .ok (.bipush (-11), 2) := by decide +kernel
theorem dX11_rowsRefusal_41 : decode cX11_rowsRefusal 41 = .ok (.ireturn, 1) := by decide +kernel
theorem dX11_rowsRefusal_42 : decode cX11_rowsRefusal 42 = .ok (.iload_n 3, 1) := by decide +kernel
theorem dX11_rowsRefusal_43 : decode cX11_rowsRefusal 43 = .ok (.ifCond .ge 7, 3) := by decide +kernel
theorem dX11_rowsRefusal_46 : decode cX11_rowsRefusal 46 = .ok (.iload_n 3, 1) := by decide +kernel
theorem dX11_rowsRefusal_47 : decode cX11_rowsRefusal 47 = .ok (.goto 5, 3) := by decide +kernel
theorem dX11_rowsRefusal_50 : decode cX11_rowsRefusal 50 = .ok (.iload 4, 2) := by decide +kernel
theorem dX11_rowsRefusal_52 : decode cX11_rowsRefusal 52 = .ok (.ireturn, 1) := by decide +kernel
theorem dX11_blowRefusal_0 : decode cX11_blowRefusal 0 = .ok (.iload_n 1, 1) := by decide +kernel
theorem dX11_blowRefusal_1 : decode cX11_blowRefusal 1 = .ok (.iconst 0, 1) := by decide +kernel
theorem dX11_blowRefusal_2 : decode cX11_blowRefusal 2 = .ok (.bipush 7, 2) := by decide +kernel
theorem dX11_blowRefusal_4 : decode cX11_blowRefusal 4 = .ok (.invokestatic 86, 3) := by decide +kernel
theorem dX11_blowRefusal_7 : decode cX11_blowRefusal 7 = .ok (.ifCond .eq 5, 3) := by decide +kernel
theorem dX11_blowRefusal_10 : decode cX11_blowRefusal 10 = .ok (.iconst (-1), 1) := by decide +kernel
theorem dX11_blowRefusal_11 : decode cX11_blowRefusal 11 = .ok (.ireturn, 1) := by decide +kernel
theorem dX11_blowRefusal_12 : decode cX11_blowRefusal 12 = .ok (.aload_n 0, 1) := by decide +kernel
theorem dX11_blowRefusal_13 : decode cX11_blowRefusal 13 = .ok (.getfield 24, 3) := by decide +kernel
theorem dX11_blowRefusal_16 : decode cX11_blowRefusal 16 = .ok (.iload_n 1, 1) := by decide +kernel
theorem dX11_blowRefusal_17 : decode cX11_blowRefusal 17 = .ok (.aaload, 1) := by decide +kernel
theorem dX11_blowRefusal_18 : decode cX11_blowRefusal 18 = .ok (.invokevirtual 339, 3) := by decide +kernel
theorem dX11_blowRefusal_21 : decode cX11_blowRefusal 21 = .ok (.ifCond .eq 6, 3) := by decide +kernel
theorem dX11_blowRefusal_24 : decode cX11_blowRefusal 24 = .ok (.bipush (-11), 2) := by decide +kernel
theorem dX11_blowRefusal_26 : decode cX11_blowRefusal 26 = .ok (.ireturn, 1) := by decide +kernel
theorem dX11_blowRefusal_27 : decode cX11_blowRefusal 27 = .ok (.aload_n 0, 1) := by decide +kernel
theorem dX11_blowRefusal_28 : decode cX11_blowRefusal 28 = .ok (.getfield 24, 3) := by decide +kernel
theorem dX11_blowRefusal_31 : decode cX11_blowRefusal 31 = .ok (.iload_n 1, 1) := by decide +kernel
theorem dX11_blowRefusal_32 : decode cX11_blowRefusal 32 = .ok (.aaload, 1) := by decide +kernel
theorem dX11_blowRefusal_33 : decode cX11_blowRefusal 33 = .ok (.getfield 121, 3) := by decide +kernel
theorem dX11_blowRefusal_36 : decode cX11_blowRefusal 36 = .ok (.ifnull 7, 3) := by decide +kernel
theorem dX11_blowRefusal_39 : decode cX11_blowRefusal 39 = .ok (.iconst 0, 1) := by decide +kernel
theorem dX11_blowRefusal_40 : decode cX11_blowRefusal 40 = .ok (.goto 5, 3) := by decide +kernel
theorem dX11_blowRefusal_43 : decode cX11_blowRefusal 43 = .ok (.bipush (-12), 2) := by decide +kernel
theorem dX11_blowRefusal_45 : decode cX11_blowRefusal 45 = .ok (.ireturn, 1) := by decide +kernel
theorem dX11_firstBadByte_0 : decode cX11_firstBadByte 0 = .ok (.iconst 0, 1) := by decide +kernel
theorem dX11_firstBadByte_1 : decode cX11_firstBadByte 1 = .ok (.istore_n 1, 1) := by decide +kernel
theorem dX11_firstBadByte_2 : decode cX11_firstBadByte 2 = .ok (.aload_n 0, 1) := by decide +kernel
theorem dX11_firstBadByte_3 : decode cX11_firstBadByte 3 = .ok (.iload_n 1, 1) := by decide +kernel
theorem dX11_firstBadByte_4 : decode cX11_firstBadByte 4 = .ok (.invokevirtual 343, 3) := by decide +kernel
theorem dX11_firstBadByte_7 : decode cX11_firstBadByte 7 = .ok (.invokestatic 346, 3) := by decide +kernel
theorem dX11_firstBadByte_10 : decode cX11_firstBadByte 10 = .ok (.istore_n 2, 1) := by decide +kernel
theorem dX11_firstBadByte_11 : decode cX11_firstBadByte 11 = .ok (.iload_n 2, 1) := by decide +kernel
theorem dX11_firstBadByte_12 : decode cX11_firstBadByte 12 = .ok (.ifCond .ge 5, 3) := by decide +kernel
theorem dX11_firstBadByte_15 : decode cX11_firstBadByte 15 = .ok (.iload_n 1, 1) := by decide +kernel
theorem dX11_firstBadByte_16 : decode cX11_firstBadByte 16 = .ok (.ireturn, 1) := by decide +kernel
theorem dX11_firstBadByte_17 : decode cX11_firstBadByte 17 = .ok (.iload_n 1, 1) := by decide +kernel
theorem dX11_firstBadByte_18 : decode cX11_firstBadByte 18 = .ok (.iload_n 2, 1) := by decide +kernel
theorem dX11_firstBadByte_19 : decode cX11_firstBadByte 19 = .ok (.iadd, 1) := by decide +kernel
theorem dX11_firstBadByte_20 : decode cX11_firstBadByte 20 = .ok (.iconst 1, 1) := by decide +kernel
theorem dX11_firstBadByte_21 : decode cX11_firstBadByte 21 = .ok (.iadd, 1) := by decide +kernel
theorem dX11_firstBadByte_22 : decode cX11_firstBadByte 22 = .ok (.istore_n 3, 1) := by decide +kernel
theorem dX11_firstBadByte_23 : decode cX11_firstBadByte 23 = .ok (.iload_n 1, 1) := by decide +kernel
theorem dX11_firstBadByte_24 : decode cX11_firstBadByte 24 = .ok (.iconst 1, 1) := by decide +kernel
theorem dX11_firstBadByte_25 : decode cX11_firstBadByte 25 = .ok (.iadd, 1) := by decide +kernel
theorem dX11_firstBadByte_26 : decode cX11_firstBadByte 26 = .ok (.istore 4, 2) := by decide +kernel
theorem dX11_firstBadByte_28 : decode cX11_firstBadByte 28 = .ok (.iload 4, 2) := by decide +kernel
theorem dX11_firstBadByte_30 : decode cX11_firstBadByte 30 = .ok (.iload_n 3, 1) := by decide +kernel
theorem dX11_firstBadByte_31 : decode cX11_firstBadByte 31 = .ok (.if_icmp .ge 28, 3) := by decide +kernel
theorem dX11_firstBadByte_34 : decode cX11_firstBadByte 34 = .ok (.aload_n 0, 1) := by decide +kernel
theorem dX11_firstBadByte_35 : decode cX11_firstBadByte 35 = .ok (.iload 4, 2) := by decide +kernel
theorem dX11_firstBadByte_37 : decode cX11_firstBadByte 37 = .ok (.invokevirtual 343, 3) := by decide +kernel
theorem dX11_firstBadByte_40 : decode cX11_firstBadByte 40 = .ok (.bipush 48, 2) := by decide +kernel
theorem dX11_firstBadByte_42 : decode cX11_firstBadByte 42 = .ok (.bipush 57, 2) := by decide +kernel
theorem dX11_firstBadByte_44 : decode cX11_firstBadByte 44 = .ok (.invokestatic 86, 3) := by decide +kernel
theorem dX11_firstBadByte_47 : decode cX11_firstBadByte 47 = .ok (.ifCond .eq 6, 3) := by decide +kernel
theorem dX11_firstBadByte_50 : decode cX11_firstBadByte 50 = .ok (.iload 4, 2) := by decide +kernel
theorem dX11_firstBadByte_52 : decode cX11_firstBadByte 52 = .ok (.ireturn, 1) := by decide +kernel
theorem dX11_firstBadByte_53 : decode cX11_firstBadByte 53 = .ok (.iinc 4 1, 3) := by decide +kernel
theorem dX11_firstBadByte_56 : decode cX11_firstBadByte 56 = .ok (.goto (-28), 3) := by decide +kernel
theorem dX11_firstBadByte_59 : decode cX11_firstBadByte 59 = .ok (.aload_n 0, 1) := by decide +kernel
theorem dX11_firstBadByte_60 : decode cX11_firstBadByte 60 = .ok (.iload_n 3, 1) := by decide +kernel
theorem dX11_firstBadByte_61 : decode cX11_firstBadByte 61 = .ok (.invokevirtual 343, 3) := by decide +kernel
theorem dX11_firstBadByte_64 : decode cX11_firstBadByte 64 = .ok (.bipush 59, 2) := by decide +kernel
theorem dX11_firstBadByte_66 : decode cX11_firstBadByte 66 = .ok (.if_icmp .eq 5, 3) := by decide +kernel
theorem dX11_firstBadByte_69 : decode cX11_firstBadByte 69 = .ok (.iload_n 3, 1) := by decide +kernel
theorem dX11_firstBadByte_70 : decode cX11_firstBadByte 70 = .ok (.ireturn, 1) := by decide +kernel
theorem dX11_firstBadByte_71 : decode cX11_firstBadByte 71 = .ok (.iload_n 3, 1) := by decide +kernel
theorem dX11_firstBadByte_72 : decode cX11_firstBadByte 72 = .ok (.iconst 1, 1) := by decide +kernel
theorem dX11_firstBadByte_73 : decode cX11_firstBadByte 73 = .ok (.iadd, 1) := by decide +kernel
theorem dX11_firstBadByte_74 : decode cX11_firstBadByte 74 = .ok (.istore_n 1, 1) := by decide +kernel
theorem dX11_firstBadByte_75 : decode cX11_firstBadByte 75 = .ok (.iload_n 1, 1) := by decide +kernel
theorem dX11_firstBadByte_76 : decode cX11_firstBadByte 76 = .ok (.aload_n 0, 1) := by decide +kernel
theorem dX11_firstBadByte_77 : decode cX11_firstBadByte 77 = .ok (.getfield 52, 3) := by decide +kernel
theorem dX11_firstBadByte_80 : decode cX11_firstBadByte 80 = .ok (.if_icmp .lt (-78), 3) := by decide +kernel
theorem dX11_firstBadByte_83 : decode cX11_firstBadByte 83 = .ok (.iconst (-1), 1) := by decide +kernel
theorem dX11_firstBadByte_84 : decode cX11_firstBadByte 84 = .ok (.ireturn, 1) := by decide +kernel
theorem dX11_digitsBehind_0 : decode cX11_digitsBehind 0 = .ok (.iload_n 0, 1) := by decide +kernel
theorem dX11_digitsBehind_1 : decode cX11_digitsBehind 1 = .ok (.lookupswitch 52 #[(98, 43), (107, 47), (116, 45), (121, 49)], 43) := by decide +kernel
theorem dX11_digitsBehind_44 : decode cX11_digitsBehind 44 = .ok (.iconst 5, 1) := by decide +kernel
theorem dX11_digitsBehind_45 : decode cX11_digitsBehind 45 = .ok (.ireturn, 1) := by decide +kernel
theorem dX11_digitsBehind_46 : decode cX11_digitsBehind 46 = .ok (.iconst 3, 1) := by decide +kernel
theorem dX11_digitsBehind_47 : decode cX11_digitsBehind 47 = .ok (.ireturn, 1) := by decide +kernel
theorem dX11_digitsBehind_48 : decode cX11_digitsBehind 48 = .ok (.iconst 2, 1) := by decide +kernel
theorem dX11_digitsBehind_49 : decode cX11_digitsBehind 49 = .ok (.ireturn, 1) := by decide +kernel
theorem dX11_digitsBehind_50 : decode cX11_digitsBehind 50 = .ok (.bipush 7, 2) := by decide +kernel
theorem dX11_digitsBehind_52 : decode cX11_digitsBehind 52 = .ok (.ireturn, 1) := by decide +kernel
theorem dX11_digitsBehind_53 : decode cX11_digitsBehind 53 = .ok (.iconst (-1), 1) := by decide +kernel
theorem dX11_digitsBehind_54 : decode cX11_digitsBehind 54 = .ok (.ireturn, 1) := by decide +kernel
theorem dX11_lengthAt_0 : decode cX11_lengthAt 0 = .ok (.iconst 0, 1) := by decide +kernel
theorem dX11_lengthAt_1 : decode cX11_lengthAt 1 = .ok (.aload_n 0, 1) := by decide +kernel
theorem dX11_lengthAt_2 : decode cX11_lengthAt 2 = .ok (.iload_n 1, 1) := by decide +kernel
theorem dX11_lengthAt_3 : decode cX11_lengthAt 3 = .ok (.invokevirtual 343, 3) := by decide +kernel
theorem dX11_lengthAt_6 : decode cX11_lengthAt 6 = .ok (.invokestatic 346, 3) := by decide +kernel
theorem dX11_lengthAt_9 : decode cX11_lengthAt 9 = .ok (.invokestatic 185, 3) := by decide +kernel
theorem dX11_lengthAt_12 : decode cX11_lengthAt 12 = .ok (.iconst 2, 1) := by decide +kernel
theorem dX11_lengthAt_13 : decode cX11_lengthAt 13 = .ok (.iadd, 1) := by decide +kernel
theorem dX11_lengthAt_14 : decode cX11_lengthAt 14 = .ok (.ireturn, 1) := by decide +kernel
theorem dX11_isDoneOnSpare_0 : decode cX11_isDoneOnSpare 0 = .ok (.aload_n 1, 1) := by decide +kernel
theorem dX11_isDoneOnSpare_1 : decode cX11_isDoneOnSpare 1 = .ok (.iload_n 2, 1) := by decide +kernel
theorem dX11_isDoneOnSpare_2 : decode cX11_isDoneOnSpare 2 = .ok (.invokevirtual 343, 3) := by decide +kernel
theorem dX11_isDoneOnSpare_5 : decode cX11_isDoneOnSpare 5 = .ok (.lookupswitch 135 #[(98, 35), (107, 102), (116, 72)], 35) := by decide +kernel
theorem dX11_isDoneOnSpare_40 : decode cX11_isDoneOnSpare 40 = .ok (.aload_n 0, 1) := by decide +kernel
theorem dX11_isDoneOnSpare_41 : decode cX11_isDoneOnSpare 41 = .ok (.getfield 19, 3) := by decide +kernel
theorem dX11_isDoneOnSpare_44 : decode cX11_isDoneOnSpare 44 = .ok (.aload_n 1, 1) := by decide +kernel
theorem dX11_isDoneOnSpare_45 : decode cX11_isDoneOnSpare 45 = .ok (.iload_n 2, 1) := by decide +kernel
theorem dX11_isDoneOnSpare_46 : decode cX11_isDoneOnSpare 46 = .ok (.iconst 1, 1) := by decide +kernel
theorem dX11_isDoneOnSpare_47 : decode cX11_isDoneOnSpare 47 = .ok (.iadd, 1) := by decide +kernel
theorem dX11_isDoneOnSpare_48 : decode cX11_isDoneOnSpare 48 = .ok (.invokevirtual 349, 3) := by decide +kernel
theorem dX11_isDoneOnSpare_51 : decode cX11_isDoneOnSpare 51 = .ok (.aload_n 1, 1) := by decide +kernel
theorem dX11_isDoneOnSpare_52 : decode cX11_isDoneOnSpare 52 = .ok (.iload_n 2, 1) := by decide +kernel
theorem dX11_isDoneOnSpare_53 : decode cX11_isDoneOnSpare 53 = .ok (.iconst 3, 1) := by decide +kernel
theorem dX11_isDoneOnSpare_54 : decode cX11_isDoneOnSpare 54 = .ok (.iadd, 1) := by decide +kernel
theorem dX11_isDoneOnSpare_55 : decode cX11_isDoneOnSpare 55 = .ok (.invokevirtual 349, 3) := by decide +kernel
theorem dX11_isDoneOnSpare_58 : decode cX11_isDoneOnSpare 58 = .ok (.aload_n 1, 1) := by decide +kernel
theorem dX11_isDoneOnSpare_59 : decode cX11_isDoneOnSpare 59 = .ok (.iload_n 2, 1) := by decide +kernel
theorem dX11_isDoneOnSpare_60 : decode cX11_isDoneOnSpare 60 = .ok (.iconst 5, 1) := by decide +kernel
theorem dX11_isDoneOnSpare_61 : decode cX11_isDoneOnSpare 61 = .ok (.iadd, 1) := by decide +kernel
theorem dX11_isDoneOnSpare_62 : decode cX11_isDoneOnSpare 62 = .ok (.invokevirtual 352, 3) := by decide +kernel
theorem dX11_isDoneOnSpare_65 : decode cX11_isDoneOnSpare 65 = .ok (.invokevirtual 114, 3) := by decide +kernel
theorem dX11_isDoneOnSpare_68 : decode cX11_isDoneOnSpare 68 = .ok (.ifCond .lt 7, 3) := by decide +kernel
theorem dX11_isDoneOnSpare_71 : decode cX11_isDoneOnSpare 71 = .ok (.iconst 1, 1) := by decide +kernel
theorem dX11_isDoneOnSpare_72 : decode cX11_isDoneOnSpare 72 = .ok (.goto 4, 3) := by decide +kernel
theorem dX11_isDoneOnSpare_75 : decode cX11_isDoneOnSpare 75 = .ok (.iconst 0, 1) := by decide +kernel
theorem dX11_isDoneOnSpare_76 : decode cX11_isDoneOnSpare 76 = .ok (.ireturn, 1) := by decide +kernel
theorem dX11_isDoneOnSpare_77 : decode cX11_isDoneOnSpare 77 = .ok (.aload_n 0, 1) := by decide +kernel
theorem dX11_isDoneOnSpare_78 : decode cX11_isDoneOnSpare 78 = .ok (.getfield 19, 3) := by decide +kernel
theorem dX11_isDoneOnSpare_81 : decode cX11_isDoneOnSpare 81 = .ok (.aload_n 1, 1) := by decide +kernel
theorem dX11_isDoneOnSpare_82 : decode cX11_isDoneOnSpare 82 = .ok (.iload_n 2, 1) := by decide +kernel
theorem dX11_isDoneOnSpare_83 : decode cX11_isDoneOnSpare 83 = .ok (.iconst 1, 1) := by decide +kernel
theorem dX11_isDoneOnSpare_84 : decode cX11_isDoneOnSpare 84 = .ok (.iadd, 1) := by decide +kernel
theorem dX11_isDoneOnSpare_85 : decode cX11_isDoneOnSpare 85 = .ok (.invokevirtual 352, 3) := by decide +kernel
theorem dX11_isDoneOnSpare_88 : decode cX11_isDoneOnSpare 88 = .ok (.aload_n 1, 1) := by decide +kernel
theorem dX11_isDoneOnSpare_89 : decode cX11_isDoneOnSpare 89 = .ok (.iload_n 2, 1) := by decide +kernel
theorem dX11_isDoneOnSpare_90 : decode cX11_isDoneOnSpare 90 = .ok (.iconst 2, 1) := by decide +kernel
theorem dX11_isDoneOnSpare_91 : decode cX11_isDoneOnSpare 91 = .ok (.iadd, 1) := by decide +kernel
theorem dX11_isDoneOnSpare_92 : decode cX11_isDoneOnSpare 92 = .ok (.invokevirtual 349, 3) := by decide +kernel
theorem dX11_isDoneOnSpare_95 : decode cX11_isDoneOnSpare 95 = .ok (.invokevirtual 128, 3) := by decide +kernel
theorem dX11_isDoneOnSpare_98 : decode cX11_isDoneOnSpare 98 = .ok (.ifCond .lt 7, 3) := by decide +kernel
theorem dX11_isDoneOnSpare_101 : decode cX11_isDoneOnSpare 101 = .ok (.iconst 1, 1) := by decide +kernel
theorem dX11_isDoneOnSpare_102 : decode cX11_isDoneOnSpare 102 = .ok (.goto 4, 3) := by decide +kernel
theorem dX11_isDoneOnSpare_105 : decode cX11_isDoneOnSpare 105 = .ok (.iconst 0, 1) := by decide +kernel
theorem dX11_isDoneOnSpare_106 : decode cX11_isDoneOnSpare 106 = .ok (.ireturn, 1) := by decide +kernel
theorem dX11_isDoneOnSpare_107 : decode cX11_isDoneOnSpare 107 = .ok (.aload_n 0, 1) := by decide +kernel
theorem dX11_isDoneOnSpare_108 : decode cX11_isDoneOnSpare 108 = .ok (.getfield 19, 3) := by decide +kernel
theorem dX11_isDoneOnSpare_111 : decode cX11_isDoneOnSpare 111 = .ok (.aload_n 1, 1) := by decide +kernel
theorem dX11_isDoneOnSpare_112 : decode cX11_isDoneOnSpare 112 = .ok (.iload_n 2, 1) := by decide +kernel
theorem dX11_isDoneOnSpare_113 : decode cX11_isDoneOnSpare 113 = .ok (.iconst 1, 1) := by decide +kernel
theorem dX11_isDoneOnSpare_114 : decode cX11_isDoneOnSpare 114 = .ok (.iadd, 1) := by decide +kernel
theorem dX11_isDoneOnSpare_115 : decode cX11_isDoneOnSpare 115 = .ok (.invokevirtual 352, 3) := by decide +kernel
theorem dX11_isDoneOnSpare_118 : decode cX11_isDoneOnSpare 118 = .ok (.aload_n 1, 1) := by decide +kernel
theorem dX11_isDoneOnSpare_119 : decode cX11_isDoneOnSpare 119 = .ok (.iload_n 2, 1) := by decide +kernel
theorem dX11_isDoneOnSpare_120 : decode cX11_isDoneOnSpare 120 = .ok (.iconst 2, 1) := by decide +kernel
theorem dX11_isDoneOnSpare_121 : decode cX11_isDoneOnSpare 121 = .ok (.iadd, 1) := by decide +kernel
theorem dX11_isDoneOnSpare_122 : decode cX11_isDoneOnSpare 122 = .ok (.invokevirtual 352, 3) := by decide +kernel
theorem dX11_isDoneOnSpare_125 : decode cX11_isDoneOnSpare 125 = .ok (.invokestatic 291, 3) := by decide +kernel
theorem dX11_isDoneOnSpare_128 : decode cX11_isDoneOnSpare 128 = .ok (.invokevirtual 124, 3) := by decide +kernel
theorem dX11_isDoneOnSpare_131 : decode cX11_isDoneOnSpare 131 = .ok (.ifCond .lt 7, 3) := by decide +kernel
theorem dX11_isDoneOnSpare_134 : decode cX11_isDoneOnSpare 134 = .ok (.iconst 1, 1) := by decide +kernel
theorem dX11_isDoneOnSpare_135 : decode cX11_isDoneOnSpare 135 = .ok (.goto 4, 3) := by decide +kernel
theorem dX11_isDoneOnSpare_138 : decode cX11_isDoneOnSpare 138 = .ok (.iconst 0, 1) := by decide +kernel
theorem dX11_isDoneOnSpare_139 : decode cX11_isDoneOnSpare 139 = .ok (.ireturn, 1) := by decide +kernel
theorem dX11_isDoneOnSpare_140 : decode cX11_isDoneOnSpare 140 = .ok (.aload_n 0, 1) := by decide +kernel
theorem dX11_isDoneOnSpare_141 : decode cX11_isDoneOnSpare 141 = .ok (.aload_n 1, 1) := by decide +kernel
theorem dX11_isDoneOnSpare_142 : decode cX11_isDoneOnSpare 142 = .ok (.iload_n 2, 1) := by decide +kernel
theorem dX11_isDoneOnSpare_143 : decode cX11_isDoneOnSpare 143 = .ok (.invokevirtual 355, 3) := by decide +kernel
theorem dX11_isDoneOnSpare_146 : decode cX11_isDoneOnSpare 146 = .ok (.ireturn, 1) := by decide +kernel
theorem dX11_isTriedOnSpare_0 : decode cX11_isTriedOnSpare 0 = .ok (.aload_n 1, 1) := by decide +kernel
theorem dX11_isTriedOnSpare_1 : decode cX11_isTriedOnSpare 1 = .ok (.iload_n 2, 1) := by decide +kernel
theorem dX11_isTriedOnSpare_2 : decode cX11_isTriedOnSpare 2 = .ok (.iconst 1, 1) := by decide +kernel
theorem dX11_isTriedOnSpare_3 : decode cX11_isTriedOnSpare 3 = .ok (.iadd, 1) := by decide +kernel
theorem dX11_isTriedOnSpare_4 : decode cX11_isTriedOnSpare 4 = .ok (.invokevirtual 352, 3) := by decide +kernel
theorem dX11_isTriedOnSpare_7 : decode cX11_isTriedOnSpare 7 = .ok (.istore_n 3, 1) := by decide +kernel
theorem dX11_isTriedOnSpare_8 : decode cX11_isTriedOnSpare 8 = .ok (.aload_n 1, 1) := by decide +kernel
theorem dX11_isTriedOnSpare_9 : decode cX11_isTriedOnSpare 9 = .ok (.iload_n 2, 1) := by decide +kernel
theorem dX11_isTriedOnSpare_10 : decode cX11_isTriedOnSpare 10 = .ok (.iconst 2, 1) := by decide +kernel
theorem dX11_isTriedOnSpare_11 : decode cX11_isTriedOnSpare 11 = .ok (.iadd, 1) := by decide +kernel
theorem dX11_isTriedOnSpare_12 : decode cX11_isTriedOnSpare 12 = .ok (.invokevirtual 352, 3) := by decide +kernel
theorem dX11_isTriedOnSpare_15 : decode cX11_isTriedOnSpare 15 = .ok (.istore 4, 2) := by decide +kernel
theorem dX11_isTriedOnSpare_17 : decode cX11_isTriedOnSpare 17 = .ok (.aload_n 1, 1) := by decide +kernel
theorem dX11_isTriedOnSpare_18 : decode cX11_isTriedOnSpare 18 = .ok (.iload_n 2, 1) := by decide +kernel
theorem dX11_isTriedOnSpare_19 : decode cX11_isTriedOnSpare 19 = .ok (.iconst 3, 1) := by decide +kernel
theorem dX11_isTriedOnSpare_20 : decode cX11_isTriedOnSpare 20 = .ok (.iadd, 1) := by decide +kernel
theorem dX11_isTriedOnSpare_21 : decode cX11_isTriedOnSpare 21 = .ok (.invokevirtual 352, 3) := by decide +kernel
theorem dX11_isTriedOnSpare_24 : decode cX11_isTriedOnSpare 24 = .ok (.istore 5, 2) := by decide +kernel
theorem dX11_isTriedOnSpare_26 : decode cX11_isTriedOnSpare 26 = .ok (.aload_n 1, 1) := by decide +kernel
theorem dX11_isTriedOnSpare_27 : decode cX11_isTriedOnSpare 27 = .ok (.iload_n 2, 1) := by decide +kernel
theorem dX11_isTriedOnSpare_28 : decode cX11_isTriedOnSpare 28 = .ok (.iconst 4, 1) := by decide +kernel
theorem dX11_isTriedOnSpare_29 : decode cX11_isTriedOnSpare 29 = .ok (.iadd, 1) := by decide +kernel
theorem dX11_isTriedOnSpare_30 : decode cX11_isTriedOnSpare 30 = .ok (.invokevirtual 349, 3) := by decide +kernel
theorem dX11_isTriedOnSpare_33 : decode cX11_isTriedOnSpare 33 = .ok (.istore 6, 2) := by decide +kernel
theorem dX11_isTriedOnSpare_35 : decode cX11_isTriedOnSpare 35 = .ok (.aload_n 1, 1) := by decide +kernel
theorem dX11_isTriedOnSpare_36 : decode cX11_isTriedOnSpare 36 = .ok (.iload_n 2, 1) := by decide +kernel
theorem dX11_isTriedOnSpare_37 : decode cX11_isTriedOnSpare 37 = .ok (.bipush 6, 2) := by decide +kernel
theorem dX11_isTriedOnSpare_39 : decode cX11_isTriedOnSpare 39 = .ok (.iadd, 1) := by decide +kernel
theorem dX11_isTriedOnSpare_40 : decode cX11_isTriedOnSpare 40 = .ok (.invokevirtual 349, 3) := by decide +kernel
theorem dX11_isTriedOnSpare_43 : decode cX11_isTriedOnSpare 43 = .ok (.istore 7, 2) := by decide +kernel
theorem dX11_isTriedOnSpare_45 : decode cX11_isTriedOnSpare 45 = .ok (.aload_n 0, 1) := by decide +kernel
theorem dX11_isTriedOnSpare_46 : decode cX11_isTriedOnSpare 46 = .ok (.getfield 19, 3) := by decide +kernel
theorem dX11_isTriedOnSpare_49 : decode cX11_isTriedOnSpare 49 = .ok (.iload_n 3, 1) := by decide +kernel
theorem dX11_isTriedOnSpare_50 : decode cX11_isTriedOnSpare 50 = .ok (.iload 4, 2) := by decide +kernel
theorem dX11_isTriedOnSpare_52 : decode cX11_isTriedOnSpare 52 = .ok (.iload 5, 2) := by decide +kernel
theorem dX11_isTriedOnSpare_54 : decode cX11_isTriedOnSpare 54 = .ok (.invokevirtual 132, 3) := by decide +kernel
theorem dX11_isTriedOnSpare_57 : decode cX11_isTriedOnSpare 57 = .ok (.ifCond .eq 36, 3) := by decide +kernel
theorem dX11_isTriedOnSpare_60 : decode cX11_isTriedOnSpare 60 = .ok (.iload 6, 2) := by decide +kernel
theorem dX11_isTriedOnSpare_62 : decode cX11_isTriedOnSpare 62 = .ok (.iconst 0, 1) := by decide +kernel
theorem dX11_isTriedOnSpare_63 : decode cX11_isTriedOnSpare 63 = .ok (.bipush 60, 2) := by decide +kernel
theorem dX11_isTriedOnSpare_65 : decode cX11_isTriedOnSpare 65 = .ok (.invokestatic 86, 3) := by decide +kernel
theorem dX11_isTriedOnSpare_68 : decode cX11_isTriedOnSpare 68 = .ok (.ifCond .ne 25, 3) := by decide +kernel
theorem dX11_isTriedOnSpare_71 : decode cX11_isTriedOnSpare 71 = .ok (.iload 7, 2) := by decide +kernel
theorem dX11_isTriedOnSpare_73 : decode cX11_isTriedOnSpare 73 = .ok (.iconst 0, 1) := by decide +kernel
theorem dX11_isTriedOnSpare_74 : decode cX11_isTriedOnSpare 74 = .ok (.bipush 60, 2) := by decide +kernel
theorem dX11_isTriedOnSpare_76 : decode cX11_isTriedOnSpare 76 = .ok (.invokestatic 86, 3) := by decide +kernel
theorem dX11_isTriedOnSpare_79 : decode cX11_isTriedOnSpare 79 = .ok (.ifCond .ne 14, 3) := by decide +kernel
theorem dX11_isTriedOnSpare_82 : decode cX11_isTriedOnSpare 82 = .ok (.aload_n 0, 1) := by decide +kernel
theorem dX11_isTriedOnSpare_83 : decode cX11_isTriedOnSpare 83 = .ok (.getfield 19, 3) := by decide +kernel
theorem dX11_isTriedOnSpare_86 : decode cX11_isTriedOnSpare 86 = .ok (.iload_n 3, 1) := by decide +kernel
theorem dX11_isTriedOnSpare_87 : decode cX11_isTriedOnSpare 87 = .ok (.invokevirtual 80, 3) := by decide +kernel
theorem dX11_isTriedOnSpare_90 : decode cX11_isTriedOnSpare 90 = .ok (.ifCond .eq 5, 3) := by decide +kernel
theorem dX11_isTriedOnSpare_93 : decode cX11_isTriedOnSpare 93 = .ok (.iconst 0, 1) := by decide +kernel
theorem dX11_isTriedOnSpare_94 : decode cX11_isTriedOnSpare 94 = .ok (.ireturn, 1) := by decide +kernel
theorem dX11_isTriedOnSpare_95 : decode cX11_isTriedOnSpare 95 = .ok (.aload_n 0, 1) := by decide +kernel
theorem dX11_isTriedOnSpare_96 : decode cX11_isTriedOnSpare 96 = .ok (.getfield 19, 3) := by decide +kernel
theorem dX11_isTriedOnSpare_99 : decode cX11_isTriedOnSpare 99 = .ok (.getfield 77, 3) := by decide +kernel
theorem dX11_isTriedOnSpare_102 : decode cX11_isTriedOnSpare 102 = .ok (.iload_n 3, 1) := by decide +kernel
theorem dX11_isTriedOnSpare_103 : decode cX11_isTriedOnSpare 103 = .ok (.dup2, 1) := by decide +kernel
theorem dX11_isTriedOnSpare_104 : decode cX11_isTriedOnSpare 104 = .ok (.iaload, 1) := by decide +kernel
theorem dX11_isTriedOnSpare_105 : decode cX11_isTriedOnSpare 105 = .ok (.aload_n 0, 1) := by decide +kernel
theorem dX11_isTriedOnSpare_106 : decode cX11_isTriedOnSpare 106 = .ok (.getfield 19, 3) := by decide +kernel
theorem dX11_isTriedOnSpare_109 : decode cX11_isTriedOnSpare 109 = .ok (.getfield 99, 3) := by decide +kernel
theorem dX11_isTriedOnSpare_112 : decode cX11_isTriedOnSpare 112 = .ok (.iload 5, 2) := by decide +kernel
theorem dX11_isTriedOnSpare_114 : decode cX11_isTriedOnSpare 114 = .ok (.aaload, 1) := by decide +kernel
theorem dX11_isTriedOnSpare_115 : decode cX11_isTriedOnSpare 115 = .ok (.iload 7, 2) := by decide +kernel
theorem dX11_isTriedOnSpare_117 : decode cX11_isTriedOnSpare 117 = .ok (.invokevirtual 111, 3) := by decide +kernel
theorem dX11_isTriedOnSpare_120 : decode cX11_isTriedOnSpare 120 = .ok (.iadd, 1) := by decide +kernel
theorem dX11_isTriedOnSpare_121 : decode cX11_isTriedOnSpare 121 = .ok (.iastore, 1) := by decide +kernel
theorem dX11_isTriedOnSpare_122 : decode cX11_isTriedOnSpare 122 = .ok (.iconst 1, 1) := by decide +kernel
theorem dX11_isTriedOnSpare_123 : decode cX11_isTriedOnSpare 123 = .ok (.ireturn, 1) := by decide +kernel
theorem dX11_newBlow_0 : decode cX11_newBlow 0 = .ok (.iload_n 1, 1) := by decide +kernel
theorem dX11_newBlow_1 : decode cX11_newBlow 1 = .ok (.iconst 0, 1) := by decide +kernel
theorem dX11_newBlow_2 : decode cX11_newBlow 2 = .ok (.bipush 9, 2) := by decide +kernel
theorem dX11_newBlow_4 : decode cX11_newBlow 4 = .ok (.invokestatic 86, 3) := by decide +kernel
theorem dX11_newBlow_7 : decode cX11_newBlow 7 = .ok (.ifCond .eq 5, 3) := by decide +kernel
theorem dX11_newBlow_10 : decode cX11_newBlow 10 = .ok (.aconst_null, 1) := by decide +kernel
theorem dX11_newBlow_11 : decode cX11_newBlow 11 = .ok (.areturn, 1) := by decide +kernel
theorem dX11_newBlow_12 : decode cX11_newBlow 12 = .ok (.iload_n 0, 1) := by decide +kernel
theorem dX11_newBlow_13 : decode cX11_newBlow 13 = .ok (.tableswitch 127 0 7 #[47, 57, 67, 77, 87, 97, 107, 117], 47) := by decide +kernel
theorem dX11_newBlow_60 : decode cX11_newBlow 60 = .ok (.new 104, 3) := by decide +kernel
theorem dX11_newBlow_63 : decode cX11_newBlow 63 = .ok (.dup, 1) := by decide +kernel
theorem dX11_newBlow_64 : decode cX11_newBlow 64 = .ok (.iload_n 0, 1) := by decide +kernel
theorem dX11_newBlow_65 : decode cX11_newBlow 65 = .ok (.iload_n 1, 1) := by decide +kernel
theorem dX11_newBlow_66 : decode cX11_newBlow 66 = .ok (.invokespecial 358, 3) := by decide +kernel
theorem dX11_newBlow_69 : decode cX11_newBlow 69 = .ok (.areturn, 1) := by decide +kernel
theorem dX11_newBlow_70 : decode cX11_newBlow 70 = .ok (.new 360, 3) := by decide +kernel
theorem dX11_newBlow_73 : decode cX11_newBlow 73 = .ok (.dup, 1) := by decide +kernel
theorem dX11_newBlow_74 : decode cX11_newBlow 74 = .ok (.iload_n 0, 1) := by decide +kernel
theorem dX11_newBlow_75 : decode cX11_newBlow 75 = .ok (.iload_n 1, 1) := by decide +kernel
theorem dX11_newBlow_76 : decode cX11_newBlow 76 = .ok (.invokespecial 362, 3) := by decide +kernel
theorem dX11_newBlow_79 : decode cX11_newBlow 79 = .ok (.areturn, 1) := by decide +kernel
theorem dX11_newBlow_80 : decode cX11_newBlow 80 = .ok (.new 363, 3) := by decide +kernel
theorem dX11_newBlow_83 : decode cX11_newBlow 83 = .ok (.dup, 1) := by decide +kernel
theorem dX11_newBlow_84 : decode cX11_newBlow 84 = .ok (.iload_n 0, 1) := by decide +kernel
theorem dX11_newBlow_85 : decode cX11_newBlow 85 = .ok (.iload_n 1, 1) := by decide +kernel
theorem dX11_newBlow_86 : decode cX11_newBlow 86 = .ok (.invokespecial 365, 3) := by decide +kernel
theorem dX11_newBlow_89 : decode cX11_newBlow 89 = .ok (.areturn, 1) := by decide +kernel
theorem dX11_newBlow_90 : decode cX11_newBlow 90 = .ok (.new 366, 3) := by decide +kernel
theorem dX11_newBlow_93 : decode cX11_newBlow 93 = .ok (.dup, 1) := by decide +kernel
theorem dX11_newBlow_94 : decode cX11_newBlow 94 = .ok (.iload_n 0, 1) := by decide +kernel
theorem dX11_newBlow_95 : decode cX11_newBlow 95 = .ok (.iload_n 1, 1) := by decide +kernel
theorem dX11_newBlow_96 : decode cX11_newBlow 96 = .ok (.invokespecial 368, 3) := by decide +kernel
theorem dX11_newBlow_99 : decode cX11_newBlow 99 = .ok (.areturn, 1) := by decide +kernel
theorem dX11_newBlow_100 : decode cX11_newBlow 100 = .ok (.new 369, 3) := by decide +kernel
theorem dX11_newBlow_103 : decode cX11_newBlow 103 = .ok (.dup, 1) := by decide +kernel
theorem dX11_newBlow_104 : decode cX11_newBlow 104 = .ok (.iload_n 0, 1) := by decide +kernel
theorem dX11_newBlow_105 : decode cX11_newBlow 105 = .ok (.iload_n 1, 1) := by decide +kernel
theorem dX11_newBlow_106 : decode cX11_newBlow 106 = .ok (.invokespecial 371, 3) := by decide +kernel
theorem dX11_newBlow_109 : decode cX11_newBlow 109 = .ok (.areturn, 1) := by decide +kernel
theorem dX11_newBlow_110 : decode cX11_newBlow 110 = .ok (.new 372, 3) := by decide +kernel
theorem dX11_newBlow_113 : decode cX11_newBlow 113 = .ok (.dup, 1) := by decide +kernel
theorem dX11_newBlow_114 : decode cX11_newBlow 114 = .ok (.iload_n 0, 1) := by decide +kernel
theorem dX11_newBlow_115 : decode cX11_newBlow 115 = .ok (.iload_n 1, 1) := by decide +kernel
theorem dX11_newBlow_116 : decode cX11_newBlow 116 = .ok (.invokespecial 374, 3) := by decide +kernel
theorem dX11_newBlow_119 : decode cX11_newBlow 119 = .ok (.areturn, 1) := by decide +kernel
theorem dX11_newBlow_120 : decode cX11_newBlow 120 = .ok (.new 375, 3) := by decide +kernel
theorem dX11_newBlow_123 : decode cX11_newBlow 123 = .ok (.dup, 1) := by decide +kernel
theorem dX11_newBlow_124 : decode cX11_newBlow 124 = .ok (.iload_n 0, 1) := by decide +kernel
theorem dX11_newBlow_125 : decode cX11_newBlow 125 = .ok (.iload_n 1, 1) := by decide +kernel
theorem dX11_newBlow_126 : decode cX11_newBlow 126 = .ok (.invokespecial 377, 3) := by decide +kernel
theorem dX11_newBlow_129 : decode cX11_newBlow 129 = .ok (.areturn, 1) := by decide +kernel
theorem dX11_newBlow_130 : decode cX11_newBlow 130 = .ok (.new 378, 3) := by decide +kernel
theorem dX11_newBlow_133 : decode cX11_newBlow 133 = .ok (.dup, 1) := by decide +kernel
theorem dX11_newBlow_134 : decode cX11_newBlow 134 = .ok (.iload_n 0, 1) := by decide +kernel
theorem dX11_newBlow_135 : decode cX11_newBlow 135 = .ok (.iload_n 1, 1) := by decide +kernel
theorem dX11_newBlow_136 : decode cX11_newBlow 136 = .ok (.invokespecial 380, 3) := by decide +kernel
theorem dX11_newBlow_139 : decode cX11_newBlow 139 = .ok (.areturn, 1) := by decide +kernel
theorem dX11_newBlow_140 : decode cX11_newBlow 140 = .ok (.aconst_null, 1) := by decide +kernel
theorem dX11_newBlow_141 : decode cX11_newBlow 141 = .ok (.areturn, 1) := by decide +kernel
theorem dX11_sumOf_0 : decode cX11_sumOf 0 = .ok (.iconst 0, 1) := by decide +kernel
theorem dX11_sumOf_1 : decode cX11_sumOf 1 = .ok (.istore_n 2, 1) := by decide +kernel
theorem dX11_sumOf_2 : decode cX11_sumOf 2 = .ok (.iconst 0, 1) := by decide +kernel
theorem dX11_sumOf_3 : decode cX11_sumOf 3 = .ok (.istore_n 3, 1) := by decide +kernel
theorem dX11_sumOf_4 : decode cX11_sumOf 4 = .ok (.iload_n 3, 1) := by decide +kernel
theorem dX11_sumOf_5 : decode cX11_sumOf 5 = .ok (.iload_n 1, 1) := by decide +kernel
theorem dX11_sumOf_6 : decode cX11_sumOf 6 = .ok (.if_icmp .ge 21, 3) := by decide +kernel
theorem dX11_sumOf_9 : decode cX11_sumOf 9 = .ok (.iload_n 3, 1) := by decide +kernel
theorem dX11_sumOf_10 : decode cX11_sumOf 10 = .ok (.aload_n 0, 1) := by decide +kernel
theorem dX11_sumOf_11 : decode cX11_sumOf 11 = .ok (.arraylength, 1) := by decide +kernel
theorem dX11_sumOf_12 : decode cX11_sumOf 12 = .ok (.if_icmp .ge 15, 3) := by decide +kernel
theorem dX11_sumOf_15 : decode cX11_sumOf 15 = .ok (.iload_n 2, 1) := by decide +kernel
theorem dX11_sumOf_16 : decode cX11_sumOf 16 = .ok (.aload_n 0, 1) := by decide +kernel
theorem dX11_sumOf_17 : decode cX11_sumOf 17 = .ok (.iload_n 3, 1) := by decide +kernel
theorem dX11_sumOf_18 : decode cX11_sumOf 18 = .ok (.iaload, 1) := by decide +kernel
theorem dX11_sumOf_19 : decode cX11_sumOf 19 = .ok (.iadd, 1) := by decide +kernel
theorem dX11_sumOf_20 : decode cX11_sumOf 20 = .ok (.istore_n 2, 1) := by decide +kernel
theorem dX11_sumOf_21 : decode cX11_sumOf 21 = .ok (.iinc 3 1, 3) := by decide +kernel
theorem dX11_sumOf_24 : decode cX11_sumOf 24 = .ok (.goto (-20), 3) := by decide +kernel
theorem dX11_sumOf_27 : decode cX11_sumOf 27 = .ok (.iload_n 2, 1) := by decide +kernel
theorem dX11_sumOf_28 : decode cX11_sumOf 28 = .ok (.ireturn, 1) := by decide +kernel
theorem dX11_canAny_0 : decode cX11_canAny 0 = .ok (.iconst 0, 1) := by decide +kernel
theorem dX11_canAny_1 : decode cX11_canAny 1 = .ok (.istore_n 2, 1) := by decide +kernel
theorem dX11_canAny_2 : decode cX11_canAny 2 = .ok (.iload_n 2, 1) := by decide +kernel
theorem dX11_canAny_3 : decode cX11_canAny 3 = .ok (.aload_n 0, 1) := by decide +kernel
theorem dX11_canAny_4 : decode cX11_canAny 4 = .ok (.getfield 10, 3) := by decide +kernel
theorem dX11_canAny_7 : decode cX11_canAny 7 = .ok (.getfield 174, 3) := by decide +kernel
theorem dX11_canAny_10 : decode cX11_canAny 10 = .ok (.if_icmp .ge 57, 3) := by decide +kernel
theorem dX11_canAny_13 : decode cX11_canAny 13 = .ok (.iconst 0, 1) := by decide +kernel
theorem dX11_canAny_14 : decode cX11_canAny 14 = .ok (.istore_n 3, 1) := by decide +kernel
theorem dX11_canAny_15 : decode cX11_canAny 15 = .ok (.iload_n 3, 1) := by decide +kernel
theorem dX11_canAny_16 : decode cX11_canAny 16 = .ok (.aload_n 0, 1) := by decide +kernel
theorem dX11_canAny_17 : decode cX11_canAny 17 = .ok (.getfield 10, 3) := by decide +kernel
theorem dX11_canAny_20 : decode cX11_canAny 20 = .ok (.getfield 194, 3) := by decide +kernel
theorem dX11_canAny_23 : decode cX11_canAny 23 = .ok (.if_icmp .ge 38, 3) := by decide +kernel
theorem dX11_canAny_26 : decode cX11_canAny 26 = .ok (.aload_n 0, 1) := by decide +kernel
theorem dX11_canAny_27 : decode cX11_canAny 27 = .ok (.getfield 10, 3) := by decide +kernel
theorem dX11_canAny_30 : decode cX11_canAny 30 = .ok (.iload_n 2, 1) := by decide +kernel
theorem dX11_canAny_31 : decode cX11_canAny 31 = .ok (.invokevirtual 80, 3) := by decide +kernel
theorem dX11_canAny_34 : decode cX11_canAny 34 = .ok (.ifCond .ne 21, 3) := by decide +kernel
theorem dX11_canAny_37 : decode cX11_canAny 37 = .ok (.aload_n 0, 1) := by decide +kernel
theorem dX11_canAny_38 : decode cX11_canAny 38 = .ok (.getfield 10, 3) := by decide +kernel
theorem dX11_canAny_41 : decode cX11_canAny 41 = .ok (.iload_n 2, 1) := by decide +kernel
theorem dX11_canAny_42 : decode cX11_canAny 42 = .ok (.iload_n 1, 1) := by decide +kernel
theorem dX11_canAny_43 : decode cX11_canAny 43 = .ok (.iload_n 3, 1) := by decide +kernel
theorem dX11_canAny_44 : decode cX11_canAny 44 = .ok (.invokevirtual 135, 3) := by decide +kernel
theorem dX11_canAny_47 : decode cX11_canAny 47 = .ok (.invokevirtual 164, 3) := by decide +kernel
theorem dX11_canAny_50 : decode cX11_canAny 50 = .ok (.ifCond .le 5, 3) := by decide +kernel
theorem dX11_canAny_53 : decode cX11_canAny 53 = .ok (.iconst 1, 1) := by decide +kernel
theorem dX11_canAny_54 : decode cX11_canAny 54 = .ok (.ireturn, 1) := by decide +kernel
theorem dX11_canAny_55 : decode cX11_canAny 55 = .ok (.iinc 3 1, 3) := by decide +kernel
theorem dX11_canAny_58 : decode cX11_canAny 58 = .ok (.goto (-43), 3) := by decide +kernel
theorem dX11_canAny_61 : decode cX11_canAny 61 = .ok (.iinc 2 1, 3) := by decide +kernel
theorem dX11_canAny_64 : decode cX11_canAny 64 = .ok (.goto (-62), 3) := by decide +kernel
theorem dX11_canAny_67 : decode cX11_canAny 67 = .ok (.iconst 0, 1) := by decide +kernel
theorem dX11_canAny_68 : decode cX11_canAny 68 = .ok (.ireturn, 1) := by decide +kernel
theorem dX11_waysBy_0 : decode cX11_waysBy 0 = .ok (.aload_n 0, 1) := by decide +kernel
theorem dX11_waysBy_1 : decode cX11_waysBy 1 = .ok (.getfield 10, 3) := by decide +kernel
theorem dX11_waysBy_4 : decode cX11_waysBy 4 = .ok (.iload_n 1, 1) := by decide +kernel
theorem dX11_waysBy_5 : decode cX11_waysBy 5 = .ok (.iload_n 2, 1) := by decide +kernel
theorem dX11_waysBy_6 : decode cX11_waysBy 6 = .ok (.iload_n 3, 1) := by decide +kernel
theorem dX11_waysBy_7 : decode cX11_waysBy 7 = .ok (.invokevirtual 135, 3) := by decide +kernel
theorem dX11_waysBy_10 : decode cX11_waysBy 10 = .ok (.astore 5, 2) := by decide +kernel
theorem dX11_waysBy_12 : decode cX11_waysBy 12 = .ok (.aload_n 0, 1) := by decide +kernel
theorem dX11_waysBy_13 : decode cX11_waysBy 13 = .ok (.getfield 10, 3) := by decide +kernel
theorem dX11_waysBy_16 : decode cX11_waysBy 16 = .ok (.iload_n 1, 1) := by decide +kernel
theorem dX11_waysBy_17 : decode cX11_waysBy 17 = .ok (.invokevirtual 80, 3) := by decide +kernel
theorem dX11_waysBy_20 : decode cX11_waysBy 20 = .ok (.ifCond .ne 11, 3) := by decide +kernel
theorem dX11_waysBy_23 : decode cX11_waysBy 23 = .ok (.aload 5, 2) := by decide +kernel
theorem dX11_waysBy_25 : decode cX11_waysBy 25 = .ok (.invokevirtual 164, 3) := by decide +kernel
theorem dX11_waysBy_28 : decode cX11_waysBy 28 = .ok (.ifCond .ne 5, 3) := by decide +kernel
theorem dX11_waysBy_31 : decode cX11_waysBy 31 = .ok (.iconst 0, 1) := by decide +kernel
theorem dX11_waysBy_32 : decode cX11_waysBy 32 = .ok (.ireturn, 1) := by decide +kernel
theorem dX11_waysBy_33 : decode cX11_waysBy 33 = .ok (.iconst 0, 1) := by decide +kernel
theorem dX11_waysBy_34 : decode cX11_waysBy 34 = .ok (.istore 6, 2) := by decide +kernel
theorem dX11_waysBy_36 : decode cX11_waysBy 36 = .ok (.aload 5, 2) := by decide +kernel
theorem dX11_waysBy_38 : decode cX11_waysBy 38 = .ok (.getfield 139, 3) := by decide +kernel
theorem dX11_waysBy_41 : decode cX11_waysBy 41 = .ok (.istore 7, 2) := by decide +kernel
theorem dX11_waysBy_43 : decode cX11_waysBy 43 = .ok (.iload 7, 2) := by decide +kernel
theorem dX11_waysBy_45 : decode cX11_waysBy 45 = .ok (.aload 5, 2) := by decide +kernel
theorem dX11_waysBy_47 : decode cX11_waysBy 47 = .ok (.invokevirtual 177, 3) := by decide +kernel
theorem dX11_waysBy_50 : decode cX11_waysBy 50 = .ok (.if_icmp .gt 58, 3) := by decide +kernel
theorem dX11_waysBy_53 : decode cX11_waysBy 53 = .ok (.iconst 0, 1) := by decide +kernel
theorem dX11_waysBy_54 : decode cX11_waysBy 54 = .ok (.istore 8, 2) := by decide +kernel
theorem dX11_waysBy_56 : decode cX11_waysBy 56 = .ok (.iload 8, 2) := by decide +kernel
theorem dX11_waysBy_58 : decode cX11_waysBy 58 = .ok (.bipush 9, 2) := by decide +kernel
theorem dX11_waysBy_60 : decode cX11_waysBy 60 = .ok (.if_icmp .gt 42, 3) := by decide +kernel
theorem dX11_waysBy_63 : decode cX11_waysBy 63 = .ok (.aload_n 0, 1) := by decide +kernel
theorem dX11_waysBy_64 : decode cX11_waysBy 64 = .ok (.getfield 10, 3) := by decide +kernel
theorem dX11_waysBy_67 : decode cX11_waysBy 67 = .ok (.getfield 99, 3) := by decide +kernel
theorem dX11_waysBy_70 : decode cX11_waysBy 70 = .ok (.iload_n 3, 1) := by decide +kernel
theorem dX11_waysBy_71 : decode cX11_waysBy 71 = .ok (.aaload, 1) := by decide +kernel
theorem dX11_waysBy_72 : decode cX11_waysBy 72 = .ok (.aload_n 0, 1) := by decide +kernel
theorem dX11_waysBy_73 : decode cX11_waysBy 73 = .ok (.getfield 10, 3) := by decide +kernel
theorem dX11_waysBy_76 : decode cX11_waysBy 76 = .ok (.getfield 67, 3) := by decide +kernel
theorem dX11_waysBy_79 : decode cX11_waysBy 79 = .ok (.iload_n 1, 1) := by decide +kernel
theorem dX11_waysBy_80 : decode cX11_waysBy 80 = .ok (.iaload, 1) := by decide +kernel
theorem dX11_waysBy_81 : decode cX11_waysBy 81 = .ok (.iload 7, 2) := by decide +kernel
theorem dX11_waysBy_83 : decode cX11_waysBy 83 = .ok (.iload 8, 2) := by decide +kernel
theorem dX11_waysBy_85 : decode cX11_waysBy 85 = .ok (.invokevirtual 157, 3) := by decide +kernel
theorem dX11_waysBy_88 : decode cX11_waysBy 88 = .ok (.iload 4, 2) := by decide +kernel
theorem dX11_waysBy_90 : decode cX11_waysBy 90 = .ok (.if_icmp .ne 6, 3) := by decide +kernel
theorem dX11_waysBy_93 : decode cX11_waysBy 93 = .ok (.iinc 6 1, 3) := by decide +kernel
theorem dX11_waysBy_96 : decode cX11_waysBy 96 = .ok (.iinc 8 1, 3) := by decide +kernel
theorem dX11_waysBy_99 : decode cX11_waysBy 99 = .ok (.goto (-43), 3) := by decide +kernel
theorem dX11_waysBy_102 : decode cX11_waysBy 102 = .ok (.iinc 7 1, 3) := by decide +kernel
theorem dX11_waysBy_105 : decode cX11_waysBy 105 = .ok (.goto (-62), 3) := by decide +kernel
theorem dX11_waysBy_108 : decode cX11_waysBy 108 = .ok (.iload 6, 2) := by decide +kernel
theorem dX11_waysBy_110 : decode cX11_waysBy 110 = .ok (.ireturn, 1) := by decide +kernel
theorem dX11_bladesFor_0 : decode cX11_bladesFor 0 = .ok (.iconst 0, 1) := by decide +kernel
theorem dX11_bladesFor_1 : decode cX11_bladesFor 1 = .ok (.istore_n 3, 1) := by decide +kernel
theorem dX11_bladesFor_2 : decode cX11_bladesFor 2 = .ok (.iconst 0, 1) := by decide +kernel
theorem dX11_bladesFor_3 : decode cX11_bladesFor 3 = .ok (.istore 4, 2) := by decide +kernel
theorem dX11_bladesFor_5 : decode cX11_bladesFor 5 = .ok (.iload 4, 2) := by decide +kernel
theorem dX11_bladesFor_7 : decode cX11_bladesFor 7 = .ok (.aload_n 0, 1) := by decide +kernel
theorem dX11_bladesFor_8 : decode cX11_bladesFor 8 = .ok (.getfield 10, 3) := by decide +kernel
theorem dX11_bladesFor_11 : decode cX11_bladesFor 11 = .ok (.getfield 174, 3) := by decide +kernel
theorem dX11_bladesFor_14 : decode cX11_bladesFor 14 = .ok (.if_icmp .ge 50, 3) := by decide +kernel
theorem dX11_bladesFor_17 : decode cX11_bladesFor 17 = .ok (.iconst 0, 1) := by decide +kernel
theorem dX11_bladesFor_18 : decode cX11_bladesFor 18 = .ok (.istore 5, 2) := by decide +kernel
theorem dX11_bladesFor_20 : decode cX11_bladesFor 20 = .ok (.iload 5, 2) := by decide +kernel
theorem dX11_bladesFor_22 : decode cX11_bladesFor 22 = .ok (.aload_n 0, 1) := by decide +kernel
theorem dX11_bladesFor_23 : decode cX11_bladesFor 23 = .ok (.getfield 10, 3) := by decide +kernel
theorem dX11_bladesFor_26 : decode cX11_bladesFor 26 = .ok (.getfield 194, 3) := by decide +kernel
theorem dX11_bladesFor_29 : decode cX11_bladesFor 29 = .ok (.if_icmp .ge 29, 3) := by decide +kernel
theorem dX11_bladesFor_32 : decode cX11_bladesFor 32 = .ok (.aload_n 0, 1) := by decide +kernel
theorem dX11_bladesFor_33 : decode cX11_bladesFor 33 = .ok (.iload 4, 2) := by decide +kernel
theorem dX11_bladesFor_35 : decode cX11_bladesFor 35 = .ok (.iload_n 1, 1) := by decide +kernel
theorem dX11_bladesFor_36 : decode cX11_bladesFor 36 = .ok (.iload 5, 2) := by decide +kernel
theorem dX11_bladesFor_38 : decode cX11_bladesFor 38 = .ok (.iload_n 2, 1) := by decide +kernel
theorem dX11_bladesFor_39 : decode cX11_bladesFor 39 = .ok (.invokevirtual 197, 3) := by decide +kernel
theorem dX11_bladesFor_42 : decode cX11_bladesFor 42 = .ok (.ifCond .le 10, 3) := by decide +kernel
theorem dX11_bladesFor_45 : decode cX11_bladesFor 45 = .ok (.iload_n 3, 1) := by decide +kernel
theorem dX11_bladesFor_46 : decode cX11_bladesFor 46 = .ok (.iconst 1, 1) := by decide +kernel
theorem dX11_bladesFor_47 : decode cX11_bladesFor 47 = .ok (.iload 4, 2) := by decide +kernel
theorem dX11_bladesFor_49 : decode cX11_bladesFor 49 = .ok (.ishl, 1) := by decide +kernel
theorem dX11_bladesFor_50 : decode cX11_bladesFor 50 = .ok (.ior, 1) := by decide +kernel
theorem dX11_bladesFor_51 : decode cX11_bladesFor 51 = .ok (.istore_n 3, 1) := by decide +kernel
theorem dX11_bladesFor_52 : decode cX11_bladesFor 52 = .ok (.iinc 5 1, 3) := by decide +kernel
theorem dX11_bladesFor_55 : decode cX11_bladesFor 55 = .ok (.goto (-35), 3) := by decide +kernel
theorem dX11_bladesFor_58 : decode cX11_bladesFor 58 = .ok (.iinc 4 1, 3) := by decide +kernel
theorem dX11_bladesFor_61 : decode cX11_bladesFor 61 = .ok (.goto (-56), 3) := by decide +kernel
theorem dX11_bladesFor_64 : decode cX11_bladesFor 64 = .ok (.iload_n 3, 1) := by decide +kernel
theorem dX11_bladesFor_65 : decode cX11_bladesFor 65 = .ok (.ireturn, 1) := by decide +kernel
theorem dX11_areThreeUnlike_0 : decode cX11_areThreeUnlike 0 = .ok (.iconst 1, 1) := by decide +kernel
theorem dX11_areThreeUnlike_1 : decode cX11_areThreeUnlike 1 = .ok (.istore_n 3, 1) := by decide +kernel
theorem dX11_areThreeUnlike_2 : decode cX11_areThreeUnlike 2 = .ok (.iload_n 3, 1) := by decide +kernel
theorem dX11_areThreeUnlike_3 : decode cX11_areThreeUnlike 3 = .ok (.bipush 64, 2) := by decide +kernel
theorem dX11_areThreeUnlike_5 : decode cX11_areThreeUnlike 5 = .ok (.if_icmp .ge 75, 3) := by decide +kernel
theorem dX11_areThreeUnlike_8 : decode cX11_areThreeUnlike 8 = .ok (.iconst 1, 1) := by decide +kernel
theorem dX11_areThreeUnlike_9 : decode cX11_areThreeUnlike 9 = .ok (.istore 4, 2) := by decide +kernel
theorem dX11_areThreeUnlike_11 : decode cX11_areThreeUnlike 11 = .ok (.iload 4, 2) := by decide +kernel
theorem dX11_areThreeUnlike_13 : decode cX11_areThreeUnlike 13 = .ok (.bipush 64, 2) := by decide +kernel
theorem dX11_areThreeUnlike_15 : decode cX11_areThreeUnlike 15 = .ok (.if_icmp .ge 58, 3) := by decide +kernel
theorem dX11_areThreeUnlike_18 : decode cX11_areThreeUnlike 18 = .ok (.iload_n 0, 1) := by decide +kernel
theorem dX11_areThreeUnlike_19 : decode cX11_areThreeUnlike 19 = .ok (.iload_n 3, 1) := by decide +kernel
theorem dX11_areThreeUnlike_20 : decode cX11_areThreeUnlike 20 = .ok (.iand, 1) := by decide +kernel
theorem dX11_areThreeUnlike_21 : decode cX11_areThreeUnlike 21 = .ok (.ifCond .eq 20, 3) := by decide +kernel
theorem dX11_areThreeUnlike_24 : decode cX11_areThreeUnlike 24 = .ok (.iload_n 1, 1) := by decide +kernel
theorem dX11_areThreeUnlike_25 : decode cX11_areThreeUnlike 25 = .ok (.iload 4, 2) := by decide +kernel
theorem dX11_areThreeUnlike_27 : decode cX11_areThreeUnlike 27 = .ok (.iand, 1) := by decide +kernel
theorem dX11_areThreeUnlike_28 : decode cX11_areThreeUnlike 28 = .ok (.ifCond .eq 13, 3) := by decide +kernel
theorem dX11_areThreeUnlike_31 : decode cX11_areThreeUnlike 31 = .ok (.iload_n 3, 1) := by decide +kernel
theorem dX11_areThreeUnlike_32 : decode cX11_areThreeUnlike 32 = .ok (.iload 4, 2) := by decide +kernel
theorem dX11_areThreeUnlike_34 : decode cX11_areThreeUnlike 34 = .ok (.if_icmp .eq 7, 3) := by decide +kernel
theorem dX11_areThreeUnlike_37 : decode cX11_areThreeUnlike 37 = .ok (.iconst 1, 1) := by decide +kernel
theorem dX11_areThreeUnlike_38 : decode cX11_areThreeUnlike 38 = .ok (.goto 4, 3) := by decide +kernel
theorem dX11_areThreeUnlike_41 : decode cX11_areThreeUnlike 41 = .ok (.iconst 0, 1) := by decide +kernel
theorem dX11_areThreeUnlike_42 : decode cX11_areThreeUnlike 42 = .ok (.istore 5, 2) := by decide +kernel
theorem dX11_areThreeUnlike_44 : decode cX11_areThreeUnlike 44 = .ok (.iload 5, 2) := by decide +kernel
theorem dX11_areThreeUnlike_46 : decode cX11_areThreeUnlike 46 = .ok (.ifCond .eq 18, 3) := by decide +kernel
theorem dX11_areThreeUnlike_49 : decode cX11_areThreeUnlike 49 = .ok (.iload_n 2, 1) := by decide +kernel
theorem dX11_areThreeUnlike_50 : decode cX11_areThreeUnlike 50 = .ok (.iload_n 3, 1) := by decide +kernel
theorem dX11_areThreeUnlike_51 : decode cX11_areThreeUnlike 51 = .ok (.iconst (-1), 1) := by decide +kernel
theorem dX11_areThreeUnlike_52 : decode cX11_areThreeUnlike 52 = .ok (.ixor, 1) := by decide +kernel
theorem dX11_areThreeUnlike_53 : decode cX11_areThreeUnlike 53 = .ok (.iand, 1) := by decide +kernel
theorem dX11_areThreeUnlike_54 : decode cX11_areThreeUnlike 54 = .ok (.iload 4, 2) := by decide +kernel
theorem dX11_areThreeUnlike_56 : decode cX11_areThreeUnlike 56 = .ok (.iconst (-1), 1) := by decide +kernel
theorem dX11_areThreeUnlike_57 : decode cX11_areThreeUnlike 57 = .ok (.ixor, 1) := by decide +kernel
theorem dX11_areThreeUnlike_58 : decode cX11_areThreeUnlike 58 = .ok (.iand, 1) := by decide +kernel
theorem dX11_areThreeUnlike_59 : decode cX11_areThreeUnlike 59 = .ok (.ifCond .eq 5, 3) := by decide +kernel
theorem dX11_areThreeUnlike_62 : decode cX11_areThreeUnlike 62 = .ok (.iconst 1, 1) := by decide +kernel
theorem dX11_areThreeUnlike_63 : decode cX11_areThreeUnlike 63 = .ok (.ireturn, 1) := by decide +kernel
theorem dX11_areThreeUnlike_64 : decode cX11_areThreeUnlike 64 = .ok (.iload 4, 2) := by decide +kernel
theorem dX11_areThreeUnlike_66 : decode cX11_areThreeUnlike 66 = .ok (.iconst 1, 1) := by decide +kernel
theorem dX11_areThreeUnlike_67 : decode cX11_areThreeUnlike 67 = .ok (.ishl, 1) := by decide +kernel
theorem dX11_areThreeUnlike_68 : decode cX11_areThreeUnlike 68 = .ok (.istore 4, 2) := by decide +kernel
theorem dX11_areThreeUnlike_70 : decode cX11_areThreeUnlike 70 = .ok (.goto (-59), 3) := by decide +kernel
theorem dX11_areThreeUnlike_73 : decode cX11_areThreeUnlike 73 = .ok (.iload_n 3, 1) := by decide +kernel
theorem dX11_areThreeUnlike_74 : decode cX11_areThreeUnlike 74 = .ok (.iconst 1, 1) := by decide +kernel
theorem dX11_areThreeUnlike_75 : decode cX11_areThreeUnlike 75 = .ok (.ishl, 1) := by decide +kernel
theorem dX11_areThreeUnlike_76 : decode cX11_areThreeUnlike 76 = .ok (.istore_n 3, 1) := by decide +kernel
theorem dX11_areThreeUnlike_77 : decode cX11_areThreeUnlike 77 = .ok (.goto (-75), 3) := by decide +kernel
theorem dX11_areThreeUnlike_80 : decode cX11_areThreeUnlike 80 = .ok (.iconst 0, 1) := by decide +kernel
theorem dX11_areThreeUnlike_81 : decode cX11_areThreeUnlike 81 = .ok (.ireturn, 1) := by decide +kernel
theorem dX11_triesLeft_0 : decode cX11_triesLeft 0 = .ok (.aload_n 0, 1) := by decide +kernel
theorem dX11_triesLeft_1 : decode cX11_triesLeft 1 = .ok (.getfield 10, 3) := by decide +kernel
theorem dX11_triesLeft_4 : decode cX11_triesLeft 4 = .ok (.getfield 99, 3) := by decide +kernel
theorem dX11_triesLeft_7 : decode cX11_triesLeft 7 = .ok (.iload_n 2, 1) := by decide +kernel
theorem dX11_triesLeft_8 : decode cX11_triesLeft 8 = .ok (.aaload, 1) := by decide +kernel
theorem dX11_triesLeft_9 : decode cX11_triesLeft 9 = .ok (.iload_n 3, 1) := by decide +kernel
theorem dX11_triesLeft_10 : decode cX11_triesLeft 10 = .ok (.invokevirtual 111, 3) := by decide +kernel
theorem dX11_triesLeft_13 : decode cX11_triesLeft 13 = .ok (.istore 4, 2) := by decide +kernel
theorem dX11_triesLeft_15 : decode cX11_triesLeft 15 = .ok (.iload 4, 2) := by decide +kernel
theorem dX11_triesLeft_17 : decode cX11_triesLeft 17 = .ok (.ifCond .gt 6, 3) := by decide +kernel
theorem dX11_triesLeft_20 : decode cX11_triesLeft 20 = .ok (.bipush 99, 2) := by decide +kernel
theorem dX11_triesLeft_22 : decode cX11_triesLeft 22 = .ok (.ireturn, 1) := by decide +kernel
theorem dX11_triesLeft_23 : decode cX11_triesLeft 23 = .ok (.aload_n 0, 1) := by decide +kernel
theorem dX11_triesLeft_24 : decode cX11_triesLeft 24 = .ok (.getfield 10, 3) := by decide +kernel
theorem dX11_triesLeft_27 : decode cX11_triesLeft 27 = .ok (.getfield 71, 3) := by decide +kernel
theorem dX11_triesLeft_30 : decode cX11_triesLeft 30 = .ok (.iload_n 1, 1) := by decide +kernel
theorem dX11_triesLeft_31 : decode cX11_triesLeft 31 = .ok (.iaload, 1) := by decide +kernel
theorem dX11_triesLeft_32 : decode cX11_triesLeft 32 = .ok (.aload_n 0, 1) := by decide +kernel
theorem dX11_triesLeft_33 : decode cX11_triesLeft 33 = .ok (.getfield 10, 3) := by decide +kernel
theorem dX11_triesLeft_36 : decode cX11_triesLeft 36 = .ok (.getfield 74, 3) := by decide +kernel
theorem dX11_triesLeft_39 : decode cX11_triesLeft 39 = .ok (.iload_n 1, 1) := by decide +kernel
theorem dX11_triesLeft_40 : decode cX11_triesLeft 40 = .ok (.iaload, 1) := by decide +kernel
theorem dX11_triesLeft_41 : decode cX11_triesLeft 41 = .ok (.iadd, 1) := by decide +kernel
theorem dX11_triesLeft_42 : decode cX11_triesLeft 42 = .ok (.aload_n 0, 1) := by decide +kernel
theorem dX11_triesLeft_43 : decode cX11_triesLeft 43 = .ok (.getfield 10, 3) := by decide +kernel
theorem dX11_triesLeft_46 : decode cX11_triesLeft 46 = .ok (.getfield 77, 3) := by decide +kernel
theorem dX11_triesLeft_49 : decode cX11_triesLeft 49 = .ok (.iload_n 1, 1) := by decide +kernel
theorem dX11_triesLeft_50 : decode cX11_triesLeft 50 = .ok (.iaload, 1) := by decide +kernel
theorem dX11_triesLeft_51 : decode cX11_triesLeft 51 = .ok (.isub, 1) := by decide +kernel
theorem dX11_triesLeft_52 : decode cX11_triesLeft 52 = .ok (.istore 5, 2) := by decide +kernel
theorem dX11_triesLeft_54 : decode cX11_triesLeft 54 = .ok (.bipush 99, 2) := by decide +kernel
theorem dX11_triesLeft_56 : decode cX11_triesLeft 56 = .ok (.iload 5, 2) := by decide +kernel
theorem dX11_triesLeft_58 : decode cX11_triesLeft 58 = .ok (.iload 4, 2) := by decide +kernel
theorem dX11_triesLeft_60 : decode cX11_triesLeft 60 = .ok (.idiv, 1) := by decide +kernel
theorem dX11_triesLeft_61 : decode cX11_triesLeft 61 = .ok (.iconst 1, 1) := by decide +kernel
theorem dX11_triesLeft_62 : decode cX11_triesLeft 62 = .ok (.iadd, 1) := by decide +kernel
theorem dX11_triesLeft_63 : decode cX11_triesLeft 63 = .ok (.invokestatic 180, 3) := by decide +kernel
theorem dX11_triesLeft_66 : decode cX11_triesLeft 66 = .ok (.ireturn, 1) := by decide +kernel
theorem dX11_doClash_0 : decode cX11_doClash 0 = .ok (.aload_n 0, 1) := by decide +kernel
theorem dX11_doClash_1 : decode cX11_doClash 1 = .ok (.getfield 10, 3) := by decide +kernel
theorem dX11_doClash_4 : decode cX11_doClash 4 = .ok (.getfield 99, 3) := by decide +kernel
theorem dX11_doClash_7 : decode cX11_doClash 7 = .ok (.iload_n 3, 1) := by decide +kernel
theorem dX11_doClash_8 : decode cX11_doClash 8 = .ok (.aaload, 1) := by decide +kernel
theorem dX11_doClash_9 : decode cX11_doClash 9 = .ok (.aload_n 0, 1) := by decide +kernel
theorem dX11_doClash_10 : decode cX11_doClash 10 = .ok (.getfield 10, 3) := by decide +kernel
theorem dX11_doClash_13 : decode cX11_doClash 13 = .ok (.getfield 67, 3) := by decide +kernel
theorem dX11_doClash_16 : decode cX11_doClash 16 = .ok (.iload_n 1, 1) := by decide +kernel
theorem dX11_doClash_17 : decode cX11_doClash 17 = .ok (.iaload, 1) := by decide +kernel
theorem dX11_doClash_18 : decode cX11_doClash 18 = .ok (.iload 4, 2) := by decide +kernel
theorem dX11_doClash_20 : decode cX11_doClash 20 = .ok (.iconst 0, 1) := by decide +kernel
theorem dX11_doClash_21 : decode cX11_doClash 21 = .ok (.invokevirtual 157, 3) := by decide +kernel
theorem dX11_doClash_24 : decode cX11_doClash 24 = .ok (.istore 5, 2) := by decide +kernel
theorem dX11_doClash_26 : decode cX11_doClash 26 = .ok (.aload_n 0, 1) := by decide +kernel
theorem dX11_doClash_27 : decode cX11_doClash 27 = .ok (.getfield 10, 3) := by decide +kernel
theorem dX11_doClash_30 : decode cX11_doClash 30 = .ok (.getfield 99, 3) := by decide +kernel
theorem dX11_doClash_33 : decode cX11_doClash 33 = .ok (.iload_n 3, 1) := by decide +kernel
theorem dX11_doClash_34 : decode cX11_doClash 34 = .ok (.aaload, 1) := by decide +kernel
theorem dX11_doClash_35 : decode cX11_doClash 35 = .ok (.aload_n 0, 1) := by decide +kernel
theorem dX11_doClash_36 : decode cX11_doClash 36 = .ok (.getfield 10, 3) := by decide +kernel
theorem dX11_doClash_39 : decode cX11_doClash 39 = .ok (.getfield 67, 3) := by decide +kernel
theorem dX11_doClash_42 : decode cX11_doClash 42 = .ok (.iload_n 2, 1) := by decide +kernel
theorem dX11_doClash_43 : decode cX11_doClash 43 = .ok (.iaload, 1) := by decide +kernel
theorem dX11_doClash_44 : decode cX11_doClash 44 = .ok (.iload 4, 2) := by decide +kernel
theorem dX11_doClash_46 : decode cX11_doClash 46 = .ok (.iconst 0, 1) := by decide +kernel
theorem dX11_doClash_47 : decode cX11_doClash 47 = .ok (.invokevirtual 157, 3) := by decide +kernel
theorem dX11_doClash_50 : decode cX11_doClash 50 = .ok (.istore 6, 2) := by decide +kernel
theorem dX11_doClash_52 : decode cX11_doClash 52 = .ok (.iload 5, 2) := by decide +kernel
theorem dX11_doClash_54 : decode cX11_doClash 54 = .ok (.iload 6, 2) := by decide +kernel
theorem dX11_doClash_56 : decode cX11_doClash 56 = .ok (.isub, 1) := by decide +kernel
theorem dX11_doClash_57 : decode cX11_doClash 57 = .ok (.invokestatic 191, 3) := by decide +kernel
theorem dX11_doClash_60 : decode cX11_doClash 60 = .ok (.istore 7, 2) := by decide +kernel
theorem dX11_doClash_62 : decode cX11_doClash 62 = .ok (.iload 7, 2) := by decide +kernel
theorem dX11_doClash_64 : decode cX11_doClash 64 = .ok (.iconst 1, 1) := by decide +kernel
theorem dX11_doClash_65 : decode cX11_doClash 65 = .ok (.if_icmp .eq 9, 3) := by decide +kernel
theorem dX11_doClash_68 : decode cX11_doClash 68 = .ok (.iload 7, 2) := by decide +kernel
theorem dX11_doClash_70 : decode cX11_doClash 70 = .ok (.iconst 2, 1) := by decide +kernel
theorem dX11_doClash_71 : decode cX11_doClash 71 = .ok (.if_icmp .ne 7, 3) := by decide +kernel
theorem dX11_doClash_74 : decode cX11_doClash 74 = .ok (.iconst 1, 1) := by decide +kernel
theorem dX11_doClash_75 : decode cX11_doClash 75 = .ok (.goto 4, 3) := by decide +kernel
theorem dX11_doClash_78 : decode cX11_doClash 78 = .ok (.iconst 0, 1) := by decide +kernel
theorem dX11_doClash_79 : decode cX11_doClash 79 = .ok (.ireturn, 1) := by decide +kernel
theorem dX11_areTenths_0 : decode cX11_areTenths 0 = .ok (.iload_n 0, 1) := by decide +kernel
theorem dX11_areTenths_1 : decode cX11_areTenths 1 = .ok (.ifCond .lt 21, 3) := by decide +kernel
theorem dX11_areTenths_4 : decode cX11_areTenths 4 = .ok (.iload_n 0, 1) := by decide +kernel
theorem dX11_areTenths_5 : decode cX11_areTenths 5 = .ok (.bipush 100, 2) := by decide +kernel
theorem dX11_areTenths_7 : decode cX11_areTenths 7 = .ok (.idiv, 1) := by decide +kernel
theorem dX11_areTenths_8 : decode cX11_areTenths 8 = .ok (.iload_n 0, 1) := by decide +kernel
theorem dX11_areTenths_9 : decode cX11_areTenths 9 = .ok (.bipush 100, 2) := by decide +kernel
theorem dX11_areTenths_11 : decode cX11_areTenths 11 = .ok (.irem, 1) := by decide +kernel
theorem dX11_areTenths_12 : decode cX11_areTenths 12 = .ok (.iadd, 1) := by decide +kernel
theorem dX11_areTenths_13 : decode cX11_areTenths 13 = .ok (.bipush 10, 2) := by decide +kernel
theorem dX11_areTenths_15 : decode cX11_areTenths 15 = .ok (.if_icmp .gt 7, 3) := by decide +kernel
theorem dX11_areTenths_18 : decode cX11_areTenths 18 = .ok (.iconst 1, 1) := by decide +kernel
theorem dX11_areTenths_19 : decode cX11_areTenths 19 = .ok (.goto 4, 3) := by decide +kernel
theorem dX11_areTenths_22 : decode cX11_areTenths 22 = .ok (.iconst 0, 1) := by decide +kernel
theorem dX11_areTenths_23 : decode cX11_areTenths 23 = .ok (.ireturn, 1) := by decide +kernel
theorem dX11_arrivals_0 : decode cX11_arrivals 0 = .ok (.aload_n 0, 1) := by decide +kernel
theorem dX11_arrivals_1 : decode cX11_arrivals 1 = .ok (.getfield 28, 3) := by decide +kernel
theorem dX11_arrivals_4 : decode cX11_arrivals 4 = .ok (.lconst 0, 1) := by decide +kernel
theorem dX11_arrivals_5 : decode cX11_arrivals 5 = .ok (.invokestatic 381, 3) := by decide +kernel
theorem dX11_arrivals_8 : decode cX11_arrivals 8 = .ok (.aload_n 0, 1) := by decide +kernel
theorem dX11_arrivals_9 : decode cX11_arrivals 9 = .ok (.getfield 28, 3) := by decide +kernel
theorem dX11_arrivals_12 : decode cX11_arrivals 12 = .ok (.iload_n 1, 1) := by decide +kernel
theorem dX11_arrivals_13 : decode cX11_arrivals 13 = .ok (.lconst 1, 1) := by decide +kernel
theorem dX11_arrivals_14 : decode cX11_arrivals 14 = .ok (.lastore, 1) := by decide +kernel
theorem dX11_arrivals_15 : decode cX11_arrivals 15 = .ok (.iconst 0, 1) := by decide +kernel
theorem dX11_arrivals_16 : decode cX11_arrivals 16 = .ok (.istore 4, 2) := by decide +kernel
theorem dX11_arrivals_18 : decode cX11_arrivals 18 = .ok (.iload 4, 2) := by decide +kernel
theorem dX11_arrivals_20 : decode cX11_arrivals 20 = .ok (.iload_n 3, 1) := by decide +kernel
theorem dX11_arrivals_21 : decode cX11_arrivals 21 = .ok (.if_icmp .ge 21, 3) := by decide +kernel
theorem dX11_arrivals_24 : decode cX11_arrivals 24 = .ok (.aload_n 0, 1) := by decide +kernel
theorem dX11_arrivals_25 : decode cX11_arrivals 25 = .ok (.iload_n 2, 1) := by decide +kernel
theorem dX11_arrivals_26 : decode cX11_arrivals 26 = .ok (.bipush 100, 2) := by decide +kernel
theorem dX11_arrivals_28 : decode cX11_arrivals 28 = .ok (.idiv, 1) := by decide +kernel
theorem dX11_arrivals_29 : decode cX11_arrivals 29 = .ok (.iload_n 2, 1) := by decide +kernel
theorem dX11_arrivals_30 : decode cX11_arrivals 30 = .ok (.bipush 100, 2) := by decide +kernel
theorem dX11_arrivals_32 : decode cX11_arrivals 32 = .ok (.irem, 1) := by decide +kernel
theorem dX11_arrivals_33 : decode cX11_arrivals 33 = .ok (.invokevirtual 387, 3) := by decide +kernel
theorem dX11_arrivals_36 : decode cX11_arrivals 36 = .ok (.iinc 4 1, 3) := by decide +kernel
theorem dX11_arrivals_39 : decode cX11_arrivals 39 = .ok (.goto (-21), 3) := by decide +kernel
theorem dX11_arrivals_42 : decode cX11_arrivals 42 = .ok (.aload_n 0, 1) := by decide +kernel
theorem dX11_arrivals_43 : decode cX11_arrivals 43 = .ok (.getfield 28, 3) := by decide +kernel
theorem dX11_arrivals_46 : decode cX11_arrivals 46 = .ok (.iconst 0, 1) := by decide +kernel
theorem dX11_arrivals_47 : decode cX11_arrivals 47 = .ok (.laload, 1) := by decide +kernel
theorem dX11_arrivals_48 : decode cX11_arrivals 48 = .ok (.lreturn, 1) := by decide +kernel
theorem dX11_callOnce_0 : decode cX11_callOnce 0 = .ok (.aload_n 0, 1) := by decide +kernel
theorem dX11_callOnce_1 : decode cX11_callOnce 1 = .ok (.getfield 32, 3) := by decide +kernel
theorem dX11_callOnce_4 : decode cX11_callOnce 4 = .ok (.lconst 0, 1) := by decide +kernel
theorem dX11_callOnce_5 : decode cX11_callOnce 5 = .ok (.invokestatic 381, 3) := by decide +kernel
theorem dX11_callOnce_8 : decode cX11_callOnce 8 = .ok (.aload_n 0, 1) := by decide +kernel
theorem dX11_callOnce_9 : decode cX11_callOnce 9 = .ok (.getfield 32, 3) := by decide +kernel
theorem dX11_callOnce_12 : decode cX11_callOnce 12 = .ok (.iconst 0, 1) := by decide +kernel
theorem dX11_callOnce_13 : decode cX11_callOnce 13 = .ok (.ldc2_w 390, 3) := by decide +kernel
theorem dX11_callOnce_16 : decode cX11_callOnce 16 = .ok (.aload_n 0, 1) := by decide +kernel
theorem dX11_callOnce_17 : decode cX11_callOnce 17 = .ok (.getfield 28, 3) := by decide +kernel
theorem dX11_callOnce_20 : decode cX11_callOnce 20 = .ok (.iconst 0, 1) := by decide +kernel
theorem dX11_callOnce_21 : decode cX11_callOnce 21 = .ok (.laload, 1) := by decide +kernel
theorem dX11_callOnce_22 : decode cX11_callOnce 22 = .ok (.lmul, 1) := by decide +kernel
theorem dX11_callOnce_23 : decode cX11_callOnce 23 = .ok (.lastore, 1) := by decide +kernel
theorem dX11_callOnce_24 : decode cX11_callOnce 24 = .ok (.iconst 1, 1) := by decide +kernel
theorem dX11_callOnce_25 : decode cX11_callOnce 25 = .ok (.istore_n 3, 1) := by decide +kernel
theorem dX11_callOnce_26 : decode cX11_callOnce 26 = .ok (.iload_n 3, 1) := by decide +kernel
theorem dX11_callOnce_27 : decode cX11_callOnce 27 = .ok (.bipush 12, 2) := by decide +kernel
theorem dX11_callOnce_29 : decode cX11_callOnce 29 = .ok (.if_icmp .gt 77, 3) := by decide +kernel
theorem dX11_callOnce_32 : decode cX11_callOnce 32 = .ok (.aload_n 0, 1) := by decide +kernel
theorem dX11_callOnce_33 : decode cX11_callOnce 33 = .ok (.getfield 32, 3) := by decide +kernel
theorem dX11_callOnce_36 : decode cX11_callOnce 36 = .ok (.iload_n 3, 1) := by decide +kernel
theorem dX11_callOnce_37 : decode cX11_callOnce 37 = .ok (.iconst 1, 1) := by decide +kernel
theorem dX11_callOnce_38 : decode cX11_callOnce 38 = .ok (.isub, 1) := by decide +kernel
theorem dX11_callOnce_39 : decode cX11_callOnce 39 = .ok (.dup2, 1) := by decide +kernel
theorem dX11_callOnce_40 : decode cX11_callOnce 40 = .ok (.laload, 1) := by decide +kernel
theorem dX11_callOnce_41 : decode cX11_callOnce 41 = .ok (.iload_n 1, 1) := by decide +kernel
theorem dX11_callOnce_42 : decode cX11_callOnce 42 = .ok (.i2l, 1) := by decide +kernel
theorem dX11_callOnce_43 : decode cX11_callOnce 43 = .ok (.aload_n 0, 1) := by decide +kernel
theorem dX11_callOnce_44 : decode cX11_callOnce 44 = .ok (.getfield 28, 3) := by decide +kernel
theorem dX11_callOnce_47 : decode cX11_callOnce 47 = .ok (.iload_n 3, 1) := by decide +kernel
theorem dX11_callOnce_48 : decode cX11_callOnce 48 = .ok (.laload, 1) := by decide +kernel
theorem dX11_callOnce_49 : decode cX11_callOnce 49 = .ok (.lmul, 1) := by decide +kernel
theorem dX11_callOnce_50 : decode cX11_callOnce 50 = .ok (.ladd, 1) := by decide +kernel
theorem dX11_callOnce_51 : decode cX11_callOnce 51 = .ok (.lastore, 1) := by decide +kernel
theorem dX11_callOnce_52 : decode cX11_callOnce 52 = .ok (.aload_n 0, 1) := by decide +kernel
theorem dX11_callOnce_53 : decode cX11_callOnce 53 = .ok (.getfield 32, 3) := by decide +kernel
theorem dX11_callOnce_56 : decode cX11_callOnce 56 = .ok (.iload_n 3, 1) := by decide +kernel
theorem dX11_callOnce_57 : decode cX11_callOnce 57 = .ok (.iconst 1, 1) := by decide +kernel
theorem dX11_callOnce_58 : decode cX11_callOnce 58 = .ok (.iadd, 1) := by decide +kernel
theorem dX11_callOnce_59 : decode cX11_callOnce 59 = .ok (.bipush 12, 2) := by decide +kernel
theorem dX11_callOnce_61 : decode cX11_callOnce 61 = .ok (.invokestatic 180, 3) := by decide +kernel
theorem dX11_callOnce_64 : decode cX11_callOnce 64 = .ok (.dup2, 1) := by decide +kernel
theorem dX11_callOnce_65 : decode cX11_callOnce 65 = .ok (.laload, 1) := by decide +kernel
theorem dX11_callOnce_66 : decode cX11_callOnce 66 = .ok (.iload_n 2, 1) := by decide +kernel
theorem dX11_callOnce_67 : decode cX11_callOnce 67 = .ok (.i2l, 1) := by decide +kernel
theorem dX11_callOnce_68 : decode cX11_callOnce 68 = .ok (.aload_n 0, 1) := by decide +kernel
theorem dX11_callOnce_69 : decode cX11_callOnce 69 = .ok (.getfield 28, 3) := by decide +kernel
theorem dX11_callOnce_72 : decode cX11_callOnce 72 = .ok (.iload_n 3, 1) := by decide +kernel
theorem dX11_callOnce_73 : decode cX11_callOnce 73 = .ok (.laload, 1) := by decide +kernel
theorem dX11_callOnce_74 : decode cX11_callOnce 74 = .ok (.lmul, 1) := by decide +kernel
theorem dX11_callOnce_75 : decode cX11_callOnce 75 = .ok (.ladd, 1) := by decide +kernel
theorem dX11_callOnce_76 : decode cX11_callOnce 76 = .ok (.lastore, 1) := by decide +kernel
theorem dX11_callOnce_77 : decode cX11_callOnce 77 = .ok (.aload_n 0, 1) := by decide +kernel
theorem dX11_callOnce_78 : decode cX11_callOnce 78 = .ok (.getfield 32, 3) := by decide +kernel
theorem dX11_callOnce_81 : decode cX11_callOnce 81 = .ok (.iload_n 3, 1) := by decide +kernel
theorem dX11_callOnce_82 : decode cX11_callOnce 82 = .ok (.dup2, 1) := by decide +kernel
theorem dX11_callOnce_83 : decode cX11_callOnce 83 = .ok (.laload, 1) := by decide +kernel
theorem dX11_callOnce_84 : decode cX11_callOnce 84 = .ok (.bipush 10, 2) := by decide +kernel
theorem dX11_callOnce_86 : decode cX11_callOnce 86 = .ok (.iload_n 1, 1) := by decide +kernel
theorem dX11_callOnce_87 : decode cX11_callOnce 87 = .ok (.isub, 1) := by decide +kernel
theorem dX11_callOnce_88 : decode cX11_callOnce 88 = .ok (.iload_n 2, 1) := by decide +kernel
theorem dX11_callOnce_89 : decode cX11_callOnce 89 = .ok (.isub, 1) := by decide +kernel
theorem dX11_callOnce_90 : decode cX11_callOnce 90 = .ok (.i2l, 1) := by decide +kernel
theorem dX11_callOnce_91 : decode cX11_callOnce 91 = .ok (.aload_n 0, 1) := by decide +kernel
theorem dX11_callOnce_92 : decode cX11_callOnce 92 = .ok (.getfield 28, 3) := by decide +kernel
theorem dX11_callOnce_95 : decode cX11_callOnce 95 = .ok (.iload_n 3, 1) := by decide +kernel
theorem dX11_callOnce_96 : decode cX11_callOnce 96 = .ok (.laload, 1) := by decide +kernel
theorem dX11_callOnce_97 : decode cX11_callOnce 97 = .ok (.lmul, 1) := by decide +kernel
theorem dX11_callOnce_98 : decode cX11_callOnce 98 = .ok (.ladd, 1) := by decide +kernel
theorem dX11_callOnce_99 : decode cX11_callOnce 99 = .ok (.lastore, 1) := by decide +kernel
theorem dX11_callOnce_100 : decode cX11_callOnce 100 = .ok (.iinc 3 1, 3) := by decide +kernel
theorem dX11_callOnce_103 : decode cX11_callOnce 103 = .ok (.goto (-77), 3) := by decide +kernel
theorem dX11_callOnce_106 : decode cX11_callOnce 106 = .ok (.aload_n 0, 1) := by decide +kernel
theorem dX11_callOnce_107 : decode cX11_callOnce 107 = .ok (.getfield 28, 3) := by decide +kernel
theorem dX11_callOnce_110 : decode cX11_callOnce 110 = .ok (.astore_n 3, 1) := by decide +kernel
theorem dX11_callOnce_111 : decode cX11_callOnce 111 = .ok (.aload_n 0, 1) := by decide +kernel
theorem dX11_callOnce_112 : decode cX11_callOnce 112 = .ok (.aload_n 0, 1) := by decide +kernel
theorem dX11_callOnce_113 : decode cX11_callOnce 113 = .ok (.getfield 32, 3) := by decide +kernel
theorem dX11_callOnce_116 : decode cX11_callOnce 116 = .ok (.putfield 28, 3) := by decide +kernel
theorem dX11_callOnce_119 : decode cX11_callOnce 119 = .ok (.aload_n 0, 1) := by decide +kernel
theorem dX11_callOnce_120 : decode cX11_callOnce 120 = .ok (.aload_n 3, 1) := by decide +kernel
theorem dX11_callOnce_121 : decode cX11_callOnce 121 = .ok (.putfield 32, 3) := by decide +kernel
theorem dX11_callOnce_124 : decode cX11_callOnce 124 = .ok (.return_, 1) := by decide +kernel
theorem dX11_powerOf10_0 : decode cX11_powerOf10 0 = .ok (.lconst 1, 1) := by decide +kernel
theorem dX11_powerOf10_1 : decode cX11_powerOf10 1 = .ok (.lstore_n 1, 1) := by decide +kernel
theorem dX11_powerOf10_2 : decode cX11_powerOf10 2 = .ok (.iconst 0, 1) := by decide +kernel
theorem dX11_powerOf10_3 : decode cX11_powerOf10 3 = .ok (.istore_n 3, 1) := by decide +kernel
theorem dX11_powerOf10_4 : decode cX11_powerOf10 4 = .ok (.iload_n 3, 1) := by decide +kernel
theorem dX11_powerOf10_5 : decode cX11_powerOf10 5 = .ok (.iload_n 0, 1) := by decide +kernel
theorem dX11_powerOf10_6 : decode cX11_powerOf10 6 = .ok (.if_icmp .ge 15, 3) := by decide +kernel
theorem dX11_powerOf10_9 : decode cX11_powerOf10 9 = .ok (.lload_n 1, 1) := by decide +kernel
theorem dX11_powerOf10_10 : decode cX11_powerOf10 10 = .ok (.ldc2_w 390, 3) := by decide +kernel
theorem dX11_powerOf10_13 : decode cX11_powerOf10 13 = .ok (.lmul, 1) := by decide +kernel
theorem dX11_powerOf10_14 : decode cX11_powerOf10 14 = .ok (.lstore_n 1, 1) := by decide +kernel
theorem dX11_powerOf10_15 : decode cX11_powerOf10 15 = .ok (.iinc 3 1, 3) := by decide +kernel
theorem dX11_powerOf10_18 : decode cX11_powerOf10 18 = .ok (.goto (-14), 3) := by decide +kernel
theorem dX11_powerOf10_21 : decode cX11_powerOf10 21 = .ok (.lload_n 1, 1) := by decide +kernel
theorem dX11_powerOf10_22 : decode cX11_powerOf10 22 = .ok (.lreturn, 1) := by decide +kernel
theorem dX11_inLeastTerms_0 : decode cX11_inLeastTerms 0 = .ok (.lload_n 2, 1) := by decide +kernel
theorem dX11_inLeastTerms_1 : decode cX11_inLeastTerms 1 = .ok (.lstore 5, 2) := by decide +kernel
theorem dX11_inLeastTerms_3 : decode cX11_inLeastTerms 3 = .ok (.lload_n 0, 1) := by decide +kernel
theorem dX11_inLeastTerms_4 : decode cX11_inLeastTerms 4 = .ok (.lstore 7, 2) := by decide +kernel
theorem dX11_inLeastTerms_6 : decode cX11_inLeastTerms 6 = .ok (.iconst 0, 1) := by decide +kernel
theorem dX11_inLeastTerms_7 : decode cX11_inLeastTerms 7 = .ok (.istore 9, 2) := by decide +kernel
theorem dX11_inLeastTerms_9 : decode cX11_inLeastTerms 9 = .ok (.iload 9, 2) := by decide +kernel
theorem dX11_inLeastTerms_11 : decode cX11_inLeastTerms 11 = .ok (.bipush 100, 2) := by decide +kernel
theorem dX11_inLeastTerms_13 : decode cX11_inLeastTerms 13 = .ok (.if_icmp .ge 31, 3) := by decide +kernel
theorem dX11_inLeastTerms_16 : decode cX11_inLeastTerms 16 = .ok (.lload 7, 2) := by decide +kernel
theorem dX11_inLeastTerms_18 : decode cX11_inLeastTerms 18 = .ok (.lconst 0, 1) := by decide +kernel
theorem dX11_inLeastTerms_19 : decode cX11_inLeastTerms 19 = .ok (.lcmp, 1) := by decide +kernel
theorem dX11_inLeastTerms_20 : decode cX11_inLeastTerms 20 = .ok (.ifCond .eq 24, 3) := by decide +kernel
theorem dX11_inLeastTerms_23 : decode cX11_inLeastTerms 23 = .ok (.lload 5, 2) := by decide +kernel
theorem dX11_inLeastTerms_25 : decode cX11_inLeastTerms 25 = .ok (.lload 7, 2) := by decide +kernel
theorem dX11_inLeastTerms_27 : decode cX11_inLeastTerms 27 = .ok (.lrem, 1) := by decide +kernel
theorem dX11_inLeastTerms_28 : decode cX11_inLeastTerms 28 = .ok (.lstore 10, 2) := by decide +kernel
theorem dX11_inLeastTerms_30 : decode cX11_inLeastTerms 30 = .ok (.lload 7, 2) := by decide +kernel
theorem dX11_inLeastTerms_32 : decode cX11_inLeastTerms 32 = .ok (.lstore 5, 2) := by decide +kernel
theorem dX11_inLeastTerms_34 : decode cX11_inLeastTerms 34 = .ok (.lload 10, 2) := by decide +kernel
theorem dX11_inLeastTerms_36 : decode cX11_inLeastTerms 36 = .ok (.lstore 7, 2) := by decide +kernel
theorem dX11_inLeastTerms_38 : decode cX11_inLeastTerms 38 = .ok (.iinc 9 1, 3) := by decide +kernel
theorem dX11_inLeastTerms_41 : decode cX11_inLeastTerms 41 = .ok (.goto (-32), 3) := by decide +kernel
theorem dX11_inLeastTerms_44 : decode cX11_inLeastTerms 44 = .ok (.iload 4, 2) := by decide +kernel
theorem dX11_inLeastTerms_46 : decode cX11_inLeastTerms 46 = .ok (.ifCond .ne 7, 3) := by decide +kernel
theorem dX11_inLeastTerms_49 : decode cX11_inLeastTerms 49 = .ok (.lload_n 0, 1) := by decide +kernel
theorem dX11_inLeastTerms_50 : decode cX11_inLeastTerms 50 = .ok (.goto 4, 3) := by decide +kernel
theorem dX11_inLeastTerms_53 : decode cX11_inLeastTerms 53 = .ok (.lload_n 2, 1) := by decide +kernel
theorem dX11_inLeastTerms_54 : decode cX11_inLeastTerms 54 = .ok (.lstore 9, 2) := by decide +kernel
theorem dX11_inLeastTerms_56 : decode cX11_inLeastTerms 56 = .ok (.lload 5, 2) := by decide +kernel
theorem dX11_inLeastTerms_58 : decode cX11_inLeastTerms 58 = .ok (.lconst 0, 1) := by decide +kernel
theorem dX11_inLeastTerms_59 : decode cX11_inLeastTerms 59 = .ok (.lcmp, 1) := by decide +kernel
theorem dX11_inLeastTerms_60 : decode cX11_inLeastTerms 60 = .ok (.ifCond .ne 8, 3) := by decide +kernel
theorem dX11_inLeastTerms_63 : decode cX11_inLeastTerms 63 = .ok (.lload 9, 2) := by decide +kernel
theorem dX11_inLeastTerms_65 : decode cX11_inLeastTerms 65 = .ok (.goto 8, 3) := by decide +kernel
theorem dX11_inLeastTerms_68 : decode cX11_inLeastTerms 68 = .ok (.lload 9, 2) := by decide +kernel
theorem dX11_inLeastTerms_70 : decode cX11_inLeastTerms 70 = .ok (.lload 5, 2) := by decide +kernel
theorem dX11_inLeastTerms_72 : decode cX11_inLeastTerms 72 = .ok (.ldiv, 1) := by decide +kernel
theorem dX11_inLeastTerms_73 : decode cX11_inLeastTerms 73 = .ok (.lreturn, 1) := by decide +kernel
theorem dX11_pairsWhenTold_0 : decode cX11_pairsWhenTold 0 = .ok (.aload_n 0, 1) := by decide +kernel
theorem dX11_pairsWhenTold_1 : decode cX11_pairsWhenTold 1 = .ok (.getfield 19, 3) := by decide +kernel
theorem dX11_pairsWhenTold_4 : decode cX11_pairsWhenTold 4 = .ok (.aload_n 0, 1) := by decide +kernel
theorem dX11_pairsWhenTold_5 : decode cX11_pairsWhenTold 5 = .ok (.getfield 10, 3) := by decide +kernel
theorem dX11_pairsWhenTold_8 : decode cX11_pairsWhenTold 8 = .ok (.invokevirtual 48, 3) := by decide +kernel
theorem dX11_pairsWhenTold_11 : decode cX11_pairsWhenTold 11 = .ok (.iload 4, 2) := by decide +kernel
theorem dX11_pairsWhenTold_13 : decode cX11_pairsWhenTold 13 = .ok (.iconst 1, 1) := by decide +kernel
theorem dX11_pairsWhenTold_14 : decode cX11_pairsWhenTold 14 = .ok (.if_icmp .ne 31, 3) := by decide +kernel
theorem dX11_pairsWhenTold_17 : decode cX11_pairsWhenTold 17 = .ok (.aload_n 0, 1) := by decide +kernel
theorem dX11_pairsWhenTold_18 : decode cX11_pairsWhenTold 18 = .ok (.getfield 19, 3) := by decide +kernel
theorem dX11_pairsWhenTold_21 : decode cX11_pairsWhenTold 21 = .ok (.getfield 93, 3) := by decide +kernel
theorem dX11_pairsWhenTold_24 : decode cX11_pairsWhenTold 24 = .ok (.iload_n 2, 1) := by decide +kernel
theorem dX11_pairsWhenTold_25 : decode cX11_pairsWhenTold 25 = .ok (.bipush 60, 2) := by decide +kernel
theorem dX11_pairsWhenTold_27 : decode cX11_pairsWhenTold 27 = .ok (.aload_n 0, 1) := by decide +kernel
theorem dX11_pairsWhenTold_28 : decode cX11_pairsWhenTold 28 = .ok (.getfield 19, 3) := by decide +kernel
theorem dX11_pairsWhenTold_31 : decode cX11_pairsWhenTold 31 = .ok (.getfield 93, 3) := by decide +kernel
theorem dX11_pairsWhenTold_34 : decode cX11_pairsWhenTold 34 = .ok (.iload_n 2, 1) := by decide +kernel
theorem dX11_pairsWhenTold_35 : decode cX11_pairsWhenTold 35 = .ok (.iaload, 1) := by decide +kernel
theorem dX11_pairsWhenTold_36 : decode cX11_pairsWhenTold 36 = .ok (.iconst 5, 1) := by decide +kernel
theorem dX11_pairsWhenTold_37 : decode cX11_pairsWhenTold 37 = .ok (.iadd, 1) := by decide +kernel
theorem dX11_pairsWhenTold_38 : decode cX11_pairsWhenTold 38 = .ok (.invokestatic 180, 3) := by decide +kernel
theorem dX11_pairsWhenTold_41 : decode cX11_pairsWhenTold 41 = .ok (.iastore, 1) := by decide +kernel
theorem dX11_pairsWhenTold_42 : decode cX11_pairsWhenTold 42 = .ok (.goto 33, 3) := by decide +kernel
theorem dX11_pairsWhenTold_45 : decode cX11_pairsWhenTold 45 = .ok (.iload 4, 2) := by decide +kernel
theorem dX11_pairsWhenTold_47 : decode cX11_pairsWhenTold 47 = .ok (.iconst 2, 1) := by decide +kernel
theorem dX11_pairsWhenTold_48 : decode cX11_pairsWhenTold 48 = .ok (.if_icmp .ne 27, 3) := by decide +kernel
theorem dX11_pairsWhenTold_51 : decode cX11_pairsWhenTold 51 = .ok (.aload_n 0, 1) := by decide +kernel
theorem dX11_pairsWhenTold_52 : decode cX11_pairsWhenTold 52 = .ok (.getfield 19, 3) := by decide +kernel
theorem dX11_pairsWhenTold_55 : decode cX11_pairsWhenTold 55 = .ok (.getfield 90, 3) := by decide +kernel
theorem dX11_pairsWhenTold_58 : decode cX11_pairsWhenTold 58 = .ok (.iload_n 2, 1) := by decide +kernel
theorem dX11_pairsWhenTold_59 : decode cX11_pairsWhenTold 59 = .ok (.iconst 0, 1) := by decide +kernel
theorem dX11_pairsWhenTold_60 : decode cX11_pairsWhenTold 60 = .ok (.aload_n 0, 1) := by decide +kernel
theorem dX11_pairsWhenTold_61 : decode cX11_pairsWhenTold 61 = .ok (.getfield 19, 3) := by decide +kernel
theorem dX11_pairsWhenTold_64 : decode cX11_pairsWhenTold 64 = .ok (.getfield 90, 3) := by decide +kernel
theorem dX11_pairsWhenTold_67 : decode cX11_pairsWhenTold 67 = .ok (.iload_n 2, 1) := by decide +kernel
theorem dX11_pairsWhenTold_68 : decode cX11_pairsWhenTold 68 = .ok (.iaload, 1) := by decide +kernel
theorem dX11_pairsWhenTold_69 : decode cX11_pairsWhenTold 69 = .ok (.iconst 1, 1) := by decide +kernel
theorem dX11_pairsWhenTold_70 : decode cX11_pairsWhenTold 70 = .ok (.isub, 1) := by decide +kernel
theorem dX11_pairsWhenTold_71 : decode cX11_pairsWhenTold 71 = .ok (.invokestatic 185, 3) := by decide +kernel
theorem dX11_pairsWhenTold_74 : decode cX11_pairsWhenTold 74 = .ok (.iastore, 1) := by decide +kernel
theorem dX11_pairsWhenTold_75 : decode cX11_pairsWhenTold 75 = .ok (.aload_n 0, 1) := by decide +kernel
theorem dX11_pairsWhenTold_76 : decode cX11_pairsWhenTold 76 = .ok (.getfield 19, 3) := by decide +kernel
theorem dX11_pairsWhenTold_79 : decode cX11_pairsWhenTold 79 = .ok (.iload_n 1, 1) := by decide +kernel
theorem dX11_pairsWhenTold_80 : decode cX11_pairsWhenTold 80 = .ok (.iload_n 2, 1) := by decide +kernel
theorem dX11_pairsWhenTold_81 : decode cX11_pairsWhenTold 81 = .ok (.iload_n 3, 1) := by decide +kernel
theorem dX11_pairsWhenTold_82 : decode cX11_pairsWhenTold 82 = .ok (.invokevirtual 135, 3) := by decide +kernel
theorem dX11_pairsWhenTold_85 : decode cX11_pairsWhenTold 85 = .ok (.astore 5, 2) := by decide +kernel
theorem dX11_pairsWhenTold_87 : decode cX11_pairsWhenTold 87 = .ok (.iload 4, 2) := by decide +kernel
theorem dX11_pairsWhenTold_89 : decode cX11_pairsWhenTold 89 = .ok (.ifCond .ne 19, 3) := by decide +kernel
theorem dX11_pairsWhenTold_92 : decode cX11_pairsWhenTold 92 = .ok (.aload 5, 2) := by decide +kernel
theorem dX11_pairsWhenTold_94 : decode cX11_pairsWhenTold 94 = .ok (.iconst 0, 1) := by decide +kernel
theorem dX11_pairsWhenTold_95 : decode cX11_pairsWhenTold 95 = .ok (.aload 5, 2) := by decide +kernel
theorem dX11_pairsWhenTold_97 : decode cX11_pairsWhenTold 97 = .ok (.getfield 139, 3) := by decide +kernel
theorem dX11_pairsWhenTold_100 : decode cX11_pairsWhenTold 100 = .ok (.iconst 2, 1) := by decide +kernel
theorem dX11_pairsWhenTold_101 : decode cX11_pairsWhenTold 101 = .ok (.isub, 1) := by decide +kernel
theorem dX11_pairsWhenTold_102 : decode cX11_pairsWhenTold 102 = .ok (.invokestatic 185, 3) := by decide +kernel
theorem dX11_pairsWhenTold_105 : decode cX11_pairsWhenTold 105 = .ok (.putfield 139, 3) := by decide +kernel
theorem dX11_pairsWhenTold_108 : decode cX11_pairsWhenTold 108 = .ok (.aload 5, 2) := by decide +kernel
theorem dX11_pairsWhenTold_110 : decode cX11_pairsWhenTold 110 = .ok (.invokevirtual 164, 3) := by decide +kernel
theorem dX11_pairsWhenTold_113 : decode cX11_pairsWhenTold 113 = .ok (.ireturn, 1) := by decide +kernel
theorem dX11_pairsInGrip_0 : decode cX11_pairsInGrip 0 = .ok (.aload_n 0, 1) := by decide +kernel
theorem dX11_pairsInGrip_1 : decode cX11_pairsInGrip 1 = .ok (.getfield 10, 3) := by decide +kernel
theorem dX11_pairsInGrip_4 : decode cX11_pairsInGrip 4 = .ok (.getfield 93, 3) := by decide +kernel
theorem dX11_pairsInGrip_7 : decode cX11_pairsInGrip 7 = .ok (.iload_n 1, 1) := by decide +kernel
theorem dX11_pairsInGrip_8 : decode cX11_pairsInGrip 8 = .ok (.iaload, 1) := by decide +kernel
theorem dX11_pairsInGrip_9 : decode cX11_pairsInGrip 9 = .ok (.iconst 1, 1) := by decide +kernel
theorem dX11_pairsInGrip_10 : decode cX11_pairsInGrip 10 = .ok (.iadd, 1) := by decide +kernel
theorem dX11_pairsInGrip_11 : decode cX11_pairsInGrip 11 = .ok (.bipush 61, 2) := by decide +kernel
theorem dX11_pairsInGrip_13 : decode cX11_pairsInGrip 13 = .ok (.imul, 1) := by decide +kernel
theorem dX11_pairsInGrip_14 : decode cX11_pairsInGrip 14 = .ok (.ireturn, 1) := by decide +kernel
theorem dX11_forcesThatFit_0 : decode cX11_forcesThatFit 0 = .ok (.iconst 0, 1) := by decide +kernel
theorem dX11_forcesThatFit_1 : decode cX11_forcesThatFit 1 = .ok (.istore_n 3, 1) := by decide +kernel
theorem dX11_forcesThatFit_2 : decode cX11_forcesThatFit 2 = .ok (.iconst 0, 1) := by decide +kernel
theorem dX11_forcesThatFit_3 : decode cX11_forcesThatFit 3 = .ok (.istore 4, 2) := by decide +kernel
theorem dX11_forcesThatFit_5 : decode cX11_forcesThatFit 5 = .ok (.iload 4, 2) := by decide +kernel
theorem dX11_forcesThatFit_7 : decode cX11_forcesThatFit 7 = .ok (.bipush 60, 2) := by decide +kernel
theorem dX11_forcesThatFit_9 : decode cX11_forcesThatFit 9 = .ok (.if_icmp .gt 30, 3) := by decide +kernel
theorem dX11_forcesThatFit_12 : decode cX11_forcesThatFit 12 = .ok (.aload_n 0, 1) := by decide +kernel
theorem dX11_forcesThatFit_13 : decode cX11_forcesThatFit 13 = .ok (.getfield 10, 3) := by decide +kernel
theorem dX11_forcesThatFit_16 : decode cX11_forcesThatFit 16 = .ok (.getfield 99, 3) := by decide +kernel
theorem dX11_forcesThatFit_19 : decode cX11_forcesThatFit 19 = .ok (.iload_n 1, 1) := by decide +kernel
theorem dX11_forcesThatFit_20 : decode cX11_forcesThatFit 20 = .ok (.aaload, 1) := by decide +kernel
theorem dX11_forcesThatFit_21 : decode cX11_forcesThatFit 21 = .ok (.iload 4, 2) := by decide +kernel
theorem dX11_forcesThatFit_23 : decode cX11_forcesThatFit 23 = .ok (.invokevirtual 111, 3) := by decide +kernel
theorem dX11_forcesThatFit_26 : decode cX11_forcesThatFit 26 = .ok (.iload_n 2, 1) := by decide +kernel
theorem dX11_forcesThatFit_27 : decode cX11_forcesThatFit 27 = .ok (.if_icmp .ne 6, 3) := by decide +kernel
theorem dX11_forcesThatFit_30 : decode cX11_forcesThatFit 30 = .ok (.iinc 3 1, 3) := by decide +kernel
theorem dX11_forcesThatFit_33 : decode cX11_forcesThatFit 33 = .ok (.iinc 4 1, 3) := by decide +kernel
theorem dX11_forcesThatFit_36 : decode cX11_forcesThatFit 36 = .ok (.goto (-31), 3) := by decide +kernel
theorem dX11_forcesThatFit_39 : decode cX11_forcesThatFit 39 = .ok (.iload_n 3, 1) := by decide +kernel
theorem dX11_forcesThatFit_40 : decode cX11_forcesThatFit 40 = .ok (.ireturn, 1) := by decide +kernel
theorem dX11_leastForceThatFits_0 : decode cX11_leastForceThatFits 0 = .ok (.iconst 0, 1) := by decide +kernel
theorem dX11_leastForceThatFits_1 : decode cX11_leastForceThatFits 1 = .ok (.istore_n 3, 1) := by decide +kernel
theorem dX11_leastForceThatFits_2 : decode cX11_leastForceThatFits 2 = .ok (.iload_n 3, 1) := by decide +kernel
theorem dX11_leastForceThatFits_3 : decode cX11_leastForceThatFits 3 = .ok (.bipush 60, 2) := by decide +kernel
theorem dX11_leastForceThatFits_5 : decode cX11_leastForceThatFits 5 = .ok (.if_icmp .gt 28, 3) := by decide +kernel
theorem dX11_leastForceThatFits_8 : decode cX11_leastForceThatFits 8 = .ok (.aload_n 0, 1) := by decide +kernel
theorem dX11_leastForceThatFits_9 : decode cX11_leastForceThatFits 9 = .ok (.getfield 10, 3) := by decide +kernel
theorem dX11_leastForceThatFits_12 : decode cX11_leastForceThatFits 12 = .ok (.getfield 99, 3) := by decide +kernel
theorem dX11_leastForceThatFits_15 : decode cX11_leastForceThatFits 15 = .ok (.iload_n 1, 1) := by decide +kernel
theorem dX11_leastForceThatFits_16 : decode cX11_leastForceThatFits 16 = .ok (.aaload, 1) := by decide +kernel
theorem dX11_leastForceThatFits_17 : decode cX11_leastForceThatFits 17 = .ok (.iload_n 3, 1) := by decide +kernel
theorem dX11_leastForceThatFits_18 : decode cX11_leastForceThatFits 18 = .ok (.invokevirtual 111, 3) := by decide +kernel
theorem dX11_leastForceThatFits_21 : decode cX11_leastForceThatFits 21 = .ok (.iload_n 2, 1) := by decide +kernel
theorem dX11_leastForceThatFits_22 : decode cX11_leastForceThatFits 22 = .ok (.if_icmp .ne 5, 3) := by decide +kernel
theorem dX11_leastForceThatFits_25 : decode cX11_leastForceThatFits 25 = .ok (.iload_n 3, 1) := by decide +kernel
theorem dX11_leastForceThatFits_26 : decode cX11_leastForceThatFits 26 = .ok (.ireturn, 1) := by decide +kernel
theorem dX11_leastForceThatFits_27 : decode cX11_leastForceThatFits 27 = .ok (.iinc 3 1, 3) := by decide +kernel
theorem dX11_leastForceThatFits_30 : decode cX11_leastForceThatFits 30 = .ok (.goto (-28), 3) := by decide +kernel
theorem dX11_leastForceThatFits_33 : decode cX11_leastForceThatFits 33 = .ok (.bipush (-4), 2) := by decide +kernel
theorem dX11_leastForceThatFits_35 : decode cX11_leastForceThatFits 35 = .ok (.ireturn, 1) := by decide +kernel
theorem dX11_firstForged_0 : decode cX11_firstForged 0 = .ok (.iconst 0, 1) := by decide +kernel
theorem dX11_firstForged_1 : decode cX11_firstForged 1 = .ok (.istore_n 3, 1) := by decide +kernel
theorem dX11_firstForged_2 : decode cX11_firstForged 2 = .ok (.iload_n 3, 1) := by decide +kernel
theorem dX11_firstForged_3 : decode cX11_firstForged 3 = .ok (.aload_n 2, 1) := by decide +kernel
theorem dX11_firstForged_4 : decode cX11_firstForged 4 = .ok (.getfield 52, 3) := by decide +kernel
theorem dX11_firstForged_7 : decode cX11_firstForged 7 = .ok (.if_icmp .ge 25, 3) := by decide +kernel
theorem dX11_firstForged_10 : decode cX11_firstForged 10 = .ok (.aload_n 0, 1) := by decide +kernel
theorem dX11_firstForged_11 : decode cX11_firstForged 11 = .ok (.iload_n 1, 1) := by decide +kernel
theorem dX11_firstForged_12 : decode cX11_firstForged 12 = .ok (.aload_n 2, 1) := by decide +kernel
theorem dX11_firstForged_13 : decode cX11_firstForged 13 = .ok (.getfield 244, 3) := by decide +kernel
theorem dX11_firstForged_16 : decode cX11_firstForged 16 = .ok (.iload_n 3, 1) := by decide +kernel
theorem dX11_firstForged_17 : decode cX11_firstForged 17 = .ok (.iaload, 1) := by decide +kernel
theorem dX11_firstForged_18 : decode cX11_firstForged 18 = .ok (.invokevirtual 247, 3) := by decide +kernel
theorem dX11_firstForged_21 : decode cX11_firstForged 21 = .ok (.ifCond .ge 5, 3) := by decide +kernel
theorem dX11_firstForged_24 : decode cX11_firstForged 24 = .ok (.iload_n 3, 1) := by decide +kernel
theorem dX11_firstForged_25 : decode cX11_firstForged 25 = .ok (.ireturn, 1) := by decide +kernel
theorem dX11_firstForged_26 : decode cX11_firstForged 26 = .ok (.iinc 3 1, 3) := by decide +kernel
theorem dX11_firstForged_29 : decode cX11_firstForged 29 = .ok (.goto (-27), 3) := by decide +kernel
theorem dX11_firstForged_32 : decode cX11_firstForged 32 = .ok (.bipush (-4), 2) := by decide +kernel
theorem dX11_firstForged_34 : decode cX11_firstForged 34 = .ok (.ireturn, 1) := by decide +kernel
theorem dX11_firstNotSo_0 : decode cX11_firstNotSo 0 = .ok (.aload_n 0, 1) := by decide +kernel
theorem dX11_firstNotSo_1 : decode cX11_firstNotSo 1 = .ok (.getfield 19, 3) := by decide +kernel
theorem dX11_firstNotSo_4 : decode cX11_firstNotSo 4 = .ok (.aload_n 0, 1) := by decide +kernel
theorem dX11_firstNotSo_5 : decode cX11_firstNotSo 5 = .ok (.getfield 10, 3) := by decide +kernel
theorem dX11_firstNotSo_8 : decode cX11_firstNotSo 8 = .ok (.invokevirtual 48, 3) := by decide +kernel
theorem dX11_firstNotSo_11 : decode cX11_firstNotSo 11 = .ok (.iconst 0, 1) := by decide +kernel
theorem dX11_firstNotSo_12 : decode cX11_firstNotSo 12 = .ok (.istore 7, 2) := by decide +kernel
theorem dX11_firstNotSo_14 : decode cX11_firstNotSo 14 = .ok (.iload 7, 2) := by decide +kernel
theorem dX11_firstNotSo_16 : decode cX11_firstNotSo 16 = .ok (.aload 5, 2) := by decide +kernel
theorem dX11_firstNotSo_18 : decode cX11_firstNotSo 18 = .ok (.getfield 52, 3) := by decide +kernel
theorem dX11_firstNotSo_21 : decode cX11_firstNotSo 21 = .ok (.if_icmp .ge 107, 3) := by decide +kernel
theorem dX11_firstNotSo_24 : decode cX11_firstNotSo 24 = .ok (.iload 7, 2) := by decide +kernel
theorem dX11_firstNotSo_26 : decode cX11_firstNotSo 26 = .ok (.aload 6, 2) := by decide +kernel
theorem dX11_firstNotSo_28 : decode cX11_firstNotSo 28 = .ok (.getfield 52, 3) := by decide +kernel
theorem dX11_firstNotSo_31 : decode cX11_firstNotSo 31 = .ok (.if_icmp .ge 7, 3) := by decide +kernel
theorem dX11_firstNotSo_34 : decode cX11_firstNotSo 34 = .ok (.iconst 1, 1) := by decide +kernel
theorem dX11_firstNotSo_35 : decode cX11_firstNotSo 35 = .ok (.goto 4, 3) := by decide +kernel
theorem dX11_firstNotSo_38 : decode cX11_firstNotSo 38 = .ok (.iconst 0, 1) := by decide +kernel
theorem dX11_firstNotSo_39 : decode cX11_firstNotSo 39 = .ok (.istore 8, 2) := by decide +kernel
theorem dX11_firstNotSo_41 : decode cX11_firstNotSo 41 = .ok (.bipush (-4), 2) := by decide +kernel
theorem dX11_firstNotSo_43 : decode cX11_firstNotSo 43 = .ok (.istore 9, 2) := by decide +kernel
theorem dX11_firstNotSo_45 : decode cX11_firstNotSo 45 = .ok (.iload 8, 2) := by decide +kernel
theorem dX11_firstNotSo_47 : decode cX11_firstNotSo 47 = .ok (.ifCond .eq 40, 3) := by decide +kernel
theorem dX11_firstNotSo_50 : decode cX11_firstNotSo 50 = .ok (.aload_n 0, 1) := by decide +kernel
theorem dX11_firstNotSo_51 : decode cX11_firstNotSo 51 = .ok (.getfield 19, 3) := by decide +kernel
theorem dX11_firstNotSo_54 : decode cX11_firstNotSo 54 = .ok (.iload_n 1, 1) := by decide +kernel
theorem dX11_firstNotSo_55 : decode cX11_firstNotSo 55 = .ok (.invokevirtual 80, 3) := by decide +kernel
theorem dX11_firstNotSo_58 : decode cX11_firstNotSo 58 = .ok (.ifCond .eq 7, 3) := by decide +kernel
theorem dX11_firstNotSo_61 : decode cX11_firstNotSo 61 = .ok (.iconst 2, 1) := by decide +kernel
theorem dX11_firstNotSo_62 : decode cX11_firstNotSo 62 = .ok (.goto 23, 3) := by decide +kernel
theorem dX11_firstNotSo_65 : decode cX11_firstNotSo 65 = .ok (.aload_n 0, 1) := by decide +kernel
theorem dX11_firstNotSo_66 : decode cX11_firstNotSo 66 = .ok (.getfield 19, 3) := by decide +kernel
theorem dX11_firstNotSo_69 : decode cX11_firstNotSo 69 = .ok (.iload_n 1, 1) := by decide +kernel
theorem dX11_firstNotSo_70 : decode cX11_firstNotSo 70 = .ok (.iload_n 2, 1) := by decide +kernel
theorem dX11_firstNotSo_71 : decode cX11_firstNotSo 71 = .ok (.iload_n 3, 1) := by decide +kernel
theorem dX11_firstNotSo_72 : decode cX11_firstNotSo 72 = .ok (.iload 4, 2) := by decide +kernel
theorem dX11_firstNotSo_74 : decode cX11_firstNotSo 74 = .ok (.aload 6, 2) := by decide +kernel
theorem dX11_firstNotSo_76 : decode cX11_firstNotSo 76 = .ok (.getfield 244, 3) := by decide +kernel
theorem dX11_firstNotSo_79 : decode cX11_firstNotSo 79 = .ok (.iload 7, 2) := by decide +kernel
theorem dX11_firstNotSo_81 : decode cX11_firstNotSo 81 = .ok (.iaload, 1) := by decide +kernel
theorem dX11_firstNotSo_82 : decode cX11_firstNotSo 82 = .ok (.invokevirtual 160, 3) := by decide +kernel
theorem dX11_firstNotSo_85 : decode cX11_firstNotSo 85 = .ok (.istore 9, 2) := by decide +kernel
theorem dX11_firstNotSo_87 : decode cX11_firstNotSo 87 = .ok (.aload 5, 2) := by decide +kernel
theorem dX11_firstNotSo_89 : decode cX11_firstNotSo 89 = .ok (.getfield 244, 3) := by decide +kernel
theorem dX11_firstNotSo_92 : decode cX11_firstNotSo 92 = .ok (.iload 7, 2) := by decide +kernel
theorem dX11_firstNotSo_94 : decode cX11_firstNotSo 94 = .ok (.iaload, 1) := by decide +kernel
theorem dX11_firstNotSo_95 : decode cX11_firstNotSo 95 = .ok (.istore 10, 2) := by decide +kernel
theorem dX11_firstNotSo_97 : decode cX11_firstNotSo 97 = .ok (.iload 10, 2) := by decide +kernel
theorem dX11_firstNotSo_99 : decode cX11_firstNotSo 99 = .ok (.aload 5, 2) := by decide +kernel
theorem dX11_firstNotSo_101 : decode cX11_firstNotSo 101 = .ok (.invokevirtual 392, 3) := by decide +kernel
theorem dX11_firstNotSo_104 : decode cX11_firstNotSo 104 = .ok (.if_icmp .eq 18, 3) := by decide +kernel
theorem dX11_firstNotSo_107 : decode cX11_firstNotSo 107 = .ok (.iload 8, 2) := by decide +kernel
theorem dX11_firstNotSo_109 : decode cX11_firstNotSo 109 = .ok (.ifCond .eq 10, 3) := by decide +kernel
theorem dX11_firstNotSo_112 : decode cX11_firstNotSo 112 = .ok (.iload 10, 2) := by decide +kernel
theorem dX11_firstNotSo_114 : decode cX11_firstNotSo 114 = .ok (.iload 9, 2) := by decide +kernel
theorem dX11_firstNotSo_116 : decode cX11_firstNotSo 116 = .ok (.if_icmp .eq 6, 3) := by decide +kernel
theorem dX11_firstNotSo_119 : decode cX11_firstNotSo 119 = .ok (.iload 7, 2) := by decide +kernel
theorem dX11_firstNotSo_121 : decode cX11_firstNotSo 121 = .ok (.ireturn, 1) := by decide +kernel
theorem dX11_firstNotSo_122 : decode cX11_firstNotSo 122 = .ok (.iinc 7 1, 3) := by decide +kernel
theorem dX11_firstNotSo_125 : decode cX11_firstNotSo 125 = .ok (.goto (-111), 3) := by decide +kernel
theorem dX11_firstNotSo_128 : decode cX11_firstNotSo 128 = .ok (.bipush (-4), 2) := by decide +kernel
theorem dX11_firstNotSo_130 : decode cX11_firstNotSo 130 = .ok (.ireturn, 1) := by decide +kernel
theorem dX11_walkOnSpare_0 : decode cX11_walkOnSpare 0 = .ok (.iconst 0, 1) := by decide +kernel
theorem dX11_walkOnSpare_1 : decode cX11_walkOnSpare 1 = .ok (.istore_n 1, 1) := by decide +kernel
theorem dX11_walkOnSpare_2 : decode cX11_walkOnSpare 2 = .ok (.iconst 0, 1) := by decide +kernel
theorem dX11_walkOnSpare_3 : decode cX11_walkOnSpare 3 = .ok (.istore_n 2, 1) := by decide +kernel
theorem dX11_walkOnSpare_4 : decode cX11_walkOnSpare 4 = .ok (.iload_n 2, 1) := by decide +kernel
theorem dX11_walkOnSpare_5 : decode cX11_walkOnSpare 5 = .ok (.bipush 10, 2) := by decide +kernel
theorem dX11_walkOnSpare_7 : decode cX11_walkOnSpare 7 = .ok (.if_icmp .ge 93, 3) := by decide +kernel
theorem dX11_walkOnSpare_10 : decode cX11_walkOnSpare 10 = .ok (.aload_n 0, 1) := by decide +kernel
theorem dX11_walkOnSpare_11 : decode cX11_walkOnSpare 11 = .ok (.aload_n 0, 1) := by decide +kernel
theorem dX11_walkOnSpare_12 : decode cX11_walkOnSpare 12 = .ok (.getfield 19, 3) := by decide +kernel
theorem dX11_walkOnSpare_15 : decode cX11_walkOnSpare 15 = .ok (.getfield 174, 3) := by decide +kernel
theorem dX11_walkOnSpare_18 : decode cX11_walkOnSpare 18 = .ok (.invokevirtual 395, 3) := by decide +kernel
theorem dX11_walkOnSpare_21 : decode cX11_walkOnSpare 21 = .ok (.istore_n 3, 1) := by decide +kernel
theorem dX11_walkOnSpare_22 : decode cX11_walkOnSpare 22 = .ok (.aload_n 0, 1) := by decide +kernel
theorem dX11_walkOnSpare_23 : decode cX11_walkOnSpare 23 = .ok (.aload_n 0, 1) := by decide +kernel
theorem dX11_walkOnSpare_24 : decode cX11_walkOnSpare 24 = .ok (.getfield 19, 3) := by decide +kernel
theorem dX11_walkOnSpare_27 : decode cX11_walkOnSpare 27 = .ok (.getfield 168, 3) := by decide +kernel
theorem dX11_walkOnSpare_30 : decode cX11_walkOnSpare 30 = .ok (.invokevirtual 395, 3) := by decide +kernel
theorem dX11_walkOnSpare_33 : decode cX11_walkOnSpare 33 = .ok (.istore 4, 2) := by decide +kernel
theorem dX11_walkOnSpare_35 : decode cX11_walkOnSpare 35 = .ok (.aload_n 0, 1) := by decide +kernel
theorem dX11_walkOnSpare_36 : decode cX11_walkOnSpare 36 = .ok (.aload_n 0, 1) := by decide +kernel
theorem dX11_walkOnSpare_37 : decode cX11_walkOnSpare 37 = .ok (.getfield 19, 3) := by decide +kernel
theorem dX11_walkOnSpare_40 : decode cX11_walkOnSpare 40 = .ok (.getfield 194, 3) := by decide +kernel
theorem dX11_walkOnSpare_43 : decode cX11_walkOnSpare 43 = .ok (.invokevirtual 395, 3) := by decide +kernel
theorem dX11_walkOnSpare_46 : decode cX11_walkOnSpare 46 = .ok (.istore 5, 2) := by decide +kernel
theorem dX11_walkOnSpare_48 : decode cX11_walkOnSpare 48 = .ok (.aload_n 0, 1) := by decide +kernel
theorem dX11_walkOnSpare_49 : decode cX11_walkOnSpare 49 = .ok (.bipush 61, 2) := by decide +kernel
theorem dX11_walkOnSpare_51 : decode cX11_walkOnSpare 51 = .ok (.invokevirtual 395, 3) := by decide +kernel
theorem dX11_walkOnSpare_54 : decode cX11_walkOnSpare 54 = .ok (.istore 6, 2) := by decide +kernel
theorem dX11_walkOnSpare_56 : decode cX11_walkOnSpare 56 = .ok (.aload_n 0, 1) := by decide +kernel
theorem dX11_walkOnSpare_57 : decode cX11_walkOnSpare 57 = .ok (.bipush 61, 2) := by decide +kernel
theorem dX11_walkOnSpare_59 : decode cX11_walkOnSpare 59 = .ok (.invokevirtual 395, 3) := by decide +kernel
theorem dX11_walkOnSpare_62 : decode cX11_walkOnSpare 62 = .ok (.istore 7, 2) := by decide +kernel
theorem dX11_walkOnSpare_64 : decode cX11_walkOnSpare 64 = .ok (.aload_n 0, 1) := by decide +kernel
theorem dX11_walkOnSpare_65 : decode cX11_walkOnSpare 65 = .ok (.getfield 19, 3) := by decide +kernel
theorem dX11_walkOnSpare_68 : decode cX11_walkOnSpare 68 = .ok (.iload_n 3, 1) := by decide +kernel
theorem dX11_walkOnSpare_69 : decode cX11_walkOnSpare 69 = .ok (.invokevirtual 80, 3) := by decide +kernel
theorem dX11_walkOnSpare_72 : decode cX11_walkOnSpare 72 = .ok (.ifCond .ne 22, 3) := by decide +kernel
theorem dX11_walkOnSpare_75 : decode cX11_walkOnSpare 75 = .ok (.iload_n 1, 1) := by decide +kernel
theorem dX11_walkOnSpare_76 : decode cX11_walkOnSpare 76 = .ok (.aload_n 0, 1) := by decide +kernel
theorem dX11_walkOnSpare_77 : decode cX11_walkOnSpare 77 = .ok (.getfield 19, 3) := by decide +kernel
theorem dX11_walkOnSpare_80 : decode cX11_walkOnSpare 80 = .ok (.iload_n 3, 1) := by decide +kernel
theorem dX11_walkOnSpare_81 : decode cX11_walkOnSpare 81 = .ok (.iload 4, 2) := by decide +kernel
theorem dX11_walkOnSpare_83 : decode cX11_walkOnSpare 83 = .ok (.iload 5, 2) := by decide +kernel
theorem dX11_walkOnSpare_85 : decode cX11_walkOnSpare 85 = .ok (.iload 6, 2) := by decide +kernel
theorem dX11_walkOnSpare_87 : decode cX11_walkOnSpare 87 = .ok (.iload 7, 2) := by decide +kernel
theorem dX11_walkOnSpare_89 : decode cX11_walkOnSpare 89 = .ok (.invokevirtual 160, 3) := by decide +kernel
theorem dX11_walkOnSpare_92 : decode cX11_walkOnSpare 92 = .ok (.iadd, 1) := by decide +kernel
theorem dX11_walkOnSpare_93 : decode cX11_walkOnSpare 93 = .ok (.istore_n 1, 1) := by decide +kernel
theorem dX11_walkOnSpare_94 : decode cX11_walkOnSpare 94 = .ok (.iinc 2 1, 3) := by decide +kernel
theorem dX11_walkOnSpare_97 : decode cX11_walkOnSpare 97 = .ok (.goto (-93), 3) := by decide +kernel
theorem dX11_walkOnSpare_100 : decode cX11_walkOnSpare 100 = .ok (.iload_n 1, 1) := by decide +kernel
theorem dX11_walkOnSpare_101 : decode cX11_walkOnSpare 101 = .ok (.ireturn, 1) := by decide +kernel
theorem dX11_draw_0 : decode cX11_draw 0 = .ok (.aload_n 0, 1) := by decide +kernel
theorem dX11_draw_1 : decode cX11_draw 1 = .ok (.aload_n 0, 1) := by decide +kernel
theorem dX11_draw_2 : decode cX11_draw 2 = .ok (.getfield 266, 3) := by decide +kernel
theorem dX11_draw_5 : decode cX11_draw 5 = .ok (.ldc_w 398, 3) := by decide +kernel
theorem dX11_draw_8 : decode cX11_draw 8 = .ok (.imul, 1) := by decide +kernel
theorem dX11_draw_9 : decode cX11_draw 9 = .ok (.sipush 12345, 3) := by decide +kernel
theorem dX11_draw_12 : decode cX11_draw 12 = .ok (.iadd, 1) := by decide +kernel
theorem dX11_draw_13 : decode cX11_draw 13 = .ok (.putfield 266, 3) := by decide +kernel
theorem dX11_draw_16 : decode cX11_draw 16 = .ok (.aload_n 0, 1) := by decide +kernel
theorem dX11_draw_17 : decode cX11_draw 17 = .ok (.getfield 266, 3) := by decide +kernel
theorem dX11_draw_20 : decode cX11_draw 20 = .ok (.ldc_w 399, 3) := by decide +kernel
theorem dX11_draw_23 : decode cX11_draw 23 = .ok (.iand, 1) := by decide +kernel
theorem dX11_draw_24 : decode cX11_draw 24 = .ok (.ldc_w 400, 3) := by decide +kernel
theorem dX11_draw_27 : decode cX11_draw 27 = .ok (.idiv, 1) := by decide +kernel
theorem dX11_draw_28 : decode cX11_draw 28 = .ok (.istore_n 2, 1) := by decide +kernel
theorem dX11_draw_29 : decode cX11_draw 29 = .ok (.iload_n 1, 1) := by decide +kernel
theorem dX11_draw_30 : decode cX11_draw 30 = .ok (.ifCond .gt 7, 3) := by decide +kernel
theorem dX11_draw_33 : decode cX11_draw 33 = .ok (.iconst 0, 1) := by decide +kernel
theorem dX11_draw_34 : decode cX11_draw 34 = .ok (.goto 6, 3) := by decide +kernel
theorem dX11_draw_37 : decode cX11_draw 37 = .ok (.iload_n 2, 1) := by decide +kernel
theorem dX11_draw_38 : decode cX11_draw 38 = .ok (.iload_n 1, 1) := by decide +kernel
theorem dX11_draw_39 : decode cX11_draw 39 = .ok (.irem, 1) := by decide +kernel
theorem dX11_draw_40 : decode cX11_draw 40 = .ok (.ireturn, 1) := by decide +kernel
theorem dJ6_bitCount_0f7a4_0 : decode cJ6_bitCount_0f7a4 0 = .ok (.iload_n 0, 1) := by decide +kernel
theorem dJ6_bitCount_0f7a4_1 : decode cJ6_bitCount_0f7a4 1 = .ok (.iload_n 0, 1) := by decide +kernel
theorem dJ6_bitCount_0f7a4_2 : decode cJ6_bitCount_0f7a4 2 = .ok (.iconst 1, 1) := by decide +kernel
theorem dJ6_bitCount_0f7a4_3 : decode cJ6_bitCount_0f7a4 3 = .ok (.iushr, 1) := by decide +kernel
theorem dJ6_bitCount_0f7a4_4 : decode cJ6_bitCount_0f7a4 4 = .ok (.ldc_w 265, 3) := by decide +kernel
theorem dJ6_bitCount_0f7a4_7 : decode cJ6_bitCount_0f7a4 7 = .ok (.iand, 1) := by decide +kernel
theorem dJ6_bitCount_0f7a4_8 : decode cJ6_bitCount_0f7a4 8 = .ok (.isub, 1) := by decide +kernel
theorem dJ6_bitCount_0f7a4_9 : decode cJ6_bitCount_0f7a4 9 = .ok (.istore_n 0, 1) := by decide +kernel
theorem dJ6_bitCount_0f7a4_10 : decode cJ6_bitCount_0f7a4 10 = .ok (.iload_n 0, 1) := by decide +kernel
theorem dJ6_bitCount_0f7a4_11 : decode cJ6_bitCount_0f7a4 11 = .ok (.ldc_w 266, 3) := by decide +kernel
theorem dJ6_bitCount_0f7a4_14 : decode cJ6_bitCount_0f7a4 14 = .ok (.iand, 1) := by decide +kernel
theorem dJ6_bitCount_0f7a4_15 : decode cJ6_bitCount_0f7a4 15 = .ok (.iload_n 0, 1) := by decide +kernel
theorem dJ6_bitCount_0f7a4_16 : decode cJ6_bitCount_0f7a4 16 = .ok (.iconst 2, 1) := by decide +kernel
theorem dJ6_bitCount_0f7a4_17 : decode cJ6_bitCount_0f7a4 17 = .ok (.iushr, 1) := by decide +kernel
theorem dJ6_bitCount_0f7a4_18 : decode cJ6_bitCount_0f7a4 18 = .ok (.ldc_w 266, 3) := by decide +kernel
theorem dJ6_bitCount_0f7a4_21 : decode cJ6_bitCount_0f7a4 21 = .ok (.iand, 1) := by decide +kernel
theorem dJ6_bitCount_0f7a4_22 : decode cJ6_bitCount_0f7a4 22 = .ok (.iadd, 1) := by decide +kernel
theorem dJ6_bitCount_0f7a4_23 : decode cJ6_bitCount_0f7a4 23 = .ok (.istore_n 0, 1) := by decide +kernel
theorem dJ6_bitCount_0f7a4_24 : decode cJ6_bitCount_0f7a4 24 = .ok (.iload_n 0, 1) := by decide +kernel
theorem dJ6_bitCount_0f7a4_25 : decode cJ6_bitCount_0f7a4 25 = .ok (.iload_n 0, 1) := by decide +kernel
theorem dJ6_bitCount_0f7a4_26 : decode cJ6_bitCount_0f7a4 26 = .ok (.iconst 4, 1) := by decide +kernel
theorem dJ6_bitCount_0f7a4_27 : decode cJ6_bitCount_0f7a4 27 = .ok (.iushr, 1) := by decide +kernel
theorem dJ6_bitCount_0f7a4_28 : decode cJ6_bitCount_0f7a4 28 = .ok (.iadd, 1) := by decide +kernel
theorem dJ6_bitCount_0f7a4_29 : decode cJ6_bitCount_0f7a4 29 = .ok (.ldc_w 267, 3) := by decide +kernel
theorem dJ6_bitCount_0f7a4_32 : decode cJ6_bitCount_0f7a4 32 = .ok (.iand, 1) := by decide +kernel
theorem dJ6_bitCount_0f7a4_33 : decode cJ6_bitCount_0f7a4 33 = .ok (.istore_n 0, 1) := by decide +kernel
theorem dJ6_bitCount_0f7a4_34 : decode cJ6_bitCount_0f7a4 34 = .ok (.iload_n 0, 1) := by decide +kernel
theorem dJ6_bitCount_0f7a4_35 : decode cJ6_bitCount_0f7a4 35 = .ok (.iload_n 0, 1) := by decide +kernel
theorem dJ6_bitCount_0f7a4_36 : decode cJ6_bitCount_0f7a4 36 = .ok (.bipush 8, 2) := by decide +kernel
theorem dJ6_bitCount_0f7a4_38 : decode cJ6_bitCount_0f7a4 38 = .ok (.iushr, 1) := by decide +kernel
theorem dJ6_bitCount_0f7a4_39 : decode cJ6_bitCount_0f7a4 39 = .ok (.iadd, 1) := by decide +kernel
theorem dJ6_bitCount_0f7a4_40 : decode cJ6_bitCount_0f7a4 40 = .ok (.istore_n 0, 1) := by decide +kernel
theorem dJ6_bitCount_0f7a4_41 : decode cJ6_bitCount_0f7a4 41 = .ok (.iload_n 0, 1) := by decide +kernel
theorem dJ6_bitCount_0f7a4_42 : decode cJ6_bitCount_0f7a4 42 = .ok (.iload_n 0, 1) := by decide +kernel
theorem dJ6_bitCount_0f7a4_43 : decode cJ6_bitCount_0f7a4 43 = .ok (.bipush 16, 2) := by decide +kernel
theorem dJ6_bitCount_0f7a4_45 : decode cJ6_bitCount_0f7a4 45 = .ok (.iushr, 1) := by decide +kernel
theorem dJ6_bitCount_0f7a4_46 : decode cJ6_bitCount_0f7a4 46 = .ok (.iadd, 1) := by decide +kernel
theorem dJ6_bitCount_0f7a4_47 : decode cJ6_bitCount_0f7a4 47 = .ok (.istore_n 0, 1) := by decide +kernel
theorem dJ6_bitCount_0f7a4_48 : decode cJ6_bitCount_0f7a4 48 = .ok (.iload_n 0, 1) := by decide +kernel
theorem dJ6_bitCount_0f7a4_49 : decode cJ6_bitCount_0f7a4 49 = .ok (.bipush 63, 2) := by decide +kernel
theorem dJ6_bitCount_0f7a4_51 : decode cJ6_bitCount_0f7a4 51 = .ok (.iand, 1) := by decide +kernel
theorem dJ6_bitCount_0f7a4_52 : decode cJ6_bitCount_0f7a4 52 = .ok (.ireturn, 1) := by decide +kernel
theorem dJ9_abs_0f7a4_0 : decode cJ9_abs_0f7a4 0 = .ok (.iload_n 0, 1) := by decide +kernel
theorem dJ9_abs_0f7a4_1 : decode cJ9_abs_0f7a4 1 = .ok (.ifCond .ge 8, 3) := by decide +kernel
theorem dJ9_abs_0f7a4_4 : decode cJ9_abs_0f7a4 4 = .ok (.iload_n 0, 1) := by decide +kernel
theorem dJ9_abs_0f7a4_5 : decode cJ9_abs_0f7a4 5 = .ok (.ineg, 1) := by decide +kernel
theorem dJ9_abs_0f7a4_6 : decode cJ9_abs_0f7a4 6 = .ok (.goto 4, 3) := by decide +kernel
theorem dJ9_abs_0f7a4_9 : decode cJ9_abs_0f7a4 9 = .ok (.iload_n 0, 1) := by decide +kernel
theorem dJ9_abs_0f7a4_10 : decode cJ9_abs_0f7a4 10 = .ok (.ireturn, 1) := by decide +kernel
theorem dJ9_max_7cf53_0 : decode cJ9_max_7cf53 0 = .ok (.iload_n 0, 1) := by decide +kernel
theorem dJ9_max_7cf53_1 : decode cJ9_max_7cf53 1 = .ok (.iload_n 1, 1) := by decide +kernel
theorem dJ9_max_7cf53_2 : decode cJ9_max_7cf53 2 = .ok (.if_icmp .lt 7, 3) := by decide +kernel
theorem dJ9_max_7cf53_5 : decode cJ9_max_7cf53 5 = .ok (.iload_n 0, 1) := by decide +kernel
theorem dJ9_max_7cf53_6 : decode cJ9_max_7cf53 6 = .ok (.goto 4, 3) := by decide +kernel
theorem dJ9_max_7cf53_9 : decode cJ9_max_7cf53 9 = .ok (.iload_n 1, 1) := by decide +kernel
theorem dJ9_max_7cf53_10 : decode cJ9_max_7cf53 10 = .ok (.ireturn, 1) := by decide +kernel
theorem dJ9_min_7cf53_0 : decode cJ9_min_7cf53 0 = .ok (.iload_n 0, 1) := by decide +kernel
theorem dJ9_min_7cf53_1 : decode cJ9_min_7cf53 1 = .ok (.iload_n 1, 1) := by decide +kernel
theorem dJ9_min_7cf53_2 : decode cJ9_min_7cf53 2 = .ok (.if_icmp .gt 7, 3) := by decide +kernel
theorem dJ9_min_7cf53_5 : decode cJ9_min_7cf53 5 = .ok (.iload_n 0, 1) := by decide +kernel
theorem dJ9_min_7cf53_6 : decode cJ9_min_7cf53 6 = .ok (.goto 4, 3) := by decide +kernel
theorem dJ9_min_7cf53_9 : decode cJ9_min_7cf53 9 = .ok (.iload_n 1, 1) := by decide +kernel
theorem dJ9_min_7cf53_10 : decode cJ9_min_7cf53 10 = .ok (.ireturn, 1) := by decide +kernel
theorem dJ7_fill_d0a16_0 : decode cJ7_fill_d0a16 0 = .ok (.iconst 0, 1) := by decide +kernel
theorem dJ7_fill_d0a16_1 : decode cJ7_fill_d0a16 1 = .ok (.istore_n 3, 1) := by decide +kernel
theorem dJ7_fill_d0a16_2 : decode cJ7_fill_d0a16 2 = .ok (.aload_n 0, 1) := by decide +kernel
theorem dJ7_fill_d0a16_3 : decode cJ7_fill_d0a16 3 = .ok (.arraylength, 1) := by decide +kernel
theorem dJ7_fill_d0a16_4 : decode cJ7_fill_d0a16 4 = .ok (.istore 4, 2) := by decide +kernel
theorem dJ7_fill_d0a16_6 : decode cJ7_fill_d0a16 6 = .ok (.iload_n 3, 1) := by decide +kernel
theorem dJ7_fill_d0a16_7 : decode cJ7_fill_d0a16 7 = .ok (.iload 4, 2) := by decide +kernel
theorem dJ7_fill_d0a16_9 : decode cJ7_fill_d0a16 9 = .ok (.if_icmp .ge 13, 3) := by decide +kernel
theorem dJ7_fill_d0a16_12 : decode cJ7_fill_d0a16 12 = .ok (.aload_n 0, 1) := by decide +kernel
theorem dJ7_fill_d0a16_13 : decode cJ7_fill_d0a16 13 = .ok (.iload_n 3, 1) := by decide +kernel
theorem dJ7_fill_d0a16_14 : decode cJ7_fill_d0a16 14 = .ok (.lload_n 1, 1) := by decide +kernel
theorem dJ7_fill_d0a16_15 : decode cJ7_fill_d0a16 15 = .ok (.lastore, 1) := by decide +kernel
theorem dJ7_fill_d0a16_16 : decode cJ7_fill_d0a16 16 = .ok (.iinc 3 1, 3) := by decide +kernel
theorem dJ7_fill_d0a16_19 : decode cJ7_fill_d0a16 19 = .ok (.goto (-13), 3) := by decide +kernel
theorem dJ7_fill_d0a16_22 : decode cJ7_fill_d0a16 22 = .ok (.return_, 1) := by decide +kernel
theorem dJ7_fill_53178_0 : decode cJ7_fill_53178 0 = .ok (.iconst 0, 1) := by decide +kernel
theorem dJ7_fill_53178_1 : decode cJ7_fill_53178 1 = .ok (.istore_n 2, 1) := by decide +kernel
theorem dJ7_fill_53178_2 : decode cJ7_fill_53178 2 = .ok (.aload_n 0, 1) := by decide +kernel
theorem dJ7_fill_53178_3 : decode cJ7_fill_53178 3 = .ok (.arraylength, 1) := by decide +kernel
theorem dJ7_fill_53178_4 : decode cJ7_fill_53178 4 = .ok (.istore_n 3, 1) := by decide +kernel
theorem dJ7_fill_53178_5 : decode cJ7_fill_53178 5 = .ok (.iload_n 2, 1) := by decide +kernel
theorem dJ7_fill_53178_6 : decode cJ7_fill_53178 6 = .ok (.iload_n 3, 1) := by decide +kernel
theorem dJ7_fill_53178_7 : decode cJ7_fill_53178 7 = .ok (.if_icmp .ge 13, 3) := by decide +kernel
theorem dJ7_fill_53178_10 : decode cJ7_fill_53178 10 = .ok (.aload_n 0, 1) := by decide +kernel
theorem dJ7_fill_53178_11 : decode cJ7_fill_53178 11 = .ok (.iload_n 2, 1) := by decide +kernel
theorem dJ7_fill_53178_12 : decode cJ7_fill_53178 12 = .ok (.iload_n 1, 1) := by decide +kernel
theorem dJ7_fill_53178_13 : decode cJ7_fill_53178 13 = .ok (.iastore, 1) := by decide +kernel
theorem dJ7_fill_53178_14 : decode cJ7_fill_53178 14 = .ok (.iinc 2 1, 3) := by decide +kernel
theorem dJ7_fill_53178_17 : decode cJ7_fill_53178 17 = .ok (.goto (-12), 3) := by decide +kernel
theorem dJ7_fill_53178_20 : decode cJ7_fill_53178 20 = .ok (.return_, 1) := by decide +kernel
