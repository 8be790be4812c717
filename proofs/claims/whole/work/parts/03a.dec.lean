theorem dX0_init_0 : decode cX0_init 0 = .ok (.aload_n 0, 1) := by decide +kernel
theorem dX0_init_1 : decode cX0_init 1 = .ok (.invokespecial 3, 3) := by decide +kernel
theorem dX0_init_4 : decode cX0_init 4 = .ok (.aload_n 0, 1) := by decide +kernel
theorem dX0_init_5 : decode cX0_init 5 = .ok (.bipush 6, 2) := by decide +kernel
theorem dX0_init_7 : decode cX0_init 7 = .ok (.newarray .int, 2) := by decide +kernel
theorem dX0_init_9 : decode cX0_init 9 = .ok (.putfield 9, 3) := by decide +kernel
theorem dX0_init_12 : decode cX0_init 12 = .ok (.aload_n 0, 1) := by decide +kernel
theorem dX0_init_13 : decode cX0_init 13 = .ok (.bipush 6, 2) := by decide +kernel
theorem dX0_init_15 : decode cX0_init 15 = .ok (.newarray .int, 2) := by decide +kernel
theorem dX0_init_17 : decode cX0_init 17 = .ok (.putfield 15, 3) := by decide +kernel
theorem dX0_init_20 : decode cX0_init 20 = .ok (.aload_n 0, 1) := by decide +kernel
theorem dX0_init_21 : decode cX0_init 21 = .ok (.bipush 12, 2) := by decide +kernel
theorem dX0_init_23 : decode cX0_init 23 = .ok (.newarray .int, 2) := by decide +kernel
theorem dX0_init_25 : decode cX0_init 25 = .ok (.putfield 18, 3) := by decide +kernel
theorem dX0_init_28 : decode cX0_init 28 = .ok (.return_, 1) := by decide +kernel
theorem dX0_advise_0 : decode cX0_advise 0 = .ok (.iconst 0, 1) := by decide +kernel
theorem dX0_advise_1 : decode cX0_advise 1 = .ok (.istore 5, 2) := by decide +kernel
theorem dX0_advise_3 : decode cX0_advise 3 = .ok (.iload 5, 2) := by decide +kernel
theorem dX0_advise_5 : decode cX0_advise 5 = .ok (.bipush 6, 2) := by decide +kernel
theorem dX0_advise_7 : decode cX0_advise 7 = .ok (.if_icmp .ge 34, 3) := by decide +kernel
theorem dX0_advise_10 : decode cX0_advise 10 = .ok (.aload_n 0, 1) := by decide +kernel
theorem dX0_advise_11 : decode cX0_advise 11 = .ok (.getfield 9, 3) := by decide +kernel
theorem dX0_advise_14 : decode cX0_advise 14 = .ok (.iload 5, 2) := by decide +kernel
theorem dX0_advise_16 : decode cX0_advise 16 = .ok (.aload_n 1, 1) := by decide +kernel
theorem dX0_advise_17 : decode cX0_advise 17 = .ok (.getfield 21, 3) := by decide +kernel
theorem dX0_advise_20 : decode cX0_advise 20 = .ok (.iload 5, 2) := by decide +kernel
theorem dX0_advise_22 : decode cX0_advise 22 = .ok (.aaload, 1) := by decide +kernel
theorem dX0_advise_23 : decode cX0_advise 23 = .ok (.getfield 27, 3) := by decide +kernel
theorem dX0_advise_26 : decode cX0_advise 26 = .ok (.iastore, 1) := by decide +kernel
theorem dX0_advise_27 : decode cX0_advise 27 = .ok (.aload_n 0, 1) := by decide +kernel
theorem dX0_advise_28 : decode cX0_advise 28 = .ok (.getfield 15, 3) := by decide +kernel
theorem dX0_advise_31 : decode cX0_advise 31 = .ok (.iload 5, 2) := by decide +kernel
theorem dX0_advise_33 : decode cX0_advise 33 = .ok (.iconst 0, 1) := by decide +kernel
theorem dX0_advise_34 : decode cX0_advise 34 = .ok (.iastore, 1) := by decide +kernel
theorem dX0_advise_35 : decode cX0_advise 35 = .ok (.iinc 5 1, 3) := by decide +kernel
theorem dX0_advise_38 : decode cX0_advise 38 = .ok (.goto (-35), 3) := by decide +kernel
theorem dX0_advise_41 : decode cX0_advise 41 = .ok (.iconst 0, 1) := by decide +kernel
theorem dX0_advise_42 : decode cX0_advise 42 = .ok (.istore 5, 2) := by decide +kernel
theorem dX0_advise_44 : decode cX0_advise 44 = .ok (.iload 5, 2) := by decide +kernel
theorem dX0_advise_46 : decode cX0_advise 46 = .ok (.iload_n 2, 1) := by decide +kernel
theorem dX0_advise_47 : decode cX0_advise 47 = .ok (.if_icmp .ge 90, 3) := by decide +kernel
theorem dX0_advise_50 : decode cX0_advise 50 = .ok (.iload 5, 2) := by decide +kernel
theorem dX0_advise_52 : decode cX0_advise 52 = .ok (.aload_n 1, 1) := by decide +kernel
theorem dX0_advise_53 : decode cX0_advise 53 = .ok (.getfield 33, 3) := by decide +kernel
theorem dX0_advise_56 : decode cX0_advise 56 = .ok (.if_icmp .ge 81, 3) := by decide +kernel
theorem dX0_advise_59 : decode cX0_advise 59 = .ok (.aload_n 0, 1) := by decide +kernel
theorem dX0_advise_60 : decode cX0_advise 60 = .ok (.aload_n 1, 1) := by decide +kernel
theorem dX0_advise_61 : decode cX0_advise 61 = .ok (.aload_n 1, 1) := by decide +kernel
theorem dX0_advise_62 : decode cX0_advise 62 = .ok (.getfield 36, 3) := by decide +kernel
theorem dX0_advise_65 : decode cX0_advise 65 = .ok (.iload 5, 2) := by decide +kernel
theorem dX0_advise_67 : decode cX0_advise 67 = .ok (.aaload, 1) := by decide +kernel
theorem dX0_advise_68 : decode cX0_advise 68 = .ok (.iload_n 3, 1) := by decide +kernel
theorem dX0_advise_69 : decode cX0_advise 69 = .ok (.invokevirtual 40, 3) := by decide +kernel
theorem dX0_advise_72 : decode cX0_advise 72 = .ok (.istore 6, 2) := by decide +kernel
theorem dX0_advise_74 : decode cX0_advise 74 = .ok (.aload_n 0, 1) := by decide +kernel
theorem dX0_advise_75 : decode cX0_advise 75 = .ok (.getfield 18, 3) := by decide +kernel
theorem dX0_advise_78 : decode cX0_advise 78 = .ok (.iload 5, 2) := by decide +kernel
theorem dX0_advise_80 : decode cX0_advise 80 = .ok (.iload 6, 2) := by decide +kernel
theorem dX0_advise_82 : decode cX0_advise 82 = .ok (.iastore, 1) := by decide +kernel
theorem dX0_advise_83 : decode cX0_advise 83 = .ok (.iload 6, 2) := by decide +kernel
theorem dX0_advise_85 : decode cX0_advise 85 = .ok (.bipush (-3), 2) := by decide +kernel
theorem dX0_advise_87 : decode cX0_advise 87 = .ok (.if_icmp .eq 44, 3) := by decide +kernel
theorem dX0_advise_90 : decode cX0_advise 90 = .ok (.aload_n 0, 1) := by decide +kernel
theorem dX0_advise_91 : decode cX0_advise 91 = .ok (.getfield 15, 3) := by decide +kernel
theorem dX0_advise_94 : decode cX0_advise 94 = .ok (.iload 6, 2) := by decide +kernel
theorem dX0_advise_96 : decode cX0_advise 96 = .ok (.dup2, 1) := by decide +kernel
theorem dX0_advise_97 : decode cX0_advise 97 = .ok (.iaload, 1) := by decide +kernel
theorem dX0_advise_98 : decode cX0_advise 98 = .ok (.iconst 1, 1) := by decide +kernel
theorem dX0_advise_99 : decode cX0_advise 99 = .ok (.iadd, 1) := by decide +kernel
theorem dX0_advise_100 : decode cX0_advise 100 = .ok (.iastore, 1) := by decide +kernel
theorem dX0_advise_101 : decode cX0_advise 101 = .ok (.iload 4, 2) := by decide +kernel
theorem dX0_advise_103 : decode cX0_advise 103 = .ok (.ifCond .eq 28, 3) := by decide +kernel
theorem dX0_advise_106 : decode cX0_advise 106 = .ok (.aload_n 0, 1) := by decide +kernel
theorem dX0_advise_107 : decode cX0_advise 107 = .ok (.getfield 9, 3) := by decide +kernel
theorem dX0_advise_110 : decode cX0_advise 110 = .ok (.iload 6, 2) := by decide +kernel
theorem dX0_advise_112 : decode cX0_advise 112 = .ok (.dup2, 1) := by decide +kernel
theorem dX0_advise_113 : decode cX0_advise 113 = .ok (.iaload, 1) := by decide +kernel
theorem dX0_advise_114 : decode cX0_advise 114 = .ok (.bipush 20, 2) := by decide +kernel
theorem dX0_advise_116 : decode cX0_advise 116 = .ok (.aload_n 1, 1) := by decide +kernel
theorem dX0_advise_117 : decode cX0_advise 117 = .ok (.getfield 21, 3) := by decide +kernel
theorem dX0_advise_120 : decode cX0_advise 120 = .ok (.iload 6, 2) := by decide +kernel
theorem dX0_advise_122 : decode cX0_advise 122 = .ok (.aaload, 1) := by decide +kernel
theorem dX0_advise_123 : decode cX0_advise 123 = .ok (.getfield 44, 3) := by decide +kernel
theorem dX0_advise_126 : decode cX0_advise 126 = .ok (.invokestatic 47, 3) := by decide +kernel
theorem dX0_advise_129 : decode cX0_advise 129 = .ok (.iadd, 1) := by decide +kernel
theorem dX0_advise_130 : decode cX0_advise 130 = .ok (.iastore, 1) := by decide +kernel
theorem dX0_advise_131 : decode cX0_advise 131 = .ok (.iinc 5 1, 3) := by decide +kernel
theorem dX0_advise_134 : decode cX0_advise 134 = .ok (.goto (-90), 3) := by decide +kernel
theorem dX0_advise_137 : decode cX0_advise 137 = .ok (.return_, 1) := by decide +kernel
theorem dX0_mostAtOneSite_0 : decode cX0_mostAtOneSite 0 = .ok (.iconst 0, 1) := by decide +kernel
theorem dX0_mostAtOneSite_1 : decode cX0_mostAtOneSite 1 = .ok (.istore_n 1, 1) := by decide +kernel
theorem dX0_mostAtOneSite_2 : decode cX0_mostAtOneSite 2 = .ok (.iconst 0, 1) := by decide +kernel
theorem dX0_mostAtOneSite_3 : decode cX0_mostAtOneSite 3 = .ok (.istore_n 2, 1) := by decide +kernel
theorem dX0_mostAtOneSite_4 : decode cX0_mostAtOneSite 4 = .ok (.iload_n 2, 1) := by decide +kernel
theorem dX0_mostAtOneSite_5 : decode cX0_mostAtOneSite 5 = .ok (.bipush 6, 2) := by decide +kernel
theorem dX0_mostAtOneSite_7 : decode cX0_mostAtOneSite 7 = .ok (.if_icmp .ge 20, 3) := by decide +kernel
theorem dX0_mostAtOneSite_10 : decode cX0_mostAtOneSite 10 = .ok (.iload_n 1, 1) := by decide +kernel
theorem dX0_mostAtOneSite_11 : decode cX0_mostAtOneSite 11 = .ok (.aload_n 0, 1) := by decide +kernel
theorem dX0_mostAtOneSite_12 : decode cX0_mostAtOneSite 12 = .ok (.getfield 15, 3) := by decide +kernel
theorem dX0_mostAtOneSite_15 : decode cX0_mostAtOneSite 15 = .ok (.iload_n 2, 1) := by decide +kernel
theorem dX0_mostAtOneSite_16 : decode cX0_mostAtOneSite 16 = .ok (.iaload, 1) := by decide +kernel
theorem dX0_mostAtOneSite_17 : decode cX0_mostAtOneSite 17 = .ok (.invokestatic 51, 3) := by decide +kernel
theorem dX0_mostAtOneSite_20 : decode cX0_mostAtOneSite 20 = .ok (.istore_n 1, 1) := by decide +kernel
theorem dX0_mostAtOneSite_21 : decode cX0_mostAtOneSite 21 = .ok (.iinc 2 1, 3) := by decide +kernel
theorem dX0_mostAtOneSite_24 : decode cX0_mostAtOneSite 24 = .ok (.goto (-20), 3) := by decide +kernel
theorem dX0_mostAtOneSite_27 : decode cX0_mostAtOneSite 27 = .ok (.iload_n 1, 1) := by decide +kernel
theorem dX0_mostAtOneSite_28 : decode cX0_mostAtOneSite 28 = .ok (.ireturn, 1) := by decide +kernel
theorem dX0_leastTold_0 : decode cX0_leastTold 0 = .ok (.bipush (-3), 2) := by decide +kernel
theorem dX0_leastTold_2 : decode cX0_leastTold 2 = .ok (.istore 4, 2) := by decide +kernel
theorem dX0_leastTold_4 : decode cX0_leastTold 4 = .ok (.iconst 0, 1) := by decide +kernel
theorem dX0_leastTold_5 : decode cX0_leastTold 5 = .ok (.istore 5, 2) := by decide +kernel
theorem dX0_leastTold_7 : decode cX0_leastTold 7 = .ok (.iload 5, 2) := by decide +kernel
theorem dX0_leastTold_9 : decode cX0_leastTold 9 = .ok (.aload_n 1, 1) := by decide +kernel
theorem dX0_leastTold_10 : decode cX0_leastTold 10 = .ok (.getfield 56, 3) := by decide +kernel
theorem dX0_leastTold_13 : decode cX0_leastTold 13 = .ok (.if_icmp .ge 65, 3) := by decide +kernel
theorem dX0_leastTold_16 : decode cX0_leastTold 16 = .ok (.iload 4, 2) := by decide +kernel
theorem dX0_leastTold_18 : decode cX0_leastTold 18 = .ok (.bipush (-3), 2) := by decide +kernel
theorem dX0_leastTold_20 : decode cX0_leastTold 20 = .ok (.if_icmp .eq 20, 3) := by decide +kernel
theorem dX0_leastTold_23 : decode cX0_leastTold 23 = .ok (.aload_n 0, 1) := by decide +kernel
theorem dX0_leastTold_24 : decode cX0_leastTold 24 = .ok (.getfield 9, 3) := by decide +kernel
theorem dX0_leastTold_27 : decode cX0_leastTold 27 = .ok (.iload 5, 2) := by decide +kernel
theorem dX0_leastTold_29 : decode cX0_leastTold 29 = .ok (.iaload, 1) := by decide +kernel
theorem dX0_leastTold_30 : decode cX0_leastTold 30 = .ok (.aload_n 0, 1) := by decide +kernel
theorem dX0_leastTold_31 : decode cX0_leastTold 31 = .ok (.getfield 9, 3) := by decide +kernel
theorem dX0_leastTold_34 : decode cX0_leastTold 34 = .ok (.iload 4, 2) := by decide +kernel
theorem dX0_leastTold_36 : decode cX0_leastTold 36 = .ok (.iaload, 1) := by decide +kernel
theorem dX0_leastTold_37 : decode cX0_leastTold 37 = .ok (.if_icmp .ge 7, 3) := by decide +kernel
theorem dX0_leastTold_40 : decode cX0_leastTold 40 = .ok (.iconst 1, 1) := by decide +kernel
theorem dX0_leastTold_41 : decode cX0_leastTold 41 = .ok (.goto 4, 3) := by decide +kernel
theorem dX0_leastTold_44 : decode cX0_leastTold 44 = .ok (.iconst 0, 1) := by decide +kernel
theorem dX0_leastTold_45 : decode cX0_leastTold 45 = .ok (.istore 6, 2) := by decide +kernel
theorem dX0_leastTold_47 : decode cX0_leastTold 47 = .ok (.iload 6, 2) := by decide +kernel
theorem dX0_leastTold_49 : decode cX0_leastTold 49 = .ok (.ifCond .eq 23, 3) := by decide +kernel
theorem dX0_leastTold_52 : decode cX0_leastTold 52 = .ok (.aload_n 1, 1) := by decide +kernel
theorem dX0_leastTold_53 : decode cX0_leastTold 53 = .ok (.aload_n 2, 1) := by decide +kernel
theorem dX0_leastTold_54 : decode cX0_leastTold 54 = .ok (.iload_n 3, 1) := by decide +kernel
theorem dX0_leastTold_55 : decode cX0_leastTold 55 = .ok (.aload_n 1, 1) := by decide +kernel
theorem dX0_leastTold_56 : decode cX0_leastTold 56 = .ok (.getfield 21, 3) := by decide +kernel
theorem dX0_leastTold_59 : decode cX0_leastTold 59 = .ok (.iload 5, 2) := by decide +kernel
theorem dX0_leastTold_61 : decode cX0_leastTold 61 = .ok (.aaload, 1) := by decide +kernel
theorem dX0_leastTold_62 : decode cX0_leastTold 62 = .ok (.invokestatic 59, 3) := by decide +kernel
theorem dX0_leastTold_65 : decode cX0_leastTold 65 = .ok (.ifCond .eq 7, 3) := by decide +kernel
theorem dX0_leastTold_68 : decode cX0_leastTold 68 = .ok (.iload 5, 2) := by decide +kernel
theorem dX0_leastTold_70 : decode cX0_leastTold 70 = .ok (.istore 4, 2) := by decide +kernel
theorem dX0_leastTold_72 : decode cX0_leastTold 72 = .ok (.iinc 5 1, 3) := by decide +kernel
theorem dX0_leastTold_75 : decode cX0_leastTold 75 = .ok (.goto (-68), 3) := by decide +kernel
theorem dX0_leastTold_78 : decode cX0_leastTold 78 = .ok (.iload 4, 2) := by decide +kernel
theorem dX0_leastTold_80 : decode cX0_leastTold 80 = .ok (.ireturn, 1) := by decide +kernel
theorem dX0_canReach_0 : decode cX0_canReach 0 = .ok (.aload_n 3, 1) := by decide +kernel
theorem dX0_canReach_1 : decode cX0_canReach 1 = .ok (.getfield 63, 3) := by decide +kernel
theorem dX0_canReach_4 : decode cX0_canReach 4 = .ok (.iload_n 2, 1) := by decide +kernel
theorem dX0_canReach_5 : decode cX0_canReach 5 = .ok (.if_icmp .lt 37, 3) := by decide +kernel
theorem dX0_canReach_8 : decode cX0_canReach 8 = .ok (.aload_n 0, 1) := by decide +kernel
theorem dX0_canReach_9 : decode cX0_canReach 9 = .ok (.aload_n 1, 1) := by decide +kernel
theorem dX0_canReach_10 : decode cX0_canReach 10 = .ok (.aload_n 3, 1) := by decide +kernel
theorem dX0_canReach_11 : decode cX0_canReach 11 = .ok (.getfield 63, 3) := by decide +kernel
theorem dX0_canReach_14 : decode cX0_canReach 14 = .ok (.iload_n 2, 1) := by decide +kernel
theorem dX0_canReach_15 : decode cX0_canReach 15 = .ok (.isub, 1) := by decide +kernel
theorem dX0_canReach_16 : decode cX0_canReach 16 = .ok (.invokevirtual 66, 3) := by decide +kernel
theorem dX0_canReach_19 : decode cX0_canReach 19 = .ok (.aload_n 1, 1) := by decide +kernel
theorem dX0_canReach_20 : decode cX0_canReach 20 = .ok (.getfield 70, 3) := by decide +kernel
theorem dX0_canReach_23 : decode cX0_canReach 23 = .ok (.if_icmp .gt 19, 3) := by decide +kernel
theorem dX0_canReach_26 : decode cX0_canReach 26 = .ok (.aload_n 0, 1) := by decide +kernel
theorem dX0_canReach_27 : decode cX0_canReach 27 = .ok (.aload_n 3, 1) := by decide +kernel
theorem dX0_canReach_28 : decode cX0_canReach 28 = .ok (.aload_n 1, 1) := by decide +kernel
theorem dX0_canReach_29 : decode cX0_canReach 29 = .ok (.getfield 75, 3) := by decide +kernel
theorem dX0_canReach_32 : decode cX0_canReach 32 = .ok (.invokevirtual 78, 3) := by decide +kernel
theorem dX0_canReach_35 : decode cX0_canReach 35 = .ok (.ifCond .le 7, 3) := by decide +kernel
theorem dX0_canReach_38 : decode cX0_canReach 38 = .ok (.iconst 1, 1) := by decide +kernel
theorem dX0_canReach_39 : decode cX0_canReach 39 = .ok (.goto 4, 3) := by decide +kernel
theorem dX0_canReach_42 : decode cX0_canReach 42 = .ok (.iconst 0, 1) := by decide +kernel
theorem dX0_canReach_43 : decode cX0_canReach 43 = .ok (.ireturn, 1) := by decide +kernel
theorem dX1_init_0 : decode cX1_init 0 = .ok (.aload_n 0, 1) := by decide +kernel
theorem dX1_init_1 : decode cX1_init 1 = .ok (.invokespecial 3, 3) := by decide +kernel
theorem dX1_init_4 : decode cX1_init 4 = .ok (.aload_n 0, 1) := by decide +kernel
theorem dX1_init_5 : decode cX1_init 5 = .ok (.bipush 7, 2) := by decide +kernel
theorem dX1_init_7 : decode cX1_init 7 = .ok (.newarray .int, 2) := by decide +kernel
theorem dX1_init_9 : decode cX1_init 9 = .ok (.putfield 9, 3) := by decide +kernel
theorem dX1_init_12 : decode cX1_init 12 = .ok (.aload_n 0, 1) := by decide +kernel
theorem dX1_init_13 : decode cX1_init 13 = .ok (.bipush 7, 2) := by decide +kernel
theorem dX1_init_15 : decode cX1_init 15 = .ok (.newarray .int, 2) := by decide +kernel
theorem dX1_init_17 : decode cX1_init 17 = .ok (.putfield 15, 3) := by decide +kernel
theorem dX1_init_20 : decode cX1_init 20 = .ok (.aload_n 0, 1) := by decide +kernel
theorem dX1_init_21 : decode cX1_init 21 = .ok (.bipush 7, 2) := by decide +kernel
theorem dX1_init_23 : decode cX1_init 23 = .ok (.newarray .int, 2) := by decide +kernel
theorem dX1_init_25 : decode cX1_init 25 = .ok (.putfield 18, 3) := by decide +kernel
theorem dX1_init_28 : decode cX1_init 28 = .ok (.return_, 1) := by decide +kernel
theorem dX1_copyFrom_0 : decode cX1_copyFrom 0 = .ok (.aload_n 1, 1) := by decide +kernel
theorem dX1_copyFrom_1 : decode cX1_copyFrom 1 = .ok (.getfield 9, 3) := by decide +kernel
theorem dX1_copyFrom_4 : decode cX1_copyFrom 4 = .ok (.iconst 0, 1) := by decide +kernel
theorem dX1_copyFrom_5 : decode cX1_copyFrom 5 = .ok (.aload_n 0, 1) := by decide +kernel
theorem dX1_copyFrom_6 : decode cX1_copyFrom 6 = .ok (.getfield 9, 3) := by decide +kernel
theorem dX1_copyFrom_9 : decode cX1_copyFrom 9 = .ok (.iconst 0, 1) := by decide +kernel
theorem dX1_copyFrom_10 : decode cX1_copyFrom 10 = .ok (.bipush 7, 2) := by decide +kernel
theorem dX1_copyFrom_12 : decode cX1_copyFrom 12 = .ok (.invokestatic 21, 3) := by decide +kernel
theorem dX1_copyFrom_15 : decode cX1_copyFrom 15 = .ok (.aload_n 1, 1) := by decide +kernel
theorem dX1_copyFrom_16 : decode cX1_copyFrom 16 = .ok (.getfield 15, 3) := by decide +kernel
theorem dX1_copyFrom_19 : decode cX1_copyFrom 19 = .ok (.iconst 0, 1) := by decide +kernel
theorem dX1_copyFrom_20 : decode cX1_copyFrom 20 = .ok (.aload_n 0, 1) := by decide +kernel
theorem dX1_copyFrom_21 : decode cX1_copyFrom 21 = .ok (.getfield 15, 3) := by decide +kernel
theorem dX1_copyFrom_24 : decode cX1_copyFrom 24 = .ok (.iconst 0, 1) := by decide +kernel
theorem dX1_copyFrom_25 : decode cX1_copyFrom 25 = .ok (.bipush 7, 2) := by decide +kernel
theorem dX1_copyFrom_27 : decode cX1_copyFrom 27 = .ok (.invokestatic 21, 3) := by decide +kernel
theorem dX1_copyFrom_30 : decode cX1_copyFrom 30 = .ok (.aload_n 1, 1) := by decide +kernel
theorem dX1_copyFrom_31 : decode cX1_copyFrom 31 = .ok (.getfield 18, 3) := by decide +kernel
theorem dX1_copyFrom_34 : decode cX1_copyFrom 34 = .ok (.iconst 0, 1) := by decide +kernel
theorem dX1_copyFrom_35 : decode cX1_copyFrom 35 = .ok (.aload_n 0, 1) := by decide +kernel
theorem dX1_copyFrom_36 : decode cX1_copyFrom 36 = .ok (.getfield 18, 3) := by decide +kernel
theorem dX1_copyFrom_39 : decode cX1_copyFrom 39 = .ok (.iconst 0, 1) := by decide +kernel
theorem dX1_copyFrom_40 : decode cX1_copyFrom 40 = .ok (.bipush 7, 2) := by decide +kernel
theorem dX1_copyFrom_42 : decode cX1_copyFrom 42 = .ok (.invokestatic 21, 3) := by decide +kernel
theorem dX1_copyFrom_45 : decode cX1_copyFrom 45 = .ok (.aload_n 0, 1) := by decide +kernel
theorem dX1_copyFrom_46 : decode cX1_copyFrom 46 = .ok (.aload_n 1, 1) := by decide +kernel
theorem dX1_copyFrom_47 : decode cX1_copyFrom 47 = .ok (.getfield 27, 3) := by decide +kernel
theorem dX1_copyFrom_50 : decode cX1_copyFrom 50 = .ok (.putfield 27, 3) := by decide +kernel
theorem dX1_copyFrom_53 : decode cX1_copyFrom 53 = .ok (.return_, 1) := by decide +kernel
theorem dX1_addLine_0 : decode cX1_addLine 0 = .ok (.aload_n 0, 1) := by decide +kernel
theorem dX1_addLine_1 : decode cX1_addLine 1 = .ok (.getfield 27, 3) := by decide +kernel
theorem dX1_addLine_4 : decode cX1_addLine 4 = .ok (.bipush 7, 2) := by decide +kernel
theorem dX1_addLine_6 : decode cX1_addLine 6 = .ok (.if_icmp .ge 43, 3) := by decide +kernel
theorem dX1_addLine_9 : decode cX1_addLine 9 = .ok (.aload_n 0, 1) := by decide +kernel
theorem dX1_addLine_10 : decode cX1_addLine 10 = .ok (.getfield 9, 3) := by decide +kernel
theorem dX1_addLine_13 : decode cX1_addLine 13 = .ok (.aload_n 0, 1) := by decide +kernel
theorem dX1_addLine_14 : decode cX1_addLine 14 = .ok (.getfield 27, 3) := by decide +kernel
theorem dX1_addLine_17 : decode cX1_addLine 17 = .ok (.iload_n 1, 1) := by decide +kernel
theorem dX1_addLine_18 : decode cX1_addLine 18 = .ok (.iastore, 1) := by decide +kernel
theorem dX1_addLine_19 : decode cX1_addLine 19 = .ok (.aload_n 0, 1) := by decide +kernel
theorem dX1_addLine_20 : decode cX1_addLine 20 = .ok (.getfield 15, 3) := by decide +kernel
theorem dX1_addLine_23 : decode cX1_addLine 23 = .ok (.aload_n 0, 1) := by decide +kernel
theorem dX1_addLine_24 : decode cX1_addLine 24 = .ok (.getfield 27, 3) := by decide +kernel
theorem dX1_addLine_27 : decode cX1_addLine 27 = .ok (.iload_n 2, 1) := by decide +kernel
theorem dX1_addLine_28 : decode cX1_addLine 28 = .ok (.iastore, 1) := by decide +kernel
theorem dX1_addLine_29 : decode cX1_addLine 29 = .ok (.aload_n 0, 1) := by decide +kernel
theorem dX1_addLine_30 : decode cX1_addLine 30 = .ok (.getfield 18, 3) := by decide +kernel
theorem dX1_addLine_33 : decode cX1_addLine 33 = .ok (.aload_n 0, 1) := by decide +kernel
theorem dX1_addLine_34 : decode cX1_addLine 34 = .ok (.getfield 27, 3) := by decide +kernel
theorem dX1_addLine_37 : decode cX1_addLine 37 = .ok (.iload_n 3, 1) := by decide +kernel
theorem dX1_addLine_38 : decode cX1_addLine 38 = .ok (.iastore, 1) := by decide +kernel
theorem dX1_addLine_39 : decode cX1_addLine 39 = .ok (.aload_n 0, 1) := by decide +kernel
theorem dX1_addLine_40 : decode cX1_addLine 40 = .ok (.dup, 1) := by decide +kernel
theorem dX1_addLine_41 : decode cX1_addLine 41 = .ok (.getfield 27, 3) := by decide +kernel
theorem dX1_addLine_44 : decode cX1_addLine 44 = .ok (.iconst 1, 1) := by decide +kernel
theorem dX1_addLine_45 : decode cX1_addLine 45 = .ok (.iadd, 1) := by decide +kernel
theorem dX1_addLine_46 : decode cX1_addLine 46 = .ok (.putfield 27, 3) := by decide +kernel
theorem dX1_addLine_49 : decode cX1_addLine 49 = .ok (.return_, 1) := by decide +kernel
theorem dX2_init_0 : decode cX2_init 0 = .ok (.aload_n 0, 1) := by decide +kernel
theorem dX2_init_1 : decode cX2_init 1 = .ok (.invokespecial 3, 3) := by decide +kernel
theorem dX2_init_4 : decode cX2_init 4 = .ok (.aload_n 0, 1) := by decide +kernel
theorem dX2_init_5 : decode cX2_init 5 = .ok (.iconst 0, 1) := by decide +kernel
theorem dX2_init_6 : decode cX2_init 6 = .ok (.putfield 9, 3) := by decide +kernel
theorem dX2_init_9 : decode cX2_init 9 = .ok (.return_, 1) := by decide +kernel
theorem dX2_copyFrom_0 : decode cX2_copyFrom 0 = .ok (.aload_n 0, 1) := by decide +kernel
theorem dX2_copyFrom_1 : decode cX2_copyFrom 1 = .ok (.aload_n 1, 1) := by decide +kernel
theorem dX2_copyFrom_2 : decode cX2_copyFrom 2 = .ok (.getfield 15, 3) := by decide +kernel
theorem dX2_copyFrom_5 : decode cX2_copyFrom 5 = .ok (.putfield 15, 3) := by decide +kernel
theorem dX2_copyFrom_8 : decode cX2_copyFrom 8 = .ok (.aload_n 0, 1) := by decide +kernel
theorem dX2_copyFrom_9 : decode cX2_copyFrom 9 = .ok (.aload_n 1, 1) := by decide +kernel
theorem dX2_copyFrom_10 : decode cX2_copyFrom 10 = .ok (.getfield 18, 3) := by decide +kernel
theorem dX2_copyFrom_13 : decode cX2_copyFrom 13 = .ok (.putfield 18, 3) := by decide +kernel
theorem dX2_copyFrom_16 : decode cX2_copyFrom 16 = .ok (.aload_n 0, 1) := by decide +kernel
theorem dX2_copyFrom_17 : decode cX2_copyFrom 17 = .ok (.aload_n 1, 1) := by decide +kernel
theorem dX2_copyFrom_18 : decode cX2_copyFrom 18 = .ok (.getfield 21, 3) := by decide +kernel
theorem dX2_copyFrom_21 : decode cX2_copyFrom 21 = .ok (.putfield 21, 3) := by decide +kernel
theorem dX2_copyFrom_24 : decode cX2_copyFrom 24 = .ok (.aload_n 0, 1) := by decide +kernel
theorem dX2_copyFrom_25 : decode cX2_copyFrom 25 = .ok (.aload_n 1, 1) := by decide +kernel
theorem dX2_copyFrom_26 : decode cX2_copyFrom 26 = .ok (.getfield 24, 3) := by decide +kernel
theorem dX2_copyFrom_29 : decode cX2_copyFrom 29 = .ok (.putfield 24, 3) := by decide +kernel
theorem dX2_copyFrom_32 : decode cX2_copyFrom 32 = .ok (.aload_n 0, 1) := by decide +kernel
theorem dX2_copyFrom_33 : decode cX2_copyFrom 33 = .ok (.aload_n 1, 1) := by decide +kernel
theorem dX2_copyFrom_34 : decode cX2_copyFrom 34 = .ok (.getfield 27, 3) := by decide +kernel
theorem dX2_copyFrom_37 : decode cX2_copyFrom 37 = .ok (.putfield 27, 3) := by decide +kernel
theorem dX2_copyFrom_40 : decode cX2_copyFrom 40 = .ok (.aload_n 0, 1) := by decide +kernel
theorem dX2_copyFrom_41 : decode cX2_copyFrom 41 = .ok (.aload_n 1, 1) := by decide +kernel
theorem dX2_copyFrom_42 : decode cX2_copyFrom 42 = .ok (.getfield 9, 3) := by decide +kernel
theorem dX2_copyFrom_45 : decode cX2_copyFrom 45 = .ok (.putfield 9, 3) := by decide +kernel
theorem dX2_copyFrom_48 : decode cX2_copyFrom 48 = .ok (.aload_n 0, 1) := by decide +kernel
theorem dX2_copyFrom_49 : decode cX2_copyFrom 49 = .ok (.aload_n 1, 1) := by decide +kernel
theorem dX2_copyFrom_50 : decode cX2_copyFrom 50 = .ok (.getfield 30, 3) := by decide +kernel
theorem dX2_copyFrom_53 : decode cX2_copyFrom 53 = .ok (.putfield 30, 3) := by decide +kernel
theorem dX2_copyFrom_56 : decode cX2_copyFrom 56 = .ok (.aload_n 0, 1) := by decide +kernel
theorem dX2_copyFrom_57 : decode cX2_copyFrom 57 = .ok (.aload_n 1, 1) := by decide +kernel
theorem dX2_copyFrom_58 : decode cX2_copyFrom 58 = .ok (.getfield 33, 3) := by decide +kernel
theorem dX2_copyFrom_61 : decode cX2_copyFrom 61 = .ok (.putfield 33, 3) := by decide +kernel
theorem dX2_copyFrom_64 : decode cX2_copyFrom 64 = .ok (.aload_n 0, 1) := by decide +kernel
theorem dX2_copyFrom_65 : decode cX2_copyFrom 65 = .ok (.aload_n 1, 1) := by decide +kernel
theorem dX2_copyFrom_66 : decode cX2_copyFrom 66 = .ok (.getfield 36, 3) := by decide +kernel
theorem dX2_copyFrom_69 : decode cX2_copyFrom 69 = .ok (.putfield 36, 3) := by decide +kernel
theorem dX2_copyFrom_72 : decode cX2_copyFrom 72 = .ok (.aload_n 0, 1) := by decide +kernel
theorem dX2_copyFrom_73 : decode cX2_copyFrom 73 = .ok (.aload_n 1, 1) := by decide +kernel
theorem dX2_copyFrom_74 : decode cX2_copyFrom 74 = .ok (.getfield 39, 3) := by decide +kernel
theorem dX2_copyFrom_77 : decode cX2_copyFrom 77 = .ok (.putfield 39, 3) := by decide +kernel
theorem dX2_copyFrom_80 : decode cX2_copyFrom 80 = .ok (.aload_n 0, 1) := by decide +kernel
theorem dX2_copyFrom_81 : decode cX2_copyFrom 81 = .ok (.aload_n 1, 1) := by decide +kernel
theorem dX2_copyFrom_82 : decode cX2_copyFrom 82 = .ok (.getfield 42, 3) := by decide +kernel
theorem dX2_copyFrom_85 : decode cX2_copyFrom 85 = .ok (.putfield 42, 3) := by decide +kernel
theorem dX2_copyFrom_88 : decode cX2_copyFrom 88 = .ok (.aload_n 0, 1) := by decide +kernel
theorem dX2_copyFrom_89 : decode cX2_copyFrom 89 = .ok (.aload_n 1, 1) := by decide +kernel
theorem dX2_copyFrom_90 : decode cX2_copyFrom 90 = .ok (.getfield 45, 3) := by decide +kernel
theorem dX2_copyFrom_93 : decode cX2_copyFrom 93 = .ok (.putfield 45, 3) := by decide +kernel
theorem dX2_copyFrom_96 : decode cX2_copyFrom 96 = .ok (.aload_n 0, 1) := by decide +kernel
theorem dX2_copyFrom_97 : decode cX2_copyFrom 97 = .ok (.aload_n 1, 1) := by decide +kernel
theorem dX2_copyFrom_98 : decode cX2_copyFrom 98 = .ok (.getfield 48, 3) := by decide +kernel
theorem dX2_copyFrom_101 : decode cX2_copyFrom 101 = .ok (.putfield 48, 3) := by decide +kernel
theorem dX2_copyFrom_104 : decode cX2_copyFrom 104 = .ok (.aload_n 0, 1) := by decide +kernel
theorem dX2_copyFrom_105 : decode cX2_copyFrom 105 = .ok (.aload_n 1, 1) := by decide +kernel
theorem dX2_copyFrom_106 : decode cX2_copyFrom 106 = .ok (.getfield 51, 3) := by decide +kernel
theorem dX2_copyFrom_109 : decode cX2_copyFrom 109 = .ok (.putfield 51, 3) := by decide +kernel
theorem dX2_copyFrom_112 : decode cX2_copyFrom 112 = .ok (.aload_n 0, 1) := by decide +kernel
theorem dX2_copyFrom_113 : decode cX2_copyFrom 113 = .ok (.aload_n 1, 1) := by decide +kernel
theorem dX2_copyFrom_114 : decode cX2_copyFrom 114 = .ok (.getfield 54, 3) := by decide +kernel
theorem dX2_copyFrom_117 : decode cX2_copyFrom 117 = .ok (.putfield 54, 3) := by decide +kernel
theorem dX2_copyFrom_120 : decode cX2_copyFrom 120 = .ok (.return_, 1) := by decide +kernel
theorem dX3_init_0 : decode cX3_init 0 = .ok (.aload_n 0, 1) := by decide +kernel
theorem dX3_init_1 : decode cX3_init 1 = .ok (.invokespecial 3, 3) := by decide +kernel
theorem dX3_init_4 : decode cX3_init 4 = .ok (.aload_n 0, 1) := by decide +kernel
theorem dX3_init_5 : decode cX3_init 5 = .ok (.bipush 8, 2) := by decide +kernel
theorem dX3_init_7 : decode cX3_init 7 = .ok (.sipush 128, 3) := by decide +kernel
theorem dX3_init_10 : decode cX3_init 10 = .ok (.multianewarray 9 2, 4) := by decide +kernel
theorem dX3_init_14 : decode cX3_init 14 = .ok (.putfield 11, 3) := by decide +kernel
theorem dX3_init_17 : decode cX3_init 17 = .ok (.aload_n 0, 1) := by decide +kernel
theorem dX3_init_18 : decode cX3_init 18 = .ok (.bipush 7, 2) := by decide +kernel
theorem dX3_init_20 : decode cX3_init 20 = .ok (.bipush 7, 2) := by decide +kernel
theorem dX3_init_22 : decode cX3_init 22 = .ok (.multianewarray 9 2, 4) := by decide +kernel
theorem dX3_init_26 : decode cX3_init 26 = .ok (.putfield 16, 3) := by decide +kernel
theorem dX3_init_29 : decode cX3_init 29 = .ok (.aload_n 0, 1) := by decide +kernel
theorem dX3_init_30 : decode cX3_init 30 = .ok (.bipush 7, 2) := by decide +kernel
theorem dX3_init_32 : decode cX3_init 32 = .ok (.newarray .int, 2) := by decide +kernel
theorem dX3_init_34 : decode cX3_init 34 = .ok (.putfield 19, 3) := by decide +kernel
theorem dX3_init_37 : decode cX3_init 37 = .ok (.return_, 1) := by decide +kernel
theorem dX3_join_0 : decode cX3_join 0 = .ok (.aload_n 0, 1) := by decide +kernel
theorem dX3_join_1 : decode cX3_join 1 = .ok (.aload_n 1, 1) := by decide +kernel
theorem dX3_join_2 : decode cX3_join 2 = .ok (.aload_n 2, 1) := by decide +kernel
theorem dX3_join_3 : decode cX3_join 3 = .ok (.iload_n 3, 1) := by decide +kernel
theorem dX3_join_4 : decode cX3_join 4 = .ok (.invokevirtual 23, 3) := by decide +kernel
theorem dX3_join_7 : decode cX3_join 7 = .ok (.iconst 1, 1) := by decide +kernel
theorem dX3_join_8 : decode cX3_join 8 = .ok (.aload_n 2, 1) := by decide +kernel
theorem dX3_join_9 : decode cX3_join 9 = .ok (.getfield 27, 3) := by decide +kernel
theorem dX3_join_12 : decode cX3_join 12 = .ok (.ishl, 1) := by decide +kernel
theorem dX3_join_13 : decode cX3_join 13 = .ok (.istore 4, 2) := by decide +kernel
theorem dX3_join_15 : decode cX3_join 15 = .ok (.iconst 0, 1) := by decide +kernel
theorem dX3_join_16 : decode cX3_join 16 = .ok (.istore 5, 2) := by decide +kernel
theorem dX3_join_18 : decode cX3_join 18 = .ok (.iload 5, 2) := by decide +kernel
theorem dX3_join_20 : decode cX3_join 20 = .ok (.iload 4, 2) := by decide +kernel
theorem dX3_join_22 : decode cX3_join 22 = .ok (.if_icmp .ge 22, 3) := by decide +kernel
theorem dX3_join_25 : decode cX3_join 25 = .ok (.aload_n 0, 1) := by decide +kernel
theorem dX3_join_26 : decode cX3_join 26 = .ok (.getfield 11, 3) := by decide +kernel
theorem dX3_join_29 : decode cX3_join 29 = .ok (.aload_n 1, 1) := by decide +kernel
theorem dX3_join_30 : decode cX3_join 30 = .ok (.getfield 27, 3) := by decide +kernel
theorem dX3_join_33 : decode cX3_join 33 = .ok (.aaload, 1) := by decide +kernel
theorem dX3_join_34 : decode cX3_join 34 = .ok (.iload 5, 2) := by decide +kernel
theorem dX3_join_36 : decode cX3_join 36 = .ok (.iconst 0, 1) := by decide +kernel
theorem dX3_join_37 : decode cX3_join 37 = .ok (.iastore, 1) := by decide +kernel
theorem dX3_join_38 : decode cX3_join 38 = .ok (.iinc 5 1, 3) := by decide +kernel
theorem dX3_join_41 : decode cX3_join 41 = .ok (.goto (-23), 3) := by decide +kernel
theorem dX3_join_44 : decode cX3_join 44 = .ok (.aload_n 1, 1) := by decide +kernel
theorem dX3_join_45 : decode cX3_join 45 = .ok (.getfield 27, 3) := by decide +kernel
theorem dX3_join_48 : decode cX3_join 48 = .ok (.iconst 1, 1) := by decide +kernel
theorem dX3_join_49 : decode cX3_join 49 = .ok (.isub, 1) := by decide +kernel
theorem dX3_join_50 : decode cX3_join 50 = .ok (.istore 5, 2) := by decide +kernel
theorem dX3_join_52 : decode cX3_join 52 = .ok (.iload 5, 2) := by decide +kernel
theorem dX3_join_54 : decode cX3_join 54 = .ok (.ifCond .lt 47, 3) := by decide +kernel
theorem dX3_join_57 : decode cX3_join 57 = .ok (.iconst 0, 1) := by decide +kernel
theorem dX3_join_58 : decode cX3_join 58 = .ok (.istore 6, 2) := by decide +kernel
theorem dX3_join_60 : decode cX3_join 60 = .ok (.iload 6, 2) := by decide +kernel
theorem dX3_join_62 : decode cX3_join 62 = .ok (.iload 4, 2) := by decide +kernel
theorem dX3_join_64 : decode cX3_join 64 = .ok (.if_icmp .ge 31, 3) := by decide +kernel
theorem dX3_join_67 : decode cX3_join 67 = .ok (.aload_n 0, 1) := by decide +kernel
theorem dX3_join_68 : decode cX3_join 68 = .ok (.getfield 11, 3) := by decide +kernel
theorem dX3_join_71 : decode cX3_join 71 = .ok (.iload 5, 2) := by decide +kernel
theorem dX3_join_73 : decode cX3_join 73 = .ok (.aaload, 1) := by decide +kernel
theorem dX3_join_74 : decode cX3_join 74 = .ok (.iload 6, 2) := by decide +kernel
theorem dX3_join_76 : decode cX3_join 76 = .ok (.aload_n 0, 1) := by decide +kernel
theorem dX3_join_77 : decode cX3_join 77 = .ok (.iload 5, 2) := by decide +kernel
theorem dX3_join_79 : decode cX3_join 79 = .ok (.iload 6, 2) := by decide +kernel
theorem dX3_join_81 : decode cX3_join 81 = .ok (.aload_n 2, 1) := by decide +kernel
theorem dX3_join_82 : decode cX3_join 82 = .ok (.getfield 27, 3) := by decide +kernel
theorem dX3_join_85 : decode cX3_join 85 = .ok (.invokevirtual 33, 3) := by decide +kernel
theorem dX3_join_88 : decode cX3_join 88 = .ok (.iastore, 1) := by decide +kernel
theorem dX3_join_89 : decode cX3_join 89 = .ok (.iinc 6 1, 3) := by decide +kernel
theorem dX3_join_92 : decode cX3_join 92 = .ok (.goto (-32), 3) := by decide +kernel
theorem dX3_join_95 : decode cX3_join 95 = .ok (.iinc 5 (-1), 3) := by decide +kernel
theorem dX3_join_98 : decode cX3_join 98 = .ok (.goto (-46), 3) := by decide +kernel
theorem dX3_join_101 : decode cX3_join 101 = .ok (.aload_n 0, 1) := by decide +kernel
theorem dX3_join_102 : decode cX3_join 102 = .ok (.aload_n 1, 1) := by decide +kernel
theorem dX3_join_103 : decode cX3_join 103 = .ok (.getfield 27, 3) := by decide +kernel
theorem dX3_join_106 : decode cX3_join 106 = .ok (.aload_n 2, 1) := by decide +kernel
theorem dX3_join_107 : decode cX3_join 107 = .ok (.getfield 27, 3) := by decide +kernel
theorem dX3_join_110 : decode cX3_join 110 = .ok (.invokevirtual 37, 3) := by decide +kernel
theorem dX3_join_113 : decode cX3_join 113 = .ok (.return_, 1) := by decide +kernel
theorem dX3_scorePairs_0 : decode cX3_scorePairs 0 = .ok (.iconst 0, 1) := by decide +kernel
theorem dX3_scorePairs_1 : decode cX3_scorePairs 1 = .ok (.istore 4, 2) := by decide +kernel
theorem dX3_scorePairs_3 : decode cX3_scorePairs 3 = .ok (.iload 4, 2) := by decide +kernel
theorem dX3_scorePairs_5 : decode cX3_scorePairs 5 = .ok (.aload_n 1, 1) := by decide +kernel
theorem dX3_scorePairs_6 : decode cX3_scorePairs 6 = .ok (.getfield 27, 3) := by decide +kernel
theorem dX3_scorePairs_9 : decode cX3_scorePairs 9 = .ok (.if_icmp .ge 124, 3) := by decide +kernel
theorem dX3_scorePairs_12 : decode cX3_scorePairs 12 = .ok (.iconst 0, 1) := by decide +kernel
theorem dX3_scorePairs_13 : decode cX3_scorePairs 13 = .ok (.istore 5, 2) := by decide +kernel
theorem dX3_scorePairs_15 : decode cX3_scorePairs 15 = .ok (.iload 5, 2) := by decide +kernel
theorem dX3_scorePairs_17 : decode cX3_scorePairs 17 = .ok (.aload_n 2, 1) := by decide +kernel
theorem dX3_scorePairs_18 : decode cX3_scorePairs 18 = .ok (.getfield 27, 3) := by decide +kernel
theorem dX3_scorePairs_21 : decode cX3_scorePairs 21 = .ok (.if_icmp .ge 106, 3) := by decide +kernel
theorem dX3_scorePairs_24 : decode cX3_scorePairs 24 = .ok (.aload_n 1, 1) := by decide +kernel
theorem dX3_scorePairs_25 : decode cX3_scorePairs 25 = .ok (.getfield 41, 3) := by decide +kernel
theorem dX3_scorePairs_28 : decode cX3_scorePairs 28 = .ok (.iload 4, 2) := by decide +kernel
theorem dX3_scorePairs_30 : decode cX3_scorePairs 30 = .ok (.iaload, 1) := by decide +kernel
theorem dX3_scorePairs_31 : decode cX3_scorePairs 31 = .ok (.aload_n 2, 1) := by decide +kernel
theorem dX3_scorePairs_32 : decode cX3_scorePairs 32 = .ok (.getfield 41, 3) := by decide +kernel
theorem dX3_scorePairs_35 : decode cX3_scorePairs 35 = .ok (.iload 5, 2) := by decide +kernel
theorem dX3_scorePairs_37 : decode cX3_scorePairs 37 = .ok (.iaload, 1) := by decide +kernel
theorem dX3_scorePairs_38 : decode cX3_scorePairs 38 = .ok (.isub, 1) := by decide +kernel
theorem dX3_scorePairs_39 : decode cX3_scorePairs 39 = .ok (.invokestatic 44, 3) := by decide +kernel
theorem dX3_scorePairs_42 : decode cX3_scorePairs 42 = .ok (.istore 6, 2) := by decide +kernel
theorem dX3_scorePairs_44 : decode cX3_scorePairs 44 = .ok (.aload_n 1, 1) := by decide +kernel
theorem dX3_scorePairs_45 : decode cX3_scorePairs 45 = .ok (.getfield 50, 3) := by decide +kernel
theorem dX3_scorePairs_48 : decode cX3_scorePairs 48 = .ok (.iload 4, 2) := by decide +kernel
theorem dX3_scorePairs_50 : decode cX3_scorePairs 50 = .ok (.iaload, 1) := by decide +kernel
theorem dX3_scorePairs_51 : decode cX3_scorePairs 51 = .ok (.aload_n 2, 1) := by decide +kernel
theorem dX3_scorePairs_52 : decode cX3_scorePairs 52 = .ok (.getfield 50, 3) := by decide +kernel
theorem dX3_scorePairs_55 : decode cX3_scorePairs 55 = .ok (.iload 5, 2) := by decide +kernel
theorem dX3_scorePairs_57 : decode cX3_scorePairs 57 = .ok (.iaload, 1) := by decide +kernel
theorem dX3_scorePairs_58 : decode cX3_scorePairs 58 = .ok (.if_icmp .ne 35, 3) := by decide +kernel
theorem dX3_scorePairs_61 : decode cX3_scorePairs 61 = .ok (.aload_n 1, 1) := by decide +kernel
theorem dX3_scorePairs_62 : decode cX3_scorePairs 62 = .ok (.getfield 53, 3) := by decide +kernel
theorem dX3_scorePairs_65 : decode cX3_scorePairs 65 = .ok (.iload 4, 2) := by decide +kernel
theorem dX3_scorePairs_67 : decode cX3_scorePairs 67 = .ok (.iaload, 1) := by decide +kernel
theorem dX3_scorePairs_68 : decode cX3_scorePairs 68 = .ok (.aload_n 2, 1) := by decide +kernel
theorem dX3_scorePairs_69 : decode cX3_scorePairs 69 = .ok (.getfield 53, 3) := by decide +kernel
theorem dX3_scorePairs_72 : decode cX3_scorePairs 72 = .ok (.iload 5, 2) := by decide +kernel
theorem dX3_scorePairs_74 : decode cX3_scorePairs 74 = .ok (.iaload, 1) := by decide +kernel
theorem dX3_scorePairs_75 : decode cX3_scorePairs 75 = .ok (.isub, 1) := by decide +kernel
theorem dX3_scorePairs_76 : decode cX3_scorePairs 76 = .ok (.invokestatic 44, 3) := by decide +kernel
theorem dX3_scorePairs_79 : decode cX3_scorePairs 79 = .ok (.iconst 2, 1) := by decide +kernel
theorem dX3_scorePairs_80 : decode cX3_scorePairs 80 = .ok (.if_icmp .gt 13, 3) := by decide +kernel
theorem dX3_scorePairs_83 : decode cX3_scorePairs 83 = .ok (.iload 6, 2) := by decide +kernel
theorem dX3_scorePairs_85 : decode cX3_scorePairs 85 = .ok (.iload_n 3, 1) := by decide +kernel
theorem dX3_scorePairs_86 : decode cX3_scorePairs 86 = .ok (.if_icmp .gt 7, 3) := by decide +kernel
theorem dX3_scorePairs_89 : decode cX3_scorePairs 89 = .ok (.iconst 1, 1) := by decide +kernel
theorem dX3_scorePairs_90 : decode cX3_scorePairs 90 = .ok (.goto 4, 3) := by decide +kernel
theorem dX3_scorePairs_93 : decode cX3_scorePairs 93 = .ok (.iconst 0, 1) := by decide +kernel
theorem dX3_scorePairs_94 : decode cX3_scorePairs 94 = .ok (.istore 7, 2) := by decide +kernel
theorem dX3_scorePairs_96 : decode cX3_scorePairs 96 = .ok (.aload_n 0, 1) := by decide +kernel
theorem dX3_scorePairs_97 : decode cX3_scorePairs 97 = .ok (.getfield 16, 3) := by decide +kernel
theorem dX3_scorePairs_100 : decode cX3_scorePairs 100 = .ok (.iload 4, 2) := by decide +kernel
theorem dX3_scorePairs_102 : decode cX3_scorePairs 102 = .ok (.aaload, 1) := by decide +kernel
theorem dX3_scorePairs_103 : decode cX3_scorePairs 103 = .ok (.iload 5, 2) := by decide +kernel
theorem dX3_scorePairs_105 : decode cX3_scorePairs 105 = .ok (.iload 7, 2) := by decide +kernel
theorem dX3_scorePairs_107 : decode cX3_scorePairs 107 = .ok (.ifCond .eq 12, 3) := by decide +kernel
theorem dX3_scorePairs_110 : decode cX3_scorePairs 110 = .ok (.sipush 1000, 3) := by decide +kernel
theorem dX3_scorePairs_113 : decode cX3_scorePairs 113 = .ok (.iload 6, 2) := by decide +kernel
theorem dX3_scorePairs_115 : decode cX3_scorePairs 115 = .ok (.isub, 1) := by decide +kernel
theorem dX3_scorePairs_116 : decode cX3_scorePairs 116 = .ok (.goto 4, 3) := by decide +kernel
theorem dX3_scorePairs_119 : decode cX3_scorePairs 119 = .ok (.iconst (-1), 1) := by decide +kernel
theorem dX3_scorePairs_120 : decode cX3_scorePairs 120 = .ok (.iastore, 1) := by decide +kernel
theorem dX3_scorePairs_121 : decode cX3_scorePairs 121 = .ok (.iinc 5 1, 3) := by decide +kernel
theorem dX3_scorePairs_124 : decode cX3_scorePairs 124 = .ok (.goto (-109), 3) := by decide +kernel
theorem dX3_scorePairs_127 : decode cX3_scorePairs 127 = .ok (.iinc 4 1, 3) := by decide +kernel
theorem dX3_scorePairs_130 : decode cX3_scorePairs 130 = .ok (.goto (-127), 3) := by decide +kernel
theorem dX3_scorePairs_133 : decode cX3_scorePairs 133 = .ok (.return_, 1) := by decide +kernel
theorem dX3_isFree_0 : decode cX3_isFree 0 = .ok (.aload_n 0, 1) := by decide +kernel
theorem dX3_isFree_1 : decode cX3_isFree 1 = .ok (.getfield 16, 3) := by decide +kernel
theorem dX3_isFree_4 : decode cX3_isFree 4 = .ok (.iload_n 1, 1) := by decide +kernel
theorem dX3_isFree_5 : decode cX3_isFree 5 = .ok (.aaload, 1) := by decide +kernel
theorem dX3_isFree_6 : decode cX3_isFree 6 = .ok (.iload_n 2, 1) := by decide +kernel
theorem dX3_isFree_7 : decode cX3_isFree 7 = .ok (.iaload, 1) := by decide +kernel
theorem dX3_isFree_8 : decode cX3_isFree 8 = .ok (.iconst (-1), 1) := by decide +kernel
theorem dX3_isFree_9 : decode cX3_isFree 9 = .ok (.if_icmp .eq 15, 3) := by decide +kernel
theorem dX3_isFree_12 : decode cX3_isFree 12 = .ok (.iload_n 3, 1) := by decide +kernel
theorem dX3_isFree_13 : decode cX3_isFree 13 = .ok (.iload_n 2, 1) := by decide +kernel
theorem dX3_isFree_14 : decode cX3_isFree 14 = .ok (.ishr, 1) := by decide +kernel
theorem dX3_isFree_15 : decode cX3_isFree 15 = .ok (.iconst 1, 1) := by decide +kernel
theorem dX3_isFree_16 : decode cX3_isFree 16 = .ok (.iand, 1) := by decide +kernel
theorem dX3_isFree_17 : decode cX3_isFree 17 = .ok (.ifCond .ne 7, 3) := by decide +kernel
theorem dX3_isFree_20 : decode cX3_isFree 20 = .ok (.iconst 1, 1) := by decide +kernel
theorem dX3_isFree_21 : decode cX3_isFree 21 = .ok (.goto 4, 3) := by decide +kernel
theorem dX3_isFree_24 : decode cX3_isFree 24 = .ok (.iconst 0, 1) := by decide +kernel
theorem dX3_isFree_25 : decode cX3_isFree 25 = .ok (.ireturn, 1) := by decide +kernel
theorem dX3_bestFrom_0 : decode cX3_bestFrom 0 = .ok (.aload_n 0, 1) := by decide +kernel
theorem dX3_bestFrom_1 : decode cX3_bestFrom 1 = .ok (.getfield 11, 3) := by decide +kernel
theorem dX3_bestFrom_4 : decode cX3_bestFrom 4 = .ok (.iload_n 1, 1) := by decide +kernel
theorem dX3_bestFrom_5 : decode cX3_bestFrom 5 = .ok (.iconst 1, 1) := by decide +kernel
theorem dX3_bestFrom_6 : decode cX3_bestFrom 6 = .ok (.iadd, 1) := by decide +kernel
theorem dX3_bestFrom_7 : decode cX3_bestFrom 7 = .ok (.aaload, 1) := by decide +kernel
theorem dX3_bestFrom_8 : decode cX3_bestFrom 8 = .ok (.iload_n 2, 1) := by decide +kernel
theorem dX3_bestFrom_9 : decode cX3_bestFrom 9 = .ok (.iaload, 1) := by decide +kernel
theorem dX3_bestFrom_10 : decode cX3_bestFrom 10 = .ok (.istore 4, 2) := by decide +kernel
theorem dX3_bestFrom_12 : decode cX3_bestFrom 12 = .ok (.iconst 0, 1) := by decide +kernel
theorem dX3_bestFrom_13 : decode cX3_bestFrom 13 = .ok (.istore 5, 2) := by decide +kernel
theorem dX3_bestFrom_15 : decode cX3_bestFrom 15 = .ok (.iload 5, 2) := by decide +kernel
theorem dX3_bestFrom_17 : decode cX3_bestFrom 17 = .ok (.iload_n 3, 1) := by decide +kernel
theorem dX3_bestFrom_18 : decode cX3_bestFrom 18 = .ok (.if_icmp .ge 52, 3) := by decide +kernel
theorem dX3_bestFrom_21 : decode cX3_bestFrom 21 = .ok (.aload_n 0, 1) := by decide +kernel
theorem dX3_bestFrom_22 : decode cX3_bestFrom 22 = .ok (.iload_n 1, 1) := by decide +kernel
theorem dX3_bestFrom_23 : decode cX3_bestFrom 23 = .ok (.iload 5, 2) := by decide +kernel
theorem dX3_bestFrom_25 : decode cX3_bestFrom 25 = .ok (.iload_n 2, 1) := by decide +kernel
theorem dX3_bestFrom_26 : decode cX3_bestFrom 26 = .ok (.invokevirtual 56, 3) := by decide +kernel
theorem dX3_bestFrom_29 : decode cX3_bestFrom 29 = .ok (.ifCond .eq 35, 3) := by decide +kernel
theorem dX3_bestFrom_32 : decode cX3_bestFrom 32 = .ok (.iload 4, 2) := by decide +kernel
theorem dX3_bestFrom_34 : decode cX3_bestFrom 34 = .ok (.aload_n 0, 1) := by decide +kernel
theorem dX3_bestFrom_35 : decode cX3_bestFrom 35 = .ok (.getfield 16, 3) := by decide +kernel
theorem dX3_bestFrom_38 : decode cX3_bestFrom 38 = .ok (.iload_n 1, 1) := by decide +kernel
theorem dX3_bestFrom_39 : decode cX3_bestFrom 39 = .ok (.aaload, 1) := by decide +kernel
theorem dX3_bestFrom_40 : decode cX3_bestFrom 40 = .ok (.iload 5, 2) := by decide +kernel
theorem dX3_bestFrom_42 : decode cX3_bestFrom 42 = .ok (.iaload, 1) := by decide +kernel
theorem dX3_bestFrom_43 : decode cX3_bestFrom 43 = .ok (.aload_n 0, 1) := by decide +kernel
theorem dX3_bestFrom_44 : decode cX3_bestFrom 44 = .ok (.getfield 11, 3) := by decide +kernel
theorem dX3_bestFrom_47 : decode cX3_bestFrom 47 = .ok (.iload_n 1, 1) := by decide +kernel
theorem dX3_bestFrom_48 : decode cX3_bestFrom 48 = .ok (.iconst 1, 1) := by decide +kernel
theorem dX3_bestFrom_49 : decode cX3_bestFrom 49 = .ok (.iadd, 1) := by decide +kernel
theorem dX3_bestFrom_50 : decode cX3_bestFrom 50 = .ok (.aaload, 1) := by decide +kernel
theorem dX3_bestFrom_51 : decode cX3_bestFrom 51 = .ok (.iload_n 2, 1) := by decide +kernel
theorem dX3_bestFrom_52 : decode cX3_bestFrom 52 = .ok (.iconst 1, 1) := by decide +kernel
theorem dX3_bestFrom_53 : decode cX3_bestFrom 53 = .ok (.iload 5, 2) := by decide +kernel
theorem dX3_bestFrom_55 : decode cX3_bestFrom 55 = .ok (.ishl, 1) := by decide +kernel
theorem dX3_bestFrom_56 : decode cX3_bestFrom 56 = .ok (.ior, 1) := by decide +kernel
theorem dX3_bestFrom_57 : decode cX3_bestFrom 57 = .ok (.iaload, 1) := by decide +kernel
theorem dX3_bestFrom_58 : decode cX3_bestFrom 58 = .ok (.iadd, 1) := by decide +kernel
theorem dX3_bestFrom_59 : decode cX3_bestFrom 59 = .ok (.invokestatic 60, 3) := by decide +kernel
theorem dX3_bestFrom_62 : decode cX3_bestFrom 62 = .ok (.istore 4, 2) := by decide +kernel
theorem dX3_bestFrom_64 : decode cX3_bestFrom 64 = .ok (.iinc 5 1, 3) := by decide +kernel
theorem dX3_bestFrom_67 : decode cX3_bestFrom 67 = .ok (.goto (-52), 3) := by decide +kernel
theorem dX3_bestFrom_70 : decode cX3_bestFrom 70 = .ok (.iload 4, 2) := by decide +kernel
theorem dX3_bestFrom_72 : decode cX3_bestFrom 72 = .ok (.ireturn, 1) := by decide +kernel
theorem dX3_followBest_0 : decode cX3_followBest 0 = .ok (.aload_n 0, 1) := by decide +kernel
theorem dX3_followBest_1 : decode cX3_followBest 1 = .ok (.iconst 0, 1) := by decide +kernel
theorem dX3_followBest_2 : decode cX3_followBest 2 = .ok (.putfield 64, 3) := by decide +kernel
theorem dX3_followBest_5 : decode cX3_followBest 5 = .ok (.aload_n 0, 1) := by decide +kernel
theorem dX3_followBest_6 : decode cX3_followBest 6 = .ok (.iconst 0, 1) := by decide +kernel
theorem dX3_followBest_7 : decode cX3_followBest 7 = .ok (.putfield 67, 3) := by decide +kernel
theorem dX3_followBest_10 : decode cX3_followBest 10 = .ok (.iconst 0, 1) := by decide +kernel
theorem dX3_followBest_11 : decode cX3_followBest 11 = .ok (.istore_n 3, 1) := by decide +kernel
theorem dX3_followBest_12 : decode cX3_followBest 12 = .ok (.iconst 0, 1) := by decide +kernel
theorem dX3_followBest_13 : decode cX3_followBest 13 = .ok (.istore 4, 2) := by decide +kernel
theorem dX3_followBest_15 : decode cX3_followBest 15 = .ok (.iload 4, 2) := by decide +kernel
theorem dX3_followBest_17 : decode cX3_followBest 17 = .ok (.iload_n 1, 1) := by decide +kernel
theorem dX3_followBest_18 : decode cX3_followBest 18 = .ok (.if_icmp .ge 167, 3) := by decide +kernel
theorem dX3_followBest_21 : decode cX3_followBest 21 = .ok (.aload_n 0, 1) := by decide +kernel
theorem dX3_followBest_22 : decode cX3_followBest 22 = .ok (.getfield 19, 3) := by decide +kernel
theorem dX3_followBest_25 : decode cX3_followBest 25 = .ok (.iload 4, 2) := by decide +kernel
theorem dX3_followBest_27 : decode cX3_followBest 27 = .ok (.bipush (-3), 2) := by decide +kernel
theorem dX3_followBest_29 : decode cX3_followBest 29 = .ok (.iastore, 1) := by decide +kernel
theorem dX3_followBest_30 : decode cX3_followBest 30 = .ok (.iconst 0, 1) := by decide +kernel
theorem dX3_followBest_31 : decode cX3_followBest 31 = .ok (.istore 5, 2) := by decide +kernel
theorem dX3_followBest_33 : decode cX3_followBest 33 = .ok (.iload 5, 2) := by decide +kernel
theorem dX3_followBest_35 : decode cX3_followBest 35 = .ok (.iload_n 2, 1) := by decide +kernel
theorem dX3_followBest_36 : decode cX3_followBest 36 = .ok (.if_icmp .ge 81, 3) := by decide +kernel
theorem dX3_followBest_39 : decode cX3_followBest 39 = .ok (.aload_n 0, 1) := by decide +kernel
theorem dX3_followBest_40 : decode cX3_followBest 40 = .ok (.getfield 19, 3) := by decide +kernel
theorem dX3_followBest_43 : decode cX3_followBest 43 = .ok (.iload 4, 2) := by decide +kernel
theorem dX3_followBest_45 : decode cX3_followBest 45 = .ok (.iaload, 1) := by decide +kernel
theorem dX3_followBest_46 : decode cX3_followBest 46 = .ok (.bipush (-3), 2) := by decide +kernel
theorem dX3_followBest_48 : decode cX3_followBest 48 = .ok (.if_icmp .ne 69, 3) := by decide +kernel
theorem dX3_followBest_51 : decode cX3_followBest 51 = .ok (.aload_n 0, 1) := by decide +kernel
theorem dX3_followBest_52 : decode cX3_followBest 52 = .ok (.iload 4, 2) := by decide +kernel
theorem dX3_followBest_54 : decode cX3_followBest 54 = .ok (.iload 5, 2) := by decide +kernel
theorem dX3_followBest_56 : decode cX3_followBest 56 = .ok (.iload_n 3, 1) := by decide +kernel
theorem dX3_followBest_57 : decode cX3_followBest 57 = .ok (.invokevirtual 56, 3) := by decide +kernel
theorem dX3_followBest_60 : decode cX3_followBest 60 = .ok (.ifCond .eq 51, 3) := by decide +kernel
theorem dX3_followBest_63 : decode cX3_followBest 63 = .ok (.aload_n 0, 1) := by decide +kernel
theorem dX3_followBest_64 : decode cX3_followBest 64 = .ok (.getfield 16, 3) := by decide +kernel
theorem dX3_followBest_67 : decode cX3_followBest 67 = .ok (.iload 4, 2) := by decide +kernel
theorem dX3_followBest_69 : decode cX3_followBest 69 = .ok (.aaload, 1) := by decide +kernel
theorem dX3_followBest_70 : decode cX3_followBest 70 = .ok (.iload 5, 2) := by decide +kernel
theorem dX3_followBest_72 : decode cX3_followBest 72 = .ok (.iaload, 1) := by decide +kernel
theorem dX3_followBest_73 : decode cX3_followBest 73 = .ok (.aload_n 0, 1) := by decide +kernel
theorem dX3_followBest_74 : decode cX3_followBest 74 = .ok (.getfield 11, 3) := by decide +kernel
theorem dX3_followBest_77 : decode cX3_followBest 77 = .ok (.iload 4, 2) := by decide +kernel
theorem dX3_followBest_79 : decode cX3_followBest 79 = .ok (.iconst 1, 1) := by decide +kernel
theorem dX3_followBest_80 : decode cX3_followBest 80 = .ok (.iadd, 1) := by decide +kernel
theorem dX3_followBest_81 : decode cX3_followBest 81 = .ok (.aaload, 1) := by decide +kernel
theorem dX3_followBest_82 : decode cX3_followBest 82 = .ok (.iload_n 3, 1) := by decide +kernel
theorem dX3_followBest_83 : decode cX3_followBest 83 = .ok (.iconst 1, 1) := by decide +kernel
theorem dX3_followBest_84 : decode cX3_followBest 84 = .ok (.iload 5, 2) := by decide +kernel
theorem dX3_followBest_86 : decode cX3_followBest 86 = .ok (.ishl, 1) := by decide +kernel
theorem dX3_followBest_87 : decode cX3_followBest 87 = .ok (.ior, 1) := by decide +kernel
theorem dX3_followBest_88 : decode cX3_followBest 88 = .ok (.iaload, 1) := by decide +kernel
theorem dX3_followBest_89 : decode cX3_followBest 89 = .ok (.iadd, 1) := by decide +kernel
theorem dX3_followBest_90 : decode cX3_followBest 90 = .ok (.aload_n 0, 1) := by decide +kernel
theorem dX3_followBest_91 : decode cX3_followBest 91 = .ok (.getfield 11, 3) := by decide +kernel
theorem dX3_followBest_94 : decode cX3_followBest 94 = .ok (.iload 4, 2) := by decide +kernel
theorem dX3_followBest_96 : decode cX3_followBest 96 = .ok (.aaload, 1) := by decide +kernel
theorem dX3_followBest_97 : decode cX3_followBest 97 = .ok (.iload_n 3, 1) := by decide +kernel
theorem dX3_followBest_98 : decode cX3_followBest 98 = .ok (.iaload, 1) := by decide +kernel
theorem dX3_followBest_99 : decode cX3_followBest 99 = .ok (.if_icmp .ne 12, 3) := by decide +kernel
theorem dX3_followBest_102 : decode cX3_followBest 102 = .ok (.aload_n 0, 1) := by decide +kernel
theorem dX3_followBest_103 : decode cX3_followBest 103 = .ok (.getfield 19, 3) := by decide +kernel
theorem dX3_followBest_106 : decode cX3_followBest 106 = .ok (.iload 4, 2) := by decide +kernel
theorem dX3_followBest_108 : decode cX3_followBest 108 = .ok (.iload 5, 2) := by decide +kernel
theorem dX3_followBest_110 : decode cX3_followBest 110 = .ok (.iastore, 1) := by decide +kernel
theorem dX3_followBest_111 : decode cX3_followBest 111 = .ok (.iinc 5 1, 3) := by decide +kernel
theorem dX3_followBest_114 : decode cX3_followBest 114 = .ok (.goto (-81), 3) := by decide +kernel
theorem dX3_followBest_117 : decode cX3_followBest 117 = .ok (.aload_n 0, 1) := by decide +kernel
theorem dX3_followBest_118 : decode cX3_followBest 118 = .ok (.getfield 19, 3) := by decide +kernel
theorem dX3_followBest_121 : decode cX3_followBest 121 = .ok (.iload 4, 2) := by decide +kernel
theorem dX3_followBest_123 : decode cX3_followBest 123 = .ok (.iaload, 1) := by decide +kernel
theorem dX3_followBest_124 : decode cX3_followBest 124 = .ok (.bipush (-3), 2) := by decide +kernel
theorem dX3_followBest_126 : decode cX3_followBest 126 = .ok (.if_icmp .eq 53, 3) := by decide +kernel
theorem dX3_followBest_129 : decode cX3_followBest 129 = .ok (.aload_n 0, 1) := by decide +kernel
theorem dX3_followBest_130 : decode cX3_followBest 130 = .ok (.dup, 1) := by decide +kernel
theorem dX3_followBest_131 : decode cX3_followBest 131 = .ok (.getfield 64, 3) := by decide +kernel
theorem dX3_followBest_134 : decode cX3_followBest 134 = .ok (.iconst 1, 1) := by decide +kernel
theorem dX3_followBest_135 : decode cX3_followBest 135 = .ok (.iadd, 1) := by decide +kernel
theorem dX3_followBest_136 : decode cX3_followBest 136 = .ok (.putfield 64, 3) := by decide +kernel
theorem dX3_followBest_139 : decode cX3_followBest 139 = .ok (.aload_n 0, 1) := by decide +kernel
theorem dX3_followBest_140 : decode cX3_followBest 140 = .ok (.dup, 1) := by decide +kernel
theorem dX3_followBest_141 : decode cX3_followBest 141 = .ok (.getfield 67, 3) := by decide +kernel
theorem dX3_followBest_144 : decode cX3_followBest 144 = .ok (.sipush 1000, 3) := by decide +kernel
theorem dX3_followBest_147 : decode cX3_followBest 147 = .ok (.aload_n 0, 1) := by decide +kernel
theorem dX3_followBest_148 : decode cX3_followBest 148 = .ok (.getfield 16, 3) := by decide +kernel
theorem dX3_followBest_151 : decode cX3_followBest 151 = .ok (.iload 4, 2) := by decide +kernel
theorem dX3_followBest_153 : decode cX3_followBest 153 = .ok (.aaload, 1) := by decide +kernel
theorem dX3_followBest_154 : decode cX3_followBest 154 = .ok (.aload_n 0, 1) := by decide +kernel
theorem dX3_followBest_155 : decode cX3_followBest 155 = .ok (.getfield 19, 3) := by decide +kernel
theorem dX3_followBest_158 : decode cX3_followBest 158 = .ok (.iload 4, 2) := by decide +kernel
theorem dX3_followBest_160 : decode cX3_followBest 160 = .ok (.iaload, 1) := by decide +kernel
theorem dX3_followBest_161 : decode cX3_followBest 161 = .ok (.iaload, 1) := by decide +kernel
theorem dX3_followBest_162 : decode cX3_followBest 162 = .ok (.isub, 1) := by decide +kernel
theorem dX3_followBest_163 : decode cX3_followBest 163 = .ok (.iadd, 1) := by decide +kernel
theorem dX3_followBest_164 : decode cX3_followBest 164 = .ok (.putfield 67, 3) := by decide +kernel
theorem dX3_followBest_167 : decode cX3_followBest 167 = .ok (.iload_n 3, 1) := by decide +kernel
theorem dX3_followBest_168 : decode cX3_followBest 168 = .ok (.iconst 1, 1) := by decide +kernel
theorem dX3_followBest_169 : decode cX3_followBest 169 = .ok (.aload_n 0, 1) := by decide +kernel
theorem dX3_followBest_170 : decode cX3_followBest 170 = .ok (.getfield 19, 3) := by decide +kernel
theorem dX3_followBest_173 : decode cX3_followBest 173 = .ok (.iload 4, 2) := by decide +kernel
theorem dX3_followBest_175 : decode cX3_followBest 175 = .ok (.iaload, 1) := by decide +kernel
theorem dX3_followBest_176 : decode cX3_followBest 176 = .ok (.ishl, 1) := by decide +kernel
theorem dX3_followBest_177 : decode cX3_followBest 177 = .ok (.ior, 1) := by decide +kernel
theorem dX3_followBest_178 : decode cX3_followBest 178 = .ok (.istore_n 3, 1) := by decide +kernel
theorem dX3_followBest_179 : decode cX3_followBest 179 = .ok (.iinc 4 1, 3) := by decide +kernel
theorem dX3_followBest_182 : decode cX3_followBest 182 = .ok (.goto (-167), 3) := by decide +kernel
theorem dX3_followBest_185 : decode cX3_followBest 185 = .ok (.return_, 1) := by decide +kernel
theorem dX4_init_0 : decode cX4_init 0 = .ok (.aload_n 0, 1) := by decide +kernel
theorem dX4_init_1 : decode cX4_init 1 = .ok (.invokespecial 3, 3) := by decide +kernel
theorem dX4_init_4 : decode cX4_init 4 = .ok (.aload_n 0, 1) := by decide +kernel
theorem dX4_init_5 : decode cX4_init 5 = .ok (.bipush 6, 2) := by decide +kernel
theorem dX4_init_7 : decode cX4_init 7 = .ok (.newarray .int, 2) := by decide +kernel
theorem dX4_init_9 : decode cX4_init 9 = .ok (.putfield 9, 3) := by decide +kernel
theorem dX4_init_12 : decode cX4_init 12 = .ok (.aload_n 0, 1) := by decide +kernel
theorem dX4_init_13 : decode cX4_init 13 = .ok (.bipush 6, 2) := by decide +kernel
theorem dX4_init_15 : decode cX4_init 15 = .ok (.newarray .int, 2) := by decide +kernel
theorem dX4_init_17 : decode cX4_init 17 = .ok (.putfield 15, 3) := by decide +kernel
theorem dX4_init_20 : decode cX4_init 20 = .ok (.aload_n 0, 1) := by decide +kernel
theorem dX4_init_21 : decode cX4_init 21 = .ok (.bipush 7, 2) := by decide +kernel
theorem dX4_init_23 : decode cX4_init 23 = .ok (.newarray .int, 2) := by decide +kernel
theorem dX4_init_25 : decode cX4_init 25 = .ok (.putfield 18, 3) := by decide +kernel
theorem dX4_init_28 : decode cX4_init 28 = .ok (.aload_n 0, 1) := by decide +kernel
theorem dX4_init_29 : decode cX4_init 29 = .ok (.bipush 7, 2) := by decide +kernel
theorem dX4_init_31 : decode cX4_init 31 = .ok (.newarray .int, 2) := by decide +kernel
theorem dX4_init_33 : decode cX4_init 33 = .ok (.putfield 21, 3) := by decide +kernel
theorem dX4_init_36 : decode cX4_init 36 = .ok (.aload_n 0, 1) := by decide +kernel
theorem dX4_init_37 : decode cX4_init 37 = .ok (.bipush 7, 2) := by decide +kernel
theorem dX4_init_39 : decode cX4_init 39 = .ok (.sipush 201, 3) := by decide +kernel
theorem dX4_init_42 : decode cX4_init 42 = .ok (.multianewarray 24 2, 4) := by decide +kernel
theorem dX4_init_46 : decode cX4_init 46 = .ok (.putfield 26, 3) := by decide +kernel
theorem dX4_init_49 : decode cX4_init 49 = .ok (.aload_n 0, 1) := by decide +kernel
theorem dX4_init_50 : decode cX4_init 50 = .ok (.bipush 6, 2) := by decide +kernel
theorem dX4_init_52 : decode cX4_init 52 = .ok (.sipush 201, 3) := by decide +kernel
theorem dX4_init_55 : decode cX4_init 55 = .ok (.multianewarray 24 2, 4) := by decide +kernel
theorem dX4_init_59 : decode cX4_init 59 = .ok (.putfield 29, 3) := by decide +kernel
theorem dX4_init_62 : decode cX4_init 62 = .ok (.aload_n 0, 1) := by decide +kernel
theorem dX4_init_63 : decode cX4_init 63 = .ok (.bipush 6, 2) := by decide +kernel
theorem dX4_init_65 : decode cX4_init 65 = .ok (.newarray .int, 2) := by decide +kernel
theorem dX4_init_67 : decode cX4_init 67 = .ok (.putfield 32, 3) := by decide +kernel
theorem dX4_init_70 : decode cX4_init 70 = .ok (.return_, 1) := by decide +kernel
theorem dX4_findTrip_0 : decode cX4_findTrip 0 = .ok (.aload_n 0, 1) := by decide +kernel
theorem dX4_findTrip_1 : decode cX4_findTrip 1 = .ok (.aload_n 1, 1) := by decide +kernel
theorem dX4_findTrip_2 : decode cX4_findTrip 2 = .ok (.aload_n 2, 1) := by decide +kernel
theorem dX4_findTrip_3 : decode cX4_findTrip 3 = .ok (.iload_n 3, 1) := by decide +kernel
theorem dX4_findTrip_4 : decode cX4_findTrip 4 = .ok (.iload 4, 2) := by decide +kernel
theorem dX4_findTrip_6 : decode cX4_findTrip 6 = .ok (.invokevirtual 35, 3) := by decide +kernel
theorem dX4_findTrip_9 : decode cX4_findTrip 9 = .ok (.iconst 0, 1) := by decide +kernel
theorem dX4_findTrip_10 : decode cX4_findTrip 10 = .ok (.istore 5, 2) := by decide +kernel
theorem dX4_findTrip_12 : decode cX4_findTrip 12 = .ok (.iload 5, 2) := by decide +kernel
theorem dX4_findTrip_14 : decode cX4_findTrip 14 = .ok (.aload_n 2, 1) := by decide +kernel
theorem dX4_findTrip_15 : decode cX4_findTrip 15 = .ok (.getfield 39, 3) := by decide +kernel
theorem dX4_findTrip_18 : decode cX4_findTrip 18 = .ok (.if_icmp .gt 22, 3) := by decide +kernel
theorem dX4_findTrip_21 : decode cX4_findTrip 21 = .ok (.aload_n 0, 1) := by decide +kernel
theorem dX4_findTrip_22 : decode cX4_findTrip 22 = .ok (.getfield 26, 3) := by decide +kernel
theorem dX4_findTrip_25 : decode cX4_findTrip 25 = .ok (.aload_n 0, 1) := by decide +kernel
theorem dX4_findTrip_26 : decode cX4_findTrip 26 = .ok (.getfield 45, 3) := by decide +kernel
theorem dX4_findTrip_29 : decode cX4_findTrip 29 = .ok (.aaload, 1) := by decide +kernel
theorem dX4_findTrip_30 : decode cX4_findTrip 30 = .ok (.iload 5, 2) := by decide +kernel
theorem dX4_findTrip_32 : decode cX4_findTrip 32 = .ok (.iconst 0, 1) := by decide +kernel
theorem dX4_findTrip_33 : decode cX4_findTrip 33 = .ok (.iastore, 1) := by decide +kernel
theorem dX4_findTrip_34 : decode cX4_findTrip 34 = .ok (.iinc 5 1, 3) := by decide +kernel
theorem dX4_findTrip_37 : decode cX4_findTrip 37 = .ok (.goto (-25), 3) := by decide +kernel
theorem dX4_findTrip_40 : decode cX4_findTrip 40 = .ok (.aload_n 0, 1) := by decide +kernel
theorem dX4_findTrip_41 : decode cX4_findTrip 41 = .ok (.getfield 45, 3) := by decide +kernel
theorem dX4_findTrip_44 : decode cX4_findTrip 44 = .ok (.iconst 1, 1) := by decide +kernel
theorem dX4_findTrip_45 : decode cX4_findTrip 45 = .ok (.isub, 1) := by decide +kernel
theorem dX4_findTrip_46 : decode cX4_findTrip 46 = .ok (.istore 5, 2) := by decide +kernel
theorem dX4_findTrip_48 : decode cX4_findTrip 48 = .ok (.iload 5, 2) := by decide +kernel
theorem dX4_findTrip_50 : decode cX4_findTrip 50 = .ok (.ifCond .lt 17, 3) := by decide +kernel
theorem dX4_findTrip_53 : decode cX4_findTrip 53 = .ok (.aload_n 0, 1) := by decide +kernel
theorem dX4_findTrip_54 : decode cX4_findTrip 54 = .ok (.aload_n 1, 1) := by decide +kernel
theorem dX4_findTrip_55 : decode cX4_findTrip 55 = .ok (.aload_n 2, 1) := by decide +kernel
theorem dX4_findTrip_56 : decode cX4_findTrip 56 = .ok (.iload 5, 2) := by decide +kernel
theorem dX4_findTrip_58 : decode cX4_findTrip 58 = .ok (.invokevirtual 48, 3) := by decide +kernel
theorem dX4_findTrip_61 : decode cX4_findTrip 61 = .ok (.iinc 5 (-1), 3) := by decide +kernel
theorem dX4_findTrip_64 : decode cX4_findTrip 64 = .ok (.goto (-16), 3) := by decide +kernel
theorem dX4_findTrip_67 : decode cX4_findTrip 67 = .ok (.aload_n 2, 1) := by decide +kernel
theorem dX4_findTrip_68 : decode cX4_findTrip 68 = .ok (.getfield 52, 3) := by decide +kernel
theorem dX4_findTrip_71 : decode cX4_findTrip 71 = .ok (.aload_n 0, 1) := by decide +kernel
theorem dX4_findTrip_72 : decode cX4_findTrip 72 = .ok (.getfield 21, 3) := by decide +kernel
theorem dX4_findTrip_75 : decode cX4_findTrip 75 = .ok (.iconst 0, 1) := by decide +kernel
theorem dX4_findTrip_76 : decode cX4_findTrip 76 = .ok (.iaload, 1) := by decide +kernel
theorem dX4_findTrip_77 : decode cX4_findTrip 77 = .ok (.if_icmp .ge 5, 3) := by decide +kernel
theorem dX4_findTrip_80 : decode cX4_findTrip 80 = .ok (.iconst 0, 1) := by decide +kernel
theorem dX4_findTrip_81 : decode cX4_findTrip 81 = .ok (.ireturn, 1) := by decide +kernel
theorem dX4_findTrip_82 : decode cX4_findTrip 82 = .ok (.aload_n 0, 1) := by decide +kernel
theorem dX4_findTrip_83 : decode cX4_findTrip 83 = .ok (.getfield 18, 3) := by decide +kernel
theorem dX4_findTrip_86 : decode cX4_findTrip 86 = .ok (.iconst 0, 1) := by decide +kernel
theorem dX4_findTrip_87 : decode cX4_findTrip 87 = .ok (.iaload, 1) := by decide +kernel
theorem dX4_findTrip_88 : decode cX4_findTrip 88 = .ok (.bipush 8, 2) := by decide +kernel
theorem dX4_findTrip_90 : decode cX4_findTrip 90 = .ok (.imul, 1) := by decide +kernel
theorem dX4_findTrip_91 : decode cX4_findTrip 91 = .ok (.aload_n 0, 1) := by decide +kernel
theorem dX4_findTrip_92 : decode cX4_findTrip 92 = .ok (.getfield 26, 3) := by decide +kernel
theorem dX4_findTrip_95 : decode cX4_findTrip 95 = .ok (.iconst 0, 1) := by decide +kernel
theorem dX4_findTrip_96 : decode cX4_findTrip 96 = .ok (.aaload, 1) := by decide +kernel
theorem dX4_findTrip_97 : decode cX4_findTrip 97 = .ok (.aload_n 2, 1) := by decide +kernel
theorem dX4_findTrip_98 : decode cX4_findTrip 98 = .ok (.getfield 52, 3) := by decide +kernel
theorem dX4_findTrip_101 : decode cX4_findTrip 101 = .ok (.aload_n 0, 1) := by decide +kernel
theorem dX4_findTrip_102 : decode cX4_findTrip 102 = .ok (.getfield 21, 3) := by decide +kernel
theorem dX4_findTrip_105 : decode cX4_findTrip 105 = .ok (.iconst 0, 1) := by decide +kernel
theorem dX4_findTrip_106 : decode cX4_findTrip 106 = .ok (.iaload, 1) := by decide +kernel
theorem dX4_findTrip_107 : decode cX4_findTrip 107 = .ok (.isub, 1) := by decide +kernel
theorem dX4_findTrip_108 : decode cX4_findTrip 108 = .ok (.iaload, 1) := by decide +kernel
theorem dX4_findTrip_109 : decode cX4_findTrip 109 = .ok (.iadd, 1) := by decide +kernel
theorem dX4_findTrip_110 : decode cX4_findTrip 110 = .ok (.istore 5, 2) := by decide +kernel
theorem dX4_findTrip_112 : decode cX4_findTrip 112 = .ok (.iload 5, 2) := by decide +kernel
theorem dX4_findTrip_114 : decode cX4_findTrip 114 = .ok (.ldc 55, 2) := by decide +kernel
theorem dX4_findTrip_116 : decode cX4_findTrip 116 = .ok (.if_icmp .lt 5, 3) := by decide +kernel
theorem dX4_findTrip_119 : decode cX4_findTrip 119 = .ok (.iconst 0, 1) := by decide +kernel
theorem dX4_findTrip_120 : decode cX4_findTrip 120 = .ok (.ireturn, 1) := by decide +kernel
theorem dX4_findTrip_121 : decode cX4_findTrip 121 = .ok (.aload_n 0, 1) := by decide +kernel
theorem dX4_findTrip_122 : decode cX4_findTrip 122 = .ok (.iload 5, 2) := by decide +kernel
theorem dX4_findTrip_124 : decode cX4_findTrip 124 = .ok (.bipush 8, 2) := by decide +kernel
theorem dX4_findTrip_126 : decode cX4_findTrip 126 = .ok (.idiv, 1) := by decide +kernel
theorem dX4_findTrip_127 : decode cX4_findTrip 127 = .ok (.putfield 56, 3) := by decide +kernel
theorem dX4_findTrip_130 : decode cX4_findTrip 130 = .ok (.aload_n 0, 1) := by decide +kernel
theorem dX4_findTrip_131 : decode cX4_findTrip 131 = .ok (.iload 5, 2) := by decide +kernel
theorem dX4_findTrip_133 : decode cX4_findTrip 133 = .ok (.bipush 8, 2) := by decide +kernel
theorem dX4_findTrip_135 : decode cX4_findTrip 135 = .ok (.irem, 1) := by decide +kernel
theorem dX4_findTrip_136 : decode cX4_findTrip 136 = .ok (.putfield 59, 3) := by decide +kernel
theorem dX4_findTrip_139 : decode cX4_findTrip 139 = .ok (.aload_n 0, 1) := by decide +kernel
theorem dX4_findTrip_140 : decode cX4_findTrip 140 = .ok (.aload_n 1, 1) := by decide +kernel
theorem dX4_findTrip_141 : decode cX4_findTrip 141 = .ok (.aload_n 2, 1) := by decide +kernel
theorem dX4_findTrip_142 : decode cX4_findTrip 142 = .ok (.invokevirtual 62, 3) := by decide +kernel
theorem dX4_findTrip_145 : decode cX4_findTrip 145 = .ok (.iconst 1, 1) := by decide +kernel
theorem dX4_findTrip_146 : decode cX4_findTrip 146 = .ok (.ireturn, 1) := by decide +kernel
theorem dX4_layOutLegs_0 : decode cX4_layOutLegs 0 = .ok (.aload_n 0, 1) := by decide +kernel
theorem dX4_layOutLegs_1 : decode cX4_layOutLegs 1 = .ok (.iconst 0, 1) := by decide +kernel
theorem dX4_layOutLegs_2 : decode cX4_layOutLegs 2 = .ok (.putfield 45, 3) := by decide +kernel
theorem dX4_layOutLegs_5 : decode cX4_layOutLegs 5 = .ok (.iload_n 3, 1) := by decide +kernel
theorem dX4_layOutLegs_6 : decode cX4_layOutLegs 6 = .ok (.istore 5, 2) := by decide +kernel
theorem dX4_layOutLegs_8 : decode cX4_layOutLegs 8 = .ok (.iconst 0, 1) := by decide +kernel
theorem dX4_layOutLegs_9 : decode cX4_layOutLegs 9 = .ok (.istore 6, 2) := by decide +kernel
theorem dX4_layOutLegs_11 : decode cX4_layOutLegs 11 = .ok (.iload 6, 2) := by decide +kernel
theorem dX4_layOutLegs_13 : decode cX4_layOutLegs 13 = .ok (.aload_n 1, 1) := by decide +kernel
theorem dX4_layOutLegs_14 : decode cX4_layOutLegs 14 = .ok (.getfield 66, 3) := by decide +kernel
theorem dX4_layOutLegs_17 : decode cX4_layOutLegs 17 = .ok (.if_icmp .ge 98, 3) := by decide +kernel
theorem dX4_layOutLegs_20 : decode cX4_layOutLegs 20 = .ok (.aload_n 1, 1) := by decide +kernel
theorem dX4_layOutLegs_21 : decode cX4_layOutLegs 21 = .ok (.getfield 71, 3) := by decide +kernel
theorem dX4_layOutLegs_24 : decode cX4_layOutLegs 24 = .ok (.iload 6, 2) := by decide +kernel
theorem dX4_layOutLegs_26 : decode cX4_layOutLegs 26 = .ok (.aaload, 1) := by decide +kernel
theorem dX4_layOutLegs_27 : decode cX4_layOutLegs 27 = .ok (.astore 7, 2) := by decide +kernel
theorem dX4_layOutLegs_29 : decode cX4_layOutLegs 29 = .ok (.aload 7, 2) := by decide +kernel
theorem dX4_layOutLegs_31 : decode cX4_layOutLegs 31 = .ok (.getfield 75, 3) := by decide +kernel
theorem dX4_layOutLegs_34 : decode cX4_layOutLegs 34 = .ok (.iload_n 3, 1) := by decide +kernel
theorem dX4_layOutLegs_35 : decode cX4_layOutLegs 35 = .ok (.if_icmp .le 74, 3) := by decide +kernel
theorem dX4_layOutLegs_38 : decode cX4_layOutLegs 38 = .ok (.aload 7, 2) := by decide +kernel
theorem dX4_layOutLegs_40 : decode cX4_layOutLegs 40 = .ok (.getfield 75, 3) := by decide +kernel
theorem dX4_layOutLegs_43 : decode cX4_layOutLegs 43 = .ok (.iload 4, 2) := by decide +kernel
theorem dX4_layOutLegs_45 : decode cX4_layOutLegs 45 = .ok (.if_icmp .gt 64, 3) := by decide +kernel
theorem dX4_layOutLegs_48 : decode cX4_layOutLegs 48 = .ok (.aload_n 0, 1) := by decide +kernel
theorem dX4_layOutLegs_49 : decode cX4_layOutLegs 49 = .ok (.getfield 9, 3) := by decide +kernel
theorem dX4_layOutLegs_52 : decode cX4_layOutLegs 52 = .ok (.aload_n 0, 1) := by decide +kernel
theorem dX4_layOutLegs_53 : decode cX4_layOutLegs 53 = .ok (.getfield 45, 3) := by decide +kernel
theorem dX4_layOutLegs_56 : decode cX4_layOutLegs 56 = .ok (.iload 6, 2) := by decide +kernel
theorem dX4_layOutLegs_58 : decode cX4_layOutLegs 58 = .ok (.iastore, 1) := by decide +kernel
theorem dX4_layOutLegs_59 : decode cX4_layOutLegs 59 = .ok (.aload_n 0, 1) := by decide +kernel
theorem dX4_layOutLegs_60 : decode cX4_layOutLegs 60 = .ok (.getfield 15, 3) := by decide +kernel
theorem dX4_layOutLegs_63 : decode cX4_layOutLegs 63 = .ok (.aload_n 0, 1) := by decide +kernel
theorem dX4_layOutLegs_64 : decode cX4_layOutLegs 64 = .ok (.getfield 45, 3) := by decide +kernel
theorem dX4_layOutLegs_67 : decode cX4_layOutLegs 67 = .ok (.aload_n 1, 1) := by decide +kernel
theorem dX4_layOutLegs_68 : decode cX4_layOutLegs 68 = .ok (.aload 7, 2) := by decide +kernel
theorem dX4_layOutLegs_70 : decode cX4_layOutLegs 70 = .ok (.aload_n 2, 1) := by decide +kernel
theorem dX4_layOutLegs_71 : decode cX4_layOutLegs 71 = .ok (.getfield 80, 3) := by decide +kernel
theorem dX4_layOutLegs_74 : decode cX4_layOutLegs 74 = .ok (.invokevirtual 83, 3) := by decide +kernel
theorem dX4_layOutLegs_77 : decode cX4_layOutLegs 77 = .ok (.iastore, 1) := by decide +kernel
theorem dX4_layOutLegs_78 : decode cX4_layOutLegs 78 = .ok (.aload_n 0, 1) := by decide +kernel
theorem dX4_layOutLegs_79 : decode cX4_layOutLegs 79 = .ok (.aload_n 1, 1) := by decide +kernel
theorem dX4_layOutLegs_80 : decode cX4_layOutLegs 80 = .ok (.aload_n 2, 1) := by decide +kernel
theorem dX4_layOutLegs_81 : decode cX4_layOutLegs 81 = .ok (.aload 7, 2) := by decide +kernel
theorem dX4_layOutLegs_83 : decode cX4_layOutLegs 83 = .ok (.getfield 75, 3) := by decide +kernel
theorem dX4_layOutLegs_86 : decode cX4_layOutLegs 86 = .ok (.iload 5, 2) := by decide +kernel
theorem dX4_layOutLegs_88 : decode cX4_layOutLegs 88 = .ok (.isub, 1) := by decide +kernel
theorem dX4_layOutLegs_89 : decode cX4_layOutLegs 89 = .ok (.invokevirtual 87, 3) := by decide +kernel
theorem dX4_layOutLegs_92 : decode cX4_layOutLegs 92 = .ok (.aload 7, 2) := by decide +kernel
theorem dX4_layOutLegs_94 : decode cX4_layOutLegs 94 = .ok (.getfield 75, 3) := by decide +kernel
theorem dX4_layOutLegs_97 : decode cX4_layOutLegs 97 = .ok (.istore 5, 2) := by decide +kernel
theorem dX4_layOutLegs_99 : decode cX4_layOutLegs 99 = .ok (.aload_n 0, 1) := by decide +kernel
theorem dX4_layOutLegs_100 : decode cX4_layOutLegs 100 = .ok (.dup, 1) := by decide +kernel
theorem dX4_layOutLegs_101 : decode cX4_layOutLegs 101 = .ok (.getfield 45, 3) := by decide +kernel
theorem dX4_layOutLegs_104 : decode cX4_layOutLegs 104 = .ok (.iconst 1, 1) := by decide +kernel
theorem dX4_layOutLegs_105 : decode cX4_layOutLegs 105 = .ok (.iadd, 1) := by decide +kernel
theorem dX4_layOutLegs_106 : decode cX4_layOutLegs 106 = .ok (.putfield 45, 3) := by decide +kernel
theorem dX4_layOutLegs_109 : decode cX4_layOutLegs 109 = .ok (.iinc 6 1, 3) := by decide +kernel
theorem dX4_layOutLegs_112 : decode cX4_layOutLegs 112 = .ok (.goto (-101), 3) := by decide +kernel
theorem dX4_layOutLegs_115 : decode cX4_layOutLegs 115 = .ok (.aload_n 0, 1) := by decide +kernel
theorem dX4_layOutLegs_116 : decode cX4_layOutLegs 116 = .ok (.aload_n 1, 1) := by decide +kernel
theorem dX4_layOutLegs_117 : decode cX4_layOutLegs 117 = .ok (.aload_n 2, 1) := by decide +kernel
theorem dX4_layOutLegs_118 : decode cX4_layOutLegs 118 = .ok (.iload 4, 2) := by decide +kernel
theorem dX4_layOutLegs_120 : decode cX4_layOutLegs 120 = .ok (.iload 5, 2) := by decide +kernel
theorem dX4_layOutLegs_122 : decode cX4_layOutLegs 122 = .ok (.isub, 1) := by decide +kernel
theorem dX4_layOutLegs_123 : decode cX4_layOutLegs 123 = .ok (.invokevirtual 87, 3) := by decide +kernel
theorem dX4_layOutLegs_126 : decode cX4_layOutLegs 126 = .ok (.return_, 1) := by decide +kernel
theorem dX4_setLeg_0 : decode cX4_setLeg 0 = .ok (.aload_n 0, 1) := by decide +kernel
theorem dX4_setLeg_1 : decode cX4_setLeg 1 = .ok (.getfield 18, 3) := by decide +kernel
theorem dX4_setLeg_4 : decode cX4_setLeg 4 = .ok (.aload_n 0, 1) := by decide +kernel
theorem dX4_setLeg_5 : decode cX4_setLeg 5 = .ok (.getfield 45, 3) := by decide +kernel
theorem dX4_setLeg_8 : decode cX4_setLeg 8 = .ok (.iload_n 3, 1) := by decide +kernel
theorem dX4_setLeg_9 : decode cX4_setLeg 9 = .ok (.invokestatic 90, 3) := by decide +kernel
theorem dX4_setLeg_12 : decode cX4_setLeg 12 = .ok (.iastore, 1) := by decide +kernel
theorem dX4_setLeg_13 : decode cX4_setLeg 13 = .ok (.aload_n 0, 1) := by decide +kernel
theorem dX4_setLeg_14 : decode cX4_setLeg 14 = .ok (.getfield 21, 3) := by decide +kernel
theorem dX4_setLeg_17 : decode cX4_setLeg 17 = .ok (.aload_n 0, 1) := by decide +kernel
theorem dX4_setLeg_18 : decode cX4_setLeg 18 = .ok (.getfield 45, 3) := by decide +kernel
theorem dX4_setLeg_21 : decode cX4_setLeg 21 = .ok (.aload_n 1, 1) := by decide +kernel
theorem dX4_setLeg_22 : decode cX4_setLeg 22 = .ok (.aload_n 2, 1) := by decide +kernel
theorem dX4_setLeg_23 : decode cX4_setLeg 23 = .ok (.iload_n 3, 1) := by decide +kernel
theorem dX4_setLeg_24 : decode cX4_setLeg 24 = .ok (.invokevirtual 94, 3) := by decide +kernel
theorem dX4_setLeg_27 : decode cX4_setLeg 27 = .ok (.iastore, 1) := by decide +kernel
theorem dX4_setLeg_28 : decode cX4_setLeg 28 = .ok (.return_, 1) := by decide +kernel
theorem dX4_costToLeave_0 : decode cX4_costToLeave 0 = .ok (.iload_n 2, 1) := by decide +kernel
theorem dX4_costToLeave_1 : decode cX4_costToLeave 1 = .ok (.aload_n 0, 1) := by decide +kernel
theorem dX4_costToLeave_2 : decode cX4_costToLeave 2 = .ok (.getfield 21, 3) := by decide +kernel
theorem dX4_costToLeave_5 : decode cX4_costToLeave 5 = .ok (.iload_n 1, 1) := by decide +kernel
theorem dX4_costToLeave_6 : decode cX4_costToLeave 6 = .ok (.iconst 1, 1) := by decide +kernel
theorem dX4_costToLeave_7 : decode cX4_costToLeave 7 = .ok (.iadd, 1) := by decide +kernel
theorem dX4_costToLeave_8 : decode cX4_costToLeave 8 = .ok (.iaload, 1) := by decide +kernel
theorem dX4_costToLeave_9 : decode cX4_costToLeave 9 = .ok (.isub, 1) := by decide +kernel
theorem dX4_costToLeave_10 : decode cX4_costToLeave 10 = .ok (.istore_n 3, 1) := by decide +kernel
theorem dX4_costToLeave_11 : decode cX4_costToLeave 11 = .ok (.iload_n 3, 1) := by decide +kernel
theorem dX4_costToLeave_12 : decode cX4_costToLeave 12 = .ok (.ifCond .ge 8, 3) := by decide +kernel
theorem dX4_costToLeave_15 : decode cX4_costToLeave 15 = .ok (.ldc 55, 2) := by decide +kernel
theorem dX4_costToLeave_17 : decode cX4_costToLeave 17 = .ok (.goto 25, 3) := by decide +kernel
theorem dX4_costToLeave_20 : decode cX4_costToLeave 20 = .ok (.aload_n 0, 1) := by decide +kernel
theorem dX4_costToLeave_21 : decode cX4_costToLeave 21 = .ok (.getfield 18, 3) := by decide +kernel
theorem dX4_costToLeave_24 : decode cX4_costToLeave 24 = .ok (.iload_n 1, 1) := by decide +kernel
theorem dX4_costToLeave_25 : decode cX4_costToLeave 25 = .ok (.iconst 1, 1) := by decide +kernel
theorem dX4_costToLeave_26 : decode cX4_costToLeave 26 = .ok (.iadd, 1) := by decide +kernel
theorem dX4_costToLeave_27 : decode cX4_costToLeave 27 = .ok (.iaload, 1) := by decide +kernel
theorem dX4_costToLeave_28 : decode cX4_costToLeave 28 = .ok (.bipush 8, 2) := by decide +kernel
theorem dX4_costToLeave_30 : decode cX4_costToLeave 30 = .ok (.imul, 1) := by decide +kernel
theorem dX4_costToLeave_31 : decode cX4_costToLeave 31 = .ok (.aload_n 0, 1) := by decide +kernel
theorem dX4_costToLeave_32 : decode cX4_costToLeave 32 = .ok (.getfield 26, 3) := by decide +kernel
theorem dX4_costToLeave_35 : decode cX4_costToLeave 35 = .ok (.iload_n 1, 1) := by decide +kernel
theorem dX4_costToLeave_36 : decode cX4_costToLeave 36 = .ok (.iconst 1, 1) := by decide +kernel
theorem dX4_costToLeave_37 : decode cX4_costToLeave 37 = .ok (.iadd, 1) := by decide +kernel
theorem dX4_costToLeave_38 : decode cX4_costToLeave 38 = .ok (.aaload, 1) := by decide +kernel
theorem dX4_costToLeave_39 : decode cX4_costToLeave 39 = .ok (.iload_n 3, 1) := by decide +kernel
theorem dX4_costToLeave_40 : decode cX4_costToLeave 40 = .ok (.iaload, 1) := by decide +kernel
theorem dX4_costToLeave_41 : decode cX4_costToLeave 41 = .ok (.iadd, 1) := by decide +kernel
theorem dX4_costToLeave_42 : decode cX4_costToLeave 42 = .ok (.ireturn, 1) := by decide +kernel
theorem dX4_fillCosts_0 : decode cX4_fillCosts 0 = .ok (.aload_n 1, 1) := by decide +kernel
theorem dX4_fillCosts_1 : decode cX4_fillCosts 1 = .ok (.getfield 71, 3) := by decide +kernel
theorem dX4_fillCosts_4 : decode cX4_fillCosts 4 = .ok (.aload_n 0, 1) := by decide +kernel
theorem dX4_fillCosts_5 : decode cX4_fillCosts 5 = .ok (.getfield 9, 3) := by decide +kernel
theorem dX4_fillCosts_8 : decode cX4_fillCosts 8 = .ok (.iload_n 3, 1) := by decide +kernel
theorem dX4_fillCosts_9 : decode cX4_fillCosts 9 = .ok (.iaload, 1) := by decide +kernel
theorem dX4_fillCosts_10 : decode cX4_fillCosts 10 = .ok (.aaload, 1) := by decide +kernel
theorem dX4_fillCosts_11 : decode cX4_fillCosts 11 = .ok (.getfield 98, 3) := by decide +kernel
theorem dX4_fillCosts_14 : decode cX4_fillCosts 14 = .ok (.bipush 8, 2) := by decide +kernel
theorem dX4_fillCosts_16 : decode cX4_fillCosts 16 = .ok (.imul, 1) := by decide +kernel
theorem dX4_fillCosts_17 : decode cX4_fillCosts 17 = .ok (.istore 4, 2) := by decide +kernel
theorem dX4_fillCosts_19 : decode cX4_fillCosts 19 = .ok (.aload_n 2, 1) := by decide +kernel
theorem dX4_fillCosts_20 : decode cX4_fillCosts 20 = .ok (.getfield 39, 3) := by decide +kernel
theorem dX4_fillCosts_23 : decode cX4_fillCosts 23 = .ok (.istore 5, 2) := by decide +kernel
theorem dX4_fillCosts_25 : decode cX4_fillCosts 25 = .ok (.iload 5, 2) := by decide +kernel
theorem dX4_fillCosts_27 : decode cX4_fillCosts 27 = .ok (.ifCond .lt 123, 3) := by decide +kernel
theorem dX4_fillCosts_30 : decode cX4_fillCosts 30 = .ok (.aload_n 0, 1) := by decide +kernel
theorem dX4_fillCosts_31 : decode cX4_fillCosts 31 = .ok (.iload_n 3, 1) := by decide +kernel
theorem dX4_fillCosts_32 : decode cX4_fillCosts 32 = .ok (.iload 5, 2) := by decide +kernel
theorem dX4_fillCosts_34 : decode cX4_fillCosts 34 = .ok (.invokevirtual 101, 3) := by decide +kernel
theorem dX4_fillCosts_37 : decode cX4_fillCosts 37 = .ok (.istore 6, 2) := by decide +kernel
theorem dX4_fillCosts_39 : decode cX4_fillCosts 39 = .ok (.aload_n 0, 1) := by decide +kernel
theorem dX4_fillCosts_40 : decode cX4_fillCosts 40 = .ok (.getfield 26, 3) := by decide +kernel
theorem dX4_fillCosts_43 : decode cX4_fillCosts 43 = .ok (.iload_n 3, 1) := by decide +kernel
theorem dX4_fillCosts_44 : decode cX4_fillCosts 44 = .ok (.aaload, 1) := by decide +kernel
theorem dX4_fillCosts_45 : decode cX4_fillCosts 45 = .ok (.iload 5, 2) := by decide +kernel
theorem dX4_fillCosts_47 : decode cX4_fillCosts 47 = .ok (.iload 6, 2) := by decide +kernel
theorem dX4_fillCosts_49 : decode cX4_fillCosts 49 = .ok (.iastore, 1) := by decide +kernel
theorem dX4_fillCosts_50 : decode cX4_fillCosts 50 = .ok (.aload_n 0, 1) := by decide +kernel
theorem dX4_fillCosts_51 : decode cX4_fillCosts 51 = .ok (.getfield 29, 3) := by decide +kernel
theorem dX4_fillCosts_54 : decode cX4_fillCosts 54 = .ok (.iload_n 3, 1) := by decide +kernel
theorem dX4_fillCosts_55 : decode cX4_fillCosts 55 = .ok (.aaload, 1) := by decide +kernel
theorem dX4_fillCosts_56 : decode cX4_fillCosts 56 = .ok (.iload 5, 2) := by decide +kernel
theorem dX4_fillCosts_58 : decode cX4_fillCosts 58 = .ok (.iload 6, 2) := by decide +kernel
theorem dX4_fillCosts_60 : decode cX4_fillCosts 60 = .ok (.iastore, 1) := by decide +kernel
theorem dX4_fillCosts_61 : decode cX4_fillCosts 61 = .ok (.aload_n 1, 1) := by decide +kernel
theorem dX4_fillCosts_62 : decode cX4_fillCosts 62 = .ok (.aload_n 2, 1) := by decide +kernel
theorem dX4_fillCosts_63 : decode cX4_fillCosts 63 = .ok (.aload_n 0, 1) := by decide +kernel
theorem dX4_fillCosts_64 : decode cX4_fillCosts 64 = .ok (.getfield 15, 3) := by decide +kernel
theorem dX4_fillCosts_67 : decode cX4_fillCosts 67 = .ok (.iload_n 3, 1) := by decide +kernel
theorem dX4_fillCosts_68 : decode cX4_fillCosts 68 = .ok (.iaload, 1) := by decide +kernel
theorem dX4_fillCosts_69 : decode cX4_fillCosts 69 = .ok (.iload 5, 2) := by decide +kernel
theorem dX4_fillCosts_71 : decode cX4_fillCosts 71 = .ok (.invokevirtual 105, 3) := by decide +kernel
theorem dX4_fillCosts_74 : decode cX4_fillCosts 74 = .ok (.istore 7, 2) := by decide +kernel
theorem dX4_fillCosts_76 : decode cX4_fillCosts 76 = .ok (.aload_n 0, 1) := by decide +kernel
theorem dX4_fillCosts_77 : decode cX4_fillCosts 77 = .ok (.getfield 15, 3) := by decide +kernel
theorem dX4_fillCosts_80 : decode cX4_fillCosts 80 = .ok (.iload_n 3, 1) := by decide +kernel
theorem dX4_fillCosts_81 : decode cX4_fillCosts 81 = .ok (.iaload, 1) := by decide +kernel
theorem dX4_fillCosts_82 : decode cX4_fillCosts 82 = .ok (.ifCond .le 62, 3) := by decide +kernel
theorem dX4_fillCosts_85 : decode cX4_fillCosts 85 = .ok (.iload 7, 2) := by decide +kernel
theorem dX4_fillCosts_87 : decode cX4_fillCosts 87 = .ok (.ifCond .le 57, 3) := by decide +kernel
theorem dX4_fillCosts_90 : decode cX4_fillCosts 90 = .ok (.bipush 8, 2) := by decide +kernel
theorem dX4_fillCosts_92 : decode cX4_fillCosts 92 = .ok (.aload_n 0, 1) := by decide +kernel
theorem dX4_fillCosts_93 : decode cX4_fillCosts 93 = .ok (.getfield 29, 3) := by decide +kernel
theorem dX4_fillCosts_96 : decode cX4_fillCosts 96 = .ok (.iload_n 3, 1) := by decide +kernel
theorem dX4_fillCosts_97 : decode cX4_fillCosts 97 = .ok (.aaload, 1) := by decide +kernel
theorem dX4_fillCosts_98 : decode cX4_fillCosts 98 = .ok (.iload 5, 2) := by decide +kernel
theorem dX4_fillCosts_100 : decode cX4_fillCosts 100 = .ok (.iload 7, 2) := by decide +kernel
theorem dX4_fillCosts_102 : decode cX4_fillCosts 102 = .ok (.iadd, 1) := by decide +kernel
theorem dX4_fillCosts_103 : decode cX4_fillCosts 103 = .ok (.iaload, 1) := by decide +kernel
theorem dX4_fillCosts_104 : decode cX4_fillCosts 104 = .ok (.iadd, 1) := by decide +kernel
theorem dX4_fillCosts_105 : decode cX4_fillCosts 105 = .ok (.istore 8, 2) := by decide +kernel
theorem dX4_fillCosts_107 : decode cX4_fillCosts 107 = .ok (.aload_n 0, 1) := by decide +kernel
theorem dX4_fillCosts_108 : decode cX4_fillCosts 108 = .ok (.getfield 29, 3) := by decide +kernel
theorem dX4_fillCosts_111 : decode cX4_fillCosts 111 = .ok (.iload_n 3, 1) := by decide +kernel
theorem dX4_fillCosts_112 : decode cX4_fillCosts 112 = .ok (.aaload, 1) := by decide +kernel
theorem dX4_fillCosts_113 : decode cX4_fillCosts 113 = .ok (.iload 5, 2) := by decide +kernel
theorem dX4_fillCosts_115 : decode cX4_fillCosts 115 = .ok (.iload 6, 2) := by decide +kernel
theorem dX4_fillCosts_117 : decode cX4_fillCosts 117 = .ok (.iload 8, 2) := by decide +kernel
theorem dX4_fillCosts_119 : decode cX4_fillCosts 119 = .ok (.invokestatic 109, 3) := by decide +kernel
theorem dX4_fillCosts_122 : decode cX4_fillCosts 122 = .ok (.iastore, 1) := by decide +kernel
theorem dX4_fillCosts_123 : decode cX4_fillCosts 123 = .ok (.aload_n 0, 1) := by decide +kernel
theorem dX4_fillCosts_124 : decode cX4_fillCosts 124 = .ok (.getfield 26, 3) := by decide +kernel
theorem dX4_fillCosts_127 : decode cX4_fillCosts 127 = .ok (.iload_n 3, 1) := by decide +kernel
theorem dX4_fillCosts_128 : decode cX4_fillCosts 128 = .ok (.aaload, 1) := by decide +kernel
theorem dX4_fillCosts_129 : decode cX4_fillCosts 129 = .ok (.iload 5, 2) := by decide +kernel
theorem dX4_fillCosts_131 : decode cX4_fillCosts 131 = .ok (.iload 6, 2) := by decide +kernel
theorem dX4_fillCosts_133 : decode cX4_fillCosts 133 = .ok (.iload 4, 2) := by decide +kernel
theorem dX4_fillCosts_135 : decode cX4_fillCosts 135 = .ok (.iconst 1, 1) := by decide +kernel
theorem dX4_fillCosts_136 : decode cX4_fillCosts 136 = .ok (.iadd, 1) := by decide +kernel
theorem dX4_fillCosts_137 : decode cX4_fillCosts 137 = .ok (.iload 8, 2) := by decide +kernel
theorem dX4_fillCosts_139 : decode cX4_fillCosts 139 = .ok (.iadd, 1) := by decide +kernel
theorem dX4_fillCosts_140 : decode cX4_fillCosts 140 = .ok (.invokestatic 109, 3) := by decide +kernel
theorem dX4_fillCosts_143 : decode cX4_fillCosts 143 = .ok (.iastore, 1) := by decide +kernel
theorem dX4_fillCosts_144 : decode cX4_fillCosts 144 = .ok (.iinc 5 (-1), 3) := by decide +kernel
theorem dX4_fillCosts_147 : decode cX4_fillCosts 147 = .ok (.goto (-122), 3) := by decide +kernel
theorem dX4_fillCosts_150 : decode cX4_fillCosts 150 = .ok (.return_, 1) := by decide +kernel
theorem dX4_followTrip_0 : decode cX4_followTrip 0 = .ok (.iconst 0, 1) := by decide +kernel
theorem dX4_followTrip_1 : decode cX4_followTrip 1 = .ok (.istore_n 3, 1) := by decide +kernel
theorem dX4_followTrip_2 : decode cX4_followTrip 2 = .ok (.iload_n 3, 1) := by decide +kernel
theorem dX4_followTrip_3 : decode cX4_followTrip 3 = .ok (.bipush 6, 2) := by decide +kernel
theorem dX4_followTrip_5 : decode cX4_followTrip 5 = .ok (.if_icmp .ge 16, 3) := by decide +kernel
theorem dX4_followTrip_8 : decode cX4_followTrip 8 = .ok (.aload_n 0, 1) := by decide +kernel
theorem dX4_followTrip_9 : decode cX4_followTrip 9 = .ok (.getfield 32, 3) := by decide +kernel
theorem dX4_followTrip_12 : decode cX4_followTrip 12 = .ok (.iload_n 3, 1) := by decide +kernel
theorem dX4_followTrip_13 : decode cX4_followTrip 13 = .ok (.iconst 0, 1) := by decide +kernel
theorem dX4_followTrip_14 : decode cX4_followTrip 14 = .ok (.iastore, 1) := by decide +kernel
theorem dX4_followTrip_15 : decode cX4_followTrip 15 = .ok (.iinc 3 1, 3) := by decide +kernel
theorem dX4_followTrip_18 : decode cX4_followTrip 18 = .ok (.goto (-16), 3) := by decide +kernel
theorem dX4_followTrip_21 : decode cX4_followTrip 21 = .ok (.aload_n 2, 1) := by decide +kernel
theorem dX4_followTrip_22 : decode cX4_followTrip 22 = .ok (.getfield 52, 3) := by decide +kernel
theorem dX4_followTrip_25 : decode cX4_followTrip 25 = .ok (.aload_n 0, 1) := by decide +kernel
theorem dX4_followTrip_26 : decode cX4_followTrip 26 = .ok (.getfield 21, 3) := by decide +kernel
theorem dX4_followTrip_29 : decode cX4_followTrip 29 = .ok (.iconst 0, 1) := by decide +kernel
theorem dX4_followTrip_30 : decode cX4_followTrip 30 = .ok (.iaload, 1) := by decide +kernel
theorem dX4_followTrip_31 : decode cX4_followTrip 31 = .ok (.isub, 1) := by decide +kernel
theorem dX4_followTrip_32 : decode cX4_followTrip 32 = .ok (.istore_n 3, 1) := by decide +kernel
theorem dX4_followTrip_33 : decode cX4_followTrip 33 = .ok (.iconst 0, 1) := by decide +kernel
theorem dX4_followTrip_34 : decode cX4_followTrip 34 = .ok (.istore 4, 2) := by decide +kernel
theorem dX4_followTrip_36 : decode cX4_followTrip 36 = .ok (.iload 4, 2) := by decide +kernel
theorem dX4_followTrip_38 : decode cX4_followTrip 38 = .ok (.aload_n 0, 1) := by decide +kernel
theorem dX4_followTrip_39 : decode cX4_followTrip 39 = .ok (.getfield 45, 3) := by decide +kernel
theorem dX4_followTrip_42 : decode cX4_followTrip 42 = .ok (.if_icmp .ge 125, 3) := by decide +kernel
theorem dX4_followTrip_45 : decode cX4_followTrip 45 = .ok (.iconst 0, 1) := by decide +kernel
theorem dX4_followTrip_46 : decode cX4_followTrip 46 = .ok (.istore 5, 2) := by decide +kernel
theorem dX4_followTrip_48 : decode cX4_followTrip 48 = .ok (.aload_n 0, 1) := by decide +kernel
theorem dX4_followTrip_49 : decode cX4_followTrip 49 = .ok (.getfield 26, 3) := by decide +kernel
theorem dX4_followTrip_52 : decode cX4_followTrip 52 = .ok (.iload 4, 2) := by decide +kernel
theorem dX4_followTrip_54 : decode cX4_followTrip 54 = .ok (.aaload, 1) := by decide +kernel
theorem dX4_followTrip_55 : decode cX4_followTrip 55 = .ok (.iload_n 3, 1) := by decide +kernel
theorem dX4_followTrip_56 : decode cX4_followTrip 56 = .ok (.iaload, 1) := by decide +kernel
theorem dX4_followTrip_57 : decode cX4_followTrip 57 = .ok (.aload_n 0, 1) := by decide +kernel
theorem dX4_followTrip_58 : decode cX4_followTrip 58 = .ok (.iload 4, 2) := by decide +kernel
theorem dX4_followTrip_60 : decode cX4_followTrip 60 = .ok (.iload_n 3, 1) := by decide +kernel
theorem dX4_followTrip_61 : decode cX4_followTrip 61 = .ok (.invokevirtual 101, 3) := by decide +kernel
theorem dX4_followTrip_64 : decode cX4_followTrip 64 = .ok (.if_icmp .ge 7, 3) := by decide +kernel
theorem dX4_followTrip_67 : decode cX4_followTrip 67 = .ok (.iconst 1, 1) := by decide +kernel
theorem dX4_followTrip_68 : decode cX4_followTrip 68 = .ok (.goto 4, 3) := by decide +kernel
theorem dX4_followTrip_71 : decode cX4_followTrip 71 = .ok (.iconst 0, 1) := by decide +kernel
theorem dX4_followTrip_72 : decode cX4_followTrip 72 = .ok (.istore 6, 2) := by decide +kernel
theorem dX4_followTrip_74 : decode cX4_followTrip 74 = .ok (.iload 6, 2) := by decide +kernel
theorem dX4_followTrip_76 : decode cX4_followTrip 76 = .ok (.ifCond .eq 59, 3) := by decide +kernel
theorem dX4_followTrip_79 : decode cX4_followTrip 79 = .ok (.iload 5, 2) := by decide +kernel
theorem dX4_followTrip_81 : decode cX4_followTrip 81 = .ok (.sipush 200, 3) := by decide +kernel
theorem dX4_followTrip_84 : decode cX4_followTrip 84 = .ok (.if_icmp .gt 51, 3) := by decide +kernel
theorem dX4_followTrip_87 : decode cX4_followTrip 87 = .ok (.iload_n 3, 1) := by decide +kernel
theorem dX4_followTrip_88 : decode cX4_followTrip 88 = .ok (.aload_n 1, 1) := by decide +kernel
theorem dX4_followTrip_89 : decode cX4_followTrip 89 = .ok (.aload_n 2, 1) := by decide +kernel
theorem dX4_followTrip_90 : decode cX4_followTrip 90 = .ok (.aload_n 0, 1) := by decide +kernel
theorem dX4_followTrip_91 : decode cX4_followTrip 91 = .ok (.getfield 15, 3) := by decide +kernel
theorem dX4_followTrip_94 : decode cX4_followTrip 94 = .ok (.iload 4, 2) := by decide +kernel
theorem dX4_followTrip_96 : decode cX4_followTrip 96 = .ok (.iaload, 1) := by decide +kernel
theorem dX4_followTrip_97 : decode cX4_followTrip 97 = .ok (.iload_n 3, 1) := by decide +kernel
theorem dX4_followTrip_98 : decode cX4_followTrip 98 = .ok (.invokevirtual 105, 3) := by decide +kernel
theorem dX4_followTrip_101 : decode cX4_followTrip 101 = .ok (.iadd, 1) := by decide +kernel
theorem dX4_followTrip_102 : decode cX4_followTrip 102 = .ok (.istore_n 3, 1) := by decide +kernel
theorem dX4_followTrip_103 : decode cX4_followTrip 103 = .ok (.iinc 5 1, 3) := by decide +kernel
theorem dX4_followTrip_106 : decode cX4_followTrip 106 = .ok (.aload_n 0, 1) := by decide +kernel
theorem dX4_followTrip_107 : decode cX4_followTrip 107 = .ok (.getfield 29, 3) := by decide +kernel
theorem dX4_followTrip_110 : decode cX4_followTrip 110 = .ok (.iload 4, 2) := by decide +kernel
theorem dX4_followTrip_112 : decode cX4_followTrip 112 = .ok (.aaload, 1) := by decide +kernel
theorem dX4_followTrip_113 : decode cX4_followTrip 113 = .ok (.iload_n 3, 1) := by decide +kernel
theorem dX4_followTrip_114 : decode cX4_followTrip 114 = .ok (.iaload, 1) := by decide +kernel
theorem dX4_followTrip_115 : decode cX4_followTrip 115 = .ok (.aload_n 0, 1) := by decide +kernel
theorem dX4_followTrip_116 : decode cX4_followTrip 116 = .ok (.iload 4, 2) := by decide +kernel
theorem dX4_followTrip_118 : decode cX4_followTrip 118 = .ok (.iload_n 3, 1) := by decide +kernel
theorem dX4_followTrip_119 : decode cX4_followTrip 119 = .ok (.invokevirtual 101, 3) := by decide +kernel
theorem dX4_followTrip_122 : decode cX4_followTrip 122 = .ok (.if_icmp .ge 7, 3) := by decide +kernel
theorem dX4_followTrip_125 : decode cX4_followTrip 125 = .ok (.iconst 1, 1) := by decide +kernel
theorem dX4_followTrip_126 : decode cX4_followTrip 126 = .ok (.goto 4, 3) := by decide +kernel
theorem dX4_followTrip_129 : decode cX4_followTrip 129 = .ok (.iconst 0, 1) := by decide +kernel
theorem dX4_followTrip_130 : decode cX4_followTrip 130 = .ok (.istore 6, 2) := by decide +kernel
theorem dX4_followTrip_132 : decode cX4_followTrip 132 = .ok (.goto (-58), 3) := by decide +kernel
theorem dX4_followTrip_135 : decode cX4_followTrip 135 = .ok (.aload_n 0, 1) := by decide +kernel
theorem dX4_followTrip_136 : decode cX4_followTrip 136 = .ok (.getfield 32, 3) := by decide +kernel
theorem dX4_followTrip_139 : decode cX4_followTrip 139 = .ok (.aload_n 0, 1) := by decide +kernel
theorem dX4_followTrip_140 : decode cX4_followTrip 140 = .ok (.getfield 9, 3) := by decide +kernel
theorem dX4_followTrip_143 : decode cX4_followTrip 143 = .ok (.iload 4, 2) := by decide +kernel
theorem dX4_followTrip_145 : decode cX4_followTrip 145 = .ok (.iaload, 1) := by decide +kernel
theorem dX4_followTrip_146 : decode cX4_followTrip 146 = .ok (.iload 5, 2) := by decide +kernel
theorem dX4_followTrip_148 : decode cX4_followTrip 148 = .ok (.iastore, 1) := by decide +kernel
theorem dX4_followTrip_149 : decode cX4_followTrip 149 = .ok (.iload_n 3, 1) := by decide +kernel
theorem dX4_followTrip_150 : decode cX4_followTrip 150 = .ok (.aload_n 0, 1) := by decide +kernel
theorem dX4_followTrip_151 : decode cX4_followTrip 151 = .ok (.getfield 21, 3) := by decide +kernel
theorem dX4_followTrip_154 : decode cX4_followTrip 154 = .ok (.iload 4, 2) := by decide +kernel
theorem dX4_followTrip_156 : decode cX4_followTrip 156 = .ok (.iconst 1, 1) := by decide +kernel
theorem dX4_followTrip_157 : decode cX4_followTrip 157 = .ok (.iadd, 1) := by decide +kernel
theorem dX4_followTrip_158 : decode cX4_followTrip 158 = .ok (.iaload, 1) := by decide +kernel
theorem dX4_followTrip_159 : decode cX4_followTrip 159 = .ok (.isub, 1) := by decide +kernel
theorem dX4_followTrip_160 : decode cX4_followTrip 160 = .ok (.istore_n 3, 1) := by decide +kernel
theorem dX4_followTrip_161 : decode cX4_followTrip 161 = .ok (.iinc 4 1, 3) := by decide +kernel
theorem dX4_followTrip_164 : decode cX4_followTrip 164 = .ok (.goto (-128), 3) := by decide +kernel
theorem dX4_followTrip_167 : decode cX4_followTrip 167 = .ok (.aload_n 0, 1) := by decide +kernel
theorem dX4_followTrip_168 : decode cX4_followTrip 168 = .ok (.iload_n 3, 1) := by decide +kernel
theorem dX4_followTrip_169 : decode cX4_followTrip 169 = .ok (.putfield 114, 3) := by decide +kernel
theorem dX4_followTrip_172 : decode cX4_followTrip 172 = .ok (.return_, 1) := by decide +kernel
theorem dX5_init_0 : decode cX5_init 0 = .ok (.aload_n 0, 1) := by decide +kernel
theorem dX5_init_1 : decode cX5_init 1 = .ok (.invokespecial 3, 3) := by decide +kernel
theorem dX5_init_4 : decode cX5_init 4 = .ok (.aload_n 0, 1) := by decide +kernel
theorem dX5_init_5 : decode cX5_init 5 = .ok (.iconst (-1), 1) := by decide +kernel
theorem dX5_init_6 : decode cX5_init 6 = .ok (.putfield 9, 3) := by decide +kernel
theorem dX5_init_9 : decode cX5_init 9 = .ok (.aload_n 0, 1) := by decide +kernel
theorem dX5_init_10 : decode cX5_init 10 = .ok (.iconst 1, 1) := by decide +kernel
theorem dX5_init_11 : decode cX5_init 11 = .ok (.putfield 15, 3) := by decide +kernel
theorem dX5_init_14 : decode cX5_init 14 = .ok (.return_, 1) := by decide +kernel
theorem dX5_copyFrom_0 : decode cX5_copyFrom 0 = .ok (.aload_n 0, 1) := by decide +kernel
theorem dX5_copyFrom_1 : decode cX5_copyFrom 1 = .ok (.aload_n 1, 1) := by decide +kernel
theorem dX5_copyFrom_2 : decode cX5_copyFrom 2 = .ok (.getfield 19, 3) := by decide +kernel
theorem dX5_copyFrom_5 : decode cX5_copyFrom 5 = .ok (.putfield 19, 3) := by decide +kernel
theorem dX5_copyFrom_8 : decode cX5_copyFrom 8 = .ok (.aload_n 0, 1) := by decide +kernel
theorem dX5_copyFrom_9 : decode cX5_copyFrom 9 = .ok (.aload_n 1, 1) := by decide +kernel
theorem dX5_copyFrom_10 : decode cX5_copyFrom 10 = .ok (.getfield 22, 3) := by decide +kernel
theorem dX5_copyFrom_13 : decode cX5_copyFrom 13 = .ok (.putfield 22, 3) := by decide +kernel
theorem dX5_copyFrom_16 : decode cX5_copyFrom 16 = .ok (.aload_n 0, 1) := by decide +kernel
theorem dX5_copyFrom_17 : decode cX5_copyFrom 17 = .ok (.aload_n 1, 1) := by decide +kernel
theorem dX5_copyFrom_18 : decode cX5_copyFrom 18 = .ok (.getfield 25, 3) := by decide +kernel
theorem dX5_copyFrom_21 : decode cX5_copyFrom 21 = .ok (.putfield 25, 3) := by decide +kernel
theorem dX5_copyFrom_24 : decode cX5_copyFrom 24 = .ok (.aload_n 0, 1) := by decide +kernel
theorem dX5_copyFrom_25 : decode cX5_copyFrom 25 = .ok (.aload_n 1, 1) := by decide +kernel
theorem dX5_copyFrom_26 : decode cX5_copyFrom 26 = .ok (.getfield 9, 3) := by decide +kernel
theorem dX5_copyFrom_29 : decode cX5_copyFrom 29 = .ok (.putfield 9, 3) := by decide +kernel
theorem dX5_copyFrom_32 : decode cX5_copyFrom 32 = .ok (.aload_n 0, 1) := by decide +kernel
theorem dX5_copyFrom_33 : decode cX5_copyFrom 33 = .ok (.aload_n 1, 1) := by decide +kernel
theorem dX5_copyFrom_34 : decode cX5_copyFrom 34 = .ok (.getfield 28, 3) := by decide +kernel
theorem dX5_copyFrom_37 : decode cX5_copyFrom 37 = .ok (.putfield 28, 3) := by decide +kernel
theorem dX5_copyFrom_40 : decode cX5_copyFrom 40 = .ok (.aload_n 0, 1) := by decide +kernel
theorem dX5_copyFrom_41 : decode cX5_copyFrom 41 = .ok (.aload_n 1, 1) := by decide +kernel
theorem dX5_copyFrom_42 : decode cX5_copyFrom 42 = .ok (.getfield 15, 3) := by decide +kernel
theorem dX5_copyFrom_45 : decode cX5_copyFrom 45 = .ok (.putfield 15, 3) := by decide +kernel
theorem dX5_copyFrom_48 : decode cX5_copyFrom 48 = .ok (.return_, 1) := by decide +kernel
theorem dX6_init_0 : decode cX6_init 0 = .ok (.aload_n 0, 1) := by decide +kernel
theorem dX6_init_1 : decode cX6_init 1 = .ok (.invokespecial 3, 3) := by decide +kernel
theorem dX6_init_4 : decode cX6_init 4 = .ok (.aload_n 0, 1) := by decide +kernel
theorem dX6_init_5 : decode cX6_init 5 = .ok (.bipush 100, 2) := by decide +kernel
theorem dX6_init_7 : decode cX6_init 7 = .ok (.putfield 9, 3) := by decide +kernel
theorem dX6_init_10 : decode cX6_init 10 = .ok (.aload_n 0, 1) := by decide +kernel
theorem dX6_init_11 : decode cX6_init 11 = .ok (.bipush 100, 2) := by decide +kernel
theorem dX6_init_13 : decode cX6_init 13 = .ok (.putfield 15, 3) := by decide +kernel
theorem dX6_init_16 : decode cX6_init 16 = .ok (.aload_n 0, 1) := by decide +kernel
theorem dX6_init_17 : decode cX6_init 17 = .ok (.bipush 12, 2) := by decide +kernel
theorem dX6_init_19 : decode cX6_init 19 = .ok (.newarray .int, 2) := by decide +kernel
theorem dX6_init_21 : decode cX6_init 21 = .ok (.putfield 18, 3) := by decide +kernel
theorem dX6_init_24 : decode cX6_init 24 = .ok (.aload_n 0, 1) := by decide +kernel
theorem dX6_init_25 : decode cX6_init 25 = .ok (.bipush 16, 2) := by decide +kernel
theorem dX6_init_27 : decode cX6_init 27 = .ok (.newarray .int, 2) := by decide +kernel
theorem dX6_init_29 : decode cX6_init 29 = .ok (.putfield 22, 3) := by decide +kernel
theorem dX6_init_32 : decode cX6_init 32 = .ok (.return_, 1) := by decide +kernel
theorem dX6_copyFrom_0 : decode cX6_copyFrom 0 = .ok (.aload_n 0, 1) := by decide +kernel
theorem dX6_copyFrom_1 : decode cX6_copyFrom 1 = .ok (.aload_n 1, 1) := by decide +kernel
theorem dX6_copyFrom_2 : decode cX6_copyFrom 2 = .ok (.getfield 25, 3) := by decide +kernel
theorem dX6_copyFrom_5 : decode cX6_copyFrom 5 = .ok (.putfield 25, 3) := by decide +kernel
theorem dX6_copyFrom_8 : decode cX6_copyFrom 8 = .ok (.aload_n 0, 1) := by decide +kernel
theorem dX6_copyFrom_9 : decode cX6_copyFrom 9 = .ok (.aload_n 1, 1) := by decide +kernel
theorem dX6_copyFrom_10 : decode cX6_copyFrom 10 = .ok (.getfield 28, 3) := by decide +kernel
theorem dX6_copyFrom_13 : decode cX6_copyFrom 13 = .ok (.putfield 28, 3) := by decide +kernel
theorem dX6_copyFrom_16 : decode cX6_copyFrom 16 = .ok (.aload_n 0, 1) := by decide +kernel
theorem dX6_copyFrom_17 : decode cX6_copyFrom 17 = .ok (.aload_n 1, 1) := by decide +kernel
theorem dX6_copyFrom_18 : decode cX6_copyFrom 18 = .ok (.getfield 31, 3) := by decide +kernel
theorem dX6_copyFrom_21 : decode cX6_copyFrom 21 = .ok (.putfield 31, 3) := by decide +kernel
theorem dX6_copyFrom_24 : decode cX6_copyFrom 24 = .ok (.aload_n 0, 1) := by decide +kernel
theorem dX6_copyFrom_25 : decode cX6_copyFrom 25 = .ok (.aload_n 1, 1) := by decide +kernel
theorem dX6_copyFrom_26 : decode cX6_copyFrom 26 = .ok (.getfield 34, 3) := by decide +kernel
theorem dX6_copyFrom_29 : decode cX6_copyFrom 29 = .ok (.putfield 34, 3) := by decide +kernel
theorem dX6_copyFrom_32 : decode cX6_copyFrom 32 = .ok (.aload_n 0, 1) := by decide +kernel
theorem dX6_copyFrom_33 : decode cX6_copyFrom 33 = .ok (.aload_n 1, 1) := by decide +kernel
theorem dX6_copyFrom_34 : decode cX6_copyFrom 34 = .ok (.getfield 37, 3) := by decide +kernel
theorem dX6_copyFrom_37 : decode cX6_copyFrom 37 = .ok (.putfield 37, 3) := by decide +kernel
theorem dX6_copyFrom_40 : decode cX6_copyFrom 40 = .ok (.aload_n 0, 1) := by decide +kernel
theorem dX6_copyFrom_41 : decode cX6_copyFrom 41 = .ok (.aload_n 1, 1) := by decide +kernel
theorem dX6_copyFrom_42 : decode cX6_copyFrom 42 = .ok (.getfield 9, 3) := by decide +kernel
theorem dX6_copyFrom_45 : decode cX6_copyFrom 45 = .ok (.putfield 9, 3) := by decide +kernel
theorem dX6_copyFrom_48 : decode cX6_copyFrom 48 = .ok (.aload_n 0, 1) := by decide +kernel
theorem dX6_copyFrom_49 : decode cX6_copyFrom 49 = .ok (.aload_n 1, 1) := by decide +kernel
theorem dX6_copyFrom_50 : decode cX6_copyFrom 50 = .ok (.getfield 41, 3) := by decide +kernel
theorem dX6_copyFrom_53 : decode cX6_copyFrom 53 = .ok (.putfield 41, 3) := by decide +kernel
theorem dX6_copyFrom_56 : decode cX6_copyFrom 56 = .ok (.aload_n 0, 1) := by decide +kernel
theorem dX6_copyFrom_57 : decode cX6_copyFrom 57 = .ok (.aload_n 1, 1) := by decide +kernel
theorem dX6_copyFrom_58 : decode cX6_copyFrom 58 = .ok (.getfield 15, 3) := by decide +kernel
theorem dX6_copyFrom_61 : decode cX6_copyFrom 61 = .ok (.putfield 15, 3) := by decide +kernel
theorem dX6_copyFrom_64 : decode cX6_copyFrom 64 = .ok (.aload_n 0, 1) := by decide +kernel
theorem dX6_copyFrom_65 : decode cX6_copyFrom 65 = .ok (.aload_n 1, 1) := by decide +kernel
theorem dX6_copyFrom_66 : decode cX6_copyFrom 66 = .ok (.getfield 44, 3) := by decide +kernel
theorem dX6_copyFrom_69 : decode cX6_copyFrom 69 = .ok (.putfield 44, 3) := by decide +kernel
theorem dX6_copyFrom_72 : decode cX6_copyFrom 72 = .ok (.aload_n 0, 1) := by decide +kernel
theorem dX6_copyFrom_73 : decode cX6_copyFrom 73 = .ok (.aload_n 1, 1) := by decide +kernel
theorem dX6_copyFrom_74 : decode cX6_copyFrom 74 = .ok (.getfield 47, 3) := by decide +kernel
theorem dX6_copyFrom_77 : decode cX6_copyFrom 77 = .ok (.putfield 47, 3) := by decide +kernel
theorem dX6_copyFrom_80 : decode cX6_copyFrom 80 = .ok (.aload_n 1, 1) := by decide +kernel
theorem dX6_copyFrom_81 : decode cX6_copyFrom 81 = .ok (.getfield 18, 3) := by decide +kernel
theorem dX6_copyFrom_84 : decode cX6_copyFrom 84 = .ok (.iconst 0, 1) := by decide +kernel
theorem dX6_copyFrom_85 : decode cX6_copyFrom 85 = .ok (.aload_n 0, 1) := by decide +kernel
theorem dX6_copyFrom_86 : decode cX6_copyFrom 86 = .ok (.getfield 18, 3) := by decide +kernel
theorem dX6_copyFrom_89 : decode cX6_copyFrom 89 = .ok (.iconst 0, 1) := by decide +kernel
theorem dX6_copyFrom_90 : decode cX6_copyFrom 90 = .ok (.bipush 12, 2) := by decide +kernel
theorem dX6_copyFrom_92 : decode cX6_copyFrom 92 = .ok (.invokestatic 50, 3) := by decide +kernel
theorem dX6_copyFrom_95 : decode cX6_copyFrom 95 = .ok (.aload_n 1, 1) := by decide +kernel
theorem dX6_copyFrom_96 : decode cX6_copyFrom 96 = .ok (.getfield 22, 3) := by decide +kernel
theorem dX6_copyFrom_99 : decode cX6_copyFrom 99 = .ok (.iconst 0, 1) := by decide +kernel
theorem dX6_copyFrom_100 : decode cX6_copyFrom 100 = .ok (.aload_n 0, 1) := by decide +kernel
theorem dX6_copyFrom_101 : decode cX6_copyFrom 101 = .ok (.getfield 22, 3) := by decide +kernel
theorem dX6_copyFrom_104 : decode cX6_copyFrom 104 = .ok (.iconst 0, 1) := by decide +kernel
theorem dX6_copyFrom_105 : decode cX6_copyFrom 105 = .ok (.bipush 16, 2) := by decide +kernel
theorem dX6_copyFrom_107 : decode cX6_copyFrom 107 = .ok (.invokestatic 50, 3) := by decide +kernel
theorem dX6_copyFrom_110 : decode cX6_copyFrom 110 = .ok (.return_, 1) := by decide +kernel
theorem dX6_addPlug_0 : decode cX6_addPlug 0 = .ok (.aload_n 0, 1) := by decide +kernel
theorem dX6_addPlug_1 : decode cX6_addPlug 1 = .ok (.getfield 47, 3) := by decide +kernel
theorem dX6_addPlug_4 : decode cX6_addPlug 4 = .ok (.bipush 16, 2) := by decide +kernel
theorem dX6_addPlug_6 : decode cX6_addPlug 6 = .ok (.if_icmp .ge 23, 3) := by decide +kernel
theorem dX6_addPlug_9 : decode cX6_addPlug 9 = .ok (.aload_n 0, 1) := by decide +kernel
theorem dX6_addPlug_10 : decode cX6_addPlug 10 = .ok (.getfield 22, 3) := by decide +kernel
theorem dX6_addPlug_13 : decode cX6_addPlug 13 = .ok (.aload_n 0, 1) := by decide +kernel
theorem dX6_addPlug_14 : decode cX6_addPlug 14 = .ok (.getfield 47, 3) := by decide +kernel
theorem dX6_addPlug_17 : decode cX6_addPlug 17 = .ok (.iload_n 1, 1) := by decide +kernel
theorem dX6_addPlug_18 : decode cX6_addPlug 18 = .ok (.iastore, 1) := by decide +kernel
theorem dX6_addPlug_19 : decode cX6_addPlug 19 = .ok (.aload_n 0, 1) := by decide +kernel
theorem dX6_addPlug_20 : decode cX6_addPlug 20 = .ok (.dup, 1) := by decide +kernel
theorem dX6_addPlug_21 : decode cX6_addPlug 21 = .ok (.getfield 47, 3) := by decide +kernel
theorem dX6_addPlug_24 : decode cX6_addPlug 24 = .ok (.iconst 1, 1) := by decide +kernel
theorem dX6_addPlug_25 : decode cX6_addPlug 25 = .ok (.iadd, 1) := by decide +kernel
theorem dX6_addPlug_26 : decode cX6_addPlug 26 = .ok (.putfield 47, 3) := by decide +kernel
theorem dX6_addPlug_29 : decode cX6_addPlug 29 = .ok (.return_, 1) := by decide +kernel
theorem dX6_addLast_0 : decode cX6_addLast 0 = .ok (.aload_n 0, 1) := by decide +kernel
theorem dX6_addLast_1 : decode cX6_addLast 1 = .ok (.getfield 44, 3) := by decide +kernel
theorem dX6_addLast_4 : decode cX6_addLast 4 = .ok (.bipush 12, 2) := by decide +kernel
theorem dX6_addLast_6 : decode cX6_addLast 6 = .ok (.if_icmp .ge 23, 3) := by decide +kernel
theorem dX6_addLast_9 : decode cX6_addLast 9 = .ok (.aload_n 0, 1) := by decide +kernel
theorem dX6_addLast_10 : decode cX6_addLast 10 = .ok (.getfield 18, 3) := by decide +kernel
theorem dX6_addLast_13 : decode cX6_addLast 13 = .ok (.aload_n 0, 1) := by decide +kernel
theorem dX6_addLast_14 : decode cX6_addLast 14 = .ok (.getfield 44, 3) := by decide +kernel
theorem dX6_addLast_17 : decode cX6_addLast 17 = .ok (.iload_n 1, 1) := by decide +kernel
theorem dX6_addLast_18 : decode cX6_addLast 18 = .ok (.iastore, 1) := by decide +kernel
theorem dX6_addLast_19 : decode cX6_addLast 19 = .ok (.aload_n 0, 1) := by decide +kernel
theorem dX6_addLast_20 : decode cX6_addLast 20 = .ok (.dup, 1) := by decide +kernel
theorem dX6_addLast_21 : decode cX6_addLast 21 = .ok (.getfield 44, 3) := by decide +kernel
theorem dX6_addLast_24 : decode cX6_addLast 24 = .ok (.iconst 1, 1) := by decide +kernel
theorem dX6_addLast_25 : decode cX6_addLast 25 = .ok (.iadd, 1) := by decide +kernel
theorem dX6_addLast_26 : decode cX6_addLast 26 = .ok (.putfield 44, 3) := by decide +kernel
theorem dX6_addLast_29 : decode cX6_addLast 29 = .ok (.return_, 1) := by decide +kernel
theorem dX6_addFirst_0 : decode cX6_addFirst 0 = .ok (.aload_n 0, 1) := by decide +kernel
theorem dX6_addFirst_1 : decode cX6_addFirst 1 = .ok (.getfield 44, 3) := by decide +kernel
theorem dX6_addFirst_4 : decode cX6_addFirst 4 = .ok (.bipush 12, 2) := by decide +kernel
theorem dX6_addFirst_6 : decode cX6_addFirst 6 = .ok (.if_icmp .ge 49, 3) := by decide +kernel
theorem dX6_addFirst_9 : decode cX6_addFirst 9 = .ok (.aload_n 0, 1) := by decide +kernel
theorem dX6_addFirst_10 : decode cX6_addFirst 10 = .ok (.getfield 44, 3) := by decide +kernel
theorem dX6_addFirst_13 : decode cX6_addFirst 13 = .ok (.istore_n 2, 1) := by decide +kernel
theorem dX6_addFirst_14 : decode cX6_addFirst 14 = .ok (.iload_n 2, 1) := by decide +kernel
theorem dX6_addFirst_15 : decode cX6_addFirst 15 = .ok (.ifCond .le 23, 3) := by decide +kernel
theorem dX6_addFirst_18 : decode cX6_addFirst 18 = .ok (.aload_n 0, 1) := by decide +kernel
theorem dX6_addFirst_19 : decode cX6_addFirst 19 = .ok (.getfield 18, 3) := by decide +kernel
theorem dX6_addFirst_22 : decode cX6_addFirst 22 = .ok (.iload_n 2, 1) := by decide +kernel
theorem dX6_addFirst_23 : decode cX6_addFirst 23 = .ok (.aload_n 0, 1) := by decide +kernel
theorem dX6_addFirst_24 : decode cX6_addFirst 24 = .ok (.getfield 18, 3) := by decide +kernel
theorem dX6_addFirst_27 : decode cX6_addFirst 27 = .ok (.iload_n 2, 1) := by decide +kernel
theorem dX6_addFirst_28 : decode cX6_addFirst 28 = .ok (.iconst 1, 1) := by decide +kernel
theorem dX6_addFirst_29 : decode cX6_addFirst 29 = .ok (.isub, 1) := by decide +kernel
theorem dX6_addFirst_30 : decode cX6_addFirst 30 = .ok (.iaload, 1) := by decide +kernel
theorem dX6_addFirst_31 : decode cX6_addFirst 31 = .ok (.iastore, 1) := by decide +kernel
theorem dX6_addFirst_32 : decode cX6_addFirst 32 = .ok (.iinc 2 (-1), 3) := by decide +kernel
theorem dX6_addFirst_35 : decode cX6_addFirst 35 = .ok (.goto (-21), 3) := by decide +kernel
theorem dX6_addFirst_38 : decode cX6_addFirst 38 = .ok (.aload_n 0, 1) := by decide +kernel
theorem dX6_addFirst_39 : decode cX6_addFirst 39 = .ok (.getfield 18, 3) := by decide +kernel
theorem dX6_addFirst_42 : decode cX6_addFirst 42 = .ok (.iconst 0, 1) := by decide +kernel
theorem dX6_addFirst_43 : decode cX6_addFirst 43 = .ok (.iload_n 1, 1) := by decide +kernel
theorem dX6_addFirst_44 : decode cX6_addFirst 44 = .ok (.iastore, 1) := by decide +kernel
theorem dX6_addFirst_45 : decode cX6_addFirst 45 = .ok (.aload_n 0, 1) := by decide +kernel
theorem dX6_addFirst_46 : decode cX6_addFirst 46 = .ok (.dup, 1) := by decide +kernel
theorem dX6_addFirst_47 : decode cX6_addFirst 47 = .ok (.getfield 44, 3) := by decide +kernel
theorem dX6_addFirst_50 : decode cX6_addFirst 50 = .ok (.iconst 1, 1) := by decide +kernel
theorem dX6_addFirst_51 : decode cX6_addFirst 51 = .ok (.iadd, 1) := by decide +kernel
theorem dX6_addFirst_52 : decode cX6_addFirst 52 = .ok (.putfield 44, 3) := by decide +kernel
theorem dX6_addFirst_55 : decode cX6_addFirst 55 = .ok (.return_, 1) := by decide +kernel
theorem dX6_removeAt_0 : decode cX6_removeAt 0 = .ok (.iload_n 1, 1) := by decide +kernel
theorem dX6_removeAt_1 : decode cX6_removeAt 1 = .ok (.ifCond .lt 53, 3) := by decide +kernel
theorem dX6_removeAt_4 : decode cX6_removeAt 4 = .ok (.iload_n 1, 1) := by decide +kernel
theorem dX6_removeAt_5 : decode cX6_removeAt 5 = .ok (.aload_n 0, 1) := by decide +kernel
theorem dX6_removeAt_6 : decode cX6_removeAt 6 = .ok (.getfield 44, 3) := by decide +kernel
theorem dX6_removeAt_9 : decode cX6_removeAt 9 = .ok (.if_icmp .ge 45, 3) := by decide +kernel
theorem dX6_removeAt_12 : decode cX6_removeAt 12 = .ok (.iload_n 1, 1) := by decide +kernel
theorem dX6_removeAt_13 : decode cX6_removeAt 13 = .ok (.istore_n 2, 1) := by decide +kernel
theorem dX6_removeAt_14 : decode cX6_removeAt 14 = .ok (.iload_n 2, 1) := by decide +kernel
theorem dX6_removeAt_15 : decode cX6_removeAt 15 = .ok (.iconst 1, 1) := by decide +kernel
theorem dX6_removeAt_16 : decode cX6_removeAt 16 = .ok (.iadd, 1) := by decide +kernel
theorem dX6_removeAt_17 : decode cX6_removeAt 17 = .ok (.aload_n 0, 1) := by decide +kernel
theorem dX6_removeAt_18 : decode cX6_removeAt 18 = .ok (.getfield 44, 3) := by decide +kernel
theorem dX6_removeAt_21 : decode cX6_removeAt 21 = .ok (.if_icmp .ge 23, 3) := by decide +kernel
theorem dX6_removeAt_24 : decode cX6_removeAt 24 = .ok (.aload_n 0, 1) := by decide +kernel
theorem dX6_removeAt_25 : decode cX6_removeAt 25 = .ok (.getfield 18, 3) := by decide +kernel
theorem dX6_removeAt_28 : decode cX6_removeAt 28 = .ok (.iload_n 2, 1) := by decide +kernel
theorem dX6_removeAt_29 : decode cX6_removeAt 29 = .ok (.aload_n 0, 1) := by decide +kernel
theorem dX6_removeAt_30 : decode cX6_removeAt 30 = .ok (.getfield 18, 3) := by decide +kernel
theorem dX6_removeAt_33 : decode cX6_removeAt 33 = .ok (.iload_n 2, 1) := by decide +kernel
theorem dX6_removeAt_34 : decode cX6_removeAt 34 = .ok (.iconst 1, 1) := by decide +kernel
theorem dX6_removeAt_35 : decode cX6_removeAt 35 = .ok (.iadd, 1) := by decide +kernel
theorem dX6_removeAt_36 : decode cX6_removeAt 36 = .ok (.iaload, 1) := by decide +kernel
theorem dX6_removeAt_37 : decode cX6_removeAt 37 = .ok (.iastore, 1) := by decide +kernel
theorem dX6_removeAt_38 : decode cX6_removeAt 38 = .ok (.iinc 2 1, 3) := by decide +kernel
theorem dX6_removeAt_41 : decode cX6_removeAt 41 = .ok (.goto (-27), 3) := by decide +kernel
theorem dX6_removeAt_44 : decode cX6_removeAt 44 = .ok (.aload_n 0, 1) := by decide +kernel
theorem dX6_removeAt_45 : decode cX6_removeAt 45 = .ok (.dup, 1) := by decide +kernel
theorem dX6_removeAt_46 : decode cX6_removeAt 46 = .ok (.getfield 44, 3) := by decide +kernel
theorem dX6_removeAt_49 : decode cX6_removeAt 49 = .ok (.iconst 1, 1) := by decide +kernel
theorem dX6_removeAt_50 : decode cX6_removeAt 50 = .ok (.isub, 1) := by decide +kernel
theorem dX6_removeAt_51 : decode cX6_removeAt 51 = .ok (.putfield 44, 3) := by decide +kernel
theorem dX6_removeAt_54 : decode cX6_removeAt 54 = .ok (.return_, 1) := by decide +kernel
theorem dX6_placeOf_0 : decode cX6_placeOf 0 = .ok (.iconst 0, 1) := by decide +kernel
theorem dX6_placeOf_1 : decode cX6_placeOf 1 = .ok (.istore_n 2, 1) := by decide +kernel
theorem dX6_placeOf_2 : decode cX6_placeOf 2 = .ok (.iload_n 2, 1) := by decide +kernel
theorem dX6_placeOf_3 : decode cX6_placeOf 3 = .ok (.aload_n 0, 1) := by decide +kernel
theorem dX6_placeOf_4 : decode cX6_placeOf 4 = .ok (.getfield 44, 3) := by decide +kernel
theorem dX6_placeOf_7 : decode cX6_placeOf 7 = .ok (.if_icmp .ge 21, 3) := by decide +kernel
theorem dX6_placeOf_10 : decode cX6_placeOf 10 = .ok (.aload_n 0, 1) := by decide +kernel
theorem dX6_placeOf_11 : decode cX6_placeOf 11 = .ok (.getfield 18, 3) := by decide +kernel
theorem dX6_placeOf_14 : decode cX6_placeOf 14 = .ok (.iload_n 2, 1) := by decide +kernel
theorem dX6_placeOf_15 : decode cX6_placeOf 15 = .ok (.iaload, 1) := by decide +kernel
theorem dX6_placeOf_16 : decode cX6_placeOf 16 = .ok (.iload_n 1, 1) := by decide +kernel
theorem dX6_placeOf_17 : decode cX6_placeOf 17 = .ok (.if_icmp .ne 5, 3) := by decide +kernel
theorem dX6_placeOf_20 : decode cX6_placeOf 20 = .ok (.iload_n 2, 1) := by decide +kernel
theorem dX6_placeOf_21 : decode cX6_placeOf 21 = .ok (.ireturn, 1) := by decide +kernel
theorem dX6_placeOf_22 : decode cX6_placeOf 22 = .ok (.iinc 2 1, 3) := by decide +kernel
theorem dX6_placeOf_25 : decode cX6_placeOf 25 = .ok (.goto (-23), 3) := by decide +kernel
theorem dX6_placeOf_28 : decode cX6_placeOf 28 = .ok (.bipush (-3), 2) := by decide +kernel
theorem dX6_placeOf_30 : decode cX6_placeOf 30 = .ok (.ireturn, 1) := by decide +kernel
theorem dX7_init_0 : decode cX7_init 0 = .ok (.aload_n 0, 1) := by decide +kernel
theorem dX7_init_1 : decode cX7_init 1 = .ok (.invokespecial 3, 3) := by decide +kernel
theorem dX7_init_4 : decode cX7_init 4 = .ok (.aload_n 0, 1) := by decide +kernel
theorem dX7_init_5 : decode cX7_init 5 = .ok (.bipush 16, 2) := by decide +kernel
theorem dX7_init_7 : decode cX7_init 7 = .ok (.newarray .int, 2) := by decide +kernel
theorem dX7_init_9 : decode cX7_init 9 = .ok (.putfield 9, 3) := by decide +kernel
theorem dX7_init_12 : decode cX7_init 12 = .ok (.aload_n 0, 1) := by decide +kernel
theorem dX7_init_13 : decode cX7_init 13 = .ok (.bipush 16, 2) := by decide +kernel
theorem dX7_init_15 : decode cX7_init 15 = .ok (.newarray .int, 2) := by decide +kernel
theorem dX7_init_17 : decode cX7_init 17 = .ok (.putfield 15, 3) := by decide +kernel
theorem dX7_init_20 : decode cX7_init 20 = .ok (.return_, 1) := by decide +kernel
theorem dX7_goOneTick_0 : decode cX7_goOneTick 0 = .ok (.iconst 0, 1) := by decide +kernel
theorem dX7_goOneTick_1 : decode cX7_goOneTick 1 = .ok (.istore_n 2, 1) := by decide +kernel
theorem dX7_goOneTick_2 : decode cX7_goOneTick 2 = .ok (.iload_n 2, 1) := by decide +kernel
theorem dX7_goOneTick_3 : decode cX7_goOneTick 3 = .ok (.aload_n 1, 1) := by decide +kernel
theorem dX7_goOneTick_4 : decode cX7_goOneTick 4 = .ok (.getfield 18, 3) := by decide +kernel
theorem dX7_goOneTick_7 : decode cX7_goOneTick 7 = .ok (.if_icmp .ge 113, 3) := by decide +kernel
theorem dX7_goOneTick_10 : decode cX7_goOneTick 10 = .ok (.aload_n 1, 1) := by decide +kernel
theorem dX7_goOneTick_11 : decode cX7_goOneTick 11 = .ok (.getfield 24, 3) := by decide +kernel
theorem dX7_goOneTick_14 : decode cX7_goOneTick 14 = .ok (.iload_n 2, 1) := by decide +kernel
theorem dX7_goOneTick_15 : decode cX7_goOneTick 15 = .ok (.aaload, 1) := by decide +kernel
theorem dX7_goOneTick_16 : decode cX7_goOneTick 16 = .ok (.astore_n 3, 1) := by decide +kernel
theorem dX7_goOneTick_17 : decode cX7_goOneTick 17 = .ok (.aload_n 1, 1) := by decide +kernel
theorem dX7_goOneTick_18 : decode cX7_goOneTick 18 = .ok (.aload_n 3, 1) := by decide +kernel
theorem dX7_goOneTick_19 : decode cX7_goOneTick 19 = .ok (.invokestatic 28, 3) := by decide +kernel
theorem dX7_goOneTick_22 : decode cX7_goOneTick 22 = .ok (.aload_n 1, 1) := by decide +kernel
theorem dX7_goOneTick_23 : decode cX7_goOneTick 23 = .ok (.aload_n 3, 1) := by decide +kernel
theorem dX7_goOneTick_24 : decode cX7_goOneTick 24 = .ok (.invokestatic 32, 3) := by decide +kernel
theorem dX7_goOneTick_27 : decode cX7_goOneTick 27 = .ok (.aload_n 1, 1) := by decide +kernel
theorem dX7_goOneTick_28 : decode cX7_goOneTick 28 = .ok (.aload_n 3, 1) := by decide +kernel
theorem dX7_goOneTick_29 : decode cX7_goOneTick 29 = .ok (.invokestatic 35, 3) := by decide +kernel
theorem dX7_goOneTick_32 : decode cX7_goOneTick 32 = .ok (.aload_n 0, 1) := by decide +kernel
theorem dX7_goOneTick_33 : decode cX7_goOneTick 33 = .ok (.aload_n 1, 1) := by decide +kernel
theorem dX7_goOneTick_34 : decode cX7_goOneTick 34 = .ok (.aload_n 3, 1) := by decide +kernel
theorem dX7_goOneTick_35 : decode cX7_goOneTick 35 = .ok (.invokevirtual 38, 3) := by decide +kernel
theorem dX7_goOneTick_38 : decode cX7_goOneTick 38 = .ok (.istore 4, 2) := by decide +kernel
theorem dX7_goOneTick_40 : decode cX7_goOneTick 40 = .ok (.aload_n 3, 1) := by decide +kernel
theorem dX7_goOneTick_41 : decode cX7_goOneTick 41 = .ok (.getfield 42, 3) := by decide +kernel
theorem dX7_goOneTick_44 : decode cX7_goOneTick 44 = .ok (.ifCond .eq 12, 3) := by decide +kernel
theorem dX7_goOneTick_47 : decode cX7_goOneTick 47 = .ok (.aload_n 0, 1) := by decide +kernel
theorem dX7_goOneTick_48 : decode cX7_goOneTick 48 = .ok (.aload_n 1, 1) := by decide +kernel
theorem dX7_goOneTick_49 : decode cX7_goOneTick 49 = .ok (.aload_n 3, 1) := by decide +kernel
theorem dX7_goOneTick_50 : decode cX7_goOneTick 50 = .ok (.invokevirtual 48, 3) := by decide +kernel
theorem dX7_goOneTick_53 : decode cX7_goOneTick 53 = .ok (.goto 10, 3) := by decide +kernel
theorem dX7_goOneTick_56 : decode cX7_goOneTick 56 = .ok (.aload_n 0, 1) := by decide +kernel
theorem dX7_goOneTick_57 : decode cX7_goOneTick 57 = .ok (.aload_n 3, 1) := by decide +kernel
theorem dX7_goOneTick_58 : decode cX7_goOneTick 58 = .ok (.iload 4, 2) := by decide +kernel
theorem dX7_goOneTick_60 : decode cX7_goOneTick 60 = .ok (.invokevirtual 51, 3) := by decide +kernel
theorem dX7_goOneTick_63 : decode cX7_goOneTick 63 = .ok (.aload_n 0, 1) := by decide +kernel
theorem dX7_goOneTick_64 : decode cX7_goOneTick 64 = .ok (.aload_n 1, 1) := by decide +kernel
theorem dX7_goOneTick_65 : decode cX7_goOneTick 65 = .ok (.aload_n 3, 1) := by decide +kernel
theorem dX7_goOneTick_66 : decode cX7_goOneTick 66 = .ok (.invokevirtual 55, 3) := by decide +kernel
theorem dX7_goOneTick_69 : decode cX7_goOneTick 69 = .ok (.aload_n 0, 1) := by decide +kernel
theorem dX7_goOneTick_70 : decode cX7_goOneTick 70 = .ok (.aload_n 1, 1) := by decide +kernel
theorem dX7_goOneTick_71 : decode cX7_goOneTick 71 = .ok (.aload_n 3, 1) := by decide +kernel
theorem dX7_goOneTick_72 : decode cX7_goOneTick 72 = .ok (.invokevirtual 58, 3) := by decide +kernel
theorem dX7_goOneTick_75 : decode cX7_goOneTick 75 = .ok (.iconst 0, 1) := by decide +kernel
theorem dX7_goOneTick_76 : decode cX7_goOneTick 76 = .ok (.istore 5, 2) := by decide +kernel
theorem dX7_goOneTick_78 : decode cX7_goOneTick 78 = .ok (.iload 5, 2) := by decide +kernel
theorem dX7_goOneTick_80 : decode cX7_goOneTick 80 = .ok (.aload_n 3, 1) := by decide +kernel
theorem dX7_goOneTick_81 : decode cX7_goOneTick 81 = .ok (.getfield 61, 3) := by decide +kernel
theorem dX7_goOneTick_84 : decode cX7_goOneTick 84 = .ok (.if_icmp .ge 30, 3) := by decide +kernel
theorem dX7_goOneTick_87 : decode cX7_goOneTick 87 = .ok (.aload_n 1, 1) := by decide +kernel
theorem dX7_goOneTick_88 : decode cX7_goOneTick 88 = .ok (.getfield 64, 3) := by decide +kernel
theorem dX7_goOneTick_91 : decode cX7_goOneTick 91 = .ok (.aload_n 3, 1) := by decide +kernel
theorem dX7_goOneTick_92 : decode cX7_goOneTick 92 = .ok (.getfield 68, 3) := by decide +kernel
theorem dX7_goOneTick_95 : decode cX7_goOneTick 95 = .ok (.iload 5, 2) := by decide +kernel
theorem dX7_goOneTick_97 : decode cX7_goOneTick 97 = .ok (.iaload, 1) := by decide +kernel
theorem dX7_goOneTick_98 : decode cX7_goOneTick 98 = .ok (.aaload, 1) := by decide +kernel
theorem dX7_goOneTick_99 : decode cX7_goOneTick 99 = .ok (.dup, 1) := by decide +kernel
theorem dX7_goOneTick_100 : decode cX7_goOneTick 100 = .ok (.getfield 71, 3) := by decide +kernel
theorem dX7_goOneTick_103 : decode cX7_goOneTick 103 = .ok (.iconst 1, 1) := by decide +kernel
theorem dX7_goOneTick_104 : decode cX7_goOneTick 104 = .ok (.iadd, 1) := by decide +kernel
theorem dX7_goOneTick_105 : decode cX7_goOneTick 105 = .ok (.putfield 71, 3) := by decide +kernel
theorem dX7_goOneTick_108 : decode cX7_goOneTick 108 = .ok (.iinc 5 1, 3) := by decide +kernel
theorem dX7_goOneTick_111 : decode cX7_goOneTick 111 = .ok (.goto (-33), 3) := by decide +kernel
theorem dX7_goOneTick_114 : decode cX7_goOneTick 114 = .ok (.iinc 2 1, 3) := by decide +kernel
theorem dX7_goOneTick_117 : decode cX7_goOneTick 117 = .ok (.goto (-115), 3) := by decide +kernel
theorem dX7_goOneTick_120 : decode cX7_goOneTick 120 = .ok (.aload_n 1, 1) := by decide +kernel
theorem dX7_goOneTick_121 : decode cX7_goOneTick 121 = .ok (.dup, 1) := by decide +kernel
theorem dX7_goOneTick_122 : decode cX7_goOneTick 122 = .ok (.getfield 76, 3) := by decide +kernel
theorem dX7_goOneTick_125 : decode cX7_goOneTick 125 = .ok (.iconst 1, 1) := by decide +kernel
theorem dX7_goOneTick_126 : decode cX7_goOneTick 126 = .ok (.iadd, 1) := by decide +kernel
theorem dX7_goOneTick_127 : decode cX7_goOneTick 127 = .ok (.putfield 76, 3) := by decide +kernel
theorem dX7_goOneTick_130 : decode cX7_goOneTick 130 = .ok (.return_, 1) := by decide +kernel
theorem dX7_fillFreePlugs_0 : decode cX7_fillFreePlugs 0 = .ok (.iconst 0, 1) := by decide +kernel
theorem dX7_fillFreePlugs_1 : decode cX7_fillFreePlugs 1 = .ok (.istore_n 2, 1) := by decide +kernel
theorem dX7_fillFreePlugs_2 : decode cX7_fillFreePlugs 2 = .ok (.iload_n 2, 1) := by decide +kernel
theorem dX7_fillFreePlugs_3 : decode cX7_fillFreePlugs 3 = .ok (.aload_n 1, 1) := by decide +kernel
theorem dX7_fillFreePlugs_4 : decode cX7_fillFreePlugs 4 = .ok (.getfield 79, 3) := by decide +kernel
theorem dX7_fillFreePlugs_7 : decode cX7_fillFreePlugs 7 = .ok (.if_icmp .ge 35, 3) := by decide +kernel
theorem dX7_fillFreePlugs_10 : decode cX7_fillFreePlugs 10 = .ok (.aload_n 1, 1) := by decide +kernel
theorem dX7_fillFreePlugs_11 : decode cX7_fillFreePlugs 11 = .ok (.getfield 82, 3) := by decide +kernel
theorem dX7_fillFreePlugs_14 : decode cX7_fillFreePlugs 14 = .ok (.iload_n 2, 1) := by decide +kernel
theorem dX7_fillFreePlugs_15 : decode cX7_fillFreePlugs 15 = .ok (.iaload, 1) := by decide +kernel
theorem dX7_fillFreePlugs_16 : decode cX7_fillFreePlugs 16 = .ok (.istore_n 3, 1) := by decide +kernel
theorem dX7_fillFreePlugs_17 : decode cX7_fillFreePlugs 17 = .ok (.aload_n 0, 1) := by decide +kernel
theorem dX7_fillFreePlugs_18 : decode cX7_fillFreePlugs 18 = .ok (.getfield 85, 3) := by decide +kernel
theorem dX7_fillFreePlugs_21 : decode cX7_fillFreePlugs 21 = .ok (.iload_n 3, 1) := by decide +kernel
theorem dX7_fillFreePlugs_22 : decode cX7_fillFreePlugs 22 = .ok (.aaload, 1) := by decide +kernel
theorem dX7_fillFreePlugs_23 : decode cX7_fillFreePlugs 23 = .ok (.getfield 88, 3) := by decide +kernel
theorem dX7_fillFreePlugs_26 : decode cX7_fillFreePlugs 26 = .ok (.iconst (-1), 1) := by decide +kernel
theorem dX7_fillFreePlugs_27 : decode cX7_fillFreePlugs 27 = .ok (.if_icmp .ne 9, 3) := by decide +kernel
theorem dX7_fillFreePlugs_30 : decode cX7_fillFreePlugs 30 = .ok (.aload_n 0, 1) := by decide +kernel
theorem dX7_fillFreePlugs_31 : decode cX7_fillFreePlugs 31 = .ok (.aload_n 1, 1) := by decide +kernel
theorem dX7_fillFreePlugs_32 : decode cX7_fillFreePlugs 32 = .ok (.iload_n 3, 1) := by decide +kernel
theorem dX7_fillFreePlugs_33 : decode cX7_fillFreePlugs 33 = .ok (.invokestatic 93, 3) := by decide +kernel
theorem dX7_fillFreePlugs_36 : decode cX7_fillFreePlugs 36 = .ok (.iinc 2 1, 3) := by decide +kernel
theorem dX7_fillFreePlugs_39 : decode cX7_fillFreePlugs 39 = .ok (.goto (-37), 3) := by decide +kernel
theorem dX7_fillFreePlugs_42 : decode cX7_fillFreePlugs 42 = .ok (.return_, 1) := by decide +kernel
theorem dX7_takeFromQueue_0 : decode cX7_takeFromQueue 0 = .ok (.iconst 0, 1) := by decide +kernel
theorem dX7_takeFromQueue_1 : decode cX7_takeFromQueue 1 = .ok (.istore_n 3, 1) := by decide +kernel
theorem dX7_takeFromQueue_2 : decode cX7_takeFromQueue 2 = .ok (.iload_n 3, 1) := by decide +kernel
theorem dX7_takeFromQueue_3 : decode cX7_takeFromQueue 3 = .ok (.aload_n 1, 1) := by decide +kernel
theorem dX7_takeFromQueue_4 : decode cX7_takeFromQueue 4 = .ok (.getfield 61, 3) := by decide +kernel
theorem dX7_takeFromQueue_7 : decode cX7_takeFromQueue 7 = .ok (.if_icmp .ge 104, 3) := by decide +kernel
theorem dX7_takeFromQueue_10 : decode cX7_takeFromQueue 10 = .ok (.aload_n 1, 1) := by decide +kernel
theorem dX7_takeFromQueue_11 : decode cX7_takeFromQueue 11 = .ok (.getfield 68, 3) := by decide +kernel
theorem dX7_takeFromQueue_14 : decode cX7_takeFromQueue 14 = .ok (.iload_n 3, 1) := by decide +kernel
theorem dX7_takeFromQueue_15 : decode cX7_takeFromQueue 15 = .ok (.iaload, 1) := by decide +kernel
theorem dX7_takeFromQueue_16 : decode cX7_takeFromQueue 16 = .ok (.istore 4, 2) := by decide +kernel
theorem dX7_takeFromQueue_18 : decode cX7_takeFromQueue 18 = .ok (.aload_n 0, 1) := by decide +kernel
theorem dX7_takeFromQueue_19 : decode cX7_takeFromQueue 19 = .ok (.getfield 64, 3) := by decide +kernel
theorem dX7_takeFromQueue_22 : decode cX7_takeFromQueue 22 = .ok (.iload 4, 2) := by decide +kernel
theorem dX7_takeFromQueue_24 : decode cX7_takeFromQueue 24 = .ok (.aaload, 1) := by decide +kernel
theorem dX7_takeFromQueue_25 : decode cX7_takeFromQueue 25 = .ok (.astore 5, 2) := by decide +kernel
theorem dX7_takeFromQueue_27 : decode cX7_takeFromQueue 27 = .ok (.aload 5, 2) := by decide +kernel
theorem dX7_takeFromQueue_29 : decode cX7_takeFromQueue 29 = .ok (.getfield 97, 3) := by decide +kernel
theorem dX7_takeFromQueue_32 : decode cX7_takeFromQueue 32 = .ok (.aload_n 0, 1) := by decide +kernel
theorem dX7_takeFromQueue_33 : decode cX7_takeFromQueue 33 = .ok (.getfield 85, 3) := by decide +kernel
theorem dX7_takeFromQueue_36 : decode cX7_takeFromQueue 36 = .ok (.iload_n 2, 1) := by decide +kernel
theorem dX7_takeFromQueue_37 : decode cX7_takeFromQueue 37 = .ok (.aaload, 1) := by decide +kernel
theorem dX7_takeFromQueue_38 : decode cX7_takeFromQueue 38 = .ok (.getfield 100, 3) := by decide +kernel
theorem dX7_takeFromQueue_41 : decode cX7_takeFromQueue 41 = .ok (.if_icmp .ne 64, 3) := by decide +kernel
theorem dX7_takeFromQueue_44 : decode cX7_takeFromQueue 44 = .ok (.aload 5, 2) := by decide +kernel
theorem dX7_takeFromQueue_46 : decode cX7_takeFromQueue 46 = .ok (.getfield 101, 3) := by decide +kernel
theorem dX7_takeFromQueue_49 : decode cX7_takeFromQueue 49 = .ok (.iload_n 2, 1) := by decide +kernel
theorem dX7_takeFromQueue_50 : decode cX7_takeFromQueue 50 = .ok (.ishr, 1) := by decide +kernel
theorem dX7_takeFromQueue_51 : decode cX7_takeFromQueue 51 = .ok (.iconst 1, 1) := by decide +kernel
theorem dX7_takeFromQueue_52 : decode cX7_takeFromQueue 52 = .ok (.iand, 1) := by decide +kernel
theorem dX7_takeFromQueue_53 : decode cX7_takeFromQueue 53 = .ok (.ifCond .ne 52, 3) := by decide +kernel
theorem dX7_takeFromQueue_56 : decode cX7_takeFromQueue 56 = .ok (.aload_n 1, 1) := by decide +kernel
theorem dX7_takeFromQueue_57 : decode cX7_takeFromQueue 57 = .ok (.iload_n 3, 1) := by decide +kernel
theorem dX7_takeFromQueue_58 : decode cX7_takeFromQueue 58 = .ok (.invokevirtual 104, 3) := by decide +kernel
theorem dX7_takeFromQueue_61 : decode cX7_takeFromQueue 61 = .ok (.aload_n 0, 1) := by decide +kernel
theorem dX7_takeFromQueue_62 : decode cX7_takeFromQueue 62 = .ok (.getfield 85, 3) := by decide +kernel
theorem dX7_takeFromQueue_65 : decode cX7_takeFromQueue 65 = .ok (.iload_n 2, 1) := by decide +kernel
theorem dX7_takeFromQueue_66 : decode cX7_takeFromQueue 66 = .ok (.aaload, 1) := by decide +kernel
theorem dX7_takeFromQueue_67 : decode cX7_takeFromQueue 67 = .ok (.iload 4, 2) := by decide +kernel
theorem dX7_takeFromQueue_69 : decode cX7_takeFromQueue 69 = .ok (.putfield 88, 3) := by decide +kernel
theorem dX7_takeFromQueue_72 : decode cX7_takeFromQueue 72 = .ok (.aload 5, 2) := by decide +kernel
theorem dX7_takeFromQueue_74 : decode cX7_takeFromQueue 74 = .ok (.sipush 200, 3) := by decide +kernel
theorem dX7_takeFromQueue_77 : decode cX7_takeFromQueue 77 = .ok (.iload_n 2, 1) := by decide +kernel
theorem dX7_takeFromQueue_78 : decode cX7_takeFromQueue 78 = .ok (.iadd, 1) := by decide +kernel
theorem dX7_takeFromQueue_79 : decode cX7_takeFromQueue 79 = .ok (.putfield 108, 3) := by decide +kernel
theorem dX7_takeFromQueue_82 : decode cX7_takeFromQueue 82 = .ok (.aload 5, 2) := by decide +kernel
theorem dX7_takeFromQueue_84 : decode cX7_takeFromQueue 84 = .ok (.dup, 1) := by decide +kernel
theorem dX7_takeFromQueue_85 : decode cX7_takeFromQueue 85 = .ok (.getfield 101, 3) := by decide +kernel
theorem dX7_takeFromQueue_88 : decode cX7_takeFromQueue 88 = .ok (.iconst 1, 1) := by decide +kernel
theorem dX7_takeFromQueue_89 : decode cX7_takeFromQueue 89 = .ok (.iload_n 2, 1) := by decide +kernel
theorem dX7_takeFromQueue_90 : decode cX7_takeFromQueue 90 = .ok (.ishl, 1) := by decide +kernel
theorem dX7_takeFromQueue_91 : decode cX7_takeFromQueue 91 = .ok (.ior, 1) := by decide +kernel
theorem dX7_takeFromQueue_92 : decode cX7_takeFromQueue 92 = .ok (.putfield 101, 3) := by decide +kernel
theorem dX7_takeFromQueue_95 : decode cX7_takeFromQueue 95 = .ok (.aload 5, 2) := by decide +kernel
theorem dX7_takeFromQueue_97 : decode cX7_takeFromQueue 97 = .ok (.aload_n 0, 1) := by decide +kernel
theorem dX7_takeFromQueue_98 : decode cX7_takeFromQueue 98 = .ok (.getfield 76, 3) := by decide +kernel
theorem dX7_takeFromQueue_101 : decode cX7_takeFromQueue 101 = .ok (.putfield 111, 3) := by decide +kernel
theorem dX7_takeFromQueue_104 : decode cX7_takeFromQueue 104 = .ok (.return_, 1) := by decide +kernel
theorem dX7_takeFromQueue_105 : decode cX7_takeFromQueue 105 = .ok (.iinc 3 1, 3) := by decide +kernel
theorem dX7_takeFromQueue_108 : decode cX7_takeFromQueue 108 = .ok (.goto (-106), 3) := by decide +kernel
theorem dX7_takeFromQueue_111 : decode cX7_takeFromQueue 111 = .ok (.return_, 1) := by decide +kernel
theorem dX7_turnBackFromFailing_0 : decode cX7_turnBackFromFailing 0 = .ok (.iconst 0, 1) := by decide +kernel
theorem dX7_turnBackFromFailing_1 : decode cX7_turnBackFromFailing 1 = .ok (.istore_n 2, 1) := by decide +kernel
theorem dX7_turnBackFromFailing_2 : decode cX7_turnBackFromFailing 2 = .ok (.iload_n 2, 1) := by decide +kernel
theorem dX7_turnBackFromFailing_3 : decode cX7_turnBackFromFailing 3 = .ok (.aload_n 1, 1) := by decide +kernel
theorem dX7_turnBackFromFailing_4 : decode cX7_turnBackFromFailing 4 = .ok (.getfield 79, 3) := by decide +kernel
theorem dX7_turnBackFromFailing_7 : decode cX7_turnBackFromFailing 7 = .ok (.if_icmp .ge 90, 3) := by decide +kernel
theorem dX7_turnBackFromFailing_10 : decode cX7_turnBackFromFailing 10 = .ok (.aload_n 1, 1) := by decide +kernel
theorem dX7_turnBackFromFailing_11 : decode cX7_turnBackFromFailing 11 = .ok (.getfield 82, 3) := by decide +kernel
theorem dX7_turnBackFromFailing_14 : decode cX7_turnBackFromFailing 14 = .ok (.iload_n 2, 1) := by decide +kernel
theorem dX7_turnBackFromFailing_15 : decode cX7_turnBackFromFailing 15 = .ok (.iaload, 1) := by decide +kernel
theorem dX7_turnBackFromFailing_16 : decode cX7_turnBackFromFailing 16 = .ok (.istore_n 3, 1) := by decide +kernel
theorem dX7_turnBackFromFailing_17 : decode cX7_turnBackFromFailing 17 = .ok (.aload_n 0, 1) := by decide +kernel
theorem dX7_turnBackFromFailing_18 : decode cX7_turnBackFromFailing 18 = .ok (.getfield 85, 3) := by decide +kernel
theorem dX7_turnBackFromFailing_21 : decode cX7_turnBackFromFailing 21 = .ok (.iload_n 3, 1) := by decide +kernel
theorem dX7_turnBackFromFailing_22 : decode cX7_turnBackFromFailing 22 = .ok (.aaload, 1) := by decide +kernel
theorem dX7_turnBackFromFailing_23 : decode cX7_turnBackFromFailing 23 = .ok (.astore 4, 2) := by decide +kernel
theorem dX7_turnBackFromFailing_25 : decode cX7_turnBackFromFailing 25 = .ok (.aload 4, 2) := by decide +kernel
theorem dX7_turnBackFromFailing_27 : decode cX7_turnBackFromFailing 27 = .ok (.getfield 88, 3) := by decide +kernel
theorem dX7_turnBackFromFailing_30 : decode cX7_turnBackFromFailing 30 = .ok (.istore 5, 2) := by decide +kernel
theorem dX7_turnBackFromFailing_32 : decode cX7_turnBackFromFailing 32 = .ok (.iload 5, 2) := by decide +kernel
theorem dX7_turnBackFromFailing_34 : decode cX7_turnBackFromFailing 34 = .ok (.iconst (-1), 1) := by decide +kernel
theorem dX7_turnBackFromFailing_35 : decode cX7_turnBackFromFailing 35 = .ok (.if_icmp .eq 56, 3) := by decide +kernel
theorem dX7_turnBackFromFailing_38 : decode cX7_turnBackFromFailing 38 = .ok (.aload 4, 2) := by decide +kernel
theorem dX7_turnBackFromFailing_40 : decode cX7_turnBackFromFailing 40 = .ok (.getfield 114, 3) := by decide +kernel
theorem dX7_turnBackFromFailing_43 : decode cX7_turnBackFromFailing 43 = .ok (.ifCond .eq 48, 3) := by decide +kernel
theorem dX7_turnBackFromFailing_46 : decode cX7_turnBackFromFailing 46 = .ok (.aload_n 0, 1) := by decide +kernel
theorem dX7_turnBackFromFailing_47 : decode cX7_turnBackFromFailing 47 = .ok (.getfield 117, 3) := by decide +kernel
theorem dX7_turnBackFromFailing_50 : decode cX7_turnBackFromFailing 50 = .ok (.iload_n 3, 1) := by decide +kernel
theorem dX7_turnBackFromFailing_51 : decode cX7_turnBackFromFailing 51 = .ok (.iload 5, 2) := by decide +kernel
theorem dX7_turnBackFromFailing_53 : decode cX7_turnBackFromFailing 53 = .ok (.aload_n 0, 1) := by decide +kernel
theorem dX7_turnBackFromFailing_54 : decode cX7_turnBackFromFailing 54 = .ok (.getfield 76, 3) := by decide +kernel
theorem dX7_turnBackFromFailing_57 : decode cX7_turnBackFromFailing 57 = .ok (.iconst 1, 1) := by decide +kernel
theorem dX7_turnBackFromFailing_58 : decode cX7_turnBackFromFailing 58 = .ok (.invokevirtual 121, 3) := by decide +kernel
theorem dX7_turnBackFromFailing_61 : decode cX7_turnBackFromFailing 61 = .ok (.aload 4, 2) := by decide +kernel
theorem dX7_turnBackFromFailing_63 : decode cX7_turnBackFromFailing 63 = .ok (.iconst (-1), 1) := by decide +kernel
theorem dX7_turnBackFromFailing_64 : decode cX7_turnBackFromFailing 64 = .ok (.putfield 88, 3) := by decide +kernel
theorem dX7_turnBackFromFailing_67 : decode cX7_turnBackFromFailing 67 = .ok (.aload_n 0, 1) := by decide +kernel
theorem dX7_turnBackFromFailing_68 : decode cX7_turnBackFromFailing 68 = .ok (.getfield 64, 3) := by decide +kernel
theorem dX7_turnBackFromFailing_71 : decode cX7_turnBackFromFailing 71 = .ok (.iload 5, 2) := by decide +kernel
theorem dX7_turnBackFromFailing_73 : decode cX7_turnBackFromFailing 73 = .ok (.aaload, 1) := by decide +kernel
theorem dX7_turnBackFromFailing_74 : decode cX7_turnBackFromFailing 74 = .ok (.bipush 100, 2) := by decide +kernel
theorem dX7_turnBackFromFailing_76 : decode cX7_turnBackFromFailing 76 = .ok (.aload 4, 2) := by decide +kernel
theorem dX7_turnBackFromFailing_78 : decode cX7_turnBackFromFailing 78 = .ok (.getfield 127, 3) := by decide +kernel
theorem dX7_turnBackFromFailing_81 : decode cX7_turnBackFromFailing 81 = .ok (.iadd, 1) := by decide +kernel
theorem dX7_turnBackFromFailing_82 : decode cX7_turnBackFromFailing 82 = .ok (.putfield 108, 3) := by decide +kernel
theorem dX7_turnBackFromFailing_85 : decode cX7_turnBackFromFailing 85 = .ok (.aload_n 1, 1) := by decide +kernel
theorem dX7_turnBackFromFailing_86 : decode cX7_turnBackFromFailing 86 = .ok (.iload 5, 2) := by decide +kernel
theorem dX7_turnBackFromFailing_88 : decode cX7_turnBackFromFailing 88 = .ok (.invokevirtual 130, 3) := by decide +kernel
theorem dX7_turnBackFromFailing_91 : decode cX7_turnBackFromFailing 91 = .ok (.iinc 2 1, 3) := by decide +kernel
theorem dX7_turnBackFromFailing_94 : decode cX7_turnBackFromFailing 94 = .ok (.goto (-92), 3) := by decide +kernel
theorem dX7_turnBackFromFailing_97 : decode cX7_turnBackFromFailing 97 = .ok (.return_, 1) := by decide +kernel
theorem dX7_noteTriesThatWentWell_0 : decode cX7_noteTriesThatWentWell 0 = .ok (.iconst 0, 1) := by decide +kernel
theorem dX7_noteTriesThatWentWell_1 : decode cX7_noteTriesThatWentWell 1 = .ok (.istore_n 2, 1) := by decide +kernel
theorem dX7_noteTriesThatWentWell_2 : decode cX7_noteTriesThatWentWell 2 = .ok (.iload_n 2, 1) := by decide +kernel
theorem dX7_noteTriesThatWentWell_3 : decode cX7_noteTriesThatWentWell 3 = .ok (.aload_n 1, 1) := by decide +kernel
theorem dX7_noteTriesThatWentWell_4 : decode cX7_noteTriesThatWentWell 4 = .ok (.getfield 79, 3) := by decide +kernel
theorem dX7_noteTriesThatWentWell_7 : decode cX7_noteTriesThatWentWell 7 = .ok (.if_icmp .ge 65, 3) := by decide +kernel
theorem dX7_noteTriesThatWentWell_10 : decode cX7_noteTriesThatWentWell 10 = .ok (.aload_n 1, 1) := by decide +kernel
theorem dX7_noteTriesThatWentWell_11 : decode cX7_noteTriesThatWentWell 11 = .ok (.getfield 82, 3) := by decide +kernel
theorem dX7_noteTriesThatWentWell_14 : decode cX7_noteTriesThatWentWell 14 = .ok (.iload_n 2, 1) := by decide +kernel
theorem dX7_noteTriesThatWentWell_15 : decode cX7_noteTriesThatWentWell 15 = .ok (.iaload, 1) := by decide +kernel
theorem dX7_noteTriesThatWentWell_16 : decode cX7_noteTriesThatWentWell 16 = .ok (.istore_n 3, 1) := by decide +kernel
theorem dX7_noteTriesThatWentWell_17 : decode cX7_noteTriesThatWentWell 17 = .ok (.aload_n 0, 1) := by decide +kernel
theorem dX7_noteTriesThatWentWell_18 : decode cX7_noteTriesThatWentWell 18 = .ok (.getfield 85, 3) := by decide +kernel
theorem dX7_noteTriesThatWentWell_21 : decode cX7_noteTriesThatWentWell 21 = .ok (.iload_n 3, 1) := by decide +kernel
theorem dX7_noteTriesThatWentWell_22 : decode cX7_noteTriesThatWentWell 22 = .ok (.aaload, 1) := by decide +kernel
theorem dX7_noteTriesThatWentWell_23 : decode cX7_noteTriesThatWentWell 23 = .ok (.getfield 88, 3) := by decide +kernel
theorem dX7_noteTriesThatWentWell_26 : decode cX7_noteTriesThatWentWell 26 = .ok (.istore 4, 2) := by decide +kernel
theorem dX7_noteTriesThatWentWell_28 : decode cX7_noteTriesThatWentWell 28 = .ok (.iload 4, 2) := by decide +kernel
theorem dX7_noteTriesThatWentWell_30 : decode cX7_noteTriesThatWentWell 30 = .ok (.iconst (-1), 1) := by decide +kernel
theorem dX7_noteTriesThatWentWell_31 : decode cX7_noteTriesThatWentWell 31 = .ok (.if_icmp .eq 35, 3) := by decide +kernel
theorem dX7_noteTriesThatWentWell_34 : decode cX7_noteTriesThatWentWell 34 = .ok (.aload_n 0, 1) := by decide +kernel
theorem dX7_noteTriesThatWentWell_35 : decode cX7_noteTriesThatWentWell 35 = .ok (.getfield 64, 3) := by decide +kernel
theorem dX7_noteTriesThatWentWell_38 : decode cX7_noteTriesThatWentWell 38 = .ok (.iload 4, 2) := by decide +kernel
theorem dX7_noteTriesThatWentWell_40 : decode cX7_noteTriesThatWentWell 40 = .ok (.aaload, 1) := by decide +kernel
theorem dX7_noteTriesThatWentWell_41 : decode cX7_noteTriesThatWentWell 41 = .ok (.getfield 111, 3) := by decide +kernel
theorem dX7_noteTriesThatWentWell_44 : decode cX7_noteTriesThatWentWell 44 = .ok (.aload_n 0, 1) := by decide +kernel
theorem dX7_noteTriesThatWentWell_45 : decode cX7_noteTriesThatWentWell 45 = .ok (.getfield 76, 3) := by decide +kernel
theorem dX7_noteTriesThatWentWell_48 : decode cX7_noteTriesThatWentWell 48 = .ok (.if_icmp .ne 18, 3) := by decide +kernel
theorem dX7_noteTriesThatWentWell_51 : decode cX7_noteTriesThatWentWell 51 = .ok (.aload_n 0, 1) := by decide +kernel
theorem dX7_noteTriesThatWentWell_52 : decode cX7_noteTriesThatWentWell 52 = .ok (.getfield 117, 3) := by decide +kernel
theorem dX7_noteTriesThatWentWell_55 : decode cX7_noteTriesThatWentWell 55 = .ok (.iload_n 3, 1) := by decide +kernel
theorem dX7_noteTriesThatWentWell_56 : decode cX7_noteTriesThatWentWell 56 = .ok (.iload 4, 2) := by decide +kernel
theorem dX7_noteTriesThatWentWell_58 : decode cX7_noteTriesThatWentWell 58 = .ok (.aload_n 0, 1) := by decide +kernel
theorem dX7_noteTriesThatWentWell_59 : decode cX7_noteTriesThatWentWell 59 = .ok (.getfield 76, 3) := by decide +kernel
theorem dX7_noteTriesThatWentWell_62 : decode cX7_noteTriesThatWentWell 62 = .ok (.iconst 0, 1) := by decide +kernel
theorem dX7_noteTriesThatWentWell_63 : decode cX7_noteTriesThatWentWell 63 = .ok (.invokevirtual 121, 3) := by decide +kernel
theorem dX7_noteTriesThatWentWell_66 : decode cX7_noteTriesThatWentWell 66 = .ok (.iinc 2 1, 3) := by decide +kernel
theorem dX7_noteTriesThatWentWell_69 : decode cX7_noteTriesThatWentWell 69 = .ok (.goto (-67), 3) := by decide +kernel
theorem dX7_noteTriesThatWentWell_72 : decode cX7_noteTriesThatWentWell 72 = .ok (.return_, 1) := by decide +kernel
theorem dX7_askAll_0 : decode cX7_askAll 0 = .ok (.iconst 0, 1) := by decide +kernel
theorem dX7_askAll_1 : decode cX7_askAll 1 = .ok (.istore_n 3, 1) := by decide +kernel
theorem dX7_askAll_2 : decode cX7_askAll 2 = .ok (.iconst 0, 1) := by decide +kernel
theorem dX7_askAll_3 : decode cX7_askAll 3 = .ok (.istore 4, 2) := by decide +kernel
theorem dX7_askAll_5 : decode cX7_askAll 5 = .ok (.iload 4, 2) := by decide +kernel
theorem dX7_askAll_7 : decode cX7_askAll 7 = .ok (.aload_n 2, 1) := by decide +kernel
theorem dX7_askAll_8 : decode cX7_askAll 8 = .ok (.getfield 79, 3) := by decide +kernel
theorem dX7_askAll_11 : decode cX7_askAll 11 = .ok (.if_icmp .ge 129, 3) := by decide +kernel
theorem dX7_askAll_14 : decode cX7_askAll 14 = .ok (.aload_n 2, 1) := by decide +kernel
theorem dX7_askAll_15 : decode cX7_askAll 15 = .ok (.getfield 82, 3) := by decide +kernel
theorem dX7_askAll_18 : decode cX7_askAll 18 = .ok (.iload 4, 2) := by decide +kernel
theorem dX7_askAll_20 : decode cX7_askAll 20 = .ok (.iaload, 1) := by decide +kernel
theorem dX7_askAll_21 : decode cX7_askAll 21 = .ok (.istore 5, 2) := by decide +kernel
theorem dX7_askAll_23 : decode cX7_askAll 23 = .ok (.aload_n 1, 1) := by decide +kernel
theorem dX7_askAll_24 : decode cX7_askAll 24 = .ok (.getfield 85, 3) := by decide +kernel
theorem dX7_askAll_27 : decode cX7_askAll 27 = .ok (.iload 5, 2) := by decide +kernel
theorem dX7_askAll_29 : decode cX7_askAll 29 = .ok (.aaload, 1) := by decide +kernel
theorem dX7_askAll_30 : decode cX7_askAll 30 = .ok (.getfield 88, 3) := by decide +kernel
theorem dX7_askAll_33 : decode cX7_askAll 33 = .ok (.istore 6, 2) := by decide +kernel
theorem dX7_askAll_35 : decode cX7_askAll 35 = .ok (.aload_n 0, 1) := by decide +kernel
theorem dX7_askAll_36 : decode cX7_askAll 36 = .ok (.getfield 9, 3) := by decide +kernel
theorem dX7_askAll_39 : decode cX7_askAll 39 = .ok (.iload 5, 2) := by decide +kernel
theorem dX7_askAll_41 : decode cX7_askAll 41 = .ok (.iconst 0, 1) := by decide +kernel
theorem dX7_askAll_42 : decode cX7_askAll 42 = .ok (.iastore, 1) := by decide +kernel
theorem dX7_askAll_43 : decode cX7_askAll 43 = .ok (.aload_n 0, 1) := by decide +kernel
theorem dX7_askAll_44 : decode cX7_askAll 44 = .ok (.getfield 15, 3) := by decide +kernel
theorem dX7_askAll_47 : decode cX7_askAll 47 = .ok (.iload 5, 2) := by decide +kernel
theorem dX7_askAll_49 : decode cX7_askAll 49 = .ok (.iconst 0, 1) := by decide +kernel
theorem dX7_askAll_50 : decode cX7_askAll 50 = .ok (.iastore, 1) := by decide +kernel
theorem dX7_askAll_51 : decode cX7_askAll 51 = .ok (.iload 6, 2) := by decide +kernel
theorem dX7_askAll_53 : decode cX7_askAll 53 = .ok (.iconst (-1), 1) := by decide +kernel
theorem dX7_askAll_54 : decode cX7_askAll 54 = .ok (.if_icmp .eq 80, 3) := by decide +kernel
theorem dX7_askAll_57 : decode cX7_askAll 57 = .ok (.aload_n 1, 1) := by decide +kernel
theorem dX7_askAll_58 : decode cX7_askAll 58 = .ok (.getfield 64, 3) := by decide +kernel
theorem dX7_askAll_61 : decode cX7_askAll 61 = .ok (.iload 6, 2) := by decide +kernel
theorem dX7_askAll_63 : decode cX7_askAll 63 = .ok (.aaload, 1) := by decide +kernel
theorem dX7_askAll_64 : decode cX7_askAll 64 = .ok (.getfield 133, 3) := by decide +kernel
theorem dX7_askAll_67 : decode cX7_askAll 67 = .ok (.aload_n 1, 1) := by decide +kernel
theorem dX7_askAll_68 : decode cX7_askAll 68 = .ok (.getfield 64, 3) := by decide +kernel
theorem dX7_askAll_71 : decode cX7_askAll 71 = .ok (.iload 6, 2) := by decide +kernel
theorem dX7_askAll_73 : decode cX7_askAll 73 = .ok (.aaload, 1) := by decide +kernel
theorem dX7_askAll_74 : decode cX7_askAll 74 = .ok (.getfield 136, 3) := by decide +kernel
theorem dX7_askAll_77 : decode cX7_askAll 77 = .ok (.if_icmp .ge 57, 3) := by decide +kernel
theorem dX7_askAll_80 : decode cX7_askAll 80 = .ok (.aload_n 1, 1) := by decide +kernel
theorem dX7_askAll_81 : decode cX7_askAll 81 = .ok (.getfield 64, 3) := by decide +kernel
theorem dX7_askAll_84 : decode cX7_askAll 84 = .ok (.iload 6, 2) := by decide +kernel
theorem dX7_askAll_86 : decode cX7_askAll 86 = .ok (.aaload, 1) := by decide +kernel
theorem dX7_askAll_87 : decode cX7_askAll 87 = .ok (.astore 7, 2) := by decide +kernel
theorem dX7_askAll_89 : decode cX7_askAll 89 = .ok (.aload_n 0, 1) := by decide +kernel
theorem dX7_askAll_90 : decode cX7_askAll 90 = .ok (.getfield 9, 3) := by decide +kernel
theorem dX7_askAll_93 : decode cX7_askAll 93 = .ok (.iload 5, 2) := by decide +kernel
theorem dX7_askAll_95 : decode cX7_askAll 95 = .ok (.aload_n 1, 1) := by decide +kernel
theorem dX7_askAll_96 : decode cX7_askAll 96 = .ok (.aload 7, 2) := by decide +kernel
theorem dX7_askAll_98 : decode cX7_askAll 98 = .ok (.aload_n 1, 1) := by decide +kernel
theorem dX7_askAll_99 : decode cX7_askAll 99 = .ok (.getfield 85, 3) := by decide +kernel
theorem dX7_askAll_102 : decode cX7_askAll 102 = .ok (.iload 5, 2) := by decide +kernel
theorem dX7_askAll_104 : decode cX7_askAll 104 = .ok (.aaload, 1) := by decide +kernel
theorem dX7_askAll_105 : decode cX7_askAll 105 = .ok (.getfield 139, 3) := by decide +kernel
theorem dX7_askAll_108 : decode cX7_askAll 108 = .ok (.aload 7, 2) := by decide +kernel
theorem dX7_askAll_110 : decode cX7_askAll 110 = .ok (.getfield 133, 3) := by decide +kernel
theorem dX7_askAll_113 : decode cX7_askAll 113 = .ok (.invokevirtual 142, 3) := by decide +kernel
theorem dX7_askAll_116 : decode cX7_askAll 116 = .ok (.aload 7, 2) := by decide +kernel
theorem dX7_askAll_118 : decode cX7_askAll 118 = .ok (.getfield 136, 3) := by decide +kernel
theorem dX7_askAll_121 : decode cX7_askAll 121 = .ok (.aload 7, 2) := by decide +kernel
theorem dX7_askAll_123 : decode cX7_askAll 123 = .ok (.getfield 133, 3) := by decide +kernel
theorem dX7_askAll_126 : decode cX7_askAll 126 = .ok (.isub, 1) := by decide +kernel
theorem dX7_askAll_127 : decode cX7_askAll 127 = .ok (.invokestatic 146, 3) := by decide +kernel
theorem dX7_askAll_130 : decode cX7_askAll 130 = .ok (.iastore, 1) := by decide +kernel
theorem dX7_askAll_131 : decode cX7_askAll 131 = .ok (.iinc 3 1, 3) := by decide +kernel
theorem dX7_askAll_134 : decode cX7_askAll 134 = .ok (.iinc 4 1, 3) := by decide +kernel
theorem dX7_askAll_137 : decode cX7_askAll 137 = .ok (.goto (-132), 3) := by decide +kernel
theorem dX7_askAll_140 : decode cX7_askAll 140 = .ok (.iload_n 3, 1) := by decide +kernel
theorem dX7_askAll_141 : decode cX7_askAll 141 = .ok (.ireturn, 1) := by decide +kernel
theorem dX7_shareEvenly_0 : decode cX7_shareEvenly 0 = .ok (.aload_n 1, 1) := by decide +kernel
theorem dX7_shareEvenly_1 : decode cX7_shareEvenly 1 = .ok (.getfield 152, 3) := by decide +kernel
theorem dX7_shareEvenly_4 : decode cX7_shareEvenly 4 = .ok (.istore_n 3, 1) := by decide +kernel
theorem dX7_shareEvenly_5 : decode cX7_shareEvenly 5 = .ok (.iload_n 2, 1) := by decide +kernel
theorem dX7_shareEvenly_6 : decode cX7_shareEvenly 6 = .ok (.istore 4, 2) := by decide +kernel
theorem dX7_shareEvenly_8 : decode cX7_shareEvenly 8 = .ok (.iconst 0, 1) := by decide +kernel
theorem dX7_shareEvenly_9 : decode cX7_shareEvenly 9 = .ok (.istore 5, 2) := by decide +kernel
theorem dX7_shareEvenly_11 : decode cX7_shareEvenly 11 = .ok (.iload 5, 2) := by decide +kernel
theorem dX7_shareEvenly_13 : decode cX7_shareEvenly 13 = .ok (.aload_n 1, 1) := by decide +kernel
theorem dX7_shareEvenly_14 : decode cX7_shareEvenly 14 = .ok (.getfield 79, 3) := by decide +kernel
theorem dX7_shareEvenly_17 : decode cX7_shareEvenly 17 = .ok (.if_icmp .ge 67, 3) := by decide +kernel
theorem dX7_shareEvenly_20 : decode cX7_shareEvenly 20 = .ok (.iload 4, 2) := by decide +kernel
theorem dX7_shareEvenly_22 : decode cX7_shareEvenly 22 = .ok (.ifCond .le 62, 3) := by decide +kernel
theorem dX7_shareEvenly_25 : decode cX7_shareEvenly 25 = .ok (.aload_n 1, 1) := by decide +kernel
theorem dX7_shareEvenly_26 : decode cX7_shareEvenly 26 = .ok (.getfield 82, 3) := by decide +kernel
theorem dX7_shareEvenly_29 : decode cX7_shareEvenly 29 = .ok (.iload 5, 2) := by decide +kernel
theorem dX7_shareEvenly_31 : decode cX7_shareEvenly 31 = .ok (.iaload, 1) := by decide +kernel
theorem dX7_shareEvenly_32 : decode cX7_shareEvenly 32 = .ok (.istore 6, 2) := by decide +kernel
theorem dX7_shareEvenly_34 : decode cX7_shareEvenly 34 = .ok (.aload_n 0, 1) := by decide +kernel
theorem dX7_shareEvenly_35 : decode cX7_shareEvenly 35 = .ok (.getfield 9, 3) := by decide +kernel
theorem dX7_shareEvenly_38 : decode cX7_shareEvenly 38 = .ok (.iload 6, 2) := by decide +kernel
theorem dX7_shareEvenly_40 : decode cX7_shareEvenly 40 = .ok (.iaload, 1) := by decide +kernel
theorem dX7_shareEvenly_41 : decode cX7_shareEvenly 41 = .ok (.ifCond .le 37, 3) := by decide +kernel
theorem dX7_shareEvenly_44 : decode cX7_shareEvenly 44 = .ok (.aload_n 0, 1) := by decide +kernel
theorem dX7_shareEvenly_45 : decode cX7_shareEvenly 45 = .ok (.getfield 15, 3) := by decide +kernel
theorem dX7_shareEvenly_48 : decode cX7_shareEvenly 48 = .ok (.iload 6, 2) := by decide +kernel
theorem dX7_shareEvenly_50 : decode cX7_shareEvenly 50 = .ok (.aload_n 0, 1) := by decide +kernel
theorem dX7_shareEvenly_51 : decode cX7_shareEvenly 51 = .ok (.getfield 9, 3) := by decide +kernel
theorem dX7_shareEvenly_54 : decode cX7_shareEvenly 54 = .ok (.iload 6, 2) := by decide +kernel
theorem dX7_shareEvenly_56 : decode cX7_shareEvenly 56 = .ok (.iaload, 1) := by decide +kernel
theorem dX7_shareEvenly_57 : decode cX7_shareEvenly 57 = .ok (.iload_n 3, 1) := by decide +kernel
theorem dX7_shareEvenly_58 : decode cX7_shareEvenly 58 = .ok (.iload 4, 2) := by decide +kernel
theorem dX7_shareEvenly_60 : decode cX7_shareEvenly 60 = .ok (.idiv, 1) := by decide +kernel
theorem dX7_shareEvenly_61 : decode cX7_shareEvenly 61 = .ok (.invokestatic 146, 3) := by decide +kernel
theorem dX7_shareEvenly_64 : decode cX7_shareEvenly 64 = .ok (.iastore, 1) := by decide +kernel
theorem dX7_shareEvenly_65 : decode cX7_shareEvenly 65 = .ok (.iload_n 3, 1) := by decide +kernel
theorem dX7_shareEvenly_66 : decode cX7_shareEvenly 66 = .ok (.aload_n 0, 1) := by decide +kernel
theorem dX7_shareEvenly_67 : decode cX7_shareEvenly 67 = .ok (.getfield 15, 3) := by decide +kernel
theorem dX7_shareEvenly_70 : decode cX7_shareEvenly 70 = .ok (.iload 6, 2) := by decide +kernel
theorem dX7_shareEvenly_72 : decode cX7_shareEvenly 72 = .ok (.iaload, 1) := by decide +kernel
theorem dX7_shareEvenly_73 : decode cX7_shareEvenly 73 = .ok (.isub, 1) := by decide +kernel
theorem dX7_shareEvenly_74 : decode cX7_shareEvenly 74 = .ok (.istore_n 3, 1) := by decide +kernel
theorem dX7_shareEvenly_75 : decode cX7_shareEvenly 75 = .ok (.iinc 4 (-1), 3) := by decide +kernel
theorem dX7_shareEvenly_78 : decode cX7_shareEvenly 78 = .ok (.iinc 5 1, 3) := by decide +kernel
theorem dX7_shareEvenly_81 : decode cX7_shareEvenly 81 = .ok (.goto (-70), 3) := by decide +kernel
theorem dX7_shareEvenly_84 : decode cX7_shareEvenly 84 = .ok (.iconst 1, 1) := by decide +kernel
theorem dX7_shareEvenly_85 : decode cX7_shareEvenly 85 = .ok (.istore 5, 2) := by decide +kernel
theorem dX7_shareEvenly_87 : decode cX7_shareEvenly 87 = .ok (.iconst 0, 1) := by decide +kernel
theorem dX7_shareEvenly_88 : decode cX7_shareEvenly 88 = .ok (.istore 6, 2) := by decide +kernel
theorem dX7_shareEvenly_90 : decode cX7_shareEvenly 90 = .ok (.iload 6, 2) := by decide +kernel
theorem dX7_shareEvenly_92 : decode cX7_shareEvenly 92 = .ok (.sipush 300, 3) := by decide +kernel
theorem dX7_shareEvenly_95 : decode cX7_shareEvenly 95 = .ok (.if_icmp .ge 86, 3) := by decide +kernel
theorem dX7_shareEvenly_98 : decode cX7_shareEvenly 98 = .ok (.iload_n 3, 1) := by decide +kernel
theorem dX7_shareEvenly_99 : decode cX7_shareEvenly 99 = .ok (.ifCond .le 82, 3) := by decide +kernel
theorem dX7_shareEvenly_102 : decode cX7_shareEvenly 102 = .ok (.iload 5, 2) := by decide +kernel
theorem dX7_shareEvenly_104 : decode cX7_shareEvenly 104 = .ok (.ifCond .eq 77, 3) := by decide +kernel
theorem dX7_shareEvenly_107 : decode cX7_shareEvenly 107 = .ok (.iconst 0, 1) := by decide +kernel
theorem dX7_shareEvenly_108 : decode cX7_shareEvenly 108 = .ok (.istore 5, 2) := by decide +kernel
theorem dX7_shareEvenly_110 : decode cX7_shareEvenly 110 = .ok (.iconst 0, 1) := by decide +kernel
theorem dX7_shareEvenly_111 : decode cX7_shareEvenly 111 = .ok (.istore 7, 2) := by decide +kernel
theorem dX7_shareEvenly_113 : decode cX7_shareEvenly 113 = .ok (.iload 7, 2) := by decide +kernel
theorem dX7_shareEvenly_115 : decode cX7_shareEvenly 115 = .ok (.aload_n 1, 1) := by decide +kernel
theorem dX7_shareEvenly_116 : decode cX7_shareEvenly 116 = .ok (.getfield 79, 3) := by decide +kernel
theorem dX7_shareEvenly_119 : decode cX7_shareEvenly 119 = .ok (.if_icmp .ge 56, 3) := by decide +kernel
theorem dX7_shareEvenly_122 : decode cX7_shareEvenly 122 = .ok (.iload_n 3, 1) := by decide +kernel
theorem dX7_shareEvenly_123 : decode cX7_shareEvenly 123 = .ok (.ifCond .le 52, 3) := by decide +kernel
theorem dX7_shareEvenly_126 : decode cX7_shareEvenly 126 = .ok (.aload_n 1, 1) := by decide +kernel
theorem dX7_shareEvenly_127 : decode cX7_shareEvenly 127 = .ok (.getfield 82, 3) := by decide +kernel
theorem dX7_shareEvenly_130 : decode cX7_shareEvenly 130 = .ok (.iload 7, 2) := by decide +kernel
theorem dX7_shareEvenly_132 : decode cX7_shareEvenly 132 = .ok (.iaload, 1) := by decide +kernel
theorem dX7_shareEvenly_133 : decode cX7_shareEvenly 133 = .ok (.istore 8, 2) := by decide +kernel
theorem dX7_shareEvenly_135 : decode cX7_shareEvenly 135 = .ok (.aload_n 0, 1) := by decide +kernel
theorem dX7_shareEvenly_136 : decode cX7_shareEvenly 136 = .ok (.getfield 15, 3) := by decide +kernel
theorem dX7_shareEvenly_139 : decode cX7_shareEvenly 139 = .ok (.iload 8, 2) := by decide +kernel
theorem dX7_shareEvenly_141 : decode cX7_shareEvenly 141 = .ok (.iaload, 1) := by decide +kernel
theorem dX7_shareEvenly_142 : decode cX7_shareEvenly 142 = .ok (.aload_n 0, 1) := by decide +kernel
theorem dX7_shareEvenly_143 : decode cX7_shareEvenly 143 = .ok (.getfield 9, 3) := by decide +kernel
theorem dX7_shareEvenly_146 : decode cX7_shareEvenly 146 = .ok (.iload 8, 2) := by decide +kernel
theorem dX7_shareEvenly_148 : decode cX7_shareEvenly 148 = .ok (.iaload, 1) := by decide +kernel
theorem dX7_shareEvenly_149 : decode cX7_shareEvenly 149 = .ok (.if_icmp .ge 20, 3) := by decide +kernel
theorem dX7_shareEvenly_152 : decode cX7_shareEvenly 152 = .ok (.aload_n 0, 1) := by decide +kernel
theorem dX7_shareEvenly_153 : decode cX7_shareEvenly 153 = .ok (.getfield 15, 3) := by decide +kernel
theorem dX7_shareEvenly_156 : decode cX7_shareEvenly 156 = .ok (.iload 8, 2) := by decide +kernel
theorem dX7_shareEvenly_158 : decode cX7_shareEvenly 158 = .ok (.dup2, 1) := by decide +kernel
theorem dX7_shareEvenly_159 : decode cX7_shareEvenly 159 = .ok (.iaload, 1) := by decide +kernel
theorem dX7_shareEvenly_160 : decode cX7_shareEvenly 160 = .ok (.iconst 1, 1) := by decide +kernel
theorem dX7_shareEvenly_161 : decode cX7_shareEvenly 161 = .ok (.iadd, 1) := by decide +kernel
theorem dX7_shareEvenly_162 : decode cX7_shareEvenly 162 = .ok (.iastore, 1) := by decide +kernel
theorem dX7_shareEvenly_163 : decode cX7_shareEvenly 163 = .ok (.iinc 3 (-1), 3) := by decide +kernel
theorem dX7_shareEvenly_166 : decode cX7_shareEvenly 166 = .ok (.iconst 1, 1) := by decide +kernel
theorem dX7_shareEvenly_167 : decode cX7_shareEvenly 167 = .ok (.istore 5, 2) := by decide +kernel
theorem dX7_shareEvenly_169 : decode cX7_shareEvenly 169 = .ok (.iinc 7 1, 3) := by decide +kernel
theorem dX7_shareEvenly_172 : decode cX7_shareEvenly 172 = .ok (.goto (-59), 3) := by decide +kernel
theorem dX7_shareEvenly_175 : decode cX7_shareEvenly 175 = .ok (.iinc 6 1, 3) := by decide +kernel
theorem dX7_shareEvenly_178 : decode cX7_shareEvenly 178 = .ok (.goto (-88), 3) := by decide +kernel
theorem dX7_shareEvenly_181 : decode cX7_shareEvenly 181 = .ok (.return_, 1) := by decide +kernel
theorem dX7_shareByComing_0 : decode cX7_shareByComing 0 = .ok (.aload_n 2, 1) := by decide +kernel
theorem dX7_shareByComing_1 : decode cX7_shareByComing 1 = .ok (.getfield 152, 3) := by decide +kernel
theorem dX7_shareByComing_4 : decode cX7_shareByComing 4 = .ok (.istore_n 3, 1) := by decide +kernel
theorem dX7_shareByComing_5 : decode cX7_shareByComing 5 = .ok (.iconst 0, 1) := by decide +kernel
theorem dX7_shareByComing_6 : decode cX7_shareByComing 6 = .ok (.istore 4, 2) := by decide +kernel
theorem dX7_shareByComing_8 : decode cX7_shareByComing 8 = .ok (.iload 4, 2) := by decide +kernel
theorem dX7_shareByComing_10 : decode cX7_shareByComing 10 = .ok (.aload_n 2, 1) := by decide +kernel
theorem dX7_shareByComing_11 : decode cX7_shareByComing 11 = .ok (.getfield 79, 3) := by decide +kernel
theorem dX7_shareByComing_14 : decode cX7_shareByComing 14 = .ok (.if_icmp .ge 56, 3) := by decide +kernel
theorem dX7_shareByComing_17 : decode cX7_shareByComing 17 = .ok (.iload_n 3, 1) := by decide +kernel
theorem dX7_shareByComing_18 : decode cX7_shareByComing 18 = .ok (.ifCond .le 52, 3) := by decide +kernel
theorem dX7_shareByComing_21 : decode cX7_shareByComing 21 = .ok (.aload_n 0, 1) := by decide +kernel
theorem dX7_shareByComing_22 : decode cX7_shareByComing 22 = .ok (.aload_n 1, 1) := by decide +kernel
theorem dX7_shareByComing_23 : decode cX7_shareByComing 23 = .ok (.aload_n 2, 1) := by decide +kernel
theorem dX7_shareByComing_24 : decode cX7_shareByComing 24 = .ok (.invokevirtual 155, 3) := by decide +kernel
theorem dX7_shareByComing_27 : decode cX7_shareByComing 27 = .ok (.istore 5, 2) := by decide +kernel
theorem dX7_shareByComing_29 : decode cX7_shareByComing 29 = .ok (.iload 5, 2) := by decide +kernel
theorem dX7_shareByComing_31 : decode cX7_shareByComing 31 = .ok (.iconst (-1), 1) := by decide +kernel
theorem dX7_shareByComing_32 : decode cX7_shareByComing 32 = .ok (.if_icmp .ne 4, 3) := by decide +kernel
theorem dX7_shareByComing_35 : decode cX7_shareByComing 35 = .ok (.return_, 1) := by decide +kernel
theorem dX7_shareByComing_36 : decode cX7_shareByComing 36 = .ok (.aload_n 0, 1) := by decide +kernel
theorem dX7_shareByComing_37 : decode cX7_shareByComing 37 = .ok (.getfield 15, 3) := by decide +kernel
theorem dX7_shareByComing_40 : decode cX7_shareByComing 40 = .ok (.iload 5, 2) := by decide +kernel
theorem dX7_shareByComing_42 : decode cX7_shareByComing 42 = .ok (.aload_n 0, 1) := by decide +kernel
theorem dX7_shareByComing_43 : decode cX7_shareByComing 43 = .ok (.getfield 9, 3) := by decide +kernel
theorem dX7_shareByComing_46 : decode cX7_shareByComing 46 = .ok (.iload 5, 2) := by decide +kernel
theorem dX7_shareByComing_48 : decode cX7_shareByComing 48 = .ok (.iaload, 1) := by decide +kernel
theorem dX7_shareByComing_49 : decode cX7_shareByComing 49 = .ok (.iload_n 3, 1) := by decide +kernel
theorem dX7_shareByComing_50 : decode cX7_shareByComing 50 = .ok (.invokestatic 146, 3) := by decide +kernel
theorem dX7_shareByComing_53 : decode cX7_shareByComing 53 = .ok (.iastore, 1) := by decide +kernel
theorem dX7_shareByComing_54 : decode cX7_shareByComing 54 = .ok (.iload_n 3, 1) := by decide +kernel
theorem dX7_shareByComing_55 : decode cX7_shareByComing 55 = .ok (.aload_n 0, 1) := by decide +kernel
theorem dX7_shareByComing_56 : decode cX7_shareByComing 56 = .ok (.getfield 15, 3) := by decide +kernel
theorem dX7_shareByComing_59 : decode cX7_shareByComing 59 = .ok (.iload 5, 2) := by decide +kernel
theorem dX7_shareByComing_61 : decode cX7_shareByComing 61 = .ok (.iaload, 1) := by decide +kernel
theorem dX7_shareByComing_62 : decode cX7_shareByComing 62 = .ok (.isub, 1) := by decide +kernel
theorem dX7_shareByComing_63 : decode cX7_shareByComing 63 = .ok (.istore_n 3, 1) := by decide +kernel
theorem dX7_shareByComing_64 : decode cX7_shareByComing 64 = .ok (.iinc 4 1, 3) := by decide +kernel
theorem dX7_shareByComing_67 : decode cX7_shareByComing 67 = .ok (.goto (-59), 3) := by decide +kernel
theorem dX7_shareByComing_70 : decode cX7_shareByComing 70 = .ok (.return_, 1) := by decide +kernel
theorem dX7_firstUnserved_0 : decode cX7_firstUnserved 0 = .ok (.iconst (-1), 1) := by decide +kernel
theorem dX7_firstUnserved_1 : decode cX7_firstUnserved 1 = .ok (.istore_n 3, 1) := by decide +kernel
theorem dX7_firstUnserved_2 : decode cX7_firstUnserved 2 = .ok (.iconst 0, 1) := by decide +kernel
theorem dX7_firstUnserved_3 : decode cX7_firstUnserved 3 = .ok (.istore 4, 2) := by decide +kernel
theorem dX7_firstUnserved_5 : decode cX7_firstUnserved 5 = .ok (.iconst 0, 1) := by decide +kernel
theorem dX7_firstUnserved_6 : decode cX7_firstUnserved 6 = .ok (.istore 5, 2) := by decide +kernel
theorem dX7_firstUnserved_8 : decode cX7_firstUnserved 8 = .ok (.iload 5, 2) := by decide +kernel
theorem dX7_firstUnserved_10 : decode cX7_firstUnserved 10 = .ok (.aload_n 2, 1) := by decide +kernel
theorem dX7_firstUnserved_11 : decode cX7_firstUnserved 11 = .ok (.getfield 79, 3) := by decide +kernel
theorem dX7_firstUnserved_14 : decode cX7_firstUnserved 14 = .ok (.if_icmp .ge 77, 3) := by decide +kernel
theorem dX7_firstUnserved_17 : decode cX7_firstUnserved 17 = .ok (.aload_n 2, 1) := by decide +kernel
theorem dX7_firstUnserved_18 : decode cX7_firstUnserved 18 = .ok (.getfield 82, 3) := by decide +kernel
theorem dX7_firstUnserved_21 : decode cX7_firstUnserved 21 = .ok (.iload 5, 2) := by decide +kernel
theorem dX7_firstUnserved_23 : decode cX7_firstUnserved 23 = .ok (.iaload, 1) := by decide +kernel
theorem dX7_firstUnserved_24 : decode cX7_firstUnserved 24 = .ok (.istore 6, 2) := by decide +kernel
theorem dX7_firstUnserved_26 : decode cX7_firstUnserved 26 = .ok (.aload_n 0, 1) := by decide +kernel
theorem dX7_firstUnserved_27 : decode cX7_firstUnserved 27 = .ok (.getfield 9, 3) := by decide +kernel
theorem dX7_firstUnserved_30 : decode cX7_firstUnserved 30 = .ok (.iload 6, 2) := by decide +kernel
theorem dX7_firstUnserved_32 : decode cX7_firstUnserved 32 = .ok (.iaload, 1) := by decide +kernel
theorem dX7_firstUnserved_33 : decode cX7_firstUnserved 33 = .ok (.ifCond .le 52, 3) := by decide +kernel
theorem dX7_firstUnserved_36 : decode cX7_firstUnserved 36 = .ok (.aload_n 0, 1) := by decide +kernel
theorem dX7_firstUnserved_37 : decode cX7_firstUnserved 37 = .ok (.getfield 15, 3) := by decide +kernel
theorem dX7_firstUnserved_40 : decode cX7_firstUnserved 40 = .ok (.iload 6, 2) := by decide +kernel
theorem dX7_firstUnserved_42 : decode cX7_firstUnserved 42 = .ok (.iaload, 1) := by decide +kernel
theorem dX7_firstUnserved_43 : decode cX7_firstUnserved 43 = .ok (.ifCond .ne 42, 3) := by decide +kernel
theorem dX7_firstUnserved_46 : decode cX7_firstUnserved 46 = .ok (.aload_n 1, 1) := by decide +kernel
theorem dX7_firstUnserved_47 : decode cX7_firstUnserved 47 = .ok (.getfield 64, 3) := by decide +kernel
theorem dX7_firstUnserved_50 : decode cX7_firstUnserved 50 = .ok (.aload_n 1, 1) := by decide +kernel
theorem dX7_firstUnserved_51 : decode cX7_firstUnserved 51 = .ok (.getfield 85, 3) := by decide +kernel
theorem dX7_firstUnserved_54 : decode cX7_firstUnserved 54 = .ok (.iload 6, 2) := by decide +kernel
theorem dX7_firstUnserved_56 : decode cX7_firstUnserved 56 = .ok (.aaload, 1) := by decide +kernel
theorem dX7_firstUnserved_57 : decode cX7_firstUnserved 57 = .ok (.getfield 88, 3) := by decide +kernel
theorem dX7_firstUnserved_60 : decode cX7_firstUnserved 60 = .ok (.aaload, 1) := by decide +kernel
theorem dX7_firstUnserved_61 : decode cX7_firstUnserved 61 = .ok (.getfield 111, 3) := by decide +kernel
theorem dX7_firstUnserved_64 : decode cX7_firstUnserved 64 = .ok (.istore 7, 2) := by decide +kernel
theorem dX7_firstUnserved_66 : decode cX7_firstUnserved 66 = .ok (.iload_n 3, 1) := by decide +kernel
theorem dX7_firstUnserved_67 : decode cX7_firstUnserved 67 = .ok (.iconst (-1), 1) := by decide +kernel
theorem dX7_firstUnserved_68 : decode cX7_firstUnserved 68 = .ok (.if_icmp .eq 10, 3) := by decide +kernel
theorem dX7_firstUnserved_71 : decode cX7_firstUnserved 71 = .ok (.iload 7, 2) := by decide +kernel
theorem dX7_firstUnserved_73 : decode cX7_firstUnserved 73 = .ok (.iload 4, 2) := by decide +kernel
theorem dX7_firstUnserved_75 : decode cX7_firstUnserved 75 = .ok (.if_icmp .ge 10, 3) := by decide +kernel
theorem dX7_firstUnserved_78 : decode cX7_firstUnserved 78 = .ok (.iload 6, 2) := by decide +kernel
theorem dX7_firstUnserved_80 : decode cX7_firstUnserved 80 = .ok (.istore_n 3, 1) := by decide +kernel
theorem dX7_firstUnserved_81 : decode cX7_firstUnserved 81 = .ok (.iload 7, 2) := by decide +kernel
theorem dX7_firstUnserved_83 : decode cX7_firstUnserved 83 = .ok (.istore 4, 2) := by decide +kernel
theorem dX7_firstUnserved_85 : decode cX7_firstUnserved 85 = .ok (.iinc 5 1, 3) := by decide +kernel
theorem dX7_firstUnserved_88 : decode cX7_firstUnserved 88 = .ok (.goto (-80), 3) := by decide +kernel
theorem dX7_firstUnserved_91 : decode cX7_firstUnserved 91 = .ok (.iload_n 3, 1) := by decide +kernel
theorem dX7_firstUnserved_92 : decode cX7_firstUnserved 92 = .ok (.ireturn, 1) := by decide +kernel
theorem dX7_chargeAll_0 : decode cX7_chargeAll 0 = .ok (.iconst 0, 1) := by decide +kernel
theorem dX7_chargeAll_1 : decode cX7_chargeAll 1 = .ok (.istore_n 3, 1) := by decide +kernel
theorem dX7_chargeAll_2 : decode cX7_chargeAll 2 = .ok (.iload_n 3, 1) := by decide +kernel
theorem dX7_chargeAll_3 : decode cX7_chargeAll 3 = .ok (.aload_n 2, 1) := by decide +kernel
theorem dX7_chargeAll_4 : decode cX7_chargeAll 4 = .ok (.getfield 79, 3) := by decide +kernel
theorem dX7_chargeAll_7 : decode cX7_chargeAll 7 = .ok (.if_icmp .ge 132, 3) := by decide +kernel
theorem dX7_chargeAll_10 : decode cX7_chargeAll 10 = .ok (.aload_n 2, 1) := by decide +kernel
theorem dX7_chargeAll_11 : decode cX7_chargeAll 11 = .ok (.getfield 82, 3) := by decide +kernel
theorem dX7_chargeAll_14 : decode cX7_chargeAll 14 = .ok (.iload_n 3, 1) := by decide +kernel
theorem dX7_chargeAll_15 : decode cX7_chargeAll 15 = .ok (.iaload, 1) := by decide +kernel
theorem dX7_chargeAll_16 : decode cX7_chargeAll 16 = .ok (.istore 4, 2) := by decide +kernel
theorem dX7_chargeAll_18 : decode cX7_chargeAll 18 = .ok (.aload_n 1, 1) := by decide +kernel
theorem dX7_chargeAll_19 : decode cX7_chargeAll 19 = .ok (.getfield 85, 3) := by decide +kernel
theorem dX7_chargeAll_22 : decode cX7_chargeAll 22 = .ok (.iload 4, 2) := by decide +kernel
theorem dX7_chargeAll_24 : decode cX7_chargeAll 24 = .ok (.aaload, 1) := by decide +kernel
theorem dX7_chargeAll_25 : decode cX7_chargeAll 25 = .ok (.getfield 88, 3) := by decide +kernel
theorem dX7_chargeAll_28 : decode cX7_chargeAll 28 = .ok (.istore 5, 2) := by decide +kernel
theorem dX7_chargeAll_30 : decode cX7_chargeAll 30 = .ok (.iload 5, 2) := by decide +kernel
theorem dX7_chargeAll_32 : decode cX7_chargeAll 32 = .ok (.iconst (-1), 1) := by decide +kernel
theorem dX7_chargeAll_33 : decode cX7_chargeAll 33 = .ok (.if_icmp .eq 100, 3) := by decide +kernel
theorem dX7_chargeAll_36 : decode cX7_chargeAll 36 = .ok (.aload_n 1, 1) := by decide +kernel
theorem dX7_chargeAll_37 : decode cX7_chargeAll 37 = .ok (.getfield 64, 3) := by decide +kernel
theorem dX7_chargeAll_40 : decode cX7_chargeAll 40 = .ok (.iload 5, 2) := by decide +kernel
theorem dX7_chargeAll_42 : decode cX7_chargeAll 42 = .ok (.aaload, 1) := by decide +kernel
theorem dX7_chargeAll_43 : decode cX7_chargeAll 43 = .ok (.astore 6, 2) := by decide +kernel
theorem dX7_chargeAll_45 : decode cX7_chargeAll 45 = .ok (.aload 6, 2) := by decide +kernel
theorem dX7_chargeAll_47 : decode cX7_chargeAll 47 = .ok (.dup, 1) := by decide +kernel
theorem dX7_chargeAll_48 : decode cX7_chargeAll 48 = .ok (.getfield 133, 3) := by decide +kernel
theorem dX7_chargeAll_51 : decode cX7_chargeAll 51 = .ok (.aload_n 0, 1) := by decide +kernel
theorem dX7_chargeAll_52 : decode cX7_chargeAll 52 = .ok (.getfield 15, 3) := by decide +kernel
theorem dX7_chargeAll_55 : decode cX7_chargeAll 55 = .ok (.iload 4, 2) := by decide +kernel
theorem dX7_chargeAll_57 : decode cX7_chargeAll 57 = .ok (.iaload, 1) := by decide +kernel
theorem dX7_chargeAll_58 : decode cX7_chargeAll 58 = .ok (.iadd, 1) := by decide +kernel
theorem dX7_chargeAll_59 : decode cX7_chargeAll 59 = .ok (.putfield 133, 3) := by decide +kernel
theorem dX7_chargeAll_62 : decode cX7_chargeAll 62 = .ok (.aload 6, 2) := by decide +kernel
theorem dX7_chargeAll_64 : decode cX7_chargeAll 64 = .ok (.dup, 1) := by decide +kernel
theorem dX7_chargeAll_65 : decode cX7_chargeAll 65 = .ok (.getfield 158, 3) := by decide +kernel
theorem dX7_chargeAll_68 : decode cX7_chargeAll 68 = .ok (.aload_n 0, 1) := by decide +kernel
theorem dX7_chargeAll_69 : decode cX7_chargeAll 69 = .ok (.getfield 15, 3) := by decide +kernel
theorem dX7_chargeAll_72 : decode cX7_chargeAll 72 = .ok (.iload 4, 2) := by decide +kernel
theorem dX7_chargeAll_74 : decode cX7_chargeAll 74 = .ok (.iaload, 1) := by decide +kernel
theorem dX7_chargeAll_75 : decode cX7_chargeAll 75 = .ok (.iadd, 1) := by decide +kernel
theorem dX7_chargeAll_76 : decode cX7_chargeAll 76 = .ok (.putfield 158, 3) := by decide +kernel
theorem dX7_chargeAll_79 : decode cX7_chargeAll 79 = .ok (.aload 6, 2) := by decide +kernel
theorem dX7_chargeAll_81 : decode cX7_chargeAll 81 = .ok (.dup, 1) := by decide +kernel
theorem dX7_chargeAll_82 : decode cX7_chargeAll 82 = .ok (.getfield 161, 3) := by decide +kernel
theorem dX7_chargeAll_85 : decode cX7_chargeAll 85 = .ok (.aload_n 0, 1) := by decide +kernel
theorem dX7_chargeAll_86 : decode cX7_chargeAll 86 = .ok (.getfield 15, 3) := by decide +kernel
theorem dX7_chargeAll_89 : decode cX7_chargeAll 89 = .ok (.iload 4, 2) := by decide +kernel
theorem dX7_chargeAll_91 : decode cX7_chargeAll 91 = .ok (.iaload, 1) := by decide +kernel
theorem dX7_chargeAll_92 : decode cX7_chargeAll 92 = .ok (.aload_n 1, 1) := by decide +kernel
theorem dX7_chargeAll_93 : decode cX7_chargeAll 93 = .ok (.invokevirtual 164, 3) := by decide +kernel
theorem dX7_chargeAll_96 : decode cX7_chargeAll 96 = .ok (.imul, 1) := by decide +kernel
theorem dX7_chargeAll_97 : decode cX7_chargeAll 97 = .ok (.iadd, 1) := by decide +kernel
theorem dX7_chargeAll_98 : decode cX7_chargeAll 98 = .ok (.putfield 161, 3) := by decide +kernel
theorem dX7_chargeAll_101 : decode cX7_chargeAll 101 = .ok (.aload_n 2, 1) := by decide +kernel
theorem dX7_chargeAll_102 : decode cX7_chargeAll 102 = .ok (.dup, 1) := by decide +kernel
theorem dX7_chargeAll_103 : decode cX7_chargeAll 103 = .ok (.getfield 168, 3) := by decide +kernel
theorem dX7_chargeAll_106 : decode cX7_chargeAll 106 = .ok (.aload_n 0, 1) := by decide +kernel
theorem dX7_chargeAll_107 : decode cX7_chargeAll 107 = .ok (.getfield 15, 3) := by decide +kernel
theorem dX7_chargeAll_110 : decode cX7_chargeAll 110 = .ok (.iload 4, 2) := by decide +kernel
theorem dX7_chargeAll_112 : decode cX7_chargeAll 112 = .ok (.iaload, 1) := by decide +kernel
theorem dX7_chargeAll_113 : decode cX7_chargeAll 113 = .ok (.iadd, 1) := by decide +kernel
theorem dX7_chargeAll_114 : decode cX7_chargeAll 114 = .ok (.putfield 168, 3) := by decide +kernel
theorem dX7_chargeAll_117 : decode cX7_chargeAll 117 = .ok (.aload_n 1, 1) := by decide +kernel
theorem dX7_chargeAll_118 : decode cX7_chargeAll 118 = .ok (.dup, 1) := by decide +kernel
theorem dX7_chargeAll_119 : decode cX7_chargeAll 119 = .ok (.getfield 171, 3) := by decide +kernel
theorem dX7_chargeAll_122 : decode cX7_chargeAll 122 = .ok (.aload_n 0, 1) := by decide +kernel
theorem dX7_chargeAll_123 : decode cX7_chargeAll 123 = .ok (.getfield 15, 3) := by decide +kernel
theorem dX7_chargeAll_126 : decode cX7_chargeAll 126 = .ok (.iload 4, 2) := by decide +kernel
theorem dX7_chargeAll_128 : decode cX7_chargeAll 128 = .ok (.iaload, 1) := by decide +kernel
theorem dX7_chargeAll_129 : decode cX7_chargeAll 129 = .ok (.iadd, 1) := by decide +kernel
theorem dX7_chargeAll_130 : decode cX7_chargeAll 130 = .ok (.putfield 171, 3) := by decide +kernel
theorem dX7_chargeAll_133 : decode cX7_chargeAll 133 = .ok (.iinc 3 1, 3) := by decide +kernel
theorem dX7_chargeAll_136 : decode cX7_chargeAll 136 = .ok (.goto (-134), 3) := by decide +kernel
theorem dX7_chargeAll_139 : decode cX7_chargeAll 139 = .ok (.return_, 1) := by decide +kernel
theorem dX7_partAll_0 : decode cX7_partAll 0 = .ok (.iconst 0, 1) := by decide +kernel
theorem dX7_partAll_1 : decode cX7_partAll 1 = .ok (.istore_n 3, 1) := by decide +kernel
theorem dX7_partAll_2 : decode cX7_partAll 2 = .ok (.iload_n 3, 1) := by decide +kernel
theorem dX7_partAll_3 : decode cX7_partAll 3 = .ok (.aload_n 2, 1) := by decide +kernel
theorem dX7_partAll_4 : decode cX7_partAll 4 = .ok (.getfield 79, 3) := by decide +kernel
theorem dX7_partAll_7 : decode cX7_partAll 7 = .ok (.if_icmp .ge 57, 3) := by decide +kernel
theorem dX7_partAll_10 : decode cX7_partAll 10 = .ok (.aload_n 2, 1) := by decide +kernel
theorem dX7_partAll_11 : decode cX7_partAll 11 = .ok (.getfield 82, 3) := by decide +kernel
theorem dX7_partAll_14 : decode cX7_partAll 14 = .ok (.iload_n 3, 1) := by decide +kernel
theorem dX7_partAll_15 : decode cX7_partAll 15 = .ok (.iaload, 1) := by decide +kernel
theorem dX7_partAll_16 : decode cX7_partAll 16 = .ok (.istore 4, 2) := by decide +kernel
theorem dX7_partAll_18 : decode cX7_partAll 18 = .ok (.aload_n 1, 1) := by decide +kernel
theorem dX7_partAll_19 : decode cX7_partAll 19 = .ok (.getfield 85, 3) := by decide +kernel
theorem dX7_partAll_22 : decode cX7_partAll 22 = .ok (.iload 4, 2) := by decide +kernel
theorem dX7_partAll_24 : decode cX7_partAll 24 = .ok (.aaload, 1) := by decide +kernel
theorem dX7_partAll_25 : decode cX7_partAll 25 = .ok (.getfield 88, 3) := by decide +kernel
theorem dX7_partAll_28 : decode cX7_partAll 28 = .ok (.istore 5, 2) := by decide +kernel
theorem dX7_partAll_30 : decode cX7_partAll 30 = .ok (.iload 5, 2) := by decide +kernel
theorem dX7_partAll_32 : decode cX7_partAll 32 = .ok (.iconst (-1), 1) := by decide +kernel
theorem dX7_partAll_33 : decode cX7_partAll 33 = .ok (.if_icmp .eq 25, 3) := by decide +kernel
theorem dX7_partAll_36 : decode cX7_partAll 36 = .ok (.aload_n 1, 1) := by decide +kernel
theorem dX7_partAll_37 : decode cX7_partAll 37 = .ok (.aload_n 2, 1) := by decide +kernel
theorem dX7_partAll_38 : decode cX7_partAll 38 = .ok (.iload 5, 2) := by decide +kernel
theorem dX7_partAll_40 : decode cX7_partAll 40 = .ok (.aload_n 0, 1) := by decide +kernel
theorem dX7_partAll_41 : decode cX7_partAll 41 = .ok (.getfield 9, 3) := by decide +kernel
theorem dX7_partAll_44 : decode cX7_partAll 44 = .ok (.iload 4, 2) := by decide +kernel
theorem dX7_partAll_46 : decode cX7_partAll 46 = .ok (.iaload, 1) := by decide +kernel
theorem dX7_partAll_47 : decode cX7_partAll 47 = .ok (.ifCond .ne 7, 3) := by decide +kernel
theorem dX7_partAll_50 : decode cX7_partAll 50 = .ok (.iconst 1, 1) := by decide +kernel
theorem dX7_partAll_51 : decode cX7_partAll 51 = .ok (.goto 4, 3) := by decide +kernel
theorem dX7_partAll_54 : decode cX7_partAll 54 = .ok (.iconst 0, 1) := by decide +kernel
theorem dX7_partAll_55 : decode cX7_partAll 55 = .ok (.invokestatic 172, 3) := by decide +kernel
theorem dX7_partAll_58 : decode cX7_partAll 58 = .ok (.iinc 3 1, 3) := by decide +kernel
theorem dX7_partAll_61 : decode cX7_partAll 61 = .ok (.goto (-59), 3) := by decide +kernel
theorem dX7_partAll_64 : decode cX7_partAll 64 = .ok (.return_, 1) := by decide +kernel
theorem dX7_leaveOrIdle_0 : decode cX7_leaveOrIdle 0 = .ok (.aload_n 0, 1) := by decide +kernel
theorem dX7_leaveOrIdle_1 : decode cX7_leaveOrIdle 1 = .ok (.getfield 64, 3) := by decide +kernel
theorem dX7_leaveOrIdle_4 : decode cX7_leaveOrIdle 4 = .ok (.iload_n 2, 1) := by decide +kernel
theorem dX7_leaveOrIdle_5 : decode cX7_leaveOrIdle 5 = .ok (.aaload, 1) := by decide +kernel
theorem dX7_leaveOrIdle_6 : decode cX7_leaveOrIdle 6 = .ok (.astore 4, 2) := by decide +kernel
theorem dX7_leaveOrIdle_8 : decode cX7_leaveOrIdle 8 = .ok (.bipush 100, 2) := by decide +kernel
theorem dX7_leaveOrIdle_10 : decode cX7_leaveOrIdle 10 = .ok (.aload 4, 2) := by decide +kernel
theorem dX7_leaveOrIdle_12 : decode cX7_leaveOrIdle 12 = .ok (.getfield 133, 3) := by decide +kernel
theorem dX7_leaveOrIdle_15 : decode cX7_leaveOrIdle 15 = .ok (.imul, 1) := by decide +kernel
theorem dX7_leaveOrIdle_16 : decode cX7_leaveOrIdle 16 = .ok (.aload_n 1, 1) := by decide +kernel
theorem dX7_leaveOrIdle_17 : decode cX7_leaveOrIdle 17 = .ok (.getfield 176, 3) := by decide +kernel
theorem dX7_leaveOrIdle_20 : decode cX7_leaveOrIdle 20 = .ok (.aload 4, 2) := by decide +kernel
theorem dX7_leaveOrIdle_22 : decode cX7_leaveOrIdle 22 = .ok (.getfield 179, 3) := by decide +kernel
theorem dX7_leaveOrIdle_25 : decode cX7_leaveOrIdle 25 = .ok (.imul, 1) := by decide +kernel
theorem dX7_leaveOrIdle_26 : decode cX7_leaveOrIdle 26 = .ok (.if_icmp .lt 7, 3) := by decide +kernel
theorem dX7_leaveOrIdle_29 : decode cX7_leaveOrIdle 29 = .ok (.iconst 1, 1) := by decide +kernel
theorem dX7_leaveOrIdle_30 : decode cX7_leaveOrIdle 30 = .ok (.goto 4, 3) := by decide +kernel
theorem dX7_leaveOrIdle_33 : decode cX7_leaveOrIdle 33 = .ok (.iconst 0, 1) := by decide +kernel
theorem dX7_leaveOrIdle_34 : decode cX7_leaveOrIdle 34 = .ok (.istore 5, 2) := by decide +kernel
theorem dX7_leaveOrIdle_36 : decode cX7_leaveOrIdle 36 = .ok (.iload 5, 2) := by decide +kernel
theorem dX7_leaveOrIdle_38 : decode cX7_leaveOrIdle 38 = .ok (.ifCond .eq 24, 3) := by decide +kernel
theorem dX7_leaveOrIdle_41 : decode cX7_leaveOrIdle 41 = .ok (.aload_n 0, 1) := by decide +kernel
theorem dX7_leaveOrIdle_42 : decode cX7_leaveOrIdle 42 = .ok (.aload_n 1, 1) := by decide +kernel
theorem dX7_leaveOrIdle_43 : decode cX7_leaveOrIdle 43 = .ok (.aload 4, 2) := by decide +kernel
theorem dX7_leaveOrIdle_45 : decode cX7_leaveOrIdle 45 = .ok (.getfield 97, 3) := by decide +kernel
theorem dX7_leaveOrIdle_48 : decode cX7_leaveOrIdle 48 = .ok (.invokevirtual 182, 3) := by decide +kernel
theorem dX7_leaveOrIdle_51 : decode cX7_leaveOrIdle 51 = .ok (.ifCond .eq 11, 3) := by decide +kernel
theorem dX7_leaveOrIdle_54 : decode cX7_leaveOrIdle 54 = .ok (.aload_n 0, 1) := by decide +kernel
theorem dX7_leaveOrIdle_55 : decode cX7_leaveOrIdle 55 = .ok (.iload_n 2, 1) := by decide +kernel
theorem dX7_leaveOrIdle_56 : decode cX7_leaveOrIdle 56 = .ok (.invokevirtual 186, 3) := by decide +kernel
theorem dX7_leaveOrIdle_59 : decode cX7_leaveOrIdle 59 = .ok (.goto 44, 3) := by decide +kernel
theorem dX7_leaveOrIdle_62 : decode cX7_leaveOrIdle 62 = .ok (.aload 4, 2) := by decide +kernel
theorem dX7_leaveOrIdle_64 : decode cX7_leaveOrIdle 64 = .ok (.getfield 133, 3) := by decide +kernel
theorem dX7_leaveOrIdle_67 : decode cX7_leaveOrIdle 67 = .ok (.aload 4, 2) := by decide +kernel
theorem dX7_leaveOrIdle_69 : decode cX7_leaveOrIdle 69 = .ok (.getfield 136, 3) := by decide +kernel
theorem dX7_leaveOrIdle_72 : decode cX7_leaveOrIdle 72 = .ok (.if_icmp .lt 31, 3) := by decide +kernel
theorem dX7_leaveOrIdle_75 : decode cX7_leaveOrIdle 75 = .ok (.iload_n 3, 1) := by decide +kernel
theorem dX7_leaveOrIdle_76 : decode cX7_leaveOrIdle 76 = .ok (.ifCond .eq 9, 3) := by decide +kernel
theorem dX7_leaveOrIdle_79 : decode cX7_leaveOrIdle 79 = .ok (.aload_n 1, 1) := by decide +kernel
theorem dX7_leaveOrIdle_80 : decode cX7_leaveOrIdle 80 = .ok (.aload 4, 2) := by decide +kernel
theorem dX7_leaveOrIdle_82 : decode cX7_leaveOrIdle 82 = .ok (.invokestatic 189, 3) := by decide +kernel
theorem dX7_leaveOrIdle_85 : decode cX7_leaveOrIdle 85 = .ok (.aload 4, 2) := by decide +kernel
theorem dX7_leaveOrIdle_87 : decode cX7_leaveOrIdle 87 = .ok (.getfield 193, 3) := by decide +kernel
theorem dX7_leaveOrIdle_90 : decode cX7_leaveOrIdle 90 = .ok (.aload 4, 2) := by decide +kernel
theorem dX7_leaveOrIdle_92 : decode cX7_leaveOrIdle 92 = .ok (.getfield 196, 3) := by decide +kernel
theorem dX7_leaveOrIdle_95 : decode cX7_leaveOrIdle 95 = .ok (.if_icmp .lt 8, 3) := by decide +kernel
theorem dX7_leaveOrIdle_98 : decode cX7_leaveOrIdle 98 = .ok (.aload_n 0, 1) := by decide +kernel
theorem dX7_leaveOrIdle_99 : decode cX7_leaveOrIdle 99 = .ok (.iload_n 2, 1) := by decide +kernel
theorem dX7_leaveOrIdle_100 : decode cX7_leaveOrIdle 100 = .ok (.invokevirtual 186, 3) := by decide +kernel
theorem dX7_leaveOrIdle_103 : decode cX7_leaveOrIdle 103 = .ok (.return_, 1) := by decide +kernel
theorem dX7_idleOneTick_0 : decode cX7_idleOneTick 0 = .ok (.aload_n 1, 1) := by decide +kernel
theorem dX7_idleOneTick_1 : decode cX7_idleOneTick 1 = .ok (.dup, 1) := by decide +kernel
theorem dX7_idleOneTick_2 : decode cX7_idleOneTick 2 = .ok (.getfield 193, 3) := by decide +kernel
theorem dX7_idleOneTick_5 : decode cX7_idleOneTick 5 = .ok (.iconst 1, 1) := by decide +kernel
theorem dX7_idleOneTick_6 : decode cX7_idleOneTick 6 = .ok (.iadd, 1) := by decide +kernel
theorem dX7_idleOneTick_7 : decode cX7_idleOneTick 7 = .ok (.putfield 193, 3) := by decide +kernel
theorem dX7_idleOneTick_10 : decode cX7_idleOneTick 10 = .ok (.aload_n 1, 1) := by decide +kernel
theorem dX7_idleOneTick_11 : decode cX7_idleOneTick 11 = .ok (.dup, 1) := by decide +kernel
theorem dX7_idleOneTick_12 : decode cX7_idleOneTick 12 = .ok (.getfield 199, 3) := by decide +kernel
theorem dX7_idleOneTick_15 : decode cX7_idleOneTick 15 = .ok (.iconst 1, 1) := by decide +kernel
theorem dX7_idleOneTick_16 : decode cX7_idleOneTick 16 = .ok (.iadd, 1) := by decide +kernel
theorem dX7_idleOneTick_17 : decode cX7_idleOneTick 17 = .ok (.putfield 199, 3) := by decide +kernel
theorem dX7_idleOneTick_20 : decode cX7_idleOneTick 20 = .ok (.aload_n 1, 1) := by decide +kernel
theorem dX7_idleOneTick_21 : decode cX7_idleOneTick 21 = .ok (.getfield 193, 3) := by decide +kernel
theorem dX7_idleOneTick_24 : decode cX7_idleOneTick 24 = .ok (.aload_n 0, 1) := by decide +kernel
theorem dX7_idleOneTick_25 : decode cX7_idleOneTick 25 = .ok (.getfield 202, 3) := by decide +kernel
theorem dX7_idleOneTick_28 : decode cX7_idleOneTick 28 = .ok (.if_icmp .le 16, 3) := by decide +kernel
theorem dX7_idleOneTick_31 : decode cX7_idleOneTick 31 = .ok (.aload_n 1, 1) := by decide +kernel
theorem dX7_idleOneTick_32 : decode cX7_idleOneTick 32 = .ok (.dup, 1) := by decide +kernel
theorem dX7_idleOneTick_33 : decode cX7_idleOneTick 33 = .ok (.getfield 161, 3) := by decide +kernel
theorem dX7_idleOneTick_36 : decode cX7_idleOneTick 36 = .ok (.aload_n 0, 1) := by decide +kernel
theorem dX7_idleOneTick_37 : decode cX7_idleOneTick 37 = .ok (.getfield 205, 3) := by decide +kernel
theorem dX7_idleOneTick_40 : decode cX7_idleOneTick 40 = .ok (.iadd, 1) := by decide +kernel
theorem dX7_idleOneTick_41 : decode cX7_idleOneTick 41 = .ok (.putfield 161, 3) := by decide +kernel
theorem dX7_idleOneTick_44 : decode cX7_idleOneTick 44 = .ok (.return_, 1) := by decide +kernel
theorem dX8_init_0 : decode cX8_init 0 = .ok (.aload_n 0, 1) := by decide +kernel
theorem dX8_init_1 : decode cX8_init 1 = .ok (.invokespecial 3, 3) := by decide +kernel
theorem dX8_init_4 : decode cX8_init 4 = .ok (.aload_n 0, 1) := by decide +kernel
theorem dX8_init_5 : decode cX8_init 5 = .ok (.bipush 100, 2) := by decide +kernel
theorem dX8_init_7 : decode cX8_init 7 = .ok (.newarray .int, 2) := by decide +kernel
theorem dX8_init_9 : decode cX8_init 9 = .ok (.putfield 9, 3) := by decide +kernel
theorem dX8_init_12 : decode cX8_init 12 = .ok (.return_, 1) := by decide +kernel
theorem dX8_addByte_0 : decode cX8_addByte 0 = .ok (.aload_n 0, 1) := by decide +kernel
theorem dX8_addByte_1 : decode cX8_addByte 1 = .ok (.getfield 15, 3) := by decide +kernel
theorem dX8_addByte_4 : decode cX8_addByte 4 = .ok (.bipush 100, 2) := by decide +kernel
theorem dX8_addByte_6 : decode cX8_addByte 6 = .ok (.if_icmp .ge 23, 3) := by decide +kernel
theorem dX8_addByte_9 : decode cX8_addByte 9 = .ok (.aload_n 0, 1) := by decide +kernel
theorem dX8_addByte_10 : decode cX8_addByte 10 = .ok (.getfield 9, 3) := by decide +kernel
theorem dX8_addByte_13 : decode cX8_addByte 13 = .ok (.aload_n 0, 1) := by decide +kernel
theorem dX8_addByte_14 : decode cX8_addByte 14 = .ok (.getfield 15, 3) := by decide +kernel
theorem dX8_addByte_17 : decode cX8_addByte 17 = .ok (.iload_n 1, 1) := by decide +kernel
theorem dX8_addByte_18 : decode cX8_addByte 18 = .ok (.iastore, 1) := by decide +kernel
theorem dX8_addByte_19 : decode cX8_addByte 19 = .ok (.aload_n 0, 1) := by decide +kernel
theorem dX8_addByte_20 : decode cX8_addByte 20 = .ok (.dup, 1) := by decide +kernel
theorem dX8_addByte_21 : decode cX8_addByte 21 = .ok (.getfield 15, 3) := by decide +kernel
theorem dX8_addByte_24 : decode cX8_addByte 24 = .ok (.iconst 1, 1) := by decide +kernel
theorem dX8_addByte_25 : decode cX8_addByte 25 = .ok (.iadd, 1) := by decide +kernel
theorem dX8_addByte_26 : decode cX8_addByte 26 = .ok (.putfield 15, 3) := by decide +kernel
theorem dX8_addByte_29 : decode cX8_addByte 29 = .ok (.return_, 1) := by decide +kernel
theorem dX8_parse_0 : decode cX8_parse 0 = .ok (.aload_n 0, 1) := by decide +kernel
theorem dX8_parse_1 : decode cX8_parse 1 = .ok (.iconst (-1), 1) := by decide +kernel
theorem dX8_parse_2 : decode cX8_parse 2 = .ok (.putfield 19, 3) := by decide +kernel
theorem dX8_parse_5 : decode cX8_parse 5 = .ok (.aload_n 0, 1) := by decide +kernel
theorem dX8_parse_6 : decode cX8_parse 6 = .ok (.iconst (-1), 1) := by decide +kernel
theorem dX8_parse_7 : decode cX8_parse 7 = .ok (.putfield 22, 3) := by decide +kernel
theorem dX8_parse_10 : decode cX8_parse 10 = .ok (.aload_n 0, 1) := by decide +kernel
theorem dX8_parse_11 : decode cX8_parse 11 = .ok (.iconst (-1), 1) := by decide +kernel
theorem dX8_parse_12 : decode cX8_parse 12 = .ok (.putfield 25, 3) := by decide +kernel
theorem dX8_parse_15 : decode cX8_parse 15 = .ok (.aload_n 0, 1) := by decide +kernel
theorem dX8_parse_16 : decode cX8_parse 16 = .ok (.iconst (-1), 1) := by decide +kernel
theorem dX8_parse_17 : decode cX8_parse 17 = .ok (.putfield 28, 3) := by decide +kernel
theorem dX8_parse_20 : decode cX8_parse 20 = .ok (.aload_n 0, 1) := by decide +kernel
theorem dX8_parse_21 : decode cX8_parse 21 = .ok (.iconst 0, 1) := by decide +kernel
theorem dX8_parse_22 : decode cX8_parse 22 = .ok (.putfield 31, 3) := by decide +kernel
theorem dX8_parse_25 : decode cX8_parse 25 = .ok (.iconst 0, 1) := by decide +kernel
theorem dX8_parse_26 : decode cX8_parse 26 = .ok (.istore_n 1, 1) := by decide +kernel
theorem dX8_parse_27 : decode cX8_parse 27 = .ok (.aload_n 0, 1) := by decide +kernel
theorem dX8_parse_28 : decode cX8_parse 28 = .ok (.invokevirtual 34, 3) := by decide +kernel
theorem dX8_parse_31 : decode cX8_parse 31 = .ok (.aload_n 0, 1) := by decide +kernel
theorem dX8_parse_32 : decode cX8_parse 32 = .ok (.getfield 37, 3) := by decide +kernel
theorem dX8_parse_35 : decode cX8_parse 35 = .ok (.ifCond .eq 41, 3) := by decide +kernel
theorem dX8_parse_38 : decode cX8_parse 38 = .ok (.iload_n 1, 1) := by decide +kernel
theorem dX8_parse_39 : decode cX8_parse 39 = .ok (.bipush 100, 2) := by decide +kernel
theorem dX8_parse_41 : decode cX8_parse 41 = .ok (.if_icmp .ge 35, 3) := by decide +kernel
theorem dX8_parse_44 : decode cX8_parse 44 = .ok (.aload_n 0, 1) := by decide +kernel
theorem dX8_parse_45 : decode cX8_parse 45 = .ok (.invokevirtual 40, 3) := by decide +kernel
theorem dX8_parse_48 : decode cX8_parse 48 = .ok (.ifCond .eq 10, 3) := by decide +kernel
theorem dX8_parse_51 : decode cX8_parse 51 = .ok (.aload_n 0, 1) := by decide +kernel
theorem dX8_parse_52 : decode cX8_parse 52 = .ok (.invokevirtual 44, 3) := by decide +kernel
theorem dX8_parse_55 : decode cX8_parse 55 = .ok (.ifCond .ne 11, 3) := by decide +kernel
theorem dX8_parse_58 : decode cX8_parse 58 = .ok (.bipush (-100), 2) := by decide +kernel
theorem dX8_parse_60 : decode cX8_parse 60 = .ok (.aload_n 0, 1) := by decide +kernel
theorem dX8_parse_61 : decode cX8_parse 61 = .ok (.getfield 47, 3) := by decide +kernel
theorem dX8_parse_64 : decode cX8_parse 64 = .ok (.isub, 1) := by decide +kernel
theorem dX8_parse_65 : decode cX8_parse 65 = .ok (.ireturn, 1) := by decide +kernel
theorem dX8_parse_66 : decode cX8_parse 66 = .ok (.iinc 1 1, 3) := by decide +kernel
theorem dX8_parse_69 : decode cX8_parse 69 = .ok (.aload_n 0, 1) := by decide +kernel
theorem dX8_parse_70 : decode cX8_parse 70 = .ok (.invokevirtual 34, 3) := by decide +kernel
theorem dX8_parse_73 : decode cX8_parse 73 = .ok (.goto (-42), 3) := by decide +kernel
theorem dX8_parse_76 : decode cX8_parse 76 = .ok (.iload_n 1, 1) := by decide +kernel
theorem dX8_parse_77 : decode cX8_parse 77 = .ok (.ireturn, 1) := by decide +kernel
theorem dX8_giveRulesTo_0 : decode cX8_giveRulesTo 0 = .ok (.aload_n 1, 1) := by decide +kernel
theorem dX8_giveRulesTo_1 : decode cX8_giveRulesTo 1 = .ok (.aload_n 0, 1) := by decide +kernel
theorem dX8_giveRulesTo_2 : decode cX8_giveRulesTo 2 = .ok (.getfield 19, 3) := by decide +kernel
theorem dX8_giveRulesTo_5 : decode cX8_giveRulesTo 5 = .ok (.iconst 1, 1) := by decide +kernel
theorem dX8_giveRulesTo_6 : decode cX8_giveRulesTo 6 = .ok (.if_icmp .ne 7, 3) := by decide +kernel
theorem dX8_giveRulesTo_9 : decode cX8_giveRulesTo 9 = .ok (.iconst 1, 1) := by decide +kernel
theorem dX8_giveRulesTo_10 : decode cX8_giveRulesTo 10 = .ok (.goto 4, 3) := by decide +kernel
theorem dX8_giveRulesTo_13 : decode cX8_giveRulesTo 13 = .ok (.iconst 0, 1) := by decide +kernel
theorem dX8_giveRulesTo_14 : decode cX8_giveRulesTo 14 = .ok (.putfield 50, 3) := by decide +kernel
theorem dX8_giveRulesTo_17 : decode cX8_giveRulesTo 17 = .ok (.aload_n 1, 1) := by decide +kernel
theorem dX8_giveRulesTo_18 : decode cX8_giveRulesTo 18 = .ok (.aload_n 0, 1) := by decide +kernel
theorem dX8_giveRulesTo_19 : decode cX8_giveRulesTo 19 = .ok (.getfield 22, 3) := by decide +kernel
theorem dX8_giveRulesTo_22 : decode cX8_giveRulesTo 22 = .ok (.ifCond .lt 10, 3) := by decide +kernel
theorem dX8_giveRulesTo_25 : decode cX8_giveRulesTo 25 = .ok (.aload_n 0, 1) := by decide +kernel
theorem dX8_giveRulesTo_26 : decode cX8_giveRulesTo 26 = .ok (.getfield 22, 3) := by decide +kernel
theorem dX8_giveRulesTo_29 : decode cX8_giveRulesTo 29 = .ok (.goto 5, 3) := by decide +kernel
theorem dX8_giveRulesTo_32 : decode cX8_giveRulesTo 32 = .ok (.bipush 100, 2) := by decide +kernel
theorem dX8_giveRulesTo_34 : decode cX8_giveRulesTo 34 = .ok (.putfield 56, 3) := by decide +kernel
theorem dX8_giveRulesTo_37 : decode cX8_giveRulesTo 37 = .ok (.aload_n 1, 1) := by decide +kernel
theorem dX8_giveRulesTo_38 : decode cX8_giveRulesTo 38 = .ok (.aload_n 0, 1) := by decide +kernel
theorem dX8_giveRulesTo_39 : decode cX8_giveRulesTo 39 = .ok (.getfield 25, 3) := by decide +kernel
theorem dX8_giveRulesTo_42 : decode cX8_giveRulesTo 42 = .ok (.ifCond .lt 10, 3) := by decide +kernel
theorem dX8_giveRulesTo_45 : decode cX8_giveRulesTo 45 = .ok (.aload_n 0, 1) := by decide +kernel
theorem dX8_giveRulesTo_46 : decode cX8_giveRulesTo 46 = .ok (.getfield 25, 3) := by decide +kernel
theorem dX8_giveRulesTo_49 : decode cX8_giveRulesTo 49 = .ok (.goto 4, 3) := by decide +kernel
theorem dX8_giveRulesTo_52 : decode cX8_giveRulesTo 52 = .ok (.iconst 0, 1) := by decide +kernel
theorem dX8_giveRulesTo_53 : decode cX8_giveRulesTo 53 = .ok (.putfield 59, 3) := by decide +kernel
theorem dX8_giveRulesTo_56 : decode cX8_giveRulesTo 56 = .ok (.aload_n 1, 1) := by decide +kernel
theorem dX8_giveRulesTo_57 : decode cX8_giveRulesTo 57 = .ok (.aload_n 0, 1) := by decide +kernel
theorem dX8_giveRulesTo_58 : decode cX8_giveRulesTo 58 = .ok (.getfield 28, 3) := by decide +kernel
theorem dX8_giveRulesTo_61 : decode cX8_giveRulesTo 61 = .ok (.ifCond .lt 10, 3) := by decide +kernel
theorem dX8_giveRulesTo_64 : decode cX8_giveRulesTo 64 = .ok (.aload_n 0, 1) := by decide +kernel
theorem dX8_giveRulesTo_65 : decode cX8_giveRulesTo 65 = .ok (.getfield 28, 3) := by decide +kernel
theorem dX8_giveRulesTo_68 : decode cX8_giveRulesTo 68 = .ok (.goto 5, 3) := by decide +kernel
theorem dX8_giveRulesTo_71 : decode cX8_giveRulesTo 71 = .ok (.bipush 100, 2) := by decide +kernel
theorem dX8_giveRulesTo_73 : decode cX8_giveRulesTo 73 = .ok (.putfield 62, 3) := by decide +kernel
theorem dX8_giveRulesTo_76 : decode cX8_giveRulesTo 76 = .ok (.return_, 1) := by decide +kernel
theorem dX8_parseRule_0 : decode cX8_parseRule 0 = .ok (.aload_n 0, 1) := by decide +kernel
theorem dX8_parseRule_1 : decode cX8_parseRule 1 = .ok (.ldc 65, 2) := by decide +kernel
theorem dX8_parseRule_3 : decode cX8_parseRule 3 = .ok (.invokevirtual 67, 3) := by decide +kernel
theorem dX8_parseRule_6 : decode cX8_parseRule 6 = .ok (.ifCond .eq 15, 3) := by decide +kernel
theorem dX8_parseRule_9 : decode cX8_parseRule 9 = .ok (.aload_n 0, 1) := by decide +kernel
theorem dX8_parseRule_10 : decode cX8_parseRule 10 = .ok (.getfield 19, 3) := by decide +kernel
theorem dX8_parseRule_13 : decode cX8_parseRule 13 = .ok (.ifCond .ge 8, 3) := by decide +kernel
theorem dX8_parseRule_16 : decode cX8_parseRule 16 = .ok (.aload_n 0, 1) := by decide +kernel
theorem dX8_parseRule_17 : decode cX8_parseRule 17 = .ok (.invokevirtual 71, 3) := by decide +kernel
theorem dX8_parseRule_20 : decode cX8_parseRule 20 = .ok (.ireturn, 1) := by decide +kernel
theorem dX8_parseRule_21 : decode cX8_parseRule 21 = .ok (.aload_n 0, 1) := by decide +kernel
theorem dX8_parseRule_22 : decode cX8_parseRule 22 = .ok (.ldc 74, 2) := by decide +kernel
theorem dX8_parseRule_24 : decode cX8_parseRule 24 = .ok (.invokevirtual 67, 3) := by decide +kernel
theorem dX8_parseRule_27 : decode cX8_parseRule 27 = .ok (.ifCond .eq 31, 3) := by decide +kernel
theorem dX8_parseRule_30 : decode cX8_parseRule 30 = .ok (.aload_n 0, 1) := by decide +kernel
theorem dX8_parseRule_31 : decode cX8_parseRule 31 = .ok (.getfield 22, 3) := by decide +kernel
theorem dX8_parseRule_34 : decode cX8_parseRule 34 = .ok (.ifCond .ge 24, 3) := by decide +kernel
theorem dX8_parseRule_37 : decode cX8_parseRule 37 = .ok (.aload_n 0, 1) := by decide +kernel
theorem dX8_parseRule_38 : decode cX8_parseRule 38 = .ok (.aload_n 0, 1) := by decide +kernel
theorem dX8_parseRule_39 : decode cX8_parseRule 39 = .ok (.invokevirtual 75, 3) := by decide +kernel
theorem dX8_parseRule_42 : decode cX8_parseRule 42 = .ok (.putfield 22, 3) := by decide +kernel
theorem dX8_parseRule_45 : decode cX8_parseRule 45 = .ok (.aload_n 0, 1) := by decide +kernel
theorem dX8_parseRule_46 : decode cX8_parseRule 46 = .ok (.getfield 22, 3) := by decide +kernel
theorem dX8_parseRule_49 : decode cX8_parseRule 49 = .ok (.ifCond .lt 7, 3) := by decide +kernel
theorem dX8_parseRule_52 : decode cX8_parseRule 52 = .ok (.iconst 1, 1) := by decide +kernel
theorem dX8_parseRule_53 : decode cX8_parseRule 53 = .ok (.goto 4, 3) := by decide +kernel
theorem dX8_parseRule_56 : decode cX8_parseRule 56 = .ok (.iconst 0, 1) := by decide +kernel
theorem dX8_parseRule_57 : decode cX8_parseRule 57 = .ok (.ireturn, 1) := by decide +kernel
theorem dX8_parseRule_58 : decode cX8_parseRule 58 = .ok (.aload_n 0, 1) := by decide +kernel
theorem dX8_parseRule_59 : decode cX8_parseRule 59 = .ok (.ldc 79, 2) := by decide +kernel
theorem dX8_parseRule_61 : decode cX8_parseRule 61 = .ok (.invokevirtual 67, 3) := by decide +kernel
theorem dX8_parseRule_64 : decode cX8_parseRule 64 = .ok (.ifCond .eq 15, 3) := by decide +kernel
theorem dX8_parseRule_67 : decode cX8_parseRule 67 = .ok (.aload_n 0, 1) := by decide +kernel
theorem dX8_parseRule_68 : decode cX8_parseRule 68 = .ok (.getfield 25, 3) := by decide +kernel
theorem dX8_parseRule_71 : decode cX8_parseRule 71 = .ok (.ifCond .ge 8, 3) := by decide +kernel
theorem dX8_parseRule_74 : decode cX8_parseRule 74 = .ok (.aload_n 0, 1) := by decide +kernel
theorem dX8_parseRule_75 : decode cX8_parseRule 75 = .ok (.invokevirtual 81, 3) := by decide +kernel
theorem dX8_parseRule_78 : decode cX8_parseRule 78 = .ok (.ireturn, 1) := by decide +kernel
theorem dX8_parseRule_79 : decode cX8_parseRule 79 = .ok (.iconst 0, 1) := by decide +kernel
theorem dX8_parseRule_80 : decode cX8_parseRule 80 = .ok (.ireturn, 1) := by decide +kernel
theorem dX8_parseShare_0 : decode cX8_parseShare 0 = .ok (.aload_n 0, 1) := by decide +kernel
theorem dX8_parseShare_1 : decode cX8_parseShare 1 = .ok (.invokevirtual 34, 3) := by decide +kernel
theorem dX8_parseShare_4 : decode cX8_parseShare 4 = .ok (.aload_n 0, 1) := by decide +kernel
theorem dX8_parseShare_5 : decode cX8_parseShare 5 = .ok (.ldc 84, 2) := by decide +kernel
theorem dX8_parseShare_7 : decode cX8_parseShare 7 = .ok (.invokevirtual 67, 3) := by decide +kernel
theorem dX8_parseShare_10 : decode cX8_parseShare 10 = .ok (.ifCond .eq 11, 3) := by decide +kernel
theorem dX8_parseShare_13 : decode cX8_parseShare 13 = .ok (.aload_n 0, 1) := by decide +kernel
theorem dX8_parseShare_14 : decode cX8_parseShare 14 = .ok (.iconst 0, 1) := by decide +kernel
theorem dX8_parseShare_15 : decode cX8_parseShare 15 = .ok (.putfield 19, 3) := by decide +kernel
theorem dX8_parseShare_18 : decode cX8_parseShare 18 = .ok (.goto 17, 3) := by decide +kernel
theorem dX8_parseShare_21 : decode cX8_parseShare 21 = .ok (.aload_n 0, 1) := by decide +kernel
theorem dX8_parseShare_22 : decode cX8_parseShare 22 = .ok (.ldc 86, 2) := by decide +kernel
theorem dX8_parseShare_24 : decode cX8_parseShare 24 = .ok (.invokevirtual 67, 3) := by decide +kernel
theorem dX8_parseShare_27 : decode cX8_parseShare 27 = .ok (.ifCond .eq 8, 3) := by decide +kernel
theorem dX8_parseShare_30 : decode cX8_parseShare 30 = .ok (.aload_n 0, 1) := by decide +kernel
theorem dX8_parseShare_31 : decode cX8_parseShare 31 = .ok (.iconst 1, 1) := by decide +kernel
theorem dX8_parseShare_32 : decode cX8_parseShare 32 = .ok (.putfield 19, 3) := by decide +kernel
theorem dX8_parseShare_35 : decode cX8_parseShare 35 = .ok (.aload_n 0, 1) := by decide +kernel
theorem dX8_parseShare_36 : decode cX8_parseShare 36 = .ok (.getfield 19, 3) := by decide +kernel
theorem dX8_parseShare_39 : decode cX8_parseShare 39 = .ok (.ifCond .lt 7, 3) := by decide +kernel
theorem dX8_parseShare_42 : decode cX8_parseShare 42 = .ok (.iconst 1, 1) := by decide +kernel
theorem dX8_parseShare_43 : decode cX8_parseShare 43 = .ok (.goto 4, 3) := by decide +kernel
theorem dX8_parseShare_46 : decode cX8_parseShare 46 = .ok (.iconst 0, 1) := by decide +kernel
theorem dX8_parseShare_47 : decode cX8_parseShare 47 = .ok (.ireturn, 1) := by decide +kernel
theorem dX8_parseIdle_0 : decode cX8_parseIdle 0 = .ok (.aload_n 0, 1) := by decide +kernel
theorem dX8_parseIdle_1 : decode cX8_parseIdle 1 = .ok (.aload_n 0, 1) := by decide +kernel
theorem dX8_parseIdle_2 : decode cX8_parseIdle 2 = .ok (.invokevirtual 75, 3) := by decide +kernel
theorem dX8_parseIdle_5 : decode cX8_parseIdle 5 = .ok (.putfield 25, 3) := by decide +kernel
theorem dX8_parseIdle_8 : decode cX8_parseIdle 8 = .ok (.aload_n 0, 1) := by decide +kernel
theorem dX8_parseIdle_9 : decode cX8_parseIdle 9 = .ok (.getfield 25, 3) := by decide +kernel
theorem dX8_parseIdle_12 : decode cX8_parseIdle 12 = .ok (.ifCond .ge 5, 3) := by decide +kernel
theorem dX8_parseIdle_15 : decode cX8_parseIdle 15 = .ok (.iconst 0, 1) := by decide +kernel
theorem dX8_parseIdle_16 : decode cX8_parseIdle 16 = .ok (.ireturn, 1) := by decide +kernel
theorem dX8_parseIdle_17 : decode cX8_parseIdle 17 = .ok (.aload_n 0, 1) := by decide +kernel
theorem dX8_parseIdle_18 : decode cX8_parseIdle 18 = .ok (.invokevirtual 34, 3) := by decide +kernel
theorem dX8_parseIdle_21 : decode cX8_parseIdle 21 = .ok (.aload_n 0, 1) := by decide +kernel
theorem dX8_parseIdle_22 : decode cX8_parseIdle 22 = .ok (.ldc 88, 2) := by decide +kernel
theorem dX8_parseIdle_24 : decode cX8_parseIdle 24 = .ok (.invokevirtual 67, 3) := by decide +kernel
theorem dX8_parseIdle_27 : decode cX8_parseIdle 27 = .ok (.ifCond .ne 5, 3) := by decide +kernel
theorem dX8_parseIdle_30 : decode cX8_parseIdle 30 = .ok (.iconst 0, 1) := by decide +kernel
theorem dX8_parseIdle_31 : decode cX8_parseIdle 31 = .ok (.ireturn, 1) := by decide +kernel
theorem dX8_parseIdle_32 : decode cX8_parseIdle 32 = .ok (.aload_n 0, 1) := by decide +kernel
theorem dX8_parseIdle_33 : decode cX8_parseIdle 33 = .ok (.aload_n 0, 1) := by decide +kernel
theorem dX8_parseIdle_34 : decode cX8_parseIdle 34 = .ok (.invokevirtual 75, 3) := by decide +kernel
theorem dX8_parseIdle_37 : decode cX8_parseIdle 37 = .ok (.putfield 28, 3) := by decide +kernel
theorem dX8_parseIdle_40 : decode cX8_parseIdle 40 = .ok (.aload_n 0, 1) := by decide +kernel
theorem dX8_parseIdle_41 : decode cX8_parseIdle 41 = .ok (.getfield 28, 3) := by decide +kernel
theorem dX8_parseIdle_44 : decode cX8_parseIdle 44 = .ok (.ifCond .lt 7, 3) := by decide +kernel
theorem dX8_parseIdle_47 : decode cX8_parseIdle 47 = .ok (.iconst 1, 1) := by decide +kernel
theorem dX8_parseIdle_48 : decode cX8_parseIdle 48 = .ok (.goto 4, 3) := by decide +kernel
theorem dX8_parseIdle_51 : decode cX8_parseIdle 51 = .ok (.iconst 0, 1) := by decide +kernel
theorem dX8_parseIdle_52 : decode cX8_parseIdle 52 = .ok (.ireturn, 1) := by decide +kernel
theorem dX8_parseSemicolon_0 : decode cX8_parseSemicolon 0 = .ok (.aload_n 0, 1) := by decide +kernel
theorem dX8_parseSemicolon_1 : decode cX8_parseSemicolon 1 = .ok (.invokevirtual 34, 3) := by decide +kernel
theorem dX8_parseSemicolon_4 : decode cX8_parseSemicolon 4 = .ok (.aload_n 0, 1) := by decide +kernel
theorem dX8_parseSemicolon_5 : decode cX8_parseSemicolon 5 = .ok (.getfield 37, 3) := by decide +kernel
theorem dX8_parseSemicolon_8 : decode cX8_parseSemicolon 8 = .ok (.iconst 3, 1) := by decide +kernel
theorem dX8_parseSemicolon_9 : decode cX8_parseSemicolon 9 = .ok (.if_icmp .ne 21, 3) := by decide +kernel
theorem dX8_parseSemicolon_12 : decode cX8_parseSemicolon 12 = .ok (.aload_n 0, 1) := by decide +kernel
theorem dX8_parseSemicolon_13 : decode cX8_parseSemicolon 13 = .ok (.getfield 9, 3) := by decide +kernel
theorem dX8_parseSemicolon_16 : decode cX8_parseSemicolon 16 = .ok (.aload_n 0, 1) := by decide +kernel
theorem dX8_parseSemicolon_17 : decode cX8_parseSemicolon 17 = .ok (.getfield 47, 3) := by decide +kernel
theorem dX8_parseSemicolon_20 : decode cX8_parseSemicolon 20 = .ok (.iaload, 1) := by decide +kernel
theorem dX8_parseSemicolon_21 : decode cX8_parseSemicolon 21 = .ok (.bipush 59, 2) := by decide +kernel
theorem dX8_parseSemicolon_23 : decode cX8_parseSemicolon 23 = .ok (.if_icmp .ne 7, 3) := by decide +kernel
theorem dX8_parseSemicolon_26 : decode cX8_parseSemicolon 26 = .ok (.iconst 1, 1) := by decide +kernel
theorem dX8_parseSemicolon_27 : decode cX8_parseSemicolon 27 = .ok (.goto 4, 3) := by decide +kernel
theorem dX8_parseSemicolon_30 : decode cX8_parseSemicolon 30 = .ok (.iconst 0, 1) := by decide +kernel
theorem dX8_parseSemicolon_31 : decode cX8_parseSemicolon 31 = .ok (.ireturn, 1) := by decide +kernel
theorem dX8_parseNumber_0 : decode cX8_parseNumber 0 = .ok (.aload_n 0, 1) := by decide +kernel
theorem dX8_parseNumber_1 : decode cX8_parseNumber 1 = .ok (.invokevirtual 34, 3) := by decide +kernel
theorem dX8_parseNumber_4 : decode cX8_parseNumber 4 = .ok (.aload_n 0, 1) := by decide +kernel
theorem dX8_parseNumber_5 : decode cX8_parseNumber 5 = .ok (.getfield 37, 3) := by decide +kernel
theorem dX8_parseNumber_8 : decode cX8_parseNumber 8 = .ok (.iconst 2, 1) := by decide +kernel
theorem dX8_parseNumber_9 : decode cX8_parseNumber 9 = .ok (.if_icmp .ne 16, 3) := by decide +kernel
theorem dX8_parseNumber_12 : decode cX8_parseNumber 12 = .ok (.aload_n 0, 1) := by decide +kernel
theorem dX8_parseNumber_13 : decode cX8_parseNumber 13 = .ok (.getfield 31, 3) := by decide +kernel
theorem dX8_parseNumber_16 : decode cX8_parseNumber 16 = .ok (.aload_n 0, 1) := by decide +kernel
theorem dX8_parseNumber_17 : decode cX8_parseNumber 17 = .ok (.getfield 47, 3) := by decide +kernel
theorem dX8_parseNumber_20 : decode cX8_parseNumber 20 = .ok (.isub, 1) := by decide +kernel
theorem dX8_parseNumber_21 : decode cX8_parseNumber 21 = .ok (.iconst 3, 1) := by decide +kernel
theorem dX8_parseNumber_22 : decode cX8_parseNumber 22 = .ok (.if_icmp .le 5, 3) := by decide +kernel
theorem dX8_parseNumber_25 : decode cX8_parseNumber 25 = .ok (.iconst (-1), 1) := by decide +kernel
theorem dX8_parseNumber_26 : decode cX8_parseNumber 26 = .ok (.ireturn, 1) := by decide +kernel
theorem dX8_parseNumber_27 : decode cX8_parseNumber 27 = .ok (.iconst 0, 1) := by decide +kernel
theorem dX8_parseNumber_28 : decode cX8_parseNumber 28 = .ok (.istore_n 1, 1) := by decide +kernel
theorem dX8_parseNumber_29 : decode cX8_parseNumber 29 = .ok (.aload_n 0, 1) := by decide +kernel
theorem dX8_parseNumber_30 : decode cX8_parseNumber 30 = .ok (.getfield 47, 3) := by decide +kernel
theorem dX8_parseNumber_33 : decode cX8_parseNumber 33 = .ok (.istore_n 2, 1) := by decide +kernel
theorem dX8_parseNumber_34 : decode cX8_parseNumber 34 = .ok (.iload_n 2, 1) := by decide +kernel
theorem dX8_parseNumber_35 : decode cX8_parseNumber 35 = .ok (.aload_n 0, 1) := by decide +kernel
theorem dX8_parseNumber_36 : decode cX8_parseNumber 36 = .ok (.getfield 31, 3) := by decide +kernel
theorem dX8_parseNumber_39 : decode cX8_parseNumber 39 = .ok (.if_icmp .ge 24, 3) := by decide +kernel
theorem dX8_parseNumber_42 : decode cX8_parseNumber 42 = .ok (.iload_n 1, 1) := by decide +kernel
theorem dX8_parseNumber_43 : decode cX8_parseNumber 43 = .ok (.bipush 10, 2) := by decide +kernel
theorem dX8_parseNumber_45 : decode cX8_parseNumber 45 = .ok (.imul, 1) := by decide +kernel
theorem dX8_parseNumber_46 : decode cX8_parseNumber 46 = .ok (.aload_n 0, 1) := by decide +kernel
theorem dX8_parseNumber_47 : decode cX8_parseNumber 47 = .ok (.getfield 9, 3) := by decide +kernel
theorem dX8_parseNumber_50 : decode cX8_parseNumber 50 = .ok (.iload_n 2, 1) := by decide +kernel
theorem dX8_parseNumber_51 : decode cX8_parseNumber 51 = .ok (.iaload, 1) := by decide +kernel
theorem dX8_parseNumber_52 : decode cX8_parseNumber 52 = .ok (.iadd, 1) := by decide +kernel
theorem dX8_parseNumber_53 : decode cX8_parseNumber 53 = .ok (.bipush 48, 2) := by decide +kernel
theorem dX8_parseNumber_55 : decode cX8_parseNumber 55 = .ok (.isub, 1) := by decide +kernel
theorem dX8_parseNumber_56 : decode cX8_parseNumber 56 = .ok (.istore_n 1, 1) := by decide +kernel
theorem dX8_parseNumber_57 : decode cX8_parseNumber 57 = .ok (.iinc 2 1, 3) := by decide +kernel
theorem dX8_parseNumber_60 : decode cX8_parseNumber 60 = .ok (.goto (-26), 3) := by decide +kernel
theorem dX8_parseNumber_63 : decode cX8_parseNumber 63 = .ok (.iload_n 1, 1) := by decide +kernel
theorem dX8_parseNumber_64 : decode cX8_parseNumber 64 = .ok (.bipush 100, 2) := by decide +kernel
theorem dX8_parseNumber_66 : decode cX8_parseNumber 66 = .ok (.if_icmp .gt 7, 3) := by decide +kernel
theorem dX8_parseNumber_69 : decode cX8_parseNumber 69 = .ok (.iload_n 1, 1) := by decide +kernel
theorem dX8_parseNumber_70 : decode cX8_parseNumber 70 = .ok (.goto 4, 3) := by decide +kernel
theorem dX8_parseNumber_73 : decode cX8_parseNumber 73 = .ok (.iconst (-1), 1) := by decide +kernel
theorem dX8_parseNumber_74 : decode cX8_parseNumber 74 = .ok (.ireturn, 1) := by decide +kernel
theorem dX8_isWord_0 : decode cX8_isWord 0 = .ok (.aload_n 0, 1) := by decide +kernel
theorem dX8_isWord_1 : decode cX8_isWord 1 = .ok (.getfield 37, 3) := by decide +kernel
theorem dX8_isWord_4 : decode cX8_isWord 4 = .ok (.iconst 1, 1) := by decide +kernel
theorem dX8_isWord_5 : decode cX8_isWord 5 = .ok (.if_icmp .ne 19, 3) := by decide +kernel
theorem dX8_isWord_8 : decode cX8_isWord 8 = .ok (.aload_n 0, 1) := by decide +kernel
theorem dX8_isWord_9 : decode cX8_isWord 9 = .ok (.getfield 31, 3) := by decide +kernel
theorem dX8_isWord_12 : decode cX8_isWord 12 = .ok (.aload_n 0, 1) := by decide +kernel
theorem dX8_isWord_13 : decode cX8_isWord 13 = .ok (.getfield 47, 3) := by decide +kernel
theorem dX8_isWord_16 : decode cX8_isWord 16 = .ok (.isub, 1) := by decide +kernel
theorem dX8_isWord_17 : decode cX8_isWord 17 = .ok (.aload_n 1, 1) := by decide +kernel
theorem dX8_isWord_18 : decode cX8_isWord 18 = .ok (.invokevirtual 90, 3) := by decide +kernel
theorem dX8_isWord_21 : decode cX8_isWord 21 = .ok (.if_icmp .eq 5, 3) := by decide +kernel
theorem dX8_isWord_24 : decode cX8_isWord 24 = .ok (.iconst 0, 1) := by decide +kernel
theorem dX8_isWord_25 : decode cX8_isWord 25 = .ok (.ireturn, 1) := by decide +kernel
theorem dX8_isWord_26 : decode cX8_isWord 26 = .ok (.aload_n 0, 1) := by decide +kernel
theorem dX8_isWord_27 : decode cX8_isWord 27 = .ok (.getfield 47, 3) := by decide +kernel
theorem dX8_isWord_30 : decode cX8_isWord 30 = .ok (.istore_n 2, 1) := by decide +kernel
theorem dX8_isWord_31 : decode cX8_isWord 31 = .ok (.iload_n 2, 1) := by decide +kernel
theorem dX8_isWord_32 : decode cX8_isWord 32 = .ok (.aload_n 0, 1) := by decide +kernel
theorem dX8_isWord_33 : decode cX8_isWord 33 = .ok (.getfield 31, 3) := by decide +kernel
theorem dX8_isWord_36 : decode cX8_isWord 36 = .ok (.if_icmp .ge 30, 3) := by decide +kernel
theorem dX8_isWord_39 : decode cX8_isWord 39 = .ok (.aload_n 0, 1) := by decide +kernel
theorem dX8_isWord_40 : decode cX8_isWord 40 = .ok (.getfield 9, 3) := by decide +kernel
theorem dX8_isWord_43 : decode cX8_isWord 43 = .ok (.iload_n 2, 1) := by decide +kernel
theorem dX8_isWord_44 : decode cX8_isWord 44 = .ok (.iaload, 1) := by decide +kernel
theorem dX8_isWord_45 : decode cX8_isWord 45 = .ok (.aload_n 1, 1) := by decide +kernel
theorem dX8_isWord_46 : decode cX8_isWord 46 = .ok (.iload_n 2, 1) := by decide +kernel
theorem dX8_isWord_47 : decode cX8_isWord 47 = .ok (.aload_n 0, 1) := by decide +kernel
theorem dX8_isWord_48 : decode cX8_isWord 48 = .ok (.getfield 47, 3) := by decide +kernel
theorem dX8_isWord_51 : decode cX8_isWord 51 = .ok (.isub, 1) := by decide +kernel
theorem dX8_isWord_52 : decode cX8_isWord 52 = .ok (.invokevirtual 94, 3) := by decide +kernel
theorem dX8_isWord_55 : decode cX8_isWord 55 = .ok (.if_icmp .eq 5, 3) := by decide +kernel
theorem dX8_isWord_58 : decode cX8_isWord 58 = .ok (.iconst 0, 1) := by decide +kernel
theorem dX8_isWord_59 : decode cX8_isWord 59 = .ok (.ireturn, 1) := by decide +kernel
theorem dX8_isWord_60 : decode cX8_isWord 60 = .ok (.iinc 2 1, 3) := by decide +kernel
theorem dX8_isWord_63 : decode cX8_isWord 63 = .ok (.goto (-32), 3) := by decide +kernel
theorem dX8_isWord_66 : decode cX8_isWord 66 = .ok (.iconst 1, 1) := by decide +kernel
theorem dX8_isWord_67 : decode cX8_isWord 67 = .ok (.ireturn, 1) := by decide +kernel
theorem dX8_nextToken_0 : decode cX8_nextToken 0 = .ok (.aload_n 0, 1) := by decide +kernel
theorem dX8_nextToken_1 : decode cX8_nextToken 1 = .ok (.aload_n 0, 1) := by decide +kernel
theorem dX8_nextToken_2 : decode cX8_nextToken 2 = .ok (.getfield 31, 3) := by decide +kernel
theorem dX8_nextToken_5 : decode cX8_nextToken 5 = .ok (.putfield 47, 3) := by decide +kernel
theorem dX8_nextToken_8 : decode cX8_nextToken 8 = .ok (.aload_n 0, 1) := by decide +kernel
theorem dX8_nextToken_9 : decode cX8_nextToken 9 = .ok (.getfield 47, 3) := by decide +kernel
theorem dX8_nextToken_12 : decode cX8_nextToken 12 = .ok (.aload_n 0, 1) := by decide +kernel
theorem dX8_nextToken_13 : decode cX8_nextToken 13 = .ok (.getfield 15, 3) := by decide +kernel
theorem dX8_nextToken_16 : decode cX8_nextToken 16 = .ok (.if_icmp .ge 30, 3) := by decide +kernel
theorem dX8_nextToken_19 : decode cX8_nextToken 19 = .ok (.aload_n 0, 1) := by decide +kernel
theorem dX8_nextToken_20 : decode cX8_nextToken 20 = .ok (.getfield 9, 3) := by decide +kernel
theorem dX8_nextToken_23 : decode cX8_nextToken 23 = .ok (.aload_n 0, 1) := by decide +kernel
theorem dX8_nextToken_24 : decode cX8_nextToken 24 = .ok (.getfield 47, 3) := by decide +kernel
theorem dX8_nextToken_27 : decode cX8_nextToken 27 = .ok (.iaload, 1) := by decide +kernel
theorem dX8_nextToken_28 : decode cX8_nextToken 28 = .ok (.bipush 32, 2) := by decide +kernel
theorem dX8_nextToken_30 : decode cX8_nextToken 30 = .ok (.if_icmp .ne 16, 3) := by decide +kernel
theorem dX8_nextToken_33 : decode cX8_nextToken 33 = .ok (.aload_n 0, 1) := by decide +kernel
theorem dX8_nextToken_34 : decode cX8_nextToken 34 = .ok (.dup, 1) := by decide +kernel
theorem dX8_nextToken_35 : decode cX8_nextToken 35 = .ok (.getfield 47, 3) := by decide +kernel
theorem dX8_nextToken_38 : decode cX8_nextToken 38 = .ok (.iconst 1, 1) := by decide +kernel
theorem dX8_nextToken_39 : decode cX8_nextToken 39 = .ok (.iadd, 1) := by decide +kernel
theorem dX8_nextToken_40 : decode cX8_nextToken 40 = .ok (.putfield 47, 3) := by decide +kernel
theorem dX8_nextToken_43 : decode cX8_nextToken 43 = .ok (.goto (-35), 3) := by decide +kernel
theorem dX8_nextToken_46 : decode cX8_nextToken 46 = .ok (.aload_n 0, 1) := by decide +kernel
theorem dX8_nextToken_47 : decode cX8_nextToken 47 = .ok (.aload_n 0, 1) := by decide +kernel
theorem dX8_nextToken_48 : decode cX8_nextToken 48 = .ok (.getfield 47, 3) := by decide +kernel
theorem dX8_nextToken_51 : decode cX8_nextToken 51 = .ok (.putfield 31, 3) := by decide +kernel
theorem dX8_nextToken_54 : decode cX8_nextToken 54 = .ok (.aload_n 0, 1) := by decide +kernel
theorem dX8_nextToken_55 : decode cX8_nextToken 55 = .ok (.getfield 47, 3) := by decide +kernel
theorem dX8_nextToken_58 : decode cX8_nextToken 58 = .ok (.aload_n 0, 1) := by decide +kernel
theorem dX8_nextToken_59 : decode cX8_nextToken 59 = .ok (.getfield 15, 3) := by decide +kernel
theorem dX8_nextToken_62 : decode cX8_nextToken 62 = .ok (.if_icmp .lt 9, 3) := by decide +kernel
theorem dX8_nextToken_65 : decode cX8_nextToken 65 = .ok (.aload_n 0, 1) := by decide +kernel
theorem dX8_nextToken_66 : decode cX8_nextToken 66 = .ok (.iconst 0, 1) := by decide +kernel
theorem dX8_nextToken_67 : decode cX8_nextToken 67 = .ok (.putfield 37, 3) := by decide +kernel
theorem dX8_nextToken_70 : decode cX8_nextToken 70 = .ok (.return_, 1) := by decide +kernel
theorem dX8_nextToken_71 : decode cX8_nextToken 71 = .ok (.aload_n 0, 1) := by decide +kernel
theorem dX8_nextToken_72 : decode cX8_nextToken 72 = .ok (.aload_n 0, 1) := by decide +kernel
theorem dX8_nextToken_73 : decode cX8_nextToken 73 = .ok (.getfield 9, 3) := by decide +kernel
theorem dX8_nextToken_76 : decode cX8_nextToken 76 = .ok (.aload_n 0, 1) := by decide +kernel
theorem dX8_nextToken_77 : decode cX8_nextToken 77 = .ok (.getfield 47, 3) := by decide +kernel
theorem dX8_nextToken_80 : decode cX8_nextToken 80 = .ok (.iaload, 1) := by decide +kernel
theorem dX8_nextToken_81 : decode cX8_nextToken 81 = .ok (.invokestatic 98, 3) := by decide +kernel
theorem dX8_nextToken_84 : decode cX8_nextToken 84 = .ok (.putfield 37, 3) := by decide +kernel
theorem dX8_nextToken_87 : decode cX8_nextToken 87 = .ok (.aload_n 0, 1) := by decide +kernel
theorem dX8_nextToken_88 : decode cX8_nextToken 88 = .ok (.dup, 1) := by decide +kernel
theorem dX8_nextToken_89 : decode cX8_nextToken 89 = .ok (.getfield 31, 3) := by decide +kernel
theorem dX8_nextToken_92 : decode cX8_nextToken 92 = .ok (.iconst 1, 1) := by decide +kernel
theorem dX8_nextToken_93 : decode cX8_nextToken 93 = .ok (.iadd, 1) := by decide +kernel
theorem dX8_nextToken_94 : decode cX8_nextToken 94 = .ok (.putfield 31, 3) := by decide +kernel
theorem dX8_nextToken_97 : decode cX8_nextToken 97 = .ok (.aload_n 0, 1) := by decide +kernel
theorem dX8_nextToken_98 : decode cX8_nextToken 98 = .ok (.getfield 37, 3) := by decide +kernel
theorem dX8_nextToken_101 : decode cX8_nextToken 101 = .ok (.iconst 3, 1) := by decide +kernel
theorem dX8_nextToken_102 : decode cX8_nextToken 102 = .ok (.if_icmp .eq 46, 3) := by decide +kernel
theorem dX8_nextToken_105 : decode cX8_nextToken 105 = .ok (.aload_n 0, 1) := by decide +kernel
theorem dX8_nextToken_106 : decode cX8_nextToken 106 = .ok (.getfield 31, 3) := by decide +kernel
theorem dX8_nextToken_109 : decode cX8_nextToken 109 = .ok (.aload_n 0, 1) := by decide +kernel
theorem dX8_nextToken_110 : decode cX8_nextToken 110 = .ok (.getfield 15, 3) := by decide +kernel
theorem dX8_nextToken_113 : decode cX8_nextToken 113 = .ok (.if_icmp .ge 35, 3) := by decide +kernel
theorem dX8_nextToken_116 : decode cX8_nextToken 116 = .ok (.aload_n 0, 1) := by decide +kernel
theorem dX8_nextToken_117 : decode cX8_nextToken 117 = .ok (.getfield 9, 3) := by decide +kernel
theorem dX8_nextToken_120 : decode cX8_nextToken 120 = .ok (.aload_n 0, 1) := by decide +kernel
theorem dX8_nextToken_121 : decode cX8_nextToken 121 = .ok (.getfield 31, 3) := by decide +kernel
theorem dX8_nextToken_124 : decode cX8_nextToken 124 = .ok (.iaload, 1) := by decide +kernel
theorem dX8_nextToken_125 : decode cX8_nextToken 125 = .ok (.invokestatic 98, 3) := by decide +kernel
theorem dX8_nextToken_128 : decode cX8_nextToken 128 = .ok (.aload_n 0, 1) := by decide +kernel
theorem dX8_nextToken_129 : decode cX8_nextToken 129 = .ok (.getfield 37, 3) := by decide +kernel
theorem dX8_nextToken_132 : decode cX8_nextToken 132 = .ok (.if_icmp .ne 16, 3) := by decide +kernel
theorem dX8_nextToken_135 : decode cX8_nextToken 135 = .ok (.aload_n 0, 1) := by decide +kernel
theorem dX8_nextToken_136 : decode cX8_nextToken 136 = .ok (.dup, 1) := by decide +kernel
theorem dX8_nextToken_137 : decode cX8_nextToken 137 = .ok (.getfield 31, 3) := by decide +kernel
theorem dX8_nextToken_140 : decode cX8_nextToken 140 = .ok (.iconst 1, 1) := by decide +kernel
theorem dX8_nextToken_141 : decode cX8_nextToken 141 = .ok (.iadd, 1) := by decide +kernel
theorem dX8_nextToken_142 : decode cX8_nextToken 142 = .ok (.putfield 31, 3) := by decide +kernel
theorem dX8_nextToken_145 : decode cX8_nextToken 145 = .ok (.goto (-48), 3) := by decide +kernel
theorem dX8_nextToken_148 : decode cX8_nextToken 148 = .ok (.return_, 1) := by decide +kernel
theorem dX8_kindOf_0 : decode cX8_kindOf 0 = .ok (.iload_n 0, 1) := by decide +kernel
theorem dX8_kindOf_1 : decode cX8_kindOf 1 = .ok (.bipush 97, 2) := by decide +kernel
theorem dX8_kindOf_3 : decode cX8_kindOf 3 = .ok (.if_icmp .lt 11, 3) := by decide +kernel
theorem dX8_kindOf_6 : decode cX8_kindOf 6 = .ok (.iload_n 0, 1) := by decide +kernel
theorem dX8_kindOf_7 : decode cX8_kindOf 7 = .ok (.bipush 122, 2) := by decide +kernel
theorem dX8_kindOf_9 : decode cX8_kindOf 9 = .ok (.if_icmp .gt 5, 3) := by decide +kernel
theorem dX8_kindOf_12 : decode cX8_kindOf 12 = .ok (.iconst 1, 1) := by decide +kernel
theorem dX8_kindOf_13 : decode cX8_kindOf 13 = .ok (.ireturn, 1) := by decide +kernel
theorem dX8_kindOf_14 : decode cX8_kindOf 14 = .ok (.iload_n 0, 1) := by decide +kernel
theorem dX8_kindOf_15 : decode cX8_kindOf 15 = .ok (.bipush 48, 2) := by decide +kernel
theorem dX8_kindOf_17 : decode cX8_kindOf 17 = .ok (.if_icmp .lt 13, 3) := by decide +kernel
theorem dX8_kindOf_20 : decode cX8_kindOf 20 = .ok (.iload_n 0, 1) := by decide +kernel
theorem dX8_kindOf_21 : decode cX8_kindOf 21 = .ok (.bipush 57, 2) := by decide +kernel
theorem dX8_kindOf_23 : decode cX8_kindOf 23 = .ok (.if_icmp .gt 7, 3) := by decide +kernel
theorem dX8_kindOf_26 : decode cX8_kindOf 26 = .ok (.iconst 2, 1) := by decide +kernel
theorem dX8_kindOf_27 : decode cX8_kindOf 27 = .ok (.goto 4, 3) := by decide +kernel
theorem dX8_kindOf_30 : decode cX8_kindOf 30 = .ok (.iconst 3, 1) := by decide +kernel
theorem dX8_kindOf_31 : decode cX8_kindOf 31 = .ok (.ireturn, 1) := by decide +kernel
theorem dX9_init_0 : decode cX9_init 0 = .ok (.aload_n 0, 1) := by decide +kernel
theorem dX9_init_1 : decode cX9_init 1 = .ok (.invokespecial 3, 3) := by decide +kernel
theorem dX9_init_4 : decode cX9_init 4 = .ok (.aload_n 0, 1) := by decide +kernel
theorem dX9_init_5 : decode cX9_init 5 = .ok (.bipush 60, 2) := by decide +kernel
theorem dX9_init_7 : decode cX9_init 7 = .ok (.newarray .int, 2) := by decide +kernel
theorem dX9_init_9 : decode cX9_init 9 = .ok (.putfield 9, 3) := by decide +kernel
theorem dX9_init_12 : decode cX9_init 12 = .ok (.aload_n 0, 1) := by decide +kernel
theorem dX9_init_13 : decode cX9_init 13 = .ok (.bipush 60, 2) := by decide +kernel
theorem dX9_init_15 : decode cX9_init 15 = .ok (.newarray .int, 2) := by decide +kernel
theorem dX9_init_17 : decode cX9_init 17 = .ok (.putfield 15, 3) := by decide +kernel
theorem dX9_init_20 : decode cX9_init 20 = .ok (.aload_n 0, 1) := by decide +kernel
theorem dX9_init_21 : decode cX9_init 21 = .ok (.bipush 60, 2) := by decide +kernel
theorem dX9_init_23 : decode cX9_init 23 = .ok (.newarray .int, 2) := by decide +kernel
theorem dX9_init_25 : decode cX9_init 25 = .ok (.putfield 18, 3) := by decide +kernel
theorem dX9_init_28 : decode cX9_init 28 = .ok (.aload_n 0, 1) := by decide +kernel
theorem dX9_init_29 : decode cX9_init 29 = .ok (.bipush 60, 2) := by decide +kernel
theorem dX9_init_31 : decode cX9_init 31 = .ok (.newarray .int, 2) := by decide +kernel
theorem dX9_init_33 : decode cX9_init 33 = .ok (.putfield 21, 3) := by decide +kernel
theorem dX9_init_36 : decode cX9_init 36 = .ok (.return_, 1) := by decide +kernel
theorem dX9_copyFrom_0 : decode cX9_copyFrom 0 = .ok (.aload_n 1, 1) := by decide +kernel
theorem dX9_copyFrom_1 : decode cX9_copyFrom 1 = .ok (.getfield 9, 3) := by decide +kernel
theorem dX9_copyFrom_4 : decode cX9_copyFrom 4 = .ok (.iconst 0, 1) := by decide +kernel
theorem dX9_copyFrom_5 : decode cX9_copyFrom 5 = .ok (.aload_n 0, 1) := by decide +kernel
theorem dX9_copyFrom_6 : decode cX9_copyFrom 6 = .ok (.getfield 9, 3) := by decide +kernel
theorem dX9_copyFrom_9 : decode cX9_copyFrom 9 = .ok (.iconst 0, 1) := by decide +kernel
theorem dX9_copyFrom_10 : decode cX9_copyFrom 10 = .ok (.bipush 60, 2) := by decide +kernel
theorem dX9_copyFrom_12 : decode cX9_copyFrom 12 = .ok (.invokestatic 24, 3) := by decide +kernel
theorem dX9_copyFrom_15 : decode cX9_copyFrom 15 = .ok (.aload_n 1, 1) := by decide +kernel
theorem dX9_copyFrom_16 : decode cX9_copyFrom 16 = .ok (.getfield 15, 3) := by decide +kernel
theorem dX9_copyFrom_19 : decode cX9_copyFrom 19 = .ok (.iconst 0, 1) := by decide +kernel
theorem dX9_copyFrom_20 : decode cX9_copyFrom 20 = .ok (.aload_n 0, 1) := by decide +kernel
theorem dX9_copyFrom_21 : decode cX9_copyFrom 21 = .ok (.getfield 15, 3) := by decide +kernel
theorem dX9_copyFrom_24 : decode cX9_copyFrom 24 = .ok (.iconst 0, 1) := by decide +kernel
theorem dX9_copyFrom_25 : decode cX9_copyFrom 25 = .ok (.bipush 60, 2) := by decide +kernel
theorem dX9_copyFrom_27 : decode cX9_copyFrom 27 = .ok (.invokestatic 24, 3) := by decide +kernel
theorem dX9_copyFrom_30 : decode cX9_copyFrom 30 = .ok (.aload_n 1, 1) := by decide +kernel
theorem dX9_copyFrom_31 : decode cX9_copyFrom 31 = .ok (.getfield 18, 3) := by decide +kernel
theorem dX9_copyFrom_34 : decode cX9_copyFrom 34 = .ok (.iconst 0, 1) := by decide +kernel
theorem dX9_copyFrom_35 : decode cX9_copyFrom 35 = .ok (.aload_n 0, 1) := by decide +kernel
theorem dX9_copyFrom_36 : decode cX9_copyFrom 36 = .ok (.getfield 18, 3) := by decide +kernel
theorem dX9_copyFrom_39 : decode cX9_copyFrom 39 = .ok (.iconst 0, 1) := by decide +kernel
theorem dX9_copyFrom_40 : decode cX9_copyFrom 40 = .ok (.bipush 60, 2) := by decide +kernel
theorem dX9_copyFrom_42 : decode cX9_copyFrom 42 = .ok (.invokestatic 24, 3) := by decide +kernel
theorem dX9_copyFrom_45 : decode cX9_copyFrom 45 = .ok (.aload_n 1, 1) := by decide +kernel
theorem dX9_copyFrom_46 : decode cX9_copyFrom 46 = .ok (.getfield 21, 3) := by decide +kernel
theorem dX9_copyFrom_49 : decode cX9_copyFrom 49 = .ok (.iconst 0, 1) := by decide +kernel
theorem dX9_copyFrom_50 : decode cX9_copyFrom 50 = .ok (.aload_n 0, 1) := by decide +kernel
theorem dX9_copyFrom_51 : decode cX9_copyFrom 51 = .ok (.getfield 21, 3) := by decide +kernel
theorem dX9_copyFrom_54 : decode cX9_copyFrom 54 = .ok (.iconst 0, 1) := by decide +kernel
theorem dX9_copyFrom_55 : decode cX9_copyFrom 55 = .ok (.bipush 60, 2) := by decide +kernel
theorem dX9_copyFrom_57 : decode cX9_copyFrom 57 = .ok (.invokestatic 24, 3) := by decide +kernel
theorem dX9_copyFrom_60 : decode cX9_copyFrom 60 = .ok (.aload_n 0, 1) := by decide +kernel
theorem dX9_copyFrom_61 : decode cX9_copyFrom 61 = .ok (.aload_n 1, 1) := by decide +kernel
theorem dX9_copyFrom_62 : decode cX9_copyFrom 62 = .ok (.getfield 30, 3) := by decide +kernel
theorem dX9_copyFrom_65 : decode cX9_copyFrom 65 = .ok (.putfield 30, 3) := by decide +kernel
theorem dX9_copyFrom_68 : decode cX9_copyFrom 68 = .ok (.aload_n 0, 1) := by decide +kernel
theorem dX9_copyFrom_69 : decode cX9_copyFrom 69 = .ok (.aload_n 1, 1) := by decide +kernel
theorem dX9_copyFrom_70 : decode cX9_copyFrom 70 = .ok (.getfield 34, 3) := by decide +kernel
theorem dX9_copyFrom_73 : decode cX9_copyFrom 73 = .ok (.putfield 34, 3) := by decide +kernel
theorem dX9_copyFrom_76 : decode cX9_copyFrom 76 = .ok (.return_, 1) := by decide +kernel
theorem dX9_slotOf_0 : decode cX9_slotOf 0 = .ok (.aload_n 0, 1) := by decide +kernel
theorem dX9_slotOf_1 : decode cX9_slotOf 1 = .ok (.getfield 30, 3) := by decide +kernel
theorem dX9_slotOf_4 : decode cX9_slotOf 4 = .ok (.iload_n 1, 1) := by decide +kernel
theorem dX9_slotOf_5 : decode cX9_slotOf 5 = .ok (.iadd, 1) := by decide +kernel
theorem dX9_slotOf_6 : decode cX9_slotOf 6 = .ok (.bipush 60, 2) := by decide +kernel
theorem dX9_slotOf_8 : decode cX9_slotOf 8 = .ok (.irem, 1) := by decide +kernel
theorem dX9_slotOf_9 : decode cX9_slotOf 9 = .ok (.ireturn, 1) := by decide +kernel
theorem dX9_addTry_0 : decode cX9_addTry 0 = .ok (.aload_n 0, 1) := by decide +kernel
theorem dX9_addTry_1 : decode cX9_addTry 1 = .ok (.aload_n 0, 1) := by decide +kernel
theorem dX9_addTry_2 : decode cX9_addTry 2 = .ok (.getfield 34, 3) := by decide +kernel
theorem dX9_addTry_5 : decode cX9_addTry 5 = .ok (.invokevirtual 37, 3) := by decide +kernel
theorem dX9_addTry_8 : decode cX9_addTry 8 = .ok (.istore 5, 2) := by decide +kernel
theorem dX9_addTry_10 : decode cX9_addTry 10 = .ok (.aload_n 0, 1) := by decide +kernel
theorem dX9_addTry_11 : decode cX9_addTry 11 = .ok (.getfield 9, 3) := by decide +kernel
theorem dX9_addTry_14 : decode cX9_addTry 14 = .ok (.iload 5, 2) := by decide +kernel
theorem dX9_addTry_16 : decode cX9_addTry 16 = .ok (.iload_n 1, 1) := by decide +kernel
theorem dX9_addTry_17 : decode cX9_addTry 17 = .ok (.iastore, 1) := by decide +kernel
theorem dX9_addTry_18 : decode cX9_addTry 18 = .ok (.aload_n 0, 1) := by decide +kernel
theorem dX9_addTry_19 : decode cX9_addTry 19 = .ok (.getfield 15, 3) := by decide +kernel
theorem dX9_addTry_22 : decode cX9_addTry 22 = .ok (.iload 5, 2) := by decide +kernel
theorem dX9_addTry_24 : decode cX9_addTry 24 = .ok (.iload_n 2, 1) := by decide +kernel
theorem dX9_addTry_25 : decode cX9_addTry 25 = .ok (.iastore, 1) := by decide +kernel
theorem dX9_addTry_26 : decode cX9_addTry 26 = .ok (.aload_n 0, 1) := by decide +kernel
theorem dX9_addTry_27 : decode cX9_addTry 27 = .ok (.getfield 18, 3) := by decide +kernel
theorem dX9_addTry_30 : decode cX9_addTry 30 = .ok (.iload 5, 2) := by decide +kernel
theorem dX9_addTry_32 : decode cX9_addTry 32 = .ok (.iload_n 3, 1) := by decide +kernel
theorem dX9_addTry_33 : decode cX9_addTry 33 = .ok (.iastore, 1) := by decide +kernel
theorem dX9_addTry_34 : decode cX9_addTry 34 = .ok (.aload_n 0, 1) := by decide +kernel
theorem dX9_addTry_35 : decode cX9_addTry 35 = .ok (.getfield 21, 3) := by decide +kernel
theorem dX9_addTry_38 : decode cX9_addTry 38 = .ok (.iload 5, 2) := by decide +kernel
theorem dX9_addTry_40 : decode cX9_addTry 40 = .ok (.iload 4, 2) := by decide +kernel
theorem dX9_addTry_42 : decode cX9_addTry 42 = .ok (.ifCond .eq 7, 3) := by decide +kernel
theorem dX9_addTry_45 : decode cX9_addTry 45 = .ok (.iconst 1, 1) := by decide +kernel
theorem dX9_addTry_46 : decode cX9_addTry 46 = .ok (.goto 4, 3) := by decide +kernel
theorem dX9_addTry_49 : decode cX9_addTry 49 = .ok (.iconst 0, 1) := by decide +kernel
theorem dX9_addTry_50 : decode cX9_addTry 50 = .ok (.iastore, 1) := by decide +kernel
theorem dX9_addTry_51 : decode cX9_addTry 51 = .ok (.aload_n 0, 1) := by decide +kernel
theorem dX9_addTry_52 : decode cX9_addTry 52 = .ok (.getfield 34, 3) := by decide +kernel
theorem dX9_addTry_55 : decode cX9_addTry 55 = .ok (.bipush 60, 2) := by decide +kernel
theorem dX9_addTry_57 : decode cX9_addTry 57 = .ok (.if_icmp .ge 16, 3) := by decide +kernel
theorem dX9_addTry_60 : decode cX9_addTry 60 = .ok (.aload_n 0, 1) := by decide +kernel
theorem dX9_addTry_61 : decode cX9_addTry 61 = .ok (.dup, 1) := by decide +kernel
theorem dX9_addTry_62 : decode cX9_addTry 62 = .ok (.getfield 34, 3) := by decide +kernel
theorem dX9_addTry_65 : decode cX9_addTry 65 = .ok (.iconst 1, 1) := by decide +kernel
theorem dX9_addTry_66 : decode cX9_addTry 66 = .ok (.iadd, 1) := by decide +kernel
theorem dX9_addTry_67 : decode cX9_addTry 67 = .ok (.putfield 34, 3) := by decide +kernel
theorem dX9_addTry_70 : decode cX9_addTry 70 = .ok (.goto 12, 3) := by decide +kernel
theorem dX9_addTry_73 : decode cX9_addTry 73 = .ok (.aload_n 0, 1) := by decide +kernel
theorem dX9_addTry_74 : decode cX9_addTry 74 = .ok (.aload_n 0, 1) := by decide +kernel
theorem dX9_addTry_75 : decode cX9_addTry 75 = .ok (.iconst 1, 1) := by decide +kernel
theorem dX9_addTry_76 : decode cX9_addTry 76 = .ok (.invokevirtual 37, 3) := by decide +kernel
theorem dX9_addTry_79 : decode cX9_addTry 79 = .ok (.putfield 30, 3) := by decide +kernel
theorem dX9_addTry_82 : decode cX9_addTry 82 = .ok (.return_, 1) := by decide +kernel
theorem dX9_countOf_0 : decode cX9_countOf 0 = .ok (.iconst 0, 1) := by decide +kernel
theorem dX9_countOf_1 : decode cX9_countOf 1 = .ok (.istore_n 2, 1) := by decide +kernel
theorem dX9_countOf_2 : decode cX9_countOf 2 = .ok (.iconst 0, 1) := by decide +kernel
theorem dX9_countOf_3 : decode cX9_countOf 3 = .ok (.istore_n 3, 1) := by decide +kernel
theorem dX9_countOf_4 : decode cX9_countOf 4 = .ok (.iload_n 3, 1) := by decide +kernel
theorem dX9_countOf_5 : decode cX9_countOf 5 = .ok (.aload_n 0, 1) := by decide +kernel
theorem dX9_countOf_6 : decode cX9_countOf 6 = .ok (.getfield 34, 3) := by decide +kernel
theorem dX9_countOf_9 : decode cX9_countOf 9 = .ok (.if_icmp .ge 26, 3) := by decide +kernel
theorem dX9_countOf_12 : decode cX9_countOf 12 = .ok (.aload_n 0, 1) := by decide +kernel
theorem dX9_countOf_13 : decode cX9_countOf 13 = .ok (.getfield 9, 3) := by decide +kernel
theorem dX9_countOf_16 : decode cX9_countOf 16 = .ok (.aload_n 0, 1) := by decide +kernel
theorem dX9_countOf_17 : decode cX9_countOf 17 = .ok (.iload_n 3, 1) := by decide +kernel
theorem dX9_countOf_18 : decode cX9_countOf 18 = .ok (.invokevirtual 37, 3) := by decide +kernel
theorem dX9_countOf_21 : decode cX9_countOf 21 = .ok (.iaload, 1) := by decide +kernel
theorem dX9_countOf_22 : decode cX9_countOf 22 = .ok (.iload_n 1, 1) := by decide +kernel
theorem dX9_countOf_23 : decode cX9_countOf 23 = .ok (.if_icmp .ne 6, 3) := by decide +kernel
theorem dX9_countOf_26 : decode cX9_countOf 26 = .ok (.iinc 2 1, 3) := by decide +kernel
theorem dX9_countOf_29 : decode cX9_countOf 29 = .ok (.iinc 3 1, 3) := by decide +kernel
theorem dX9_countOf_32 : decode cX9_countOf 32 = .ok (.goto (-28), 3) := by decide +kernel
theorem dX9_countOf_35 : decode cX9_countOf 35 = .ok (.iload_n 2, 1) := by decide +kernel
theorem dX9_countOf_36 : decode cX9_countOf 36 = .ok (.ireturn, 1) := by decide +kernel
theorem dX9_isBroken_0 : decode cX9_isBroken 0 = .ok (.iconst 0, 1) := by decide +kernel
theorem dX9_isBroken_1 : decode cX9_isBroken 1 = .ok (.istore_n 2, 1) := by decide +kernel
theorem dX9_isBroken_2 : decode cX9_isBroken 2 = .ok (.aload_n 0, 1) := by decide +kernel
theorem dX9_isBroken_3 : decode cX9_isBroken 3 = .ok (.getfield 34, 3) := by decide +kernel
theorem dX9_isBroken_6 : decode cX9_isBroken 6 = .ok (.iconst 1, 1) := by decide +kernel
theorem dX9_isBroken_7 : decode cX9_isBroken 7 = .ok (.isub, 1) := by decide +kernel
theorem dX9_isBroken_8 : decode cX9_isBroken 8 = .ok (.istore_n 3, 1) := by decide +kernel
theorem dX9_isBroken_9 : decode cX9_isBroken 9 = .ok (.iload_n 3, 1) := by decide +kernel
theorem dX9_isBroken_10 : decode cX9_isBroken 10 = .ok (.ifCond .lt 52, 3) := by decide +kernel
theorem dX9_isBroken_13 : decode cX9_isBroken 13 = .ok (.aload_n 0, 1) := by decide +kernel
theorem dX9_isBroken_14 : decode cX9_isBroken 14 = .ok (.iload_n 3, 1) := by decide +kernel
theorem dX9_isBroken_15 : decode cX9_isBroken 15 = .ok (.invokevirtual 37, 3) := by decide +kernel
theorem dX9_isBroken_18 : decode cX9_isBroken 18 = .ok (.istore 4, 2) := by decide +kernel
theorem dX9_isBroken_20 : decode cX9_isBroken 20 = .ok (.aload_n 0, 1) := by decide +kernel
theorem dX9_isBroken_21 : decode cX9_isBroken 21 = .ok (.getfield 9, 3) := by decide +kernel
theorem dX9_isBroken_24 : decode cX9_isBroken 24 = .ok (.iload 4, 2) := by decide +kernel
theorem dX9_isBroken_26 : decode cX9_isBroken 26 = .ok (.iaload, 1) := by decide +kernel
theorem dX9_isBroken_27 : decode cX9_isBroken 27 = .ok (.iload_n 1, 1) := by decide +kernel
theorem dX9_isBroken_28 : decode cX9_isBroken 28 = .ok (.if_icmp .ne 28, 3) := by decide +kernel
theorem dX9_isBroken_31 : decode cX9_isBroken 31 = .ok (.aload_n 0, 1) := by decide +kernel
theorem dX9_isBroken_32 : decode cX9_isBroken 32 = .ok (.getfield 21, 3) := by decide +kernel
theorem dX9_isBroken_35 : decode cX9_isBroken 35 = .ok (.iload 4, 2) := by decide +kernel
theorem dX9_isBroken_37 : decode cX9_isBroken 37 = .ok (.iaload, 1) := by decide +kernel
theorem dX9_isBroken_38 : decode cX9_isBroken 38 = .ok (.ifCond .ne 6, 3) := by decide +kernel
theorem dX9_isBroken_41 : decode cX9_isBroken 41 = .ok (.goto 21, 3) := by decide +kernel
theorem dX9_isBroken_44 : decode cX9_isBroken 44 = .ok (.iload_n 2, 1) := by decide +kernel
theorem dX9_isBroken_45 : decode cX9_isBroken 45 = .ok (.iconst 1, 1) := by decide +kernel
theorem dX9_isBroken_46 : decode cX9_isBroken 46 = .ok (.aload_n 0, 1) := by decide +kernel
theorem dX9_isBroken_47 : decode cX9_isBroken 47 = .ok (.getfield 15, 3) := by decide +kernel
theorem dX9_isBroken_50 : decode cX9_isBroken 50 = .ok (.iload 4, 2) := by decide +kernel
theorem dX9_isBroken_52 : decode cX9_isBroken 52 = .ok (.iaload, 1) := by decide +kernel
theorem dX9_isBroken_53 : decode cX9_isBroken 53 = .ok (.ishl, 1) := by decide +kernel
theorem dX9_isBroken_54 : decode cX9_isBroken 54 = .ok (.ior, 1) := by decide +kernel
theorem dX9_isBroken_55 : decode cX9_isBroken 55 = .ok (.istore_n 2, 1) := by decide +kernel
theorem dX9_isBroken_56 : decode cX9_isBroken 56 = .ok (.iinc 3 (-1), 3) := by decide +kernel
theorem dX9_isBroken_59 : decode cX9_isBroken 59 = .ok (.goto (-50), 3) := by decide +kernel
theorem dX9_isBroken_62 : decode cX9_isBroken 62 = .ok (.iload_n 2, 1) := by decide +kernel
theorem dX9_isBroken_63 : decode cX9_isBroken 63 = .ok (.invokestatic 41, 3) := by decide +kernel
theorem dX9_isBroken_66 : decode cX9_isBroken 66 = .ok (.iconst 2, 1) := by decide +kernel
theorem dX9_isBroken_67 : decode cX9_isBroken 67 = .ok (.if_icmp .lt 7, 3) := by decide +kernel
theorem dX9_isBroken_70 : decode cX9_isBroken 70 = .ok (.iconst 1, 1) := by decide +kernel
theorem dX9_isBroken_71 : decode cX9_isBroken 71 = .ok (.goto 4, 3) := by decide +kernel
theorem dX9_isBroken_74 : decode cX9_isBroken 74 = .ok (.iconst 0, 1) := by decide +kernel
theorem dX9_isBroken_75 : decode cX9_isBroken 75 = .ok (.ireturn, 1) := by decide +kernel
theorem dX9_wentWellLast_0 : decode cX9_wentWellLast 0 = .ok (.aload_n 0, 1) := by decide +kernel
theorem dX9_wentWellLast_1 : decode cX9_wentWellLast 1 = .ok (.getfield 34, 3) := by decide +kernel
theorem dX9_wentWellLast_4 : decode cX9_wentWellLast 4 = .ok (.iconst 1, 1) := by decide +kernel
theorem dX9_wentWellLast_5 : decode cX9_wentWellLast 5 = .ok (.isub, 1) := by decide +kernel
theorem dX9_wentWellLast_6 : decode cX9_wentWellLast 6 = .ok (.istore_n 2, 1) := by decide +kernel
theorem dX9_wentWellLast_7 : decode cX9_wentWellLast 7 = .ok (.iload_n 2, 1) := by decide +kernel
theorem dX9_wentWellLast_8 : decode cX9_wentWellLast 8 = .ok (.ifCond .lt 40, 3) := by decide +kernel
theorem dX9_wentWellLast_11 : decode cX9_wentWellLast 11 = .ok (.aload_n 0, 1) := by decide +kernel
theorem dX9_wentWellLast_12 : decode cX9_wentWellLast 12 = .ok (.iload_n 2, 1) := by decide +kernel
theorem dX9_wentWellLast_13 : decode cX9_wentWellLast 13 = .ok (.invokevirtual 37, 3) := by decide +kernel
theorem dX9_wentWellLast_16 : decode cX9_wentWellLast 16 = .ok (.istore_n 3, 1) := by decide +kernel
theorem dX9_wentWellLast_17 : decode cX9_wentWellLast 17 = .ok (.aload_n 0, 1) := by decide +kernel
theorem dX9_wentWellLast_18 : decode cX9_wentWellLast 18 = .ok (.getfield 9, 3) := by decide +kernel
theorem dX9_wentWellLast_21 : decode cX9_wentWellLast 21 = .ok (.iload_n 3, 1) := by decide +kernel
theorem dX9_wentWellLast_22 : decode cX9_wentWellLast 22 = .ok (.iaload, 1) := by decide +kernel
theorem dX9_wentWellLast_23 : decode cX9_wentWellLast 23 = .ok (.iload_n 1, 1) := by decide +kernel
theorem dX9_wentWellLast_24 : decode cX9_wentWellLast 24 = .ok (.if_icmp .ne 18, 3) := by decide +kernel
theorem dX9_wentWellLast_27 : decode cX9_wentWellLast 27 = .ok (.aload_n 0, 1) := by decide +kernel
theorem dX9_wentWellLast_28 : decode cX9_wentWellLast 28 = .ok (.getfield 21, 3) := by decide +kernel
theorem dX9_wentWellLast_31 : decode cX9_wentWellLast 31 = .ok (.iload_n 3, 1) := by decide +kernel
theorem dX9_wentWellLast_32 : decode cX9_wentWellLast 32 = .ok (.iaload, 1) := by decide +kernel
theorem dX9_wentWellLast_33 : decode cX9_wentWellLast 33 = .ok (.ifCond .ne 7, 3) := by decide +kernel
theorem dX9_wentWellLast_36 : decode cX9_wentWellLast 36 = .ok (.iconst 1, 1) := by decide +kernel
theorem dX9_wentWellLast_37 : decode cX9_wentWellLast 37 = .ok (.goto 4, 3) := by decide +kernel
theorem dX9_wentWellLast_40 : decode cX9_wentWellLast 40 = .ok (.iconst 0, 1) := by decide +kernel
theorem dX9_wentWellLast_41 : decode cX9_wentWellLast 41 = .ok (.ireturn, 1) := by decide +kernel
theorem dX9_wentWellLast_42 : decode cX9_wentWellLast 42 = .ok (.iinc 2 (-1), 3) := by decide +kernel
theorem dX9_wentWellLast_45 : decode cX9_wentWellLast 45 = .ok (.goto (-38), 3) := by decide +kernel
theorem dX9_wentWellLast_48 : decode cX9_wentWellLast 48 = .ok (.iconst 0, 1) := by decide +kernel
theorem dX9_wentWellLast_49 : decode cX9_wentWellLast 49 = .ok (.ireturn, 1) := by decide +kernel
theorem dX10_init_0 : decode cX10_init 0 = .ok (.aload_n 0, 1) := by decide +kernel
theorem dX10_init_1 : decode cX10_init 1 = .ok (.invokespecial 3, 3) := by decide +kernel
theorem dX10_init_4 : decode cX10_init 4 = .ok (.aload_n 0, 1) := by decide +kernel
theorem dX10_init_5 : decode cX10_init 5 = .ok (.bipush 6, 2) := by decide +kernel
theorem dX10_init_7 : decode cX10_init 7 = .ok (.anewarray 9, 3) := by decide +kernel
theorem dX10_init_10 : decode cX10_init 10 = .ok (.putfield 11, 3) := by decide +kernel
theorem dX10_init_13 : decode cX10_init 13 = .ok (.aload_n 0, 1) := by decide +kernel
theorem dX10_init_14 : decode cX10_init 14 = .ok (.bipush 16, 2) := by decide +kernel
theorem dX10_init_16 : decode cX10_init 16 = .ok (.anewarray 17, 3) := by decide +kernel
theorem dX10_init_19 : decode cX10_init 19 = .ok (.putfield 19, 3) := by decide +kernel
theorem dX10_init_22 : decode cX10_init 22 = .ok (.aload_n 0, 1) := by decide +kernel
theorem dX10_init_23 : decode cX10_init 23 = .ok (.bipush 12, 2) := by decide +kernel
theorem dX10_init_25 : decode cX10_init 25 = .ok (.anewarray 23, 3) := by decide +kernel
theorem dX10_init_28 : decode cX10_init 28 = .ok (.putfield 25, 3) := by decide +kernel
theorem dX10_init_31 : decode cX10_init 31 = .ok (.aload_n 0, 1) := by decide +kernel
theorem dX10_init_32 : decode cX10_init 32 = .ok (.bipush 24, 2) := by decide +kernel
theorem dX10_init_34 : decode cX10_init 34 = .ok (.newarray .int, 2) := by decide +kernel
theorem dX10_init_36 : decode cX10_init 36 = .ok (.putfield 29, 3) := by decide +kernel
theorem dX10_init_39 : decode cX10_init 39 = .ok (.aload_n 0, 1) := by decide +kernel
theorem dX10_init_40 : decode cX10_init 40 = .ok (.new 33, 3) := by decide +kernel
theorem dX10_init_43 : decode cX10_init 43 = .ok (.dup, 1) := by decide +kernel
theorem dX10_init_44 : decode cX10_init 44 = .ok (.invokespecial 35, 3) := by decide +kernel
theorem dX10_init_47 : decode cX10_init 47 = .ok (.putfield 36, 3) := by decide +kernel
theorem dX10_init_50 : decode cX10_init 50 = .ok (.aload_n 0, 1) := by decide +kernel
theorem dX10_init_51 : decode cX10_init 51 = .ok (.new 40, 3) := by decide +kernel
theorem dX10_init_54 : decode cX10_init 54 = .ok (.dup, 1) := by decide +kernel
theorem dX10_init_55 : decode cX10_init 55 = .ok (.invokespecial 42, 3) := by decide +kernel
theorem dX10_init_58 : decode cX10_init 58 = .ok (.putfield 43, 3) := by decide +kernel
theorem dX10_init_61 : decode cX10_init 61 = .ok (.aload_n 0, 1) := by decide +kernel
theorem dX10_init_62 : decode cX10_init 62 = .ok (.new 40, 3) := by decide +kernel
theorem dX10_init_65 : decode cX10_init 65 = .ok (.dup, 1) := by decide +kernel
theorem dX10_init_66 : decode cX10_init 66 = .ok (.invokespecial 42, 3) := by decide +kernel
theorem dX10_init_69 : decode cX10_init 69 = .ok (.putfield 47, 3) := by decide +kernel
theorem dX10_init_72 : decode cX10_init 72 = .ok (.iconst 0, 1) := by decide +kernel
theorem dX10_init_73 : decode cX10_init 73 = .ok (.istore_n 1, 1) := by decide +kernel
theorem dX10_init_74 : decode cX10_init 74 = .ok (.iload_n 1, 1) := by decide +kernel
theorem dX10_init_75 : decode cX10_init 75 = .ok (.bipush 6, 2) := by decide +kernel
theorem dX10_init_77 : decode cX10_init 77 = .ok (.if_icmp .ge 22, 3) := by decide +kernel
theorem dX10_init_80 : decode cX10_init 80 = .ok (.aload_n 0, 1) := by decide +kernel
theorem dX10_init_81 : decode cX10_init 81 = .ok (.getfield 11, 3) := by decide +kernel
theorem dX10_init_84 : decode cX10_init 84 = .ok (.iload_n 1, 1) := by decide +kernel
theorem dX10_init_85 : decode cX10_init 85 = .ok (.new 9, 3) := by decide +kernel
theorem dX10_init_88 : decode cX10_init 88 = .ok (.dup, 1) := by decide +kernel
theorem dX10_init_89 : decode cX10_init 89 = .ok (.invokespecial 50, 3) := by decide +kernel
theorem dX10_init_92 : decode cX10_init 92 = .ok (.aastore, 1) := by decide +kernel
theorem dX10_init_93 : decode cX10_init 93 = .ok (.iinc 1 1, 3) := by decide +kernel
theorem dX10_init_96 : decode cX10_init 96 = .ok (.goto (-22), 3) := by decide +kernel
theorem dX10_init_99 : decode cX10_init 99 = .ok (.iconst 0, 1) := by decide +kernel
theorem dX10_init_100 : decode cX10_init 100 = .ok (.istore_n 1, 1) := by decide +kernel
theorem dX10_init_101 : decode cX10_init 101 = .ok (.iload_n 1, 1) := by decide +kernel
theorem dX10_init_102 : decode cX10_init 102 = .ok (.bipush 16, 2) := by decide +kernel
theorem dX10_init_104 : decode cX10_init 104 = .ok (.if_icmp .ge 22, 3) := by decide +kernel
theorem dX10_init_107 : decode cX10_init 107 = .ok (.aload_n 0, 1) := by decide +kernel
theorem dX10_init_108 : decode cX10_init 108 = .ok (.getfield 19, 3) := by decide +kernel
theorem dX10_init_111 : decode cX10_init 111 = .ok (.iload_n 1, 1) := by decide +kernel
theorem dX10_init_112 : decode cX10_init 112 = .ok (.new 17, 3) := by decide +kernel
theorem dX10_init_115 : decode cX10_init 115 = .ok (.dup, 1) := by decide +kernel
theorem dX10_init_116 : decode cX10_init 116 = .ok (.invokespecial 51, 3) := by decide +kernel
theorem dX10_init_119 : decode cX10_init 119 = .ok (.aastore, 1) := by decide +kernel
theorem dX10_init_120 : decode cX10_init 120 = .ok (.iinc 1 1, 3) := by decide +kernel
theorem dX10_init_123 : decode cX10_init 123 = .ok (.goto (-22), 3) := by decide +kernel
theorem dX10_init_126 : decode cX10_init 126 = .ok (.iconst 0, 1) := by decide +kernel
theorem dX10_init_127 : decode cX10_init 127 = .ok (.istore_n 1, 1) := by decide +kernel
theorem dX10_init_128 : decode cX10_init 128 = .ok (.iload_n 1, 1) := by decide +kernel
theorem dX10_init_129 : decode cX10_init 129 = .ok (.bipush 12, 2) := by decide +kernel
theorem dX10_init_131 : decode cX10_init 131 = .ok (.if_icmp .ge 22, 3) := by decide +kernel
theorem dX10_init_134 : decode cX10_init 134 = .ok (.aload_n 0, 1) := by decide +kernel
theorem dX10_init_135 : decode cX10_init 135 = .ok (.getfield 25, 3) := by decide +kernel
theorem dX10_init_138 : decode cX10_init 138 = .ok (.iload_n 1, 1) := by decide +kernel
theorem dX10_init_139 : decode cX10_init 139 = .ok (.new 23, 3) := by decide +kernel
theorem dX10_init_142 : decode cX10_init 142 = .ok (.dup, 1) := by decide +kernel
theorem dX10_init_143 : decode cX10_init 143 = .ok (.invokespecial 52, 3) := by decide +kernel
theorem dX10_init_146 : decode cX10_init 146 = .ok (.aastore, 1) := by decide +kernel
theorem dX10_init_147 : decode cX10_init 147 = .ok (.iinc 1 1, 3) := by decide +kernel
theorem dX10_init_150 : decode cX10_init 150 = .ok (.goto (-22), 3) := by decide +kernel
theorem dX10_init_153 : decode cX10_init 153 = .ok (.iconst 0, 1) := by decide +kernel
theorem dX10_init_154 : decode cX10_init 154 = .ok (.istore_n 1, 1) := by decide +kernel
theorem dX10_init_155 : decode cX10_init 155 = .ok (.iload_n 1, 1) := by decide +kernel
theorem dX10_init_156 : decode cX10_init 156 = .ok (.bipush 24, 2) := by decide +kernel
theorem dX10_init_158 : decode cX10_init 158 = .ok (.if_icmp .ge 17, 3) := by decide +kernel
theorem dX10_init_161 : decode cX10_init 161 = .ok (.aload_n 0, 1) := by decide +kernel
theorem dX10_init_162 : decode cX10_init 162 = .ok (.getfield 29, 3) := by decide +kernel
theorem dX10_init_165 : decode cX10_init 165 = .ok (.iload_n 1, 1) := by decide +kernel
theorem dX10_init_166 : decode cX10_init 166 = .ok (.bipush 10, 2) := by decide +kernel
theorem dX10_init_168 : decode cX10_init 168 = .ok (.iastore, 1) := by decide +kernel
theorem dX10_init_169 : decode cX10_init 169 = .ok (.iinc 1 1, 3) := by decide +kernel
theorem dX10_init_172 : decode cX10_init 172 = .ok (.goto (-17), 3) := by decide +kernel
theorem dX10_init_175 : decode cX10_init 175 = .ok (.return_, 1) := by decide +kernel
theorem dX10_copyFrom_0 : decode cX10_copyFrom 0 = .ok (.iconst 0, 1) := by decide +kernel
theorem dX10_copyFrom_1 : decode cX10_copyFrom 1 = .ok (.istore_n 2, 1) := by decide +kernel
theorem dX10_copyFrom_2 : decode cX10_copyFrom 2 = .ok (.iload_n 2, 1) := by decide +kernel
theorem dX10_copyFrom_3 : decode cX10_copyFrom 3 = .ok (.bipush 6, 2) := by decide +kernel
theorem dX10_copyFrom_5 : decode cX10_copyFrom 5 = .ok (.if_icmp .ge 24, 3) := by decide +kernel
theorem dX10_copyFrom_8 : decode cX10_copyFrom 8 = .ok (.aload_n 0, 1) := by decide +kernel
theorem dX10_copyFrom_9 : decode cX10_copyFrom 9 = .ok (.getfield 11, 3) := by decide +kernel
theorem dX10_copyFrom_12 : decode cX10_copyFrom 12 = .ok (.iload_n 2, 1) := by decide +kernel
theorem dX10_copyFrom_13 : decode cX10_copyFrom 13 = .ok (.aaload, 1) := by decide +kernel
theorem dX10_copyFrom_14 : decode cX10_copyFrom 14 = .ok (.aload_n 1, 1) := by decide +kernel
theorem dX10_copyFrom_15 : decode cX10_copyFrom 15 = .ok (.getfield 11, 3) := by decide +kernel
theorem dX10_copyFrom_18 : decode cX10_copyFrom 18 = .ok (.iload_n 2, 1) := by decide +kernel
theorem dX10_copyFrom_19 : decode cX10_copyFrom 19 = .ok (.aaload, 1) := by decide +kernel
theorem dX10_copyFrom_20 : decode cX10_copyFrom 20 = .ok (.invokevirtual 53, 3) := by decide +kernel
theorem dX10_copyFrom_23 : decode cX10_copyFrom 23 = .ok (.iinc 2 1, 3) := by decide +kernel
theorem dX10_copyFrom_26 : decode cX10_copyFrom 26 = .ok (.goto (-24), 3) := by decide +kernel
theorem dX10_copyFrom_29 : decode cX10_copyFrom 29 = .ok (.iconst 0, 1) := by decide +kernel
theorem dX10_copyFrom_30 : decode cX10_copyFrom 30 = .ok (.istore_n 2, 1) := by decide +kernel
theorem dX10_copyFrom_31 : decode cX10_copyFrom 31 = .ok (.iload_n 2, 1) := by decide +kernel
theorem dX10_copyFrom_32 : decode cX10_copyFrom 32 = .ok (.bipush 16, 2) := by decide +kernel
theorem dX10_copyFrom_34 : decode cX10_copyFrom 34 = .ok (.if_icmp .ge 24, 3) := by decide +kernel
theorem dX10_copyFrom_37 : decode cX10_copyFrom 37 = .ok (.aload_n 0, 1) := by decide +kernel
theorem dX10_copyFrom_38 : decode cX10_copyFrom 38 = .ok (.getfield 19, 3) := by decide +kernel
theorem dX10_copyFrom_41 : decode cX10_copyFrom 41 = .ok (.iload_n 2, 1) := by decide +kernel
theorem dX10_copyFrom_42 : decode cX10_copyFrom 42 = .ok (.aaload, 1) := by decide +kernel
theorem dX10_copyFrom_43 : decode cX10_copyFrom 43 = .ok (.aload_n 1, 1) := by decide +kernel
theorem dX10_copyFrom_44 : decode cX10_copyFrom 44 = .ok (.getfield 19, 3) := by decide +kernel
theorem dX10_copyFrom_47 : decode cX10_copyFrom 47 = .ok (.iload_n 2, 1) := by decide +kernel
theorem dX10_copyFrom_48 : decode cX10_copyFrom 48 = .ok (.aaload, 1) := by decide +kernel
theorem dX10_copyFrom_49 : decode cX10_copyFrom 49 = .ok (.invokevirtual 57, 3) := by decide +kernel
theorem dX10_copyFrom_52 : decode cX10_copyFrom 52 = .ok (.iinc 2 1, 3) := by decide +kernel
theorem dX10_copyFrom_55 : decode cX10_copyFrom 55 = .ok (.goto (-24), 3) := by decide +kernel
theorem dX10_copyFrom_58 : decode cX10_copyFrom 58 = .ok (.iconst 0, 1) := by decide +kernel
theorem dX10_copyFrom_59 : decode cX10_copyFrom 59 = .ok (.istore_n 2, 1) := by decide +kernel
theorem dX10_copyFrom_60 : decode cX10_copyFrom 60 = .ok (.iload_n 2, 1) := by decide +kernel
theorem dX10_copyFrom_61 : decode cX10_copyFrom 61 = .ok (.bipush 12, 2) := by decide +kernel
theorem dX10_copyFrom_63 : decode cX10_copyFrom 63 = .ok (.if_icmp .ge 24, 3) := by decide +kernel
theorem dX10_copyFrom_66 : decode cX10_copyFrom 66 = .ok (.aload_n 0, 1) := by decide +kernel
theorem dX10_copyFrom_67 : decode cX10_copyFrom 67 = .ok (.getfield 25, 3) := by decide +kernel
theorem dX10_copyFrom_70 : decode cX10_copyFrom 70 = .ok (.iload_n 2, 1) := by decide +kernel
theorem dX10_copyFrom_71 : decode cX10_copyFrom 71 = .ok (.aaload, 1) := by decide +kernel
theorem dX10_copyFrom_72 : decode cX10_copyFrom 72 = .ok (.aload_n 1, 1) := by decide +kernel
theorem dX10_copyFrom_73 : decode cX10_copyFrom 73 = .ok (.getfield 25, 3) := by decide +kernel
theorem dX10_copyFrom_76 : decode cX10_copyFrom 76 = .ok (.iload_n 2, 1) := by decide +kernel
theorem dX10_copyFrom_77 : decode cX10_copyFrom 77 = .ok (.aaload, 1) := by decide +kernel
theorem dX10_copyFrom_78 : decode cX10_copyFrom 78 = .ok (.invokevirtual 60, 3) := by decide +kernel
theorem dX10_copyFrom_81 : decode cX10_copyFrom 81 = .ok (.iinc 2 1, 3) := by decide +kernel
theorem dX10_copyFrom_84 : decode cX10_copyFrom 84 = .ok (.goto (-24), 3) := by decide +kernel
theorem dX10_copyFrom_87 : decode cX10_copyFrom 87 = .ok (.aload_n 1, 1) := by decide +kernel
theorem dX10_copyFrom_88 : decode cX10_copyFrom 88 = .ok (.getfield 29, 3) := by decide +kernel
theorem dX10_copyFrom_91 : decode cX10_copyFrom 91 = .ok (.iconst 0, 1) := by decide +kernel
theorem dX10_copyFrom_92 : decode cX10_copyFrom 92 = .ok (.aload_n 0, 1) := by decide +kernel
theorem dX10_copyFrom_93 : decode cX10_copyFrom 93 = .ok (.getfield 29, 3) := by decide +kernel
theorem dX10_copyFrom_96 : decode cX10_copyFrom 96 = .ok (.iconst 0, 1) := by decide +kernel
theorem dX10_copyFrom_97 : decode cX10_copyFrom 97 = .ok (.bipush 24, 2) := by decide +kernel
theorem dX10_copyFrom_99 : decode cX10_copyFrom 99 = .ok (.invokestatic 63, 3) := by decide +kernel
theorem dX10_copyFrom_102 : decode cX10_copyFrom 102 = .ok (.aload_n 0, 1) := by decide +kernel
theorem dX10_copyFrom_103 : decode cX10_copyFrom 103 = .ok (.getfield 36, 3) := by decide +kernel
theorem dX10_copyFrom_106 : decode cX10_copyFrom 106 = .ok (.aload_n 1, 1) := by decide +kernel
theorem dX10_copyFrom_107 : decode cX10_copyFrom 107 = .ok (.getfield 36, 3) := by decide +kernel
theorem dX10_copyFrom_110 : decode cX10_copyFrom 110 = .ok (.invokevirtual 69, 3) := by decide +kernel
theorem dX10_copyFrom_113 : decode cX10_copyFrom 113 = .ok (.aload_n 0, 1) := by decide +kernel
theorem dX10_copyFrom_114 : decode cX10_copyFrom 114 = .ok (.getfield 43, 3) := by decide +kernel
theorem dX10_copyFrom_117 : decode cX10_copyFrom 117 = .ok (.aload_n 1, 1) := by decide +kernel
theorem dX10_copyFrom_118 : decode cX10_copyFrom 118 = .ok (.getfield 43, 3) := by decide +kernel
theorem dX10_copyFrom_121 : decode cX10_copyFrom 121 = .ok (.invokevirtual 72, 3) := by decide +kernel
theorem dX10_copyFrom_124 : decode cX10_copyFrom 124 = .ok (.aload_n 0, 1) := by decide +kernel
theorem dX10_copyFrom_125 : decode cX10_copyFrom 125 = .ok (.getfield 47, 3) := by decide +kernel
theorem dX10_copyFrom_128 : decode cX10_copyFrom 128 = .ok (.aload_n 1, 1) := by decide +kernel
theorem dX10_copyFrom_129 : decode cX10_copyFrom 129 = .ok (.getfield 47, 3) := by decide +kernel
theorem dX10_copyFrom_132 : decode cX10_copyFrom 132 = .ok (.invokevirtual 72, 3) := by decide +kernel
theorem dX10_copyFrom_135 : decode cX10_copyFrom 135 = .ok (.aload_n 0, 1) := by decide +kernel
theorem dX10_copyFrom_136 : decode cX10_copyFrom 136 = .ok (.aload_n 1, 1) := by decide +kernel
theorem dX10_copyFrom_137 : decode cX10_copyFrom 137 = .ok (.getfield 75, 3) := by decide +kernel
theorem dX10_copyFrom_140 : decode cX10_copyFrom 140 = .ok (.putfield 75, 3) := by decide +kernel
theorem dX10_copyFrom_143 : decode cX10_copyFrom 143 = .ok (.aload_n 0, 1) := by decide +kernel
theorem dX10_copyFrom_144 : decode cX10_copyFrom 144 = .ok (.aload_n 1, 1) := by decide +kernel
theorem dX10_copyFrom_145 : decode cX10_copyFrom 145 = .ok (.getfield 79, 3) := by decide +kernel
theorem dX10_copyFrom_148 : decode cX10_copyFrom 148 = .ok (.putfield 79, 3) := by decide +kernel
theorem dX10_copyFrom_151 : decode cX10_copyFrom 151 = .ok (.aload_n 0, 1) := by decide +kernel
theorem dX10_copyFrom_152 : decode cX10_copyFrom 152 = .ok (.aload_n 1, 1) := by decide +kernel
theorem dX10_copyFrom_153 : decode cX10_copyFrom 153 = .ok (.getfield 82, 3) := by decide +kernel
theorem dX10_copyFrom_156 : decode cX10_copyFrom 156 = .ok (.putfield 82, 3) := by decide +kernel
theorem dX10_copyFrom_159 : decode cX10_copyFrom 159 = .ok (.aload_n 0, 1) := by decide +kernel
theorem dX10_copyFrom_160 : decode cX10_copyFrom 160 = .ok (.aload_n 1, 1) := by decide +kernel
theorem dX10_copyFrom_161 : decode cX10_copyFrom 161 = .ok (.getfield 85, 3) := by decide +kernel
theorem dX10_copyFrom_164 : decode cX10_copyFrom 164 = .ok (.putfield 85, 3) := by decide +kernel
theorem dX10_copyFrom_167 : decode cX10_copyFrom 167 = .ok (.aload_n 0, 1) := by decide +kernel
theorem dX10_copyFrom_168 : decode cX10_copyFrom 168 = .ok (.aload_n 1, 1) := by decide +kernel
theorem dX10_copyFrom_169 : decode cX10_copyFrom 169 = .ok (.getfield 88, 3) := by decide +kernel
theorem dX10_copyFrom_172 : decode cX10_copyFrom 172 = .ok (.putfield 88, 3) := by decide +kernel
theorem dX10_copyFrom_175 : decode cX10_copyFrom 175 = .ok (.aload_n 0, 1) := by decide +kernel
theorem dX10_copyFrom_176 : decode cX10_copyFrom 176 = .ok (.aload_n 1, 1) := by decide +kernel
theorem dX10_copyFrom_177 : decode cX10_copyFrom 177 = .ok (.getfield 91, 3) := by decide +kernel
theorem dX10_copyFrom_180 : decode cX10_copyFrom 180 = .ok (.putfield 91, 3) := by decide +kernel
theorem dX10_copyFrom_183 : decode cX10_copyFrom 183 = .ok (.aload_n 0, 1) := by decide +kernel
theorem dX10_copyFrom_184 : decode cX10_copyFrom 184 = .ok (.aload_n 1, 1) := by decide +kernel
theorem dX10_copyFrom_185 : decode cX10_copyFrom 185 = .ok (.getfield 94, 3) := by decide +kernel
theorem dX10_copyFrom_188 : decode cX10_copyFrom 188 = .ok (.putfield 94, 3) := by decide +kernel
theorem dX10_copyFrom_191 : decode cX10_copyFrom 191 = .ok (.return_, 1) := by decide +kernel
theorem dX10_hasSite_0 : decode cX10_hasSite 0 = .ok (.iload_n 1, 1) := by decide +kernel
theorem dX10_hasSite_1 : decode cX10_hasSite 1 = .ok (.ifCond .lt 15, 3) := by decide +kernel
theorem dX10_hasSite_4 : decode cX10_hasSite 4 = .ok (.iload_n 1, 1) := by decide +kernel
theorem dX10_hasSite_5 : decode cX10_hasSite 5 = .ok (.aload_n 0, 1) := by decide +kernel
theorem dX10_hasSite_6 : decode cX10_hasSite 6 = .ok (.getfield 75, 3) := by decide +kernel
theorem dX10_hasSite_9 : decode cX10_hasSite 9 = .ok (.if_icmp .ge 7, 3) := by decide +kernel
theorem dX10_hasSite_12 : decode cX10_hasSite 12 = .ok (.iconst 1, 1) := by decide +kernel
theorem dX10_hasSite_13 : decode cX10_hasSite 13 = .ok (.goto 4, 3) := by decide +kernel
theorem dX10_hasSite_16 : decode cX10_hasSite 16 = .ok (.iconst 0, 1) := by decide +kernel
theorem dX10_hasSite_17 : decode cX10_hasSite 17 = .ok (.ireturn, 1) := by decide +kernel
theorem dX10_hasPlug_0 : decode cX10_hasPlug 0 = .ok (.iload_n 1, 1) := by decide +kernel
theorem dX10_hasPlug_1 : decode cX10_hasPlug 1 = .ok (.ifCond .lt 15, 3) := by decide +kernel
theorem dX10_hasPlug_4 : decode cX10_hasPlug 4 = .ok (.iload_n 1, 1) := by decide +kernel
theorem dX10_hasPlug_5 : decode cX10_hasPlug 5 = .ok (.aload_n 0, 1) := by decide +kernel
theorem dX10_hasPlug_6 : decode cX10_hasPlug 6 = .ok (.getfield 79, 3) := by decide +kernel
theorem dX10_hasPlug_9 : decode cX10_hasPlug 9 = .ok (.if_icmp .ge 7, 3) := by decide +kernel
theorem dX10_hasPlug_12 : decode cX10_hasPlug 12 = .ok (.iconst 1, 1) := by decide +kernel
theorem dX10_hasPlug_13 : decode cX10_hasPlug 13 = .ok (.goto 4, 3) := by decide +kernel
theorem dX10_hasPlug_16 : decode cX10_hasPlug 16 = .ok (.iconst 0, 1) := by decide +kernel
theorem dX10_hasPlug_17 : decode cX10_hasPlug 17 = .ok (.ireturn, 1) := by decide +kernel
theorem dX10_hasCar_0 : decode cX10_hasCar 0 = .ok (.iload_n 1, 1) := by decide +kernel
theorem dX10_hasCar_1 : decode cX10_hasCar 1 = .ok (.ifCond .lt 15, 3) := by decide +kernel
theorem dX10_hasCar_4 : decode cX10_hasCar 4 = .ok (.iload_n 1, 1) := by decide +kernel
theorem dX10_hasCar_5 : decode cX10_hasCar 5 = .ok (.aload_n 0, 1) := by decide +kernel
theorem dX10_hasCar_6 : decode cX10_hasCar 6 = .ok (.getfield 82, 3) := by decide +kernel
theorem dX10_hasCar_9 : decode cX10_hasCar 9 = .ok (.if_icmp .ge 7, 3) := by decide +kernel
theorem dX10_hasCar_12 : decode cX10_hasCar 12 = .ok (.iconst 1, 1) := by decide +kernel
theorem dX10_hasCar_13 : decode cX10_hasCar 13 = .ok (.goto 4, 3) := by decide +kernel
theorem dX10_hasCar_16 : decode cX10_hasCar 16 = .ok (.iconst 0, 1) := by decide +kernel
theorem dX10_hasCar_17 : decode cX10_hasCar 17 = .ok (.ireturn, 1) := by decide +kernel
theorem dX10_ticksToDrive_0 : decode cX10_ticksToDrive 0 = .ok (.iload_n 0, 1) := by decide +kernel
theorem dX10_ticksToDrive_1 : decode cX10_ticksToDrive 1 = .ok (.bipush 8, 2) := by decide +kernel
theorem dX10_ticksToDrive_3 : decode cX10_ticksToDrive 3 = .ok (.invokestatic 97, 3) := by decide +kernel
theorem dX10_ticksToDrive_6 : decode cX10_ticksToDrive 6 = .ok (.ireturn, 1) := by decide +kernel
theorem dX10_chargeToDrive_0 : decode cX10_chargeToDrive 0 = .ok (.iload_n 2, 1) := by decide +kernel
theorem dX10_chargeToDrive_1 : decode cX10_chargeToDrive 1 = .ok (.aload_n 1, 1) := by decide +kernel
theorem dX10_chargeToDrive_2 : decode cX10_chargeToDrive 2 = .ok (.getfield 101, 3) := by decide +kernel
theorem dX10_chargeToDrive_5 : decode cX10_chargeToDrive 5 = .ok (.imul, 1) := by decide +kernel
theorem dX10_chargeToDrive_6 : decode cX10_chargeToDrive 6 = .ok (.bipush 100, 2) := by decide +kernel
theorem dX10_chargeToDrive_8 : decode cX10_chargeToDrive 8 = .ok (.aload_n 0, 1) := by decide +kernel
theorem dX10_chargeToDrive_9 : decode cX10_chargeToDrive 9 = .ok (.getfield 85, 3) := by decide +kernel
theorem dX10_chargeToDrive_12 : decode cX10_chargeToDrive 12 = .ok (.iadd, 1) := by decide +kernel
theorem dX10_chargeToDrive_13 : decode cX10_chargeToDrive 13 = .ok (.imul, 1) := by decide +kernel
theorem dX10_chargeToDrive_14 : decode cX10_chargeToDrive 14 = .ok (.sipush 10000, 3) := by decide +kernel
theorem dX10_chargeToDrive_17 : decode cX10_chargeToDrive 17 = .ok (.invokestatic 97, 3) := by decide +kernel
theorem dX10_chargeToDrive_20 : decode cX10_chargeToDrive 20 = .ok (.ireturn, 1) := by decide +kernel
theorem dX10_gainOf_0 : decode cX10_gainOf 0 = .ok (.aload_n 1, 1) := by decide +kernel
theorem dX10_gainOf_1 : decode cX10_gainOf 1 = .ok (.getfield 104, 3) := by decide +kernel
theorem dX10_gainOf_4 : decode cX10_gainOf 4 = .ok (.iload_n 2, 1) := by decide +kernel
theorem dX10_gainOf_5 : decode cX10_gainOf 5 = .ok (.invokestatic 107, 3) := by decide +kernel
theorem dX10_gainOf_8 : decode cX10_gainOf 8 = .ok (.bipush 100, 2) := by decide +kernel
theorem dX10_gainOf_10 : decode cX10_gainOf 10 = .ok (.aload_n 0, 1) := by decide +kernel
theorem dX10_gainOf_11 : decode cX10_gainOf 11 = .ok (.getfield 85, 3) := by decide +kernel
theorem dX10_gainOf_14 : decode cX10_gainOf 14 = .ok (.isub, 1) := by decide +kernel
theorem dX10_gainOf_15 : decode cX10_gainOf 15 = .ok (.imul, 1) := by decide +kernel
theorem dX10_gainOf_16 : decode cX10_gainOf 16 = .ok (.bipush 100, 2) := by decide +kernel
theorem dX10_gainOf_18 : decode cX10_gainOf 18 = .ok (.idiv, 1) := by decide +kernel
theorem dX10_gainOf_19 : decode cX10_gainOf 19 = .ok (.istore 4, 2) := by decide +kernel
theorem dX10_gainOf_21 : decode cX10_gainOf 21 = .ok (.bipush 20, 2) := by decide +kernel
theorem dX10_gainOf_23 : decode cX10_gainOf 23 = .ok (.iload_n 3, 1) := by decide +kernel
theorem dX10_gainOf_24 : decode cX10_gainOf 24 = .ok (.imul, 1) := by decide +kernel
theorem dX10_gainOf_25 : decode cX10_gainOf 25 = .ok (.bipush 19, 2) := by decide +kernel
theorem dX10_gainOf_27 : decode cX10_gainOf 27 = .ok (.aload_n 1, 1) := by decide +kernel
theorem dX10_gainOf_28 : decode cX10_gainOf 28 = .ok (.getfield 112, 3) := by decide +kernel
theorem dX10_gainOf_31 : decode cX10_gainOf 31 = .ok (.imul, 1) := by decide +kernel
theorem dX10_gainOf_32 : decode cX10_gainOf 32 = .ok (.if_icmp .lt 12, 3) := by decide +kernel
theorem dX10_gainOf_35 : decode cX10_gainOf 35 = .ok (.iload 4, 2) := by decide +kernel
theorem dX10_gainOf_37 : decode cX10_gainOf 37 = .ok (.iconst 4, 1) := by decide +kernel
theorem dX10_gainOf_38 : decode cX10_gainOf 38 = .ok (.idiv, 1) := by decide +kernel
theorem dX10_gainOf_39 : decode cX10_gainOf 39 = .ok (.istore 4, 2) := by decide +kernel
theorem dX10_gainOf_41 : decode cX10_gainOf 41 = .ok (.goto 21, 3) := by decide +kernel
theorem dX10_gainOf_44 : decode cX10_gainOf 44 = .ok (.iconst 5, 1) := by decide +kernel
theorem dX10_gainOf_45 : decode cX10_gainOf 45 = .ok (.iload_n 3, 1) := by decide +kernel
theorem dX10_gainOf_46 : decode cX10_gainOf 46 = .ok (.imul, 1) := by decide +kernel
theorem dX10_gainOf_47 : decode cX10_gainOf 47 = .ok (.iconst 4, 1) := by decide +kernel
theorem dX10_gainOf_48 : decode cX10_gainOf 48 = .ok (.aload_n 1, 1) := by decide +kernel
theorem dX10_gainOf_49 : decode cX10_gainOf 49 = .ok (.getfield 112, 3) := by decide +kernel
theorem dX10_gainOf_52 : decode cX10_gainOf 52 = .ok (.imul, 1) := by decide +kernel
theorem dX10_gainOf_53 : decode cX10_gainOf 53 = .ok (.if_icmp .lt 9, 3) := by decide +kernel
theorem dX10_gainOf_56 : decode cX10_gainOf 56 = .ok (.iload 4, 2) := by decide +kernel
theorem dX10_gainOf_58 : decode cX10_gainOf 58 = .ok (.iconst 2, 1) := by decide +kernel
theorem dX10_gainOf_59 : decode cX10_gainOf 59 = .ok (.idiv, 1) := by decide +kernel
theorem dX10_gainOf_60 : decode cX10_gainOf 60 = .ok (.istore 4, 2) := by decide +kernel
theorem dX10_gainOf_62 : decode cX10_gainOf 62 = .ok (.iload 4, 2) := by decide +kernel
theorem dX10_gainOf_64 : decode cX10_gainOf 64 = .ok (.iconst 1, 1) := by decide +kernel
theorem dX10_gainOf_65 : decode cX10_gainOf 65 = .ok (.invokestatic 115, 3) := by decide +kernel
theorem dX10_gainOf_68 : decode cX10_gainOf 68 = .ok (.aload_n 1, 1) := by decide +kernel
theorem dX10_gainOf_69 : decode cX10_gainOf 69 = .ok (.getfield 112, 3) := by decide +kernel
theorem dX10_gainOf_72 : decode cX10_gainOf 72 = .ok (.iload_n 3, 1) := by decide +kernel
theorem dX10_gainOf_73 : decode cX10_gainOf 73 = .ok (.isub, 1) := by decide +kernel
theorem dX10_gainOf_74 : decode cX10_gainOf 74 = .ok (.invokestatic 107, 3) := by decide +kernel
theorem dX10_gainOf_77 : decode cX10_gainOf 77 = .ok (.ireturn, 1) := by decide +kernel
theorem dX10_priceNow_0 : decode cX10_priceNow 0 = .ok (.aload_n 0, 1) := by decide +kernel
theorem dX10_priceNow_1 : decode cX10_priceNow 1 = .ok (.getfield 29, 3) := by decide +kernel
theorem dX10_priceNow_4 : decode cX10_priceNow 4 = .ok (.aload_n 0, 1) := by decide +kernel
theorem dX10_priceNow_5 : decode cX10_priceNow 5 = .ok (.getfield 91, 3) := by decide +kernel
theorem dX10_priceNow_8 : decode cX10_priceNow 8 = .ok (.bipush 12, 2) := by decide +kernel
theorem dX10_priceNow_10 : decode cX10_priceNow 10 = .ok (.idiv, 1) := by decide +kernel
theorem dX10_priceNow_11 : decode cX10_priceNow 11 = .ok (.bipush 24, 2) := by decide +kernel
theorem dX10_priceNow_13 : decode cX10_priceNow 13 = .ok (.irem, 1) := by decide +kernel
theorem dX10_priceNow_14 : decode cX10_priceNow 14 = .ok (.iaload, 1) := by decide +kernel
theorem dX10_priceNow_15 : decode cX10_priceNow 15 = .ok (.ireturn, 1) := by decide +kernel
theorem dX10_mostThatServes_0 : decode cX10_mostThatServes 0 = .ok (.iconst 0, 1) := by decide +kernel
theorem dX10_mostThatServes_1 : decode cX10_mostThatServes 1 = .ok (.istore_n 3, 1) := by decide +kernel
theorem dX10_mostThatServes_2 : decode cX10_mostThatServes 2 = .ok (.iconst 0, 1) := by decide +kernel
theorem dX10_mostThatServes_3 : decode cX10_mostThatServes 3 = .ok (.istore 4, 2) := by decide +kernel
theorem dX10_mostThatServes_5 : decode cX10_mostThatServes 5 = .ok (.iload 4, 2) := by decide +kernel
theorem dX10_mostThatServes_7 : decode cX10_mostThatServes 7 = .ok (.aload_n 1, 1) := by decide +kernel
theorem dX10_mostThatServes_8 : decode cX10_mostThatServes 8 = .ok (.getfield 118, 3) := by decide +kernel
theorem dX10_mostThatServes_11 : decode cX10_mostThatServes 11 = .ok (.if_icmp .ge 63, 3) := by decide +kernel
theorem dX10_mostThatServes_14 : decode cX10_mostThatServes 14 = .ok (.aload_n 1, 1) := by decide +kernel
theorem dX10_mostThatServes_15 : decode cX10_mostThatServes 15 = .ok (.getfield 119, 3) := by decide +kernel
theorem dX10_mostThatServes_18 : decode cX10_mostThatServes 18 = .ok (.iload 4, 2) := by decide +kernel
theorem dX10_mostThatServes_20 : decode cX10_mostThatServes 20 = .ok (.iaload, 1) := by decide +kernel
theorem dX10_mostThatServes_21 : decode cX10_mostThatServes 21 = .ok (.istore 5, 2) := by decide +kernel
theorem dX10_mostThatServes_23 : decode cX10_mostThatServes 23 = .ok (.aload_n 0, 1) := by decide +kernel
theorem dX10_mostThatServes_24 : decode cX10_mostThatServes 24 = .ok (.getfield 19, 3) := by decide +kernel
theorem dX10_mostThatServes_27 : decode cX10_mostThatServes 27 = .ok (.iload 5, 2) := by decide +kernel
theorem dX10_mostThatServes_29 : decode cX10_mostThatServes 29 = .ok (.aaload, 1) := by decide +kernel
theorem dX10_mostThatServes_30 : decode cX10_mostThatServes 30 = .ok (.astore 6, 2) := by decide +kernel
theorem dX10_mostThatServes_32 : decode cX10_mostThatServes 32 = .ok (.aload 6, 2) := by decide +kernel
theorem dX10_mostThatServes_34 : decode cX10_mostThatServes 34 = .ok (.getfield 121, 3) := by decide +kernel
theorem dX10_mostThatServes_37 : decode cX10_mostThatServes 37 = .ok (.iload_n 2, 1) := by decide +kernel
theorem dX10_mostThatServes_38 : decode cX10_mostThatServes 38 = .ok (.if_icmp .ne 30, 3) := by decide +kernel
theorem dX10_mostThatServes_41 : decode cX10_mostThatServes 41 = .ok (.aload 6, 2) := by decide +kernel
theorem dX10_mostThatServes_43 : decode cX10_mostThatServes 43 = .ok (.getfield 124, 3) := by decide +kernel
theorem dX10_mostThatServes_46 : decode cX10_mostThatServes 46 = .ok (.iload_n 3, 1) := by decide +kernel
theorem dX10_mostThatServes_47 : decode cX10_mostThatServes 47 = .ok (.if_icmp .le 21, 3) := by decide +kernel
theorem dX10_mostThatServes_50 : decode cX10_mostThatServes 50 = .ok (.aload_n 0, 1) := by decide +kernel
theorem dX10_mostThatServes_51 : decode cX10_mostThatServes 51 = .ok (.getfield 36, 3) := by decide +kernel
theorem dX10_mostThatServes_54 : decode cX10_mostThatServes 54 = .ok (.iload 5, 2) := by decide +kernel
theorem dX10_mostThatServes_56 : decode cX10_mostThatServes 56 = .ok (.invokevirtual 127, 3) := by decide +kernel
theorem dX10_mostThatServes_59 : decode cX10_mostThatServes 59 = .ok (.ifCond .ne 9, 3) := by decide +kernel
theorem dX10_mostThatServes_62 : decode cX10_mostThatServes 62 = .ok (.aload 6, 2) := by decide +kernel
theorem dX10_mostThatServes_64 : decode cX10_mostThatServes 64 = .ok (.getfield 124, 3) := by decide +kernel
theorem dX10_mostThatServes_67 : decode cX10_mostThatServes 67 = .ok (.istore_n 3, 1) := by decide +kernel
theorem dX10_mostThatServes_68 : decode cX10_mostThatServes 68 = .ok (.iinc 4 1, 3) := by decide +kernel
theorem dX10_mostThatServes_71 : decode cX10_mostThatServes 71 = .ok (.goto (-66), 3) := by decide +kernel
theorem dX10_mostThatServes_74 : decode cX10_mostThatServes 74 = .ok (.iload_n 3, 1) := by decide +kernel
theorem dX10_mostThatServes_75 : decode cX10_mostThatServes 75 = .ok (.ireturn, 1) := by decide +kernel
theorem dX10_isAwaited_0 : decode cX10_isAwaited 0 = .ok (.iconst 0, 1) := by decide +kernel
theorem dX10_isAwaited_1 : decode cX10_isAwaited 1 = .ok (.istore_n 3, 1) := by decide +kernel
theorem dX10_isAwaited_2 : decode cX10_isAwaited 2 = .ok (.iload_n 3, 1) := by decide +kernel
theorem dX10_isAwaited_3 : decode cX10_isAwaited 3 = .ok (.aload_n 1, 1) := by decide +kernel
theorem dX10_isAwaited_4 : decode cX10_isAwaited 4 = .ok (.getfield 131, 3) := by decide +kernel
theorem dX10_isAwaited_7 : decode cX10_isAwaited 7 = .ok (.if_icmp .ge 29, 3) := by decide +kernel
theorem dX10_isAwaited_10 : decode cX10_isAwaited 10 = .ok (.aload_n 0, 1) := by decide +kernel
theorem dX10_isAwaited_11 : decode cX10_isAwaited 11 = .ok (.getfield 25, 3) := by decide +kernel
theorem dX10_isAwaited_14 : decode cX10_isAwaited 14 = .ok (.aload_n 1, 1) := by decide +kernel
theorem dX10_isAwaited_15 : decode cX10_isAwaited 15 = .ok (.getfield 134, 3) := by decide +kernel
theorem dX10_isAwaited_18 : decode cX10_isAwaited 18 = .ok (.iload_n 3, 1) := by decide +kernel
theorem dX10_isAwaited_19 : decode cX10_isAwaited 19 = .ok (.iaload, 1) := by decide +kernel
theorem dX10_isAwaited_20 : decode cX10_isAwaited 20 = .ok (.aaload, 1) := by decide +kernel
theorem dX10_isAwaited_21 : decode cX10_isAwaited 21 = .ok (.getfield 137, 3) := by decide +kernel
theorem dX10_isAwaited_24 : decode cX10_isAwaited 24 = .ok (.iload_n 2, 1) := by decide +kernel
theorem dX10_isAwaited_25 : decode cX10_isAwaited 25 = .ok (.if_icmp .ne 5, 3) := by decide +kernel
theorem dX10_isAwaited_28 : decode cX10_isAwaited 28 = .ok (.iconst 1, 1) := by decide +kernel
theorem dX10_isAwaited_29 : decode cX10_isAwaited 29 = .ok (.ireturn, 1) := by decide +kernel
theorem dX10_isAwaited_30 : decode cX10_isAwaited 30 = .ok (.iinc 3 1, 3) := by decide +kernel
theorem dX10_isAwaited_33 : decode cX10_isAwaited 33 = .ok (.goto (-31), 3) := by decide +kernel
theorem dX10_isAwaited_36 : decode cX10_isAwaited 36 = .ok (.iconst 0, 1) := by decide +kernel
theorem dX10_isAwaited_37 : decode cX10_isAwaited 37 = .ok (.ireturn, 1) := by decide +kernel
theorem dX10_placeInQueue_0 : decode cX10_placeInQueue 0 = .ok (.aload_n 0, 1) := by decide +kernel
theorem dX10_placeInQueue_1 : decode cX10_placeInQueue 1 = .ok (.getfield 25, 3) := by decide +kernel
theorem dX10_placeInQueue_4 : decode cX10_placeInQueue 4 = .ok (.iload_n 1, 1) := by decide +kernel
theorem dX10_placeInQueue_5 : decode cX10_placeInQueue 5 = .ok (.aaload, 1) := by decide +kernel
theorem dX10_placeInQueue_6 : decode cX10_placeInQueue 6 = .ok (.getfield 138, 3) := by decide +kernel
theorem dX10_placeInQueue_9 : decode cX10_placeInQueue 9 = .ok (.istore_n 2, 1) := by decide +kernel
theorem dX10_placeInQueue_10 : decode cX10_placeInQueue 10 = .ok (.iload_n 2, 1) := by decide +kernel
theorem dX10_placeInQueue_11 : decode cX10_placeInQueue 11 = .ok (.bipush 100, 2) := by decide +kernel
theorem dX10_placeInQueue_13 : decode cX10_placeInQueue 13 = .ok (.if_icmp .lt 10, 3) := by decide +kernel
theorem dX10_placeInQueue_16 : decode cX10_placeInQueue 16 = .ok (.iload_n 2, 1) := by decide +kernel
theorem dX10_placeInQueue_17 : decode cX10_placeInQueue 17 = .ok (.sipush 200, 3) := by decide +kernel
theorem dX10_placeInQueue_20 : decode cX10_placeInQueue 20 = .ok (.if_icmp .lt 6, 3) := by decide +kernel
theorem dX10_placeInQueue_23 : decode cX10_placeInQueue 23 = .ok (.bipush (-3), 2) := by decide +kernel
theorem dX10_placeInQueue_25 : decode cX10_placeInQueue 25 = .ok (.ireturn, 1) := by decide +kernel
theorem dX10_placeInQueue_26 : decode cX10_placeInQueue 26 = .ok (.aload_n 0, 1) := by decide +kernel
theorem dX10_placeInQueue_27 : decode cX10_placeInQueue 27 = .ok (.getfield 11, 3) := by decide +kernel
theorem dX10_placeInQueue_30 : decode cX10_placeInQueue 30 = .ok (.iload_n 2, 1) := by decide +kernel
theorem dX10_placeInQueue_31 : decode cX10_placeInQueue 31 = .ok (.bipush 100, 2) := by decide +kernel
theorem dX10_placeInQueue_33 : decode cX10_placeInQueue 33 = .ok (.isub, 1) := by decide +kernel
theorem dX10_placeInQueue_34 : decode cX10_placeInQueue 34 = .ok (.aaload, 1) := by decide +kernel
theorem dX10_placeInQueue_35 : decode cX10_placeInQueue 35 = .ok (.iload_n 1, 1) := by decide +kernel
theorem dX10_placeInQueue_36 : decode cX10_placeInQueue 36 = .ok (.invokevirtual 141, 3) := by decide +kernel
