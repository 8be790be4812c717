theorem dX10_placeInQueue_39 : decode cX10_placeInQueue 39 = .ok (.ireturn, 1) := by decide +kernel
theorem dX10_sendAway_0 : decode cX10_sendAway 0 = .ok (.aload_n 0, 1) := by decide +kernel
theorem dX10_sendAway_1 : decode cX10_sendAway 1 = .ok (.getfield 25, 3) := by decide +kernel
theorem dX10_sendAway_4 : decode cX10_sendAway 4 = .ok (.iload_n 1, 1) := by decide +kernel
theorem dX10_sendAway_5 : decode cX10_sendAway 5 = .ok (.aaload, 1) := by decide +kernel
theorem dX10_sendAway_6 : decode cX10_sendAway 6 = .ok (.getfield 138, 3) := by decide +kernel
theorem dX10_sendAway_9 : decode cX10_sendAway 9 = .ok (.istore_n 2, 1) := by decide +kernel
theorem dX10_sendAway_10 : decode cX10_sendAway 10 = .ok (.iload_n 2, 1) := by decide +kernel
theorem dX10_sendAway_11 : decode cX10_sendAway 11 = .ok (.sipush 200, 3) := by decide +kernel
theorem dX10_sendAway_14 : decode cX10_sendAway 14 = .ok (.if_icmp .lt 20, 3) := by decide +kernel
theorem dX10_sendAway_17 : decode cX10_sendAway 17 = .ok (.aload_n 0, 1) := by decide +kernel
theorem dX10_sendAway_18 : decode cX10_sendAway 18 = .ok (.getfield 19, 3) := by decide +kernel
theorem dX10_sendAway_21 : decode cX10_sendAway 21 = .ok (.iload_n 2, 1) := by decide +kernel
theorem dX10_sendAway_22 : decode cX10_sendAway 22 = .ok (.sipush 200, 3) := by decide +kernel
theorem dX10_sendAway_25 : decode cX10_sendAway 25 = .ok (.isub, 1) := by decide +kernel
theorem dX10_sendAway_26 : decode cX10_sendAway 26 = .ok (.aaload, 1) := by decide +kernel
theorem dX10_sendAway_27 : decode cX10_sendAway 27 = .ok (.iconst (-1), 1) := by decide +kernel
theorem dX10_sendAway_28 : decode cX10_sendAway 28 = .ok (.putfield 145, 3) := by decide +kernel
theorem dX10_sendAway_31 : decode cX10_sendAway 31 = .ok (.goto 28, 3) := by decide +kernel
theorem dX10_sendAway_34 : decode cX10_sendAway 34 = .ok (.iload_n 2, 1) := by decide +kernel
theorem dX10_sendAway_35 : decode cX10_sendAway 35 = .ok (.bipush 100, 2) := by decide +kernel
theorem dX10_sendAway_37 : decode cX10_sendAway 37 = .ok (.if_icmp .lt 22, 3) := by decide +kernel
theorem dX10_sendAway_40 : decode cX10_sendAway 40 = .ok (.aload_n 0, 1) := by decide +kernel
theorem dX10_sendAway_41 : decode cX10_sendAway 41 = .ok (.getfield 11, 3) := by decide +kernel
theorem dX10_sendAway_44 : decode cX10_sendAway 44 = .ok (.iload_n 2, 1) := by decide +kernel
theorem dX10_sendAway_45 : decode cX10_sendAway 45 = .ok (.bipush 100, 2) := by decide +kernel
theorem dX10_sendAway_47 : decode cX10_sendAway 47 = .ok (.isub, 1) := by decide +kernel
theorem dX10_sendAway_48 : decode cX10_sendAway 48 = .ok (.aaload, 1) := by decide +kernel
theorem dX10_sendAway_49 : decode cX10_sendAway 49 = .ok (.astore_n 3, 1) := by decide +kernel
theorem dX10_sendAway_50 : decode cX10_sendAway 50 = .ok (.aload_n 3, 1) := by decide +kernel
theorem dX10_sendAway_51 : decode cX10_sendAway 51 = .ok (.aload_n 3, 1) := by decide +kernel
theorem dX10_sendAway_52 : decode cX10_sendAway 52 = .ok (.iload_n 1, 1) := by decide +kernel
theorem dX10_sendAway_53 : decode cX10_sendAway 53 = .ok (.invokevirtual 141, 3) := by decide +kernel
theorem dX10_sendAway_56 : decode cX10_sendAway 56 = .ok (.invokevirtual 148, 3) := by decide +kernel
theorem dX10_sendAway_59 : decode cX10_sendAway 59 = .ok (.aload_n 0, 1) := by decide +kernel
theorem dX10_sendAway_60 : decode cX10_sendAway 60 = .ok (.getfield 25, 3) := by decide +kernel
theorem dX10_sendAway_63 : decode cX10_sendAway 63 = .ok (.iload_n 1, 1) := by decide +kernel
theorem dX10_sendAway_64 : decode cX10_sendAway 64 = .ok (.aaload, 1) := by decide +kernel
theorem dX10_sendAway_65 : decode cX10_sendAway 65 = .ok (.iconst 0, 1) := by decide +kernel
theorem dX10_sendAway_66 : decode cX10_sendAway 66 = .ok (.putfield 138, 3) := by decide +kernel
theorem dX10_sendAway_69 : decode cX10_sendAway 69 = .ok (.return_, 1) := by decide +kernel
theorem dX10_carsInQueues_0 : decode cX10_carsInQueues 0 = .ok (.iconst 0, 1) := by decide +kernel
theorem dX10_carsInQueues_1 : decode cX10_carsInQueues 1 = .ok (.istore_n 1, 1) := by decide +kernel
theorem dX10_carsInQueues_2 : decode cX10_carsInQueues 2 = .ok (.iconst 0, 1) := by decide +kernel
theorem dX10_carsInQueues_3 : decode cX10_carsInQueues 3 = .ok (.istore_n 2, 1) := by decide +kernel
theorem dX10_carsInQueues_4 : decode cX10_carsInQueues 4 = .ok (.iload_n 2, 1) := by decide +kernel
theorem dX10_carsInQueues_5 : decode cX10_carsInQueues 5 = .ok (.aload_n 0, 1) := by decide +kernel
theorem dX10_carsInQueues_6 : decode cX10_carsInQueues 6 = .ok (.getfield 75, 3) := by decide +kernel
theorem dX10_carsInQueues_9 : decode cX10_carsInQueues 9 = .ok (.if_icmp .ge 21, 3) := by decide +kernel
theorem dX10_carsInQueues_12 : decode cX10_carsInQueues 12 = .ok (.iload_n 1, 1) := by decide +kernel
theorem dX10_carsInQueues_13 : decode cX10_carsInQueues 13 = .ok (.aload_n 0, 1) := by decide +kernel
theorem dX10_carsInQueues_14 : decode cX10_carsInQueues 14 = .ok (.getfield 11, 3) := by decide +kernel
theorem dX10_carsInQueues_17 : decode cX10_carsInQueues 17 = .ok (.iload_n 2, 1) := by decide +kernel
theorem dX10_carsInQueues_18 : decode cX10_carsInQueues 18 = .ok (.aaload, 1) := by decide +kernel
theorem dX10_carsInQueues_19 : decode cX10_carsInQueues 19 = .ok (.getfield 131, 3) := by decide +kernel
theorem dX10_carsInQueues_22 : decode cX10_carsInQueues 22 = .ok (.iadd, 1) := by decide +kernel
theorem dX10_carsInQueues_23 : decode cX10_carsInQueues 23 = .ok (.istore_n 1, 1) := by decide +kernel
theorem dX10_carsInQueues_24 : decode cX10_carsInQueues 24 = .ok (.iinc 2 1, 3) := by decide +kernel
theorem dX10_carsInQueues_27 : decode cX10_carsInQueues 27 = .ok (.goto (-23), 3) := by decide +kernel
theorem dX10_carsInQueues_30 : decode cX10_carsInQueues 30 = .ok (.iload_n 1, 1) := by decide +kernel
theorem dX10_carsInQueues_31 : decode cX10_carsInQueues 31 = .ok (.ireturn, 1) := by decide +kernel
theorem dX10_carsAtPlugs_0 : decode cX10_carsAtPlugs 0 = .ok (.iconst 0, 1) := by decide +kernel
theorem dX10_carsAtPlugs_1 : decode cX10_carsAtPlugs 1 = .ok (.istore_n 1, 1) := by decide +kernel
theorem dX10_carsAtPlugs_2 : decode cX10_carsAtPlugs 2 = .ok (.iconst 0, 1) := by decide +kernel
theorem dX10_carsAtPlugs_3 : decode cX10_carsAtPlugs 3 = .ok (.istore_n 2, 1) := by decide +kernel
theorem dX10_carsAtPlugs_4 : decode cX10_carsAtPlugs 4 = .ok (.iload_n 2, 1) := by decide +kernel
theorem dX10_carsAtPlugs_5 : decode cX10_carsAtPlugs 5 = .ok (.aload_n 0, 1) := by decide +kernel
theorem dX10_carsAtPlugs_6 : decode cX10_carsAtPlugs 6 = .ok (.getfield 79, 3) := by decide +kernel
theorem dX10_carsAtPlugs_9 : decode cX10_carsAtPlugs 9 = .ok (.if_icmp .ge 25, 3) := by decide +kernel
theorem dX10_carsAtPlugs_12 : decode cX10_carsAtPlugs 12 = .ok (.aload_n 0, 1) := by decide +kernel
theorem dX10_carsAtPlugs_13 : decode cX10_carsAtPlugs 13 = .ok (.getfield 19, 3) := by decide +kernel
theorem dX10_carsAtPlugs_16 : decode cX10_carsAtPlugs 16 = .ok (.iload_n 2, 1) := by decide +kernel
theorem dX10_carsAtPlugs_17 : decode cX10_carsAtPlugs 17 = .ok (.aaload, 1) := by decide +kernel
theorem dX10_carsAtPlugs_18 : decode cX10_carsAtPlugs 18 = .ok (.getfield 145, 3) := by decide +kernel
theorem dX10_carsAtPlugs_21 : decode cX10_carsAtPlugs 21 = .ok (.iconst (-1), 1) := by decide +kernel
theorem dX10_carsAtPlugs_22 : decode cX10_carsAtPlugs 22 = .ok (.if_icmp .eq 6, 3) := by decide +kernel
theorem dX10_carsAtPlugs_25 : decode cX10_carsAtPlugs 25 = .ok (.iinc 1 1, 3) := by decide +kernel
theorem dX10_carsAtPlugs_28 : decode cX10_carsAtPlugs 28 = .ok (.iinc 2 1, 3) := by decide +kernel
theorem dX10_carsAtPlugs_31 : decode cX10_carsAtPlugs 31 = .ok (.goto (-27), 3) := by decide +kernel
theorem dX10_carsAtPlugs_34 : decode cX10_carsAtPlugs 34 = .ok (.iload_n 1, 1) := by decide +kernel
theorem dX10_carsAtPlugs_35 : decode cX10_carsAtPlugs 35 = .ok (.ireturn, 1) := by decide +kernel
theorem dX10_paidByAll_0 : decode cX10_paidByAll 0 = .ok (.iconst 0, 1) := by decide +kernel
theorem dX10_paidByAll_1 : decode cX10_paidByAll 1 = .ok (.istore_n 1, 1) := by decide +kernel
theorem dX10_paidByAll_2 : decode cX10_paidByAll 2 = .ok (.iconst 0, 1) := by decide +kernel
theorem dX10_paidByAll_3 : decode cX10_paidByAll 3 = .ok (.istore_n 2, 1) := by decide +kernel
theorem dX10_paidByAll_4 : decode cX10_paidByAll 4 = .ok (.iload_n 2, 1) := by decide +kernel
theorem dX10_paidByAll_5 : decode cX10_paidByAll 5 = .ok (.aload_n 0, 1) := by decide +kernel
theorem dX10_paidByAll_6 : decode cX10_paidByAll 6 = .ok (.getfield 82, 3) := by decide +kernel
theorem dX10_paidByAll_9 : decode cX10_paidByAll 9 = .ok (.if_icmp .ge 21, 3) := by decide +kernel
theorem dX10_paidByAll_12 : decode cX10_paidByAll 12 = .ok (.iload_n 1, 1) := by decide +kernel
theorem dX10_paidByAll_13 : decode cX10_paidByAll 13 = .ok (.aload_n 0, 1) := by decide +kernel
theorem dX10_paidByAll_14 : decode cX10_paidByAll 14 = .ok (.getfield 25, 3) := by decide +kernel
theorem dX10_paidByAll_17 : decode cX10_paidByAll 17 = .ok (.iload_n 2, 1) := by decide +kernel
theorem dX10_paidByAll_18 : decode cX10_paidByAll 18 = .ok (.aaload, 1) := by decide +kernel
theorem dX10_paidByAll_19 : decode cX10_paidByAll 19 = .ok (.getfield 152, 3) := by decide +kernel
theorem dX10_paidByAll_22 : decode cX10_paidByAll 22 = .ok (.iadd, 1) := by decide +kernel
theorem dX10_paidByAll_23 : decode cX10_paidByAll 23 = .ok (.istore_n 1, 1) := by decide +kernel
theorem dX10_paidByAll_24 : decode cX10_paidByAll 24 = .ok (.iinc 2 1, 3) := by decide +kernel
theorem dX10_paidByAll_27 : decode cX10_paidByAll 27 = .ok (.goto (-23), 3) := by decide +kernel
theorem dX10_paidByAll_30 : decode cX10_paidByAll 30 = .ok (.iload_n 1, 1) := by decide +kernel
theorem dX10_paidByAll_31 : decode cX10_paidByAll 31 = .ok (.ireturn, 1) := by decide +kernel
theorem dX11_init_0 : decode cX11_init 0 = .ok (.aload_n 0, 1) := by decide +kernel
theorem dX11_init_1 : decode cX11_init 1 = .ok (.invokespecial 1, 3) := by decide +kernel
theorem dX11_init_4 : decode cX11_init 4 = .ok (.aload_n 0, 1) := by decide +kernel
theorem dX11_init_5 : decode cX11_init 5 = .ok (.new 7, 3) := by decide +kernel
theorem dX11_init_8 : decode cX11_init 8 = .ok (.dup, 1) := by decide +kernel
theorem dX11_init_9 : decode cX11_init 9 = .ok (.invokespecial 9, 3) := by decide +kernel
theorem dX11_init_12 : decode cX11_init 12 = .ok (.putfield 10, 3) := by decide +kernel
theorem dX11_init_15 : decode cX11_init 15 = .ok (.aload_n 0, 1) := by decide +kernel
theorem dX11_init_16 : decode cX11_init 16 = .ok (.new 7, 3) := by decide +kernel
theorem dX11_init_19 : decode cX11_init 19 = .ok (.dup, 1) := by decide +kernel
theorem dX11_init_20 : decode cX11_init 20 = .ok (.invokespecial 9, 3) := by decide +kernel
theorem dX11_init_23 : decode cX11_init 23 = .ok (.putfield 16, 3) := by decide +kernel
theorem dX11_init_26 : decode cX11_init 26 = .ok (.aload_n 0, 1) := by decide +kernel
theorem dX11_init_27 : decode cX11_init 27 = .ok (.new 19, 3) := by decide +kernel
theorem dX11_init_30 : decode cX11_init 30 = .ok (.dup, 1) := by decide +kernel
theorem dX11_init_31 : decode cX11_init 31 = .ok (.invokespecial 21, 3) := by decide +kernel
theorem dX11_init_34 : decode cX11_init 34 = .ok (.putfield 22, 3) := by decide +kernel
theorem dX11_init_37 : decode cX11_init 37 = .ok (.aload_n 0, 1) := by decide +kernel
theorem dX11_init_38 : decode cX11_init 38 = .ok (.new 26, 3) := by decide +kernel
theorem dX11_init_41 : decode cX11_init 41 = .ok (.dup, 1) := by decide +kernel
theorem dX11_init_42 : decode cX11_init 42 = .ok (.invokespecial 28, 3) := by decide +kernel
theorem dX11_init_45 : decode cX11_init 45 = .ok (.putfield 29, 3) := by decide +kernel
theorem dX11_init_48 : decode cX11_init 48 = .ok (.aload_n 0, 1) := by decide +kernel
theorem dX11_init_49 : decode cX11_init 49 = .ok (.new 33, 3) := by decide +kernel
theorem dX11_init_52 : decode cX11_init 52 = .ok (.dup, 1) := by decide +kernel
theorem dX11_init_53 : decode cX11_init 53 = .ok (.invokespecial 35, 3) := by decide +kernel
theorem dX11_init_56 : decode cX11_init 56 = .ok (.putfield 36, 3) := by decide +kernel
theorem dX11_init_59 : decode cX11_init 59 = .ok (.aload_n 0, 1) := by decide +kernel
theorem dX11_init_60 : decode cX11_init 60 = .ok (.new 40, 3) := by decide +kernel
theorem dX11_init_63 : decode cX11_init 63 = .ok (.dup, 1) := by decide +kernel
theorem dX11_init_64 : decode cX11_init 64 = .ok (.invokespecial 42, 3) := by decide +kernel
theorem dX11_init_67 : decode cX11_init 67 = .ok (.putfield 43, 3) := by decide +kernel
theorem dX11_init_70 : decode cX11_init 70 = .ok (.aload_n 0, 1) := by decide +kernel
theorem dX11_init_71 : decode cX11_init 71 = .ok (.new 47, 3) := by decide +kernel
theorem dX11_init_74 : decode cX11_init 74 = .ok (.dup, 1) := by decide +kernel
theorem dX11_init_75 : decode cX11_init 75 = .ok (.invokespecial 49, 3) := by decide +kernel
theorem dX11_init_78 : decode cX11_init 78 = .ok (.putfield 50, 3) := by decide +kernel
theorem dX11_init_81 : decode cX11_init 81 = .ok (.aload_n 0, 1) := by decide +kernel
theorem dX11_init_82 : decode cX11_init 82 = .ok (.iconst 0, 1) := by decide +kernel
theorem dX11_init_83 : decode cX11_init 83 = .ok (.putfield 54, 3) := by decide +kernel
theorem dX11_init_86 : decode cX11_init 86 = .ok (.return_, 1) := by decide +kernel
theorem dX11_site_0 : decode cX11_site 0 = .ok (.iload_n 1, 1) := by decide +kernel
theorem dX11_site_1 : decode cX11_site 1 = .ok (.iconst 0, 1) := by decide +kernel
theorem dX11_site_2 : decode cX11_site 2 = .ok (.sipush 999, 3) := by decide +kernel
theorem dX11_site_5 : decode cX11_site 5 = .ok (.invokestatic 58, 3) := by decide +kernel
theorem dX11_site_8 : decode cX11_site 8 = .ok (.ifCond .ne 14, 3) := by decide +kernel
theorem dX11_site_11 : decode cX11_site 11 = .ok (.iload_n 2, 1) := by decide +kernel
theorem dX11_site_12 : decode cX11_site 12 = .ok (.iconst 1, 1) := by decide +kernel
theorem dX11_site_13 : decode cX11_site 13 = .ok (.sipush 300, 3) := by decide +kernel
theorem dX11_site_16 : decode cX11_site 16 = .ok (.invokestatic 58, 3) := by decide +kernel
theorem dX11_site_19 : decode cX11_site 19 = .ok (.ifCond .eq 5, 3) := by decide +kernel
theorem dX11_site_22 : decode cX11_site 22 = .ok (.iconst (-1), 1) := by decide +kernel
theorem dX11_site_23 : decode cX11_site 23 = .ok (.ireturn, 1) := by decide +kernel
theorem dX11_site_24 : decode cX11_site 24 = .ok (.aload_n 0, 1) := by decide +kernel
theorem dX11_site_25 : decode cX11_site 25 = .ok (.getfield 10, 3) := by decide +kernel
theorem dX11_site_28 : decode cX11_site 28 = .ok (.getfield 62, 3) := by decide +kernel
theorem dX11_site_31 : decode cX11_site 31 = .ok (.istore_n 3, 1) := by decide +kernel
theorem dX11_site_32 : decode cX11_site 32 = .ok (.iload_n 3, 1) := by decide +kernel
theorem dX11_site_33 : decode cX11_site 33 = .ok (.ifCond .le 24, 3) := by decide +kernel
theorem dX11_site_36 : decode cX11_site 36 = .ok (.iload_n 1, 1) := by decide +kernel
theorem dX11_site_37 : decode cX11_site 37 = .ok (.aload_n 0, 1) := by decide +kernel
theorem dX11_site_38 : decode cX11_site 38 = .ok (.getfield 10, 3) := by decide +kernel
theorem dX11_site_41 : decode cX11_site 41 = .ok (.getfield 66, 3) := by decide +kernel
theorem dX11_site_44 : decode cX11_site 44 = .ok (.iload_n 3, 1) := by decide +kernel
theorem dX11_site_45 : decode cX11_site 45 = .ok (.iconst 1, 1) := by decide +kernel
theorem dX11_site_46 : decode cX11_site 46 = .ok (.isub, 1) := by decide +kernel
theorem dX11_site_47 : decode cX11_site 47 = .ok (.aaload, 1) := by decide +kernel
theorem dX11_site_48 : decode cX11_site 48 = .ok (.getfield 70, 3) := by decide +kernel
theorem dX11_site_51 : decode cX11_site 51 = .ok (.if_icmp .gt 6, 3) := by decide +kernel
theorem dX11_site_54 : decode cX11_site 54 = .ok (.bipush (-4), 2) := by decide +kernel
theorem dX11_site_56 : decode cX11_site 56 = .ok (.ireturn, 1) := by decide +kernel
theorem dX11_site_57 : decode cX11_site 57 = .ok (.iload_n 3, 1) := by decide +kernel
theorem dX11_site_58 : decode cX11_site 58 = .ok (.bipush 6, 2) := by decide +kernel
theorem dX11_site_60 : decode cX11_site 60 = .ok (.if_icmp .lt 6, 3) := by decide +kernel
theorem dX11_site_63 : decode cX11_site 63 = .ok (.bipush (-2), 2) := by decide +kernel
theorem dX11_site_65 : decode cX11_site 65 = .ok (.ireturn, 1) := by decide +kernel
theorem dX11_site_66 : decode cX11_site 66 = .ok (.aload_n 0, 1) := by decide +kernel
theorem dX11_site_67 : decode cX11_site 67 = .ok (.getfield 10, 3) := by decide +kernel
theorem dX11_site_70 : decode cX11_site 70 = .ok (.getfield 66, 3) := by decide +kernel
theorem dX11_site_73 : decode cX11_site 73 = .ok (.iload_n 3, 1) := by decide +kernel
theorem dX11_site_74 : decode cX11_site 74 = .ok (.aaload, 1) := by decide +kernel
theorem dX11_site_75 : decode cX11_site 75 = .ok (.astore 4, 2) := by decide +kernel
theorem dX11_site_77 : decode cX11_site 77 = .ok (.aload 4, 2) := by decide +kernel
theorem dX11_site_79 : decode cX11_site 79 = .ok (.iload_n 1, 1) := by decide +kernel
theorem dX11_site_80 : decode cX11_site 80 = .ok (.putfield 70, 3) := by decide +kernel
theorem dX11_site_83 : decode cX11_site 83 = .ok (.aload 4, 2) := by decide +kernel
theorem dX11_site_85 : decode cX11_site 85 = .ok (.iload_n 2, 1) := by decide +kernel
theorem dX11_site_86 : decode cX11_site 86 = .ok (.putfield 75, 3) := by decide +kernel
theorem dX11_site_89 : decode cX11_site 89 = .ok (.aload_n 0, 1) := by decide +kernel
theorem dX11_site_90 : decode cX11_site 90 = .ok (.getfield 10, 3) := by decide +kernel
theorem dX11_site_93 : decode cX11_site 93 = .ok (.iload_n 3, 1) := by decide +kernel
theorem dX11_site_94 : decode cX11_site 94 = .ok (.iconst 1, 1) := by decide +kernel
theorem dX11_site_95 : decode cX11_site 95 = .ok (.iadd, 1) := by decide +kernel
theorem dX11_site_96 : decode cX11_site 96 = .ok (.putfield 62, 3) := by decide +kernel
theorem dX11_site_99 : decode cX11_site 99 = .ok (.iload_n 3, 1) := by decide +kernel
theorem dX11_site_100 : decode cX11_site 100 = .ok (.ireturn, 1) := by decide +kernel
theorem dX11_plug_0 : decode cX11_plug 0 = .ok (.aload_n 0, 1) := by decide +kernel
theorem dX11_plug_1 : decode cX11_plug 1 = .ok (.getfield 10, 3) := by decide +kernel
theorem dX11_plug_4 : decode cX11_plug 4 = .ok (.iload_n 1, 1) := by decide +kernel
theorem dX11_plug_5 : decode cX11_plug 5 = .ok (.invokevirtual 78, 3) := by decide +kernel
theorem dX11_plug_8 : decode cX11_plug 8 = .ok (.ifCond .eq 23, 3) := by decide +kernel
theorem dX11_plug_11 : decode cX11_plug 11 = .ok (.iload_n 2, 1) := by decide +kernel
theorem dX11_plug_12 : decode cX11_plug 12 = .ok (.iconst 1, 1) := by decide +kernel
theorem dX11_plug_13 : decode cX11_plug 13 = .ok (.sipush 150, 3) := by decide +kernel
theorem dX11_plug_16 : decode cX11_plug 16 = .ok (.invokestatic 58, 3) := by decide +kernel
theorem dX11_plug_19 : decode cX11_plug 19 = .ok (.ifCond .ne 12, 3) := by decide +kernel
theorem dX11_plug_22 : decode cX11_plug 22 = .ok (.iload_n 3, 1) := by decide +kernel
theorem dX11_plug_23 : decode cX11_plug 23 = .ok (.iconst 0, 1) := by decide +kernel
theorem dX11_plug_24 : decode cX11_plug 24 = .ok (.iconst 2, 1) := by decide +kernel
theorem dX11_plug_25 : decode cX11_plug 25 = .ok (.invokestatic 58, 3) := by decide +kernel
theorem dX11_plug_28 : decode cX11_plug 28 = .ok (.ifCond .eq 5, 3) := by decide +kernel
theorem dX11_plug_31 : decode cX11_plug 31 = .ok (.iconst (-1), 1) := by decide +kernel
theorem dX11_plug_32 : decode cX11_plug 32 = .ok (.ireturn, 1) := by decide +kernel
theorem dX11_plug_33 : decode cX11_plug 33 = .ok (.aload_n 0, 1) := by decide +kernel
theorem dX11_plug_34 : decode cX11_plug 34 = .ok (.getfield 10, 3) := by decide +kernel
theorem dX11_plug_37 : decode cX11_plug 37 = .ok (.getfield 82, 3) := by decide +kernel
theorem dX11_plug_40 : decode cX11_plug 40 = .ok (.istore 4, 2) := by decide +kernel
theorem dX11_plug_42 : decode cX11_plug 42 = .ok (.iload 4, 2) := by decide +kernel
theorem dX11_plug_44 : decode cX11_plug 44 = .ok (.bipush 16, 2) := by decide +kernel
theorem dX11_plug_46 : decode cX11_plug 46 = .ok (.if_icmp .lt 6, 3) := by decide +kernel
theorem dX11_plug_49 : decode cX11_plug 49 = .ok (.bipush (-2), 2) := by decide +kernel
theorem dX11_plug_51 : decode cX11_plug 51 = .ok (.ireturn, 1) := by decide +kernel
theorem dX11_plug_52 : decode cX11_plug 52 = .ok (.aload_n 0, 1) := by decide +kernel
theorem dX11_plug_53 : decode cX11_plug 53 = .ok (.getfield 10, 3) := by decide +kernel
theorem dX11_plug_56 : decode cX11_plug 56 = .ok (.getfield 85, 3) := by decide +kernel
theorem dX11_plug_59 : decode cX11_plug 59 = .ok (.iload 4, 2) := by decide +kernel
theorem dX11_plug_61 : decode cX11_plug 61 = .ok (.aaload, 1) := by decide +kernel
theorem dX11_plug_62 : decode cX11_plug 62 = .ok (.astore 5, 2) := by decide +kernel
theorem dX11_plug_64 : decode cX11_plug 64 = .ok (.aload 5, 2) := by decide +kernel
theorem dX11_plug_66 : decode cX11_plug 66 = .ok (.iload_n 1, 1) := by decide +kernel
theorem dX11_plug_67 : decode cX11_plug 67 = .ok (.putfield 89, 3) := by decide +kernel
theorem dX11_plug_70 : decode cX11_plug 70 = .ok (.aload 5, 2) := by decide +kernel
theorem dX11_plug_72 : decode cX11_plug 72 = .ok (.iload_n 2, 1) := by decide +kernel
theorem dX11_plug_73 : decode cX11_plug 73 = .ok (.putfield 94, 3) := by decide +kernel
theorem dX11_plug_76 : decode cX11_plug 76 = .ok (.aload 5, 2) := by decide +kernel
theorem dX11_plug_78 : decode cX11_plug 78 = .ok (.iload_n 3, 1) := by decide +kernel
theorem dX11_plug_79 : decode cX11_plug 79 = .ok (.putfield 97, 3) := by decide +kernel
theorem dX11_plug_82 : decode cX11_plug 82 = .ok (.aload_n 0, 1) := by decide +kernel
theorem dX11_plug_83 : decode cX11_plug 83 = .ok (.getfield 10, 3) := by decide +kernel
theorem dX11_plug_86 : decode cX11_plug 86 = .ok (.getfield 66, 3) := by decide +kernel
theorem dX11_plug_89 : decode cX11_plug 89 = .ok (.iload_n 1, 1) := by decide +kernel
theorem dX11_plug_90 : decode cX11_plug 90 = .ok (.aaload, 1) := by decide +kernel
theorem dX11_plug_91 : decode cX11_plug 91 = .ok (.iload 4, 2) := by decide +kernel
theorem dX11_plug_93 : decode cX11_plug 93 = .ok (.invokevirtual 100, 3) := by decide +kernel
theorem dX11_plug_96 : decode cX11_plug 96 = .ok (.aload_n 0, 1) := by decide +kernel
theorem dX11_plug_97 : decode cX11_plug 97 = .ok (.getfield 10, 3) := by decide +kernel
theorem dX11_plug_100 : decode cX11_plug 100 = .ok (.iload 4, 2) := by decide +kernel
theorem dX11_plug_102 : decode cX11_plug 102 = .ok (.iconst 1, 1) := by decide +kernel
theorem dX11_plug_103 : decode cX11_plug 103 = .ok (.iadd, 1) := by decide +kernel
theorem dX11_plug_104 : decode cX11_plug 104 = .ok (.putfield 82, 3) := by decide +kernel
theorem dX11_plug_107 : decode cX11_plug 107 = .ok (.iload 4, 2) := by decide +kernel
theorem dX11_plug_109 : decode cX11_plug 109 = .ok (.ireturn, 1) := by decide +kernel
theorem dX11_car_0 : decode cX11_car 0 = .ok (.iload_n 1, 1) := by decide +kernel
theorem dX11_car_1 : decode cX11_car 1 = .ok (.bipush 10, 2) := by decide +kernel
theorem dX11_car_3 : decode cX11_car 3 = .ok (.sipush 200, 3) := by decide +kernel
theorem dX11_car_6 : decode cX11_car 6 = .ok (.invokestatic 58, 3) := by decide +kernel
theorem dX11_car_9 : decode cX11_car 9 = .ok (.ifCond .ne 44, 3) := by decide +kernel
theorem dX11_car_12 : decode cX11_car 12 = .ok (.iload_n 2, 1) := by decide +kernel
theorem dX11_car_13 : decode cX11_car 13 = .ok (.iconst 1, 1) := by decide +kernel
theorem dX11_car_14 : decode cX11_car 14 = .ok (.bipush 40, 2) := by decide +kernel
theorem dX11_car_16 : decode cX11_car 16 = .ok (.invokestatic 58, 3) := by decide +kernel
theorem dX11_car_19 : decode cX11_car 19 = .ok (.ifCond .ne 34, 3) := by decide +kernel
theorem dX11_car_22 : decode cX11_car 22 = .ok (.iload_n 3, 1) := by decide +kernel
theorem dX11_car_23 : decode cX11_car 23 = .ok (.iconst 1, 1) := by decide +kernel
theorem dX11_car_24 : decode cX11_car 24 = .ok (.sipush 150, 3) := by decide +kernel
theorem dX11_car_27 : decode cX11_car 27 = .ok (.invokestatic 58, 3) := by decide +kernel
theorem dX11_car_30 : decode cX11_car 30 = .ok (.ifCond .ne 23, 3) := by decide +kernel
theorem dX11_car_33 : decode cX11_car 33 = .ok (.iload 4, 2) := by decide +kernel
theorem dX11_car_35 : decode cX11_car 35 = .ok (.iconst 0, 1) := by decide +kernel
theorem dX11_car_36 : decode cX11_car 36 = .ok (.iconst 2, 1) := by decide +kernel
theorem dX11_car_37 : decode cX11_car 37 = .ok (.invokestatic 58, 3) := by decide +kernel
theorem dX11_car_40 : decode cX11_car 40 = .ok (.ifCond .ne 13, 3) := by decide +kernel
theorem dX11_car_43 : decode cX11_car 43 = .ok (.iload 5, 2) := by decide +kernel
theorem dX11_car_45 : decode cX11_car 45 = .ok (.iconst 0, 1) := by decide +kernel
theorem dX11_car_46 : decode cX11_car 46 = .ok (.iload_n 1, 1) := by decide +kernel
theorem dX11_car_47 : decode cX11_car 47 = .ok (.invokestatic 58, 3) := by decide +kernel
theorem dX11_car_50 : decode cX11_car 50 = .ok (.ifCond .eq 5, 3) := by decide +kernel
theorem dX11_car_53 : decode cX11_car 53 = .ok (.iconst (-1), 1) := by decide +kernel
theorem dX11_car_54 : decode cX11_car 54 = .ok (.ireturn, 1) := by decide +kernel
theorem dX11_car_55 : decode cX11_car 55 = .ok (.aload_n 0, 1) := by decide +kernel
theorem dX11_car_56 : decode cX11_car 56 = .ok (.getfield 10, 3) := by decide +kernel
theorem dX11_car_59 : decode cX11_car 59 = .ok (.getfield 104, 3) := by decide +kernel
theorem dX11_car_62 : decode cX11_car 62 = .ok (.istore 6, 2) := by decide +kernel
theorem dX11_car_64 : decode cX11_car 64 = .ok (.iload 6, 2) := by decide +kernel
theorem dX11_car_66 : decode cX11_car 66 = .ok (.bipush 12, 2) := by decide +kernel
theorem dX11_car_68 : decode cX11_car 68 = .ok (.if_icmp .lt 6, 3) := by decide +kernel
theorem dX11_car_71 : decode cX11_car 71 = .ok (.bipush (-2), 2) := by decide +kernel
theorem dX11_car_73 : decode cX11_car 73 = .ok (.ireturn, 1) := by decide +kernel
theorem dX11_car_74 : decode cX11_car 74 = .ok (.aload_n 0, 1) := by decide +kernel
theorem dX11_car_75 : decode cX11_car 75 = .ok (.getfield 10, 3) := by decide +kernel
theorem dX11_car_78 : decode cX11_car 78 = .ok (.getfield 107, 3) := by decide +kernel
theorem dX11_car_81 : decode cX11_car 81 = .ok (.iload 6, 2) := by decide +kernel
theorem dX11_car_83 : decode cX11_car 83 = .ok (.aaload, 1) := by decide +kernel
theorem dX11_car_84 : decode cX11_car 84 = .ok (.astore 7, 2) := by decide +kernel
theorem dX11_car_86 : decode cX11_car 86 = .ok (.aload 7, 2) := by decide +kernel
theorem dX11_car_88 : decode cX11_car 88 = .ok (.iload_n 1, 1) := by decide +kernel
theorem dX11_car_89 : decode cX11_car 89 = .ok (.putfield 111, 3) := by decide +kernel
theorem dX11_car_92 : decode cX11_car 92 = .ok (.aload 7, 2) := by decide +kernel
theorem dX11_car_94 : decode cX11_car 94 = .ok (.iload_n 2, 1) := by decide +kernel
theorem dX11_car_95 : decode cX11_car 95 = .ok (.putfield 116, 3) := by decide +kernel
theorem dX11_car_98 : decode cX11_car 98 = .ok (.aload 7, 2) := by decide +kernel
theorem dX11_car_100 : decode cX11_car 100 = .ok (.iload_n 3, 1) := by decide +kernel
theorem dX11_car_101 : decode cX11_car 101 = .ok (.putfield 119, 3) := by decide +kernel
theorem dX11_car_104 : decode cX11_car 104 = .ok (.aload 7, 2) := by decide +kernel
theorem dX11_car_106 : decode cX11_car 106 = .ok (.iload 4, 2) := by decide +kernel
theorem dX11_car_108 : decode cX11_car 108 = .ok (.putfield 122, 3) := by decide +kernel
theorem dX11_car_111 : decode cX11_car 111 = .ok (.aload 7, 2) := by decide +kernel
theorem dX11_car_113 : decode cX11_car 113 = .ok (.iload 5, 2) := by decide +kernel
theorem dX11_car_115 : decode cX11_car 115 = .ok (.putfield 123, 3) := by decide +kernel
theorem dX11_car_118 : decode cX11_car 118 = .ok (.aload_n 0, 1) := by decide +kernel
theorem dX11_car_119 : decode cX11_car 119 = .ok (.getfield 10, 3) := by decide +kernel
theorem dX11_car_122 : decode cX11_car 122 = .ok (.iload 6, 2) := by decide +kernel
theorem dX11_car_124 : decode cX11_car 124 = .ok (.iconst 1, 1) := by decide +kernel
theorem dX11_car_125 : decode cX11_car 125 = .ok (.iadd, 1) := by decide +kernel
theorem dX11_car_126 : decode cX11_car 126 = .ok (.putfield 104, 3) := by decide +kernel
theorem dX11_car_129 : decode cX11_car 129 = .ok (.iload 6, 2) := by decide +kernel
theorem dX11_car_131 : decode cX11_car 131 = .ok (.ireturn, 1) := by decide +kernel
theorem dX11_set_0 : decode cX11_set 0 = .ok (.iconst (-1), 1) := by decide +kernel
theorem dX11_set_1 : decode cX11_set 1 = .ok (.istore_n 3, 1) := by decide +kernel
theorem dX11_set_2 : decode cX11_set 2 = .ok (.iload_n 1, 1) := by decide +kernel
theorem dX11_set_3 : decode cX11_set 3 = .ok (.ifCond .ne 32, 3) := by decide +kernel
theorem dX11_set_6 : decode cX11_set 6 = .ok (.iload_n 2, 1) := by decide +kernel
theorem dX11_set_7 : decode cX11_set 7 = .ok (.iconst 0, 1) := by decide +kernel
theorem dX11_set_8 : decode cX11_set 8 = .ok (.bipush 50, 2) := by decide +kernel
theorem dX11_set_10 : decode cX11_set 10 = .ok (.invokestatic 58, 3) := by decide +kernel
theorem dX11_set_13 : decode cX11_set 13 = .ok (.ifCond .ne 22, 3) := by decide +kernel
theorem dX11_set_16 : decode cX11_set 16 = .ok (.aload_n 0, 1) := by decide +kernel
theorem dX11_set_17 : decode cX11_set 17 = .ok (.getfield 10, 3) := by decide +kernel
theorem dX11_set_20 : decode cX11_set 20 = .ok (.getfield 126, 3) := by decide +kernel
theorem dX11_set_23 : decode cX11_set 23 = .ok (.istore_n 3, 1) := by decide +kernel
theorem dX11_set_24 : decode cX11_set 24 = .ok (.aload_n 0, 1) := by decide +kernel
theorem dX11_set_25 : decode cX11_set 25 = .ok (.getfield 10, 3) := by decide +kernel
theorem dX11_set_28 : decode cX11_set 28 = .ok (.iload_n 2, 1) := by decide +kernel
theorem dX11_set_29 : decode cX11_set 29 = .ok (.putfield 126, 3) := by decide +kernel
theorem dX11_set_32 : decode cX11_set 32 = .ok (.goto 149, 3) := by decide +kernel
theorem dX11_set_35 : decode cX11_set 35 = .ok (.iload_n 1, 1) := by decide +kernel
theorem dX11_set_36 : decode cX11_set 36 = .ok (.iconst 1, 1) := by decide +kernel
theorem dX11_set_37 : decode cX11_set 37 = .ok (.if_icmp .ne 32, 3) := by decide +kernel
theorem dX11_set_40 : decode cX11_set 40 = .ok (.iload_n 2, 1) := by decide +kernel
theorem dX11_set_41 : decode cX11_set 41 = .ok (.iconst 0, 1) := by decide +kernel
theorem dX11_set_42 : decode cX11_set 42 = .ok (.bipush 20, 2) := by decide +kernel
theorem dX11_set_44 : decode cX11_set 44 = .ok (.invokestatic 58, 3) := by decide +kernel
theorem dX11_set_47 : decode cX11_set 47 = .ok (.ifCond .ne 22, 3) := by decide +kernel
theorem dX11_set_50 : decode cX11_set 50 = .ok (.aload_n 0, 1) := by decide +kernel
theorem dX11_set_51 : decode cX11_set 51 = .ok (.getfield 10, 3) := by decide +kernel
theorem dX11_set_54 : decode cX11_set 54 = .ok (.getfield 129, 3) := by decide +kernel
theorem dX11_set_57 : decode cX11_set 57 = .ok (.istore_n 3, 1) := by decide +kernel
theorem dX11_set_58 : decode cX11_set 58 = .ok (.aload_n 0, 1) := by decide +kernel
theorem dX11_set_59 : decode cX11_set 59 = .ok (.getfield 10, 3) := by decide +kernel
theorem dX11_set_62 : decode cX11_set 62 = .ok (.iload_n 2, 1) := by decide +kernel
theorem dX11_set_63 : decode cX11_set 63 = .ok (.putfield 129, 3) := by decide +kernel
theorem dX11_set_66 : decode cX11_set 66 = .ok (.goto 115, 3) := by decide +kernel
theorem dX11_set_69 : decode cX11_set 69 = .ok (.iload_n 1, 1) := by decide +kernel
theorem dX11_set_70 : decode cX11_set 70 = .ok (.bipush 10, 2) := by decide +kernel
theorem dX11_set_72 : decode cX11_set 72 = .ok (.bipush 33, 2) := by decide +kernel
theorem dX11_set_74 : decode cX11_set 74 = .ok (.invokestatic 58, 3) := by decide +kernel
theorem dX11_set_77 : decode cX11_set 77 = .ok (.ifCond .ne 42, 3) := by decide +kernel
theorem dX11_set_80 : decode cX11_set 80 = .ok (.iload_n 2, 1) := by decide +kernel
theorem dX11_set_81 : decode cX11_set 81 = .ok (.iconst 0, 1) := by decide +kernel
theorem dX11_set_82 : decode cX11_set 82 = .ok (.bipush 99, 2) := by decide +kernel
theorem dX11_set_84 : decode cX11_set 84 = .ok (.invokestatic 58, 3) := by decide +kernel
theorem dX11_set_87 : decode cX11_set 87 = .ok (.ifCond .ne 32, 3) := by decide +kernel
theorem dX11_set_90 : decode cX11_set 90 = .ok (.aload_n 0, 1) := by decide +kernel
theorem dX11_set_91 : decode cX11_set 91 = .ok (.getfield 10, 3) := by decide +kernel
theorem dX11_set_94 : decode cX11_set 94 = .ok (.getfield 132, 3) := by decide +kernel
theorem dX11_set_97 : decode cX11_set 97 = .ok (.iload_n 1, 1) := by decide +kernel
theorem dX11_set_98 : decode cX11_set 98 = .ok (.bipush 10, 2) := by decide +kernel
theorem dX11_set_100 : decode cX11_set 100 = .ok (.isub, 1) := by decide +kernel
theorem dX11_set_101 : decode cX11_set 101 = .ok (.iaload, 1) := by decide +kernel
theorem dX11_set_102 : decode cX11_set 102 = .ok (.istore_n 3, 1) := by decide +kernel
theorem dX11_set_103 : decode cX11_set 103 = .ok (.aload_n 0, 1) := by decide +kernel
theorem dX11_set_104 : decode cX11_set 104 = .ok (.getfield 10, 3) := by decide +kernel
theorem dX11_set_107 : decode cX11_set 107 = .ok (.getfield 132, 3) := by decide +kernel
theorem dX11_set_110 : decode cX11_set 110 = .ok (.iload_n 1, 1) := by decide +kernel
theorem dX11_set_111 : decode cX11_set 111 = .ok (.bipush 10, 2) := by decide +kernel
theorem dX11_set_113 : decode cX11_set 113 = .ok (.isub, 1) := by decide +kernel
theorem dX11_set_114 : decode cX11_set 114 = .ok (.iload_n 2, 1) := by decide +kernel
theorem dX11_set_115 : decode cX11_set 115 = .ok (.iastore, 1) := by decide +kernel
theorem dX11_set_116 : decode cX11_set 116 = .ok (.goto 65, 3) := by decide +kernel
theorem dX11_set_119 : decode cX11_set 119 = .ok (.iload_n 1, 1) := by decide +kernel
theorem dX11_set_120 : decode cX11_set 120 = .ok (.bipush 40, 2) := by decide +kernel
theorem dX11_set_122 : decode cX11_set 122 = .ok (.if_icmp .lt 59, 3) := by decide +kernel
theorem dX11_set_125 : decode cX11_set 125 = .ok (.aload_n 0, 1) := by decide +kernel
theorem dX11_set_126 : decode cX11_set 126 = .ok (.getfield 10, 3) := by decide +kernel
theorem dX11_set_129 : decode cX11_set 129 = .ok (.iload_n 1, 1) := by decide +kernel
theorem dX11_set_130 : decode cX11_set 130 = .ok (.bipush 40, 2) := by decide +kernel
theorem dX11_set_132 : decode cX11_set 132 = .ok (.isub, 1) := by decide +kernel
theorem dX11_set_133 : decode cX11_set 133 = .ok (.invokevirtual 78, 3) := by decide +kernel
theorem dX11_set_136 : decode cX11_set 136 = .ok (.ifCond .eq 45, 3) := by decide +kernel
theorem dX11_set_139 : decode cX11_set 139 = .ok (.iload_n 2, 1) := by decide +kernel
theorem dX11_set_140 : decode cX11_set 140 = .ok (.iconst 0, 1) := by decide +kernel
theorem dX11_set_141 : decode cX11_set 141 = .ok (.bipush 99, 2) := by decide +kernel
theorem dX11_set_143 : decode cX11_set 143 = .ok (.invokestatic 58, 3) := by decide +kernel
theorem dX11_set_146 : decode cX11_set 146 = .ok (.ifCond .ne 35, 3) := by decide +kernel
theorem dX11_set_149 : decode cX11_set 149 = .ok (.aload_n 0, 1) := by decide +kernel
theorem dX11_set_150 : decode cX11_set 150 = .ok (.getfield 10, 3) := by decide +kernel
theorem dX11_set_153 : decode cX11_set 153 = .ok (.getfield 66, 3) := by decide +kernel
theorem dX11_set_156 : decode cX11_set 156 = .ok (.iload_n 1, 1) := by decide +kernel
theorem dX11_set_157 : decode cX11_set 157 = .ok (.bipush 40, 2) := by decide +kernel
theorem dX11_set_159 : decode cX11_set 159 = .ok (.isub, 1) := by decide +kernel
theorem dX11_set_160 : decode cX11_set 160 = .ok (.aaload, 1) := by decide +kernel
theorem dX11_set_161 : decode cX11_set 161 = .ok (.getfield 136, 3) := by decide +kernel
theorem dX11_set_164 : decode cX11_set 164 = .ok (.istore_n 3, 1) := by decide +kernel
theorem dX11_set_165 : decode cX11_set 165 = .ok (.aload_n 0, 1) := by decide +kernel
theorem dX11_set_166 : decode cX11_set 166 = .ok (.getfield 10, 3) := by decide +kernel
theorem dX11_set_169 : decode cX11_set 169 = .ok (.getfield 66, 3) := by decide +kernel
theorem dX11_set_172 : decode cX11_set 172 = .ok (.iload_n 1, 1) := by decide +kernel
theorem dX11_set_173 : decode cX11_set 173 = .ok (.bipush 40, 2) := by decide +kernel
theorem dX11_set_175 : decode cX11_set 175 = .ok (.isub, 1) := by decide +kernel
theorem dX11_set_176 : decode cX11_set 176 = .ok (.aaload, 1) := by decide +kernel
theorem dX11_set_177 : decode cX11_set 177 = .ok (.iload_n 2, 1) := by decide +kernel
theorem dX11_set_178 : decode cX11_set 178 = .ok (.putfield 136, 3) := by decide +kernel
theorem dX11_set_181 : decode cX11_set 181 = .ok (.iload_n 3, 1) := by decide +kernel
theorem dX11_set_182 : decode cX11_set 182 = .ok (.ireturn, 1) := by decide +kernel
theorem dX11_drive_0 : decode cX11_drive 0 = .ok (.aload_n 0, 1) := by decide +kernel
theorem dX11_drive_1 : decode cX11_drive 1 = .ok (.getfield 10, 3) := by decide +kernel
theorem dX11_drive_4 : decode cX11_drive 4 = .ok (.iload_n 1, 1) := by decide +kernel
theorem dX11_drive_5 : decode cX11_drive 5 = .ok (.invokevirtual 139, 3) := by decide +kernel
theorem dX11_drive_8 : decode cX11_drive 8 = .ok (.ifCond .eq 23, 3) := by decide +kernel
theorem dX11_drive_11 : decode cX11_drive 11 = .ok (.iload_n 2, 1) := by decide +kernel
theorem dX11_drive_12 : decode cX11_drive 12 = .ok (.iconst 0, 1) := by decide +kernel
theorem dX11_drive_13 : decode cX11_drive 13 = .ok (.sipush 999, 3) := by decide +kernel
theorem dX11_drive_16 : decode cX11_drive 16 = .ok (.invokestatic 58, 3) := by decide +kernel
theorem dX11_drive_19 : decode cX11_drive 19 = .ok (.ifCond .ne 12, 3) := by decide +kernel
theorem dX11_drive_22 : decode cX11_drive 22 = .ok (.iload_n 3, 1) := by decide +kernel
theorem dX11_drive_23 : decode cX11_drive 23 = .ok (.iconst 0, 1) := by decide +kernel
theorem dX11_drive_24 : decode cX11_drive 24 = .ok (.iconst 1, 1) := by decide +kernel
theorem dX11_drive_25 : decode cX11_drive 25 = .ok (.invokestatic 58, 3) := by decide +kernel
theorem dX11_drive_28 : decode cX11_drive 28 = .ok (.ifCond .eq 5, 3) := by decide +kernel
theorem dX11_drive_31 : decode cX11_drive 31 = .ok (.iconst (-1), 1) := by decide +kernel
theorem dX11_drive_32 : decode cX11_drive 32 = .ok (.ireturn, 1) := by decide +kernel
theorem dX11_drive_33 : decode cX11_drive 33 = .ok (.iload_n 3, 1) := by decide +kernel
theorem dX11_drive_34 : decode cX11_drive 34 = .ok (.ifCond .ne 10, 3) := by decide +kernel
theorem dX11_drive_37 : decode cX11_drive 37 = .ok (.iload_n 2, 1) := by decide +kernel
theorem dX11_drive_38 : decode cX11_drive 38 = .ok (.invokestatic 142, 3) := by decide +kernel
theorem dX11_drive_41 : decode cX11_drive 41 = .ok (.goto 20, 3) := by decide +kernel
theorem dX11_drive_44 : decode cX11_drive 44 = .ok (.aload_n 0, 1) := by decide +kernel
theorem dX11_drive_45 : decode cX11_drive 45 = .ok (.getfield 10, 3) := by decide +kernel
theorem dX11_drive_48 : decode cX11_drive 48 = .ok (.aload_n 0, 1) := by decide +kernel
theorem dX11_drive_49 : decode cX11_drive 49 = .ok (.getfield 10, 3) := by decide +kernel
theorem dX11_drive_52 : decode cX11_drive 52 = .ok (.getfield 107, 3) := by decide +kernel
theorem dX11_drive_55 : decode cX11_drive 55 = .ok (.iload_n 1, 1) := by decide +kernel
theorem dX11_drive_56 : decode cX11_drive 56 = .ok (.aaload, 1) := by decide +kernel
theorem dX11_drive_57 : decode cX11_drive 57 = .ok (.iload_n 2, 1) := by decide +kernel
theorem dX11_drive_58 : decode cX11_drive 58 = .ok (.invokevirtual 146, 3) := by decide +kernel
theorem dX11_drive_61 : decode cX11_drive 61 = .ok (.ireturn, 1) := by decide +kernel
theorem dX11_gain_0 : decode cX11_gain 0 = .ok (.aload_n 0, 1) := by decide +kernel
theorem dX11_gain_1 : decode cX11_gain 1 = .ok (.getfield 10, 3) := by decide +kernel
theorem dX11_gain_4 : decode cX11_gain 4 = .ok (.iload_n 1, 1) := by decide +kernel
theorem dX11_gain_5 : decode cX11_gain 5 = .ok (.invokevirtual 139, 3) := by decide +kernel
theorem dX11_gain_8 : decode cX11_gain 8 = .ok (.ifCond .eq 34, 3) := by decide +kernel
theorem dX11_gain_11 : decode cX11_gain 11 = .ok (.aload_n 0, 1) := by decide +kernel
theorem dX11_gain_12 : decode cX11_gain 12 = .ok (.getfield 10, 3) := by decide +kernel
theorem dX11_gain_15 : decode cX11_gain 15 = .ok (.iload_n 2, 1) := by decide +kernel
theorem dX11_gain_16 : decode cX11_gain 16 = .ok (.invokevirtual 150, 3) := by decide +kernel
theorem dX11_gain_19 : decode cX11_gain 19 = .ok (.ifCond .eq 23, 3) := by decide +kernel
theorem dX11_gain_22 : decode cX11_gain 22 = .ok (.iload_n 3, 1) := by decide +kernel
theorem dX11_gain_23 : decode cX11_gain 23 = .ok (.iconst 0, 1) := by decide +kernel
theorem dX11_gain_24 : decode cX11_gain 24 = .ok (.aload_n 0, 1) := by decide +kernel
theorem dX11_gain_25 : decode cX11_gain 25 = .ok (.getfield 10, 3) := by decide +kernel
theorem dX11_gain_28 : decode cX11_gain 28 = .ok (.getfield 107, 3) := by decide +kernel
theorem dX11_gain_31 : decode cX11_gain 31 = .ok (.iload_n 1, 1) := by decide +kernel
theorem dX11_gain_32 : decode cX11_gain 32 = .ok (.aaload, 1) := by decide +kernel
theorem dX11_gain_33 : decode cX11_gain 33 = .ok (.getfield 111, 3) := by decide +kernel
theorem dX11_gain_36 : decode cX11_gain 36 = .ok (.invokestatic 58, 3) := by decide +kernel
theorem dX11_gain_39 : decode cX11_gain 39 = .ok (.ifCond .eq 5, 3) := by decide +kernel
theorem dX11_gain_42 : decode cX11_gain 42 = .ok (.iconst (-1), 1) := by decide +kernel
theorem dX11_gain_43 : decode cX11_gain 43 = .ok (.ireturn, 1) := by decide +kernel
theorem dX11_gain_44 : decode cX11_gain 44 = .ok (.aload_n 0, 1) := by decide +kernel
theorem dX11_gain_45 : decode cX11_gain 45 = .ok (.getfield 10, 3) := by decide +kernel
theorem dX11_gain_48 : decode cX11_gain 48 = .ok (.aload_n 0, 1) := by decide +kernel
theorem dX11_gain_49 : decode cX11_gain 49 = .ok (.getfield 10, 3) := by decide +kernel
theorem dX11_gain_52 : decode cX11_gain 52 = .ok (.getfield 107, 3) := by decide +kernel
theorem dX11_gain_55 : decode cX11_gain 55 = .ok (.iload_n 1, 1) := by decide +kernel
theorem dX11_gain_56 : decode cX11_gain 56 = .ok (.aaload, 1) := by decide +kernel
theorem dX11_gain_57 : decode cX11_gain 57 = .ok (.aload_n 0, 1) := by decide +kernel
theorem dX11_gain_58 : decode cX11_gain 58 = .ok (.getfield 10, 3) := by decide +kernel
theorem dX11_gain_61 : decode cX11_gain 61 = .ok (.getfield 85, 3) := by decide +kernel
theorem dX11_gain_64 : decode cX11_gain 64 = .ok (.iload_n 2, 1) := by decide +kernel
theorem dX11_gain_65 : decode cX11_gain 65 = .ok (.aaload, 1) := by decide +kernel
theorem dX11_gain_66 : decode cX11_gain 66 = .ok (.getfield 94, 3) := by decide +kernel
theorem dX11_gain_69 : decode cX11_gain 69 = .ok (.iload_n 3, 1) := by decide +kernel
theorem dX11_gain_70 : decode cX11_gain 70 = .ok (.invokevirtual 153, 3) := by decide +kernel
theorem dX11_gain_73 : decode cX11_gain 73 = .ok (.ireturn, 1) := by decide +kernel
theorem dX11_of_0 : decode cX11_of 0 = .ok (.aload_n 0, 1) := by decide +kernel
theorem dX11_of_1 : decode cX11_of 1 = .ok (.getfield 10, 3) := by decide +kernel
theorem dX11_of_4 : decode cX11_of 4 = .ok (.iload_n 1, 1) := by decide +kernel
theorem dX11_of_5 : decode cX11_of 5 = .ok (.invokevirtual 139, 3) := by decide +kernel
theorem dX11_of_8 : decode cX11_of 8 = .ok (.ifCond .ne 5, 3) := by decide +kernel
theorem dX11_of_11 : decode cX11_of 11 = .ok (.iconst (-1), 1) := by decide +kernel
theorem dX11_of_12 : decode cX11_of 12 = .ok (.ireturn, 1) := by decide +kernel
theorem dX11_of_13 : decode cX11_of 13 = .ok (.aload_n 0, 1) := by decide +kernel
theorem dX11_of_14 : decode cX11_of 14 = .ok (.getfield 10, 3) := by decide +kernel
theorem dX11_of_17 : decode cX11_of 17 = .ok (.getfield 107, 3) := by decide +kernel
theorem dX11_of_20 : decode cX11_of 20 = .ok (.iload_n 1, 1) := by decide +kernel
theorem dX11_of_21 : decode cX11_of 21 = .ok (.aaload, 1) := by decide +kernel
theorem dX11_of_22 : decode cX11_of 22 = .ok (.astore_n 3, 1) := by decide +kernel
theorem dX11_of_23 : decode cX11_of 23 = .ok (.iload_n 2, 1) := by decide +kernel
theorem dX11_of_24 : decode cX11_of 24 = .ok (.tableswitch 92 0 7 #[48, 53, 58, 63, 68, 73, 78, 83], 48) := by decide +kernel
theorem dX11_of_72 : decode cX11_of 72 = .ok (.aload_n 3, 1) := by decide +kernel
theorem dX11_of_73 : decode cX11_of 73 = .ok (.getfield 123, 3) := by decide +kernel
theorem dX11_of_76 : decode cX11_of 76 = .ok (.ireturn, 1) := by decide +kernel
theorem dX11_of_77 : decode cX11_of 77 = .ok (.aload_n 3, 1) := by decide +kernel
theorem dX11_of_78 : decode cX11_of 78 = .ok (.getfield 157, 3) := by decide +kernel
theorem dX11_of_81 : decode cX11_of 81 = .ok (.ireturn, 1) := by decide +kernel
theorem dX11_of_82 : decode cX11_of 82 = .ok (.aload_n 3, 1) := by decide +kernel
theorem dX11_of_83 : decode cX11_of 83 = .ok (.getfield 160, 3) := by decide +kernel
theorem dX11_of_86 : decode cX11_of 86 = .ok (.ireturn, 1) := by decide +kernel
theorem dX11_of_87 : decode cX11_of 87 = .ok (.aload_n 3, 1) := by decide +kernel
theorem dX11_of_88 : decode cX11_of 88 = .ok (.getfield 163, 3) := by decide +kernel
theorem dX11_of_91 : decode cX11_of 91 = .ok (.ireturn, 1) := by decide +kernel
theorem dX11_of_92 : decode cX11_of 92 = .ok (.aload_n 3, 1) := by decide +kernel
theorem dX11_of_93 : decode cX11_of 93 = .ok (.getfield 166, 3) := by decide +kernel
theorem dX11_of_96 : decode cX11_of 96 = .ok (.ireturn, 1) := by decide +kernel
theorem dX11_of_97 : decode cX11_of 97 = .ok (.aload_n 3, 1) := by decide +kernel
theorem dX11_of_98 : decode cX11_of 98 = .ok (.getfield 169, 3) := by decide +kernel
theorem dX11_of_101 : decode cX11_of 101 = .ok (.ireturn, 1) := by decide +kernel
theorem dX11_of_102 : decode cX11_of 102 = .ok (.aload_n 3, 1) := by decide +kernel
theorem dX11_of_103 : decode cX11_of 103 = .ok (.getfield 172, 3) := by decide +kernel
theorem dX11_of_106 : decode cX11_of 106 = .ok (.ireturn, 1) := by decide +kernel
theorem dX11_of_107 : decode cX11_of 107 = .ok (.aload_n 0, 1) := by decide +kernel
theorem dX11_of_108 : decode cX11_of 108 = .ok (.getfield 10, 3) := by decide +kernel
theorem dX11_of_111 : decode cX11_of 111 = .ok (.iload_n 1, 1) := by decide +kernel
theorem dX11_of_112 : decode cX11_of 112 = .ok (.invokevirtual 175, 3) := by decide +kernel
theorem dX11_of_115 : decode cX11_of 115 = .ok (.ireturn, 1) := by decide +kernel
theorem dX11_of_116 : decode cX11_of 116 = .ok (.iconst (-1), 1) := by decide +kernel
theorem dX11_of_117 : decode cX11_of 117 = .ok (.ireturn, 1) := by decide +kernel
theorem dX11_trip_0 : decode cX11_trip 0 = .ok (.iload 4, 2) := by decide +kernel
theorem dX11_trip_2 : decode cX11_trip 2 = .ok (.bipush 10, 2) := by decide +kernel
theorem dX11_trip_4 : decode cX11_trip 4 = .ok (.if_icmp .lt 22, 3) := by decide +kernel
theorem dX11_trip_7 : decode cX11_trip 7 = .ok (.aload_n 0, 1) := by decide +kernel
theorem dX11_trip_8 : decode cX11_trip 8 = .ok (.getfield 10, 3) := by decide +kernel
theorem dX11_trip_11 : decode cX11_trip 11 = .ok (.iload 4, 2) := by decide +kernel
theorem dX11_trip_13 : decode cX11_trip 13 = .ok (.bipush 10, 2) := by decide +kernel
theorem dX11_trip_15 : decode cX11_trip 15 = .ok (.isub, 1) := by decide +kernel
theorem dX11_trip_16 : decode cX11_trip 16 = .ok (.invokevirtual 78, 3) := by decide +kernel
theorem dX11_trip_19 : decode cX11_trip 19 = .ok (.ifCond .eq 7, 3) := by decide +kernel
theorem dX11_trip_22 : decode cX11_trip 22 = .ok (.iconst 1, 1) := by decide +kernel
theorem dX11_trip_23 : decode cX11_trip 23 = .ok (.goto 4, 3) := by decide +kernel
theorem dX11_trip_26 : decode cX11_trip 26 = .ok (.iconst 0, 1) := by decide +kernel
theorem dX11_trip_27 : decode cX11_trip 27 = .ok (.istore 5, 2) := by decide +kernel
theorem dX11_trip_29 : decode cX11_trip 29 = .ok (.aload_n 0, 1) := by decide +kernel
theorem dX11_trip_30 : decode cX11_trip 30 = .ok (.getfield 10, 3) := by decide +kernel
theorem dX11_trip_33 : decode cX11_trip 33 = .ok (.iload_n 1, 1) := by decide +kernel
theorem dX11_trip_34 : decode cX11_trip 34 = .ok (.invokevirtual 139, 3) := by decide +kernel
theorem dX11_trip_37 : decode cX11_trip 37 = .ok (.ifCond .eq 42, 3) := by decide +kernel
theorem dX11_trip_40 : decode cX11_trip 40 = .ok (.iload_n 2, 1) := by decide +kernel
theorem dX11_trip_41 : decode cX11_trip 41 = .ok (.iconst 0, 1) := by decide +kernel
theorem dX11_trip_42 : decode cX11_trip 42 = .ok (.sipush 998, 3) := by decide +kernel
theorem dX11_trip_45 : decode cX11_trip 45 = .ok (.invokestatic 58, 3) := by decide +kernel
theorem dX11_trip_48 : decode cX11_trip 48 = .ok (.ifCond .ne 31, 3) := by decide +kernel
theorem dX11_trip_51 : decode cX11_trip 51 = .ok (.iload_n 3, 1) := by decide +kernel
theorem dX11_trip_52 : decode cX11_trip 52 = .ok (.iload_n 2, 1) := by decide +kernel
theorem dX11_trip_53 : decode cX11_trip 53 = .ok (.iconst 1, 1) := by decide +kernel
theorem dX11_trip_54 : decode cX11_trip 54 = .ok (.iadd, 1) := by decide +kernel
theorem dX11_trip_55 : decode cX11_trip 55 = .ok (.sipush 999, 3) := by decide +kernel
theorem dX11_trip_58 : decode cX11_trip 58 = .ok (.invokestatic 58, 3) := by decide +kernel
theorem dX11_trip_61 : decode cX11_trip 61 = .ok (.ifCond .ne 18, 3) := by decide +kernel
theorem dX11_trip_64 : decode cX11_trip 64 = .ok (.iload 5, 2) := by decide +kernel
theorem dX11_trip_66 : decode cX11_trip 66 = .ok (.ifCond .ne 15, 3) := by decide +kernel
theorem dX11_trip_69 : decode cX11_trip 69 = .ok (.iload 4, 2) := by decide +kernel
theorem dX11_trip_71 : decode cX11_trip 71 = .ok (.iconst 0, 1) := by decide +kernel
theorem dX11_trip_72 : decode cX11_trip 72 = .ok (.iconst 2, 1) := by decide +kernel
theorem dX11_trip_73 : decode cX11_trip 73 = .ok (.invokestatic 58, 3) := by decide +kernel
theorem dX11_trip_76 : decode cX11_trip 76 = .ok (.ifCond .eq 5, 3) := by decide +kernel
theorem dX11_trip_79 : decode cX11_trip 79 = .ok (.iconst (-1), 1) := by decide +kernel
theorem dX11_trip_80 : decode cX11_trip 80 = .ok (.ireturn, 1) := by decide +kernel
theorem dX11_trip_81 : decode cX11_trip 81 = .ok (.aload_n 0, 1) := by decide +kernel
theorem dX11_trip_82 : decode cX11_trip 82 = .ok (.getfield 29, 3) := by decide +kernel
theorem dX11_trip_85 : decode cX11_trip 85 = .ok (.aload_n 0, 1) := by decide +kernel
theorem dX11_trip_86 : decode cX11_trip 86 = .ok (.getfield 10, 3) := by decide +kernel
theorem dX11_trip_89 : decode cX11_trip 89 = .ok (.aload_n 0, 1) := by decide +kernel
theorem dX11_trip_90 : decode cX11_trip 90 = .ok (.getfield 10, 3) := by decide +kernel
theorem dX11_trip_93 : decode cX11_trip 93 = .ok (.getfield 107, 3) := by decide +kernel
theorem dX11_trip_96 : decode cX11_trip 96 = .ok (.iload_n 1, 1) := by decide +kernel
theorem dX11_trip_97 : decode cX11_trip 97 = .ok (.aaload, 1) := by decide +kernel
theorem dX11_trip_98 : decode cX11_trip 98 = .ok (.iload_n 2, 1) := by decide +kernel
theorem dX11_trip_99 : decode cX11_trip 99 = .ok (.iload_n 3, 1) := by decide +kernel
theorem dX11_trip_100 : decode cX11_trip 100 = .ok (.invokevirtual 178, 3) := by decide +kernel
theorem dX11_trip_103 : decode cX11_trip 103 = .ok (.ifCond .ne 6, 3) := by decide +kernel
theorem dX11_trip_106 : decode cX11_trip 106 = .ok (.bipush (-3), 2) := by decide +kernel
theorem dX11_trip_108 : decode cX11_trip 108 = .ok (.ireturn, 1) := by decide +kernel
theorem dX11_trip_109 : decode cX11_trip 109 = .ok (.iload 4, 2) := by decide +kernel
theorem dX11_trip_111 : decode cX11_trip 111 = .ok (.tableswitch 49 0 2 #[25, 33, 41], 25) := by decide +kernel
theorem dX11_trip_136 : decode cX11_trip 136 = .ok (.aload_n 0, 1) := by decide +kernel
theorem dX11_trip_137 : decode cX11_trip 137 = .ok (.getfield 29, 3) := by decide +kernel
theorem dX11_trip_140 : decode cX11_trip 140 = .ok (.getfield 182, 3) := by decide +kernel
theorem dX11_trip_143 : decode cX11_trip 143 = .ok (.ireturn, 1) := by decide +kernel
theorem dX11_trip_144 : decode cX11_trip 144 = .ok (.aload_n 0, 1) := by decide +kernel
theorem dX11_trip_145 : decode cX11_trip 145 = .ok (.getfield 29, 3) := by decide +kernel
theorem dX11_trip_148 : decode cX11_trip 148 = .ok (.getfield 185, 3) := by decide +kernel
theorem dX11_trip_151 : decode cX11_trip 151 = .ok (.ireturn, 1) := by decide +kernel
theorem dX11_trip_152 : decode cX11_trip 152 = .ok (.aload_n 0, 1) := by decide +kernel
theorem dX11_trip_153 : decode cX11_trip 153 = .ok (.getfield 29, 3) := by decide +kernel
theorem dX11_trip_156 : decode cX11_trip 156 = .ok (.getfield 188, 3) := by decide +kernel
theorem dX11_trip_159 : decode cX11_trip 159 = .ok (.ireturn, 1) := by decide +kernel
theorem dX11_trip_160 : decode cX11_trip 160 = .ok (.aload_n 0, 1) := by decide +kernel
theorem dX11_trip_161 : decode cX11_trip 161 = .ok (.getfield 29, 3) := by decide +kernel
theorem dX11_trip_164 : decode cX11_trip 164 = .ok (.getfield 191, 3) := by decide +kernel
theorem dX11_trip_167 : decode cX11_trip 167 = .ok (.iload 4, 2) := by decide +kernel
theorem dX11_trip_169 : decode cX11_trip 169 = .ok (.bipush 10, 2) := by decide +kernel
theorem dX11_trip_171 : decode cX11_trip 171 = .ok (.isub, 1) := by decide +kernel
theorem dX11_trip_172 : decode cX11_trip 172 = .ok (.iaload, 1) := by decide +kernel
theorem dX11_trip_173 : decode cX11_trip 173 = .ok (.ireturn, 1) := by decide +kernel
theorem dX11_feed_0 : decode cX11_feed 0 = .ok (.iload_n 3, 1) := by decide +kernel
theorem dX11_feed_1 : decode cX11_feed 1 = .ok (.iconst 1, 1) := by decide +kernel
theorem dX11_feed_2 : decode cX11_feed 2 = .ok (.bipush 8, 2) := by decide +kernel
theorem dX11_feed_4 : decode cX11_feed 4 = .ok (.invokestatic 58, 3) := by decide +kernel
theorem dX11_feed_7 : decode cX11_feed 7 = .ok (.ifCond .eq 5, 3) := by decide +kernel
theorem dX11_feed_10 : decode cX11_feed 10 = .ok (.iconst (-1), 1) := by decide +kernel
theorem dX11_feed_11 : decode cX11_feed 11 = .ok (.ireturn, 1) := by decide +kernel
theorem dX11_feed_12 : decode cX11_feed 12 = .ok (.aload_n 0, 1) := by decide +kernel
theorem dX11_feed_13 : decode cX11_feed 13 = .ok (.getfield 22, 3) := by decide +kernel
theorem dX11_feed_16 : decode cX11_feed 16 = .ok (.getfield 194, 3) := by decide +kernel
theorem dX11_feed_19 : decode cX11_feed 19 = .ok (.iload_n 3, 1) := by decide +kernel
theorem dX11_feed_20 : decode cX11_feed 20 = .ok (.iadd, 1) := by decide +kernel
theorem dX11_feed_21 : decode cX11_feed 21 = .ok (.bipush 100, 2) := by decide +kernel
theorem dX11_feed_23 : decode cX11_feed 23 = .ok (.if_icmp .le 6, 3) := by decide +kernel
theorem dX11_feed_26 : decode cX11_feed 26 = .ok (.bipush (-2), 2) := by decide +kernel
theorem dX11_feed_28 : decode cX11_feed 28 = .ok (.ireturn, 1) := by decide +kernel
theorem dX11_feed_29 : decode cX11_feed 29 = .ok (.iconst 0, 1) := by decide +kernel
theorem dX11_feed_30 : decode cX11_feed 30 = .ok (.istore 4, 2) := by decide +kernel
theorem dX11_feed_32 : decode cX11_feed 32 = .ok (.iload 4, 2) := by decide +kernel
theorem dX11_feed_34 : decode cX11_feed 34 = .ok (.iload_n 3, 1) := by decide +kernel
theorem dX11_feed_35 : decode cX11_feed 35 = .ok (.if_icmp .ge 28, 3) := by decide +kernel
theorem dX11_feed_38 : decode cX11_feed 38 = .ok (.aload_n 0, 1) := by decide +kernel
theorem dX11_feed_39 : decode cX11_feed 39 = .ok (.getfield 22, 3) := by decide +kernel
theorem dX11_feed_42 : decode cX11_feed 42 = .ok (.lload_n 1, 1) := by decide +kernel
theorem dX11_feed_43 : decode cX11_feed 43 = .ok (.bipush 8, 2) := by decide +kernel
theorem dX11_feed_45 : decode cX11_feed 45 = .ok (.iload 4, 2) := by decide +kernel
theorem dX11_feed_47 : decode cX11_feed 47 = .ok (.imul, 1) := by decide +kernel
theorem dX11_feed_48 : decode cX11_feed 48 = .ok (.lushr, 1) := by decide +kernel
theorem dX11_feed_49 : decode cX11_feed 49 = .ok (.ldc2_w 197, 3) := by decide +kernel
theorem dX11_feed_52 : decode cX11_feed 52 = .ok (.land, 1) := by decide +kernel
theorem dX11_feed_53 : decode cX11_feed 53 = .ok (.l2i, 1) := by decide +kernel
theorem dX11_feed_54 : decode cX11_feed 54 = .ok (.invokevirtual 199, 3) := by decide +kernel
theorem dX11_feed_57 : decode cX11_feed 57 = .ok (.iinc 4 1, 3) := by decide +kernel
theorem dX11_feed_60 : decode cX11_feed 60 = .ok (.goto (-28), 3) := by decide +kernel
theorem dX11_feed_63 : decode cX11_feed 63 = .ok (.aload_n 0, 1) := by decide +kernel
theorem dX11_feed_64 : decode cX11_feed 64 = .ok (.getfield 22, 3) := by decide +kernel
theorem dX11_feed_67 : decode cX11_feed 67 = .ok (.getfield 194, 3) := by decide +kernel
theorem dX11_feed_70 : decode cX11_feed 70 = .ok (.ireturn, 1) := by decide +kernel
theorem dX11_read_0 : decode cX11_read 0 = .ok (.iconst (-1), 1) := by decide +kernel
theorem dX11_read_1 : decode cX11_read 1 = .ok (.istore_n 2, 1) := by decide +kernel
theorem dX11_read_2 : decode cX11_read 2 = .ok (.aload_n 0, 1) := by decide +kernel
theorem dX11_read_3 : decode cX11_read 3 = .ok (.getfield 10, 3) := by decide +kernel
theorem dX11_read_6 : decode cX11_read 6 = .ok (.iload_n 1, 1) := by decide +kernel
theorem dX11_read_7 : decode cX11_read 7 = .ok (.invokevirtual 78, 3) := by decide +kernel
theorem dX11_read_10 : decode cX11_read 10 = .ok (.ifCond .eq 31, 3) := by decide +kernel
theorem dX11_read_13 : decode cX11_read 13 = .ok (.aload_n 0, 1) := by decide +kernel
theorem dX11_read_14 : decode cX11_read 14 = .ok (.getfield 22, 3) := by decide +kernel
theorem dX11_read_17 : decode cX11_read 17 = .ok (.invokevirtual 202, 3) := by decide +kernel
theorem dX11_read_20 : decode cX11_read 20 = .ok (.istore_n 2, 1) := by decide +kernel
theorem dX11_read_21 : decode cX11_read 21 = .ok (.iload_n 2, 1) := by decide +kernel
theorem dX11_read_22 : decode cX11_read 22 = .ok (.ifCond .lt 19, 3) := by decide +kernel
theorem dX11_read_25 : decode cX11_read 25 = .ok (.aload_n 0, 1) := by decide +kernel
theorem dX11_read_26 : decode cX11_read 26 = .ok (.getfield 22, 3) := by decide +kernel
theorem dX11_read_29 : decode cX11_read 29 = .ok (.aload_n 0, 1) := by decide +kernel
theorem dX11_read_30 : decode cX11_read 30 = .ok (.getfield 10, 3) := by decide +kernel
theorem dX11_read_33 : decode cX11_read 33 = .ok (.getfield 66, 3) := by decide +kernel
theorem dX11_read_36 : decode cX11_read 36 = .ok (.iload_n 1, 1) := by decide +kernel
theorem dX11_read_37 : decode cX11_read 37 = .ok (.aaload, 1) := by decide +kernel
theorem dX11_read_38 : decode cX11_read 38 = .ok (.invokevirtual 206, 3) := by decide +kernel
theorem dX11_read_41 : decode cX11_read 41 = .ok (.aload_n 0, 1) := by decide +kernel
theorem dX11_read_42 : decode cX11_read 42 = .ok (.getfield 22, 3) := by decide +kernel
theorem dX11_read_45 : decode cX11_read 45 = .ok (.iconst 0, 1) := by decide +kernel
theorem dX11_read_46 : decode cX11_read 46 = .ok (.putfield 194, 3) := by decide +kernel
theorem dX11_read_49 : decode cX11_read 49 = .ok (.iload_n 2, 1) := by decide +kernel
theorem dX11_read_50 : decode cX11_read 50 = .ok (.ireturn, 1) := by decide +kernel
theorem dX11_siteOf_0 : decode cX11_siteOf 0 = .ok (.aload_n 0, 1) := by decide +kernel
theorem dX11_siteOf_1 : decode cX11_siteOf 1 = .ok (.getfield 10, 3) := by decide +kernel
theorem dX11_siteOf_4 : decode cX11_siteOf 4 = .ok (.iload_n 1, 1) := by decide +kernel
theorem dX11_siteOf_5 : decode cX11_siteOf 5 = .ok (.invokevirtual 78, 3) := by decide +kernel
theorem dX11_siteOf_8 : decode cX11_siteOf 8 = .ok (.ifCond .ne 5, 3) := by decide +kernel
theorem dX11_siteOf_11 : decode cX11_siteOf 11 = .ok (.iconst (-1), 1) := by decide +kernel
theorem dX11_siteOf_12 : decode cX11_siteOf 12 = .ok (.ireturn, 1) := by decide +kernel
theorem dX11_siteOf_13 : decode cX11_siteOf 13 = .ok (.aload_n 0, 1) := by decide +kernel
theorem dX11_siteOf_14 : decode cX11_siteOf 14 = .ok (.getfield 10, 3) := by decide +kernel
theorem dX11_siteOf_17 : decode cX11_siteOf 17 = .ok (.getfield 66, 3) := by decide +kernel
theorem dX11_siteOf_20 : decode cX11_siteOf 20 = .ok (.iload_n 1, 1) := by decide +kernel
theorem dX11_siteOf_21 : decode cX11_siteOf 21 = .ok (.aaload, 1) := by decide +kernel
theorem dX11_siteOf_22 : decode cX11_siteOf 22 = .ok (.astore_n 3, 1) := by decide +kernel
theorem dX11_siteOf_23 : decode cX11_siteOf 23 = .ok (.iload_n 2, 1) := by decide +kernel
theorem dX11_siteOf_24 : decode cX11_siteOf 24 = .ok (.tableswitch 105 0 8 #[52, 57, 62, 75, 80, 85, 90, 95, 100], 52) := by decide +kernel
theorem dX11_siteOf_76 : decode cX11_siteOf 76 = .ok (.aload_n 3, 1) := by decide +kernel
theorem dX11_siteOf_77 : decode cX11_siteOf 77 = .ok (.getfield 70, 3) := by decide +kernel
theorem dX11_siteOf_80 : decode cX11_siteOf 80 = .ok (.ireturn, 1) := by decide +kernel
theorem dX11_siteOf_81 : decode cX11_siteOf 81 = .ok (.aload_n 3, 1) := by decide +kernel
theorem dX11_siteOf_82 : decode cX11_siteOf 82 = .ok (.getfield 75, 3) := by decide +kernel
theorem dX11_siteOf_85 : decode cX11_siteOf 85 = .ok (.ireturn, 1) := by decide +kernel
theorem dX11_siteOf_86 : decode cX11_siteOf 86 = .ok (.aload_n 3, 1) := by decide +kernel
theorem dX11_siteOf_87 : decode cX11_siteOf 87 = .ok (.getfield 210, 3) := by decide +kernel
theorem dX11_siteOf_90 : decode cX11_siteOf 90 = .ok (.ifCond .eq 7, 3) := by decide +kernel
theorem dX11_siteOf_93 : decode cX11_siteOf 93 = .ok (.iconst 1, 1) := by decide +kernel
theorem dX11_siteOf_94 : decode cX11_siteOf 94 = .ok (.goto 4, 3) := by decide +kernel
theorem dX11_siteOf_97 : decode cX11_siteOf 97 = .ok (.iconst 0, 1) := by decide +kernel
theorem dX11_siteOf_98 : decode cX11_siteOf 98 = .ok (.ireturn, 1) := by decide +kernel
theorem dX11_siteOf_99 : decode cX11_siteOf 99 = .ok (.aload_n 3, 1) := by decide +kernel
theorem dX11_siteOf_100 : decode cX11_siteOf 100 = .ok (.getfield 213, 3) := by decide +kernel
theorem dX11_siteOf_103 : decode cX11_siteOf 103 = .ok (.ireturn, 1) := by decide +kernel
theorem dX11_siteOf_104 : decode cX11_siteOf 104 = .ok (.aload_n 3, 1) := by decide +kernel
theorem dX11_siteOf_105 : decode cX11_siteOf 105 = .ok (.getfield 216, 3) := by decide +kernel
theorem dX11_siteOf_108 : decode cX11_siteOf 108 = .ok (.ireturn, 1) := by decide +kernel
theorem dX11_siteOf_109 : decode cX11_siteOf 109 = .ok (.aload_n 3, 1) := by decide +kernel
theorem dX11_siteOf_110 : decode cX11_siteOf 110 = .ok (.getfield 219, 3) := by decide +kernel
theorem dX11_siteOf_113 : decode cX11_siteOf 113 = .ok (.ireturn, 1) := by decide +kernel
theorem dX11_siteOf_114 : decode cX11_siteOf 114 = .ok (.aload_n 3, 1) := by decide +kernel
theorem dX11_siteOf_115 : decode cX11_siteOf 115 = .ok (.getfield 222, 3) := by decide +kernel
theorem dX11_siteOf_118 : decode cX11_siteOf 118 = .ok (.ireturn, 1) := by decide +kernel
theorem dX11_siteOf_119 : decode cX11_siteOf 119 = .ok (.aload_n 3, 1) := by decide +kernel
theorem dX11_siteOf_120 : decode cX11_siteOf 120 = .ok (.getfield 136, 3) := by decide +kernel
theorem dX11_siteOf_123 : decode cX11_siteOf 123 = .ok (.ireturn, 1) := by decide +kernel
theorem dX11_siteOf_124 : decode cX11_siteOf 124 = .ok (.aload_n 3, 1) := by decide +kernel
theorem dX11_siteOf_125 : decode cX11_siteOf 125 = .ok (.getfield 225, 3) := by decide +kernel
theorem dX11_siteOf_128 : decode cX11_siteOf 128 = .ok (.ireturn, 1) := by decide +kernel
theorem dX11_siteOf_129 : decode cX11_siteOf 129 = .ok (.iconst (-1), 1) := by decide +kernel
theorem dX11_siteOf_130 : decode cX11_siteOf 130 = .ok (.ireturn, 1) := by decide +kernel
theorem dX11_come_0 : decode cX11_come 0 = .ok (.aload_n 0, 1) := by decide +kernel
theorem dX11_come_1 : decode cX11_come 1 = .ok (.getfield 10, 3) := by decide +kernel
theorem dX11_come_4 : decode cX11_come 4 = .ok (.iload_n 1, 1) := by decide +kernel
theorem dX11_come_5 : decode cX11_come 5 = .ok (.invokevirtual 139, 3) := by decide +kernel
theorem dX11_come_8 : decode cX11_come 8 = .ok (.ifCond .eq 56, 3) := by decide +kernel
theorem dX11_come_11 : decode cX11_come 11 = .ok (.aload_n 0, 1) := by decide +kernel
theorem dX11_come_12 : decode cX11_come 12 = .ok (.getfield 10, 3) := by decide +kernel
theorem dX11_come_15 : decode cX11_come 15 = .ok (.iload_n 2, 1) := by decide +kernel
theorem dX11_come_16 : decode cX11_come 16 = .ok (.invokevirtual 78, 3) := by decide +kernel
theorem dX11_come_19 : decode cX11_come 19 = .ok (.ifCond .eq 45, 3) := by decide +kernel
theorem dX11_come_22 : decode cX11_come 22 = .ok (.iload_n 3, 1) := by decide +kernel
theorem dX11_come_23 : decode cX11_come 23 = .ok (.aload_n 0, 1) := by decide +kernel
theorem dX11_come_24 : decode cX11_come 24 = .ok (.getfield 10, 3) := by decide +kernel
theorem dX11_come_27 : decode cX11_come 27 = .ok (.getfield 107, 3) := by decide +kernel
theorem dX11_come_30 : decode cX11_come 30 = .ok (.iload_n 1, 1) := by decide +kernel
theorem dX11_come_31 : decode cX11_come 31 = .ok (.aaload, 1) := by decide +kernel
theorem dX11_come_32 : decode cX11_come 32 = .ok (.getfield 123, 3) := by decide +kernel
theorem dX11_come_35 : decode cX11_come 35 = .ok (.aload_n 0, 1) := by decide +kernel
theorem dX11_come_36 : decode cX11_come 36 = .ok (.getfield 10, 3) := by decide +kernel
theorem dX11_come_39 : decode cX11_come 39 = .ok (.getfield 107, 3) := by decide +kernel
theorem dX11_come_42 : decode cX11_come 42 = .ok (.iload_n 1, 1) := by decide +kernel
theorem dX11_come_43 : decode cX11_come 43 = .ok (.aaload, 1) := by decide +kernel
theorem dX11_come_44 : decode cX11_come 44 = .ok (.getfield 111, 3) := by decide +kernel
theorem dX11_come_47 : decode cX11_come 47 = .ok (.invokestatic 58, 3) := by decide +kernel
theorem dX11_come_50 : decode cX11_come 50 = .ok (.ifCond .ne 14, 3) := by decide +kernel
theorem dX11_come_53 : decode cX11_come 53 = .ok (.iload 4, 2) := by decide +kernel
theorem dX11_come_55 : decode cX11_come 55 = .ok (.iconst 0, 1) := by decide +kernel
theorem dX11_come_56 : decode cX11_come 56 = .ok (.bipush 50, 2) := by decide +kernel
theorem dX11_come_58 : decode cX11_come 58 = .ok (.invokestatic 58, 3) := by decide +kernel
theorem dX11_come_61 : decode cX11_come 61 = .ok (.ifCond .eq 5, 3) := by decide +kernel
theorem dX11_come_64 : decode cX11_come 64 = .ok (.iconst (-1), 1) := by decide +kernel
theorem dX11_come_65 : decode cX11_come 65 = .ok (.ireturn, 1) := by decide +kernel
theorem dX11_come_66 : decode cX11_come 66 = .ok (.aload_n 0, 1) := by decide +kernel
theorem dX11_come_67 : decode cX11_come 67 = .ok (.getfield 10, 3) := by decide +kernel
theorem dX11_come_70 : decode cX11_come 70 = .ok (.getfield 107, 3) := by decide +kernel
theorem dX11_come_73 : decode cX11_come 73 = .ok (.iload_n 1, 1) := by decide +kernel
theorem dX11_come_74 : decode cX11_come 74 = .ok (.aaload, 1) := by decide +kernel
theorem dX11_come_75 : decode cX11_come 75 = .ok (.astore 5, 2) := by decide +kernel
theorem dX11_come_77 : decode cX11_come 77 = .ok (.aload 5, 2) := by decide +kernel
theorem dX11_come_79 : decode cX11_come 79 = .ok (.getfield 157, 3) := by decide +kernel
theorem dX11_come_82 : decode cX11_come 82 = .ok (.ifCond .eq 6, 3) := by decide +kernel
theorem dX11_come_85 : decode cX11_come 85 = .ok (.bipush (-4), 2) := by decide +kernel
theorem dX11_come_87 : decode cX11_come 87 = .ok (.ireturn, 1) := by decide +kernel
theorem dX11_come_88 : decode cX11_come 88 = .ok (.aload 5, 2) := by decide +kernel
theorem dX11_come_90 : decode cX11_come 90 = .ok (.iload_n 3, 1) := by decide +kernel
theorem dX11_come_91 : decode cX11_come 91 = .ok (.putfield 160, 3) := by decide +kernel
theorem dX11_come_94 : decode cX11_come 94 = .ok (.aload 5, 2) := by decide +kernel
theorem dX11_come_96 : decode cX11_come 96 = .ok (.iload 4, 2) := by decide +kernel
theorem dX11_come_98 : decode cX11_come 98 = .ok (.putfield 228, 3) := by decide +kernel
theorem dX11_come_101 : decode cX11_come 101 = .ok (.aload 5, 2) := by decide +kernel
theorem dX11_come_103 : decode cX11_come 103 = .ok (.iconst 0, 1) := by decide +kernel
theorem dX11_come_104 : decode cX11_come 104 = .ok (.putfield 231, 3) := by decide +kernel
theorem dX11_come_107 : decode cX11_come 107 = .ok (.aload 5, 2) := by decide +kernel
theorem dX11_come_109 : decode cX11_come 109 = .ok (.iconst 0, 1) := by decide +kernel
theorem dX11_come_110 : decode cX11_come 110 = .ok (.putfield 234, 3) := by decide +kernel
theorem dX11_come_113 : decode cX11_come 113 = .ok (.aload 5, 2) := by decide +kernel
theorem dX11_come_115 : decode cX11_come 115 = .ok (.bipush 100, 2) := by decide +kernel
theorem dX11_come_117 : decode cX11_come 117 = .ok (.iload_n 2, 1) := by decide +kernel
theorem dX11_come_118 : decode cX11_come 118 = .ok (.iadd, 1) := by decide +kernel
theorem dX11_come_119 : decode cX11_come 119 = .ok (.putfield 157, 3) := by decide +kernel
theorem dX11_come_122 : decode cX11_come 122 = .ok (.aload_n 0, 1) := by decide +kernel
theorem dX11_come_123 : decode cX11_come 123 = .ok (.getfield 10, 3) := by decide +kernel
theorem dX11_come_126 : decode cX11_come 126 = .ok (.getfield 66, 3) := by decide +kernel
theorem dX11_come_129 : decode cX11_come 129 = .ok (.iload_n 2, 1) := by decide +kernel
theorem dX11_come_130 : decode cX11_come 130 = .ok (.aaload, 1) := by decide +kernel
theorem dX11_come_131 : decode cX11_come 131 = .ok (.iload_n 1, 1) := by decide +kernel
theorem dX11_come_132 : decode cX11_come 132 = .ok (.invokevirtual 237, 3) := by decide +kernel
theorem dX11_come_135 : decode cX11_come 135 = .ok (.aload_n 0, 1) := by decide +kernel
theorem dX11_come_136 : decode cX11_come 136 = .ok (.getfield 10, 3) := by decide +kernel
theorem dX11_come_139 : decode cX11_come 139 = .ok (.getfield 66, 3) := by decide +kernel
theorem dX11_come_142 : decode cX11_come 142 = .ok (.iload_n 2, 1) := by decide +kernel
theorem dX11_come_143 : decode cX11_come 143 = .ok (.aaload, 1) := by decide +kernel
theorem dX11_come_144 : decode cX11_come 144 = .ok (.getfield 222, 3) := by decide +kernel
theorem dX11_come_147 : decode cX11_come 147 = .ok (.iconst 1, 1) := by decide +kernel
theorem dX11_come_148 : decode cX11_come 148 = .ok (.isub, 1) := by decide +kernel
theorem dX11_come_149 : decode cX11_come 149 = .ok (.ireturn, 1) := by decide +kernel
theorem dX11_leave_0 : decode cX11_leave 0 = .ok (.aload_n 0, 1) := by decide +kernel
theorem dX11_leave_1 : decode cX11_leave 1 = .ok (.getfield 10, 3) := by decide +kernel
theorem dX11_leave_4 : decode cX11_leave 4 = .ok (.iload_n 1, 1) := by decide +kernel
theorem dX11_leave_5 : decode cX11_leave 5 = .ok (.invokevirtual 139, 3) := by decide +kernel
theorem dX11_leave_8 : decode cX11_leave 8 = .ok (.ifCond .ne 5, 3) := by decide +kernel
theorem dX11_leave_11 : decode cX11_leave 11 = .ok (.iconst (-1), 1) := by decide +kernel
theorem dX11_leave_12 : decode cX11_leave 12 = .ok (.ireturn, 1) := by decide +kernel
theorem dX11_leave_13 : decode cX11_leave 13 = .ok (.aload_n 0, 1) := by decide +kernel
theorem dX11_leave_14 : decode cX11_leave 14 = .ok (.getfield 10, 3) := by decide +kernel
theorem dX11_leave_17 : decode cX11_leave 17 = .ok (.getfield 107, 3) := by decide +kernel
theorem dX11_leave_20 : decode cX11_leave 20 = .ok (.iload_n 1, 1) := by decide +kernel
theorem dX11_leave_21 : decode cX11_leave 21 = .ok (.aaload, 1) := by decide +kernel
theorem dX11_leave_22 : decode cX11_leave 22 = .ok (.getfield 157, 3) := by decide +kernel
theorem dX11_leave_25 : decode cX11_leave 25 = .ok (.istore_n 2, 1) := by decide +kernel
theorem dX11_leave_26 : decode cX11_leave 26 = .ok (.iload_n 2, 1) := by decide +kernel
theorem dX11_leave_27 : decode cX11_leave 27 = .ok (.ifCond .ne 6, 3) := by decide +kernel
theorem dX11_leave_30 : decode cX11_leave 30 = .ok (.bipush (-4), 2) := by decide +kernel
theorem dX11_leave_32 : decode cX11_leave 32 = .ok (.ireturn, 1) := by decide +kernel
theorem dX11_leave_33 : decode cX11_leave 33 = .ok (.aload_n 0, 1) := by decide +kernel
theorem dX11_leave_34 : decode cX11_leave 34 = .ok (.getfield 10, 3) := by decide +kernel
theorem dX11_leave_37 : decode cX11_leave 37 = .ok (.iload_n 1, 1) := by decide +kernel
theorem dX11_leave_38 : decode cX11_leave 38 = .ok (.invokevirtual 240, 3) := by decide +kernel
theorem dX11_leave_41 : decode cX11_leave 41 = .ok (.iload_n 2, 1) := by decide +kernel
theorem dX11_leave_42 : decode cX11_leave 42 = .ok (.ireturn, 1) := by decide +kernel
theorem dX11_go_0 : decode cX11_go 0 = .ok (.aload_n 0, 1) := by decide +kernel
theorem dX11_go_1 : decode cX11_go 1 = .ok (.getfield 10, 3) := by decide +kernel
theorem dX11_go_4 : decode cX11_go 4 = .ok (.iload_n 1, 1) := by decide +kernel
theorem dX11_go_5 : decode cX11_go 5 = .ok (.invokevirtual 139, 3) := by decide +kernel
theorem dX11_go_8 : decode cX11_go 8 = .ok (.ifCond .eq 14, 3) := by decide +kernel
theorem dX11_go_11 : decode cX11_go 11 = .ok (.iload_n 2, 1) := by decide +kernel
theorem dX11_go_12 : decode cX11_go 12 = .ok (.iconst 1, 1) := by decide +kernel
theorem dX11_go_13 : decode cX11_go 13 = .ok (.sipush 999, 3) := by decide +kernel
theorem dX11_go_16 : decode cX11_go 16 = .ok (.invokestatic 58, 3) := by decide +kernel
theorem dX11_go_19 : decode cX11_go 19 = .ok (.ifCond .eq 5, 3) := by decide +kernel
theorem dX11_go_22 : decode cX11_go 22 = .ok (.iconst (-1), 1) := by decide +kernel
theorem dX11_go_23 : decode cX11_go 23 = .ok (.ireturn, 1) := by decide +kernel
theorem dX11_go_24 : decode cX11_go 24 = .ok (.aload_n 0, 1) := by decide +kernel
theorem dX11_go_25 : decode cX11_go 25 = .ok (.getfield 10, 3) := by decide +kernel
theorem dX11_go_28 : decode cX11_go 28 = .ok (.getfield 107, 3) := by decide +kernel
theorem dX11_go_31 : decode cX11_go 31 = .ok (.iload_n 1, 1) := by decide +kernel
theorem dX11_go_32 : decode cX11_go 32 = .ok (.aaload, 1) := by decide +kernel
theorem dX11_go_33 : decode cX11_go 33 = .ok (.astore_n 3, 1) := by decide +kernel
theorem dX11_go_34 : decode cX11_go 34 = .ok (.aload_n 3, 1) := by decide +kernel
theorem dX11_go_35 : decode cX11_go 35 = .ok (.getfield 157, 3) := by decide +kernel
theorem dX11_go_38 : decode cX11_go 38 = .ok (.ifCond .eq 6, 3) := by decide +kernel
theorem dX11_go_41 : decode cX11_go 41 = .ok (.bipush (-4), 2) := by decide +kernel
theorem dX11_go_43 : decode cX11_go 43 = .ok (.ireturn, 1) := by decide +kernel
theorem dX11_go_44 : decode cX11_go 44 = .ok (.aload_n 0, 1) := by decide +kernel
theorem dX11_go_45 : decode cX11_go 45 = .ok (.getfield 10, 3) := by decide +kernel
theorem dX11_go_48 : decode cX11_go 48 = .ok (.aload_n 3, 1) := by decide +kernel
theorem dX11_go_49 : decode cX11_go 49 = .ok (.iload_n 2, 1) := by decide +kernel
theorem dX11_go_50 : decode cX11_go 50 = .ok (.invokevirtual 146, 3) := by decide +kernel
theorem dX11_go_53 : decode cX11_go 53 = .ok (.istore 4, 2) := by decide +kernel
theorem dX11_go_55 : decode cX11_go 55 = .ok (.iload 4, 2) := by decide +kernel
theorem dX11_go_57 : decode cX11_go 57 = .ok (.aload_n 3, 1) := by decide +kernel
theorem dX11_go_58 : decode cX11_go 58 = .ok (.getfield 123, 3) := by decide +kernel
theorem dX11_go_61 : decode cX11_go 61 = .ok (.if_icmp .le 6, 3) := by decide +kernel
theorem dX11_go_64 : decode cX11_go 64 = .ok (.bipush (-3), 2) := by decide +kernel
theorem dX11_go_66 : decode cX11_go 66 = .ok (.ireturn, 1) := by decide +kernel
theorem dX11_go_67 : decode cX11_go 67 = .ok (.aload_n 3, 1) := by decide +kernel
theorem dX11_go_68 : decode cX11_go 68 = .ok (.dup, 1) := by decide +kernel
theorem dX11_go_69 : decode cX11_go 69 = .ok (.getfield 123, 3) := by decide +kernel
theorem dX11_go_72 : decode cX11_go 72 = .ok (.iload 4, 2) := by decide +kernel
theorem dX11_go_74 : decode cX11_go 74 = .ok (.isub, 1) := by decide +kernel
theorem dX11_go_75 : decode cX11_go 75 = .ok (.putfield 123, 3) := by decide +kernel
theorem dX11_go_78 : decode cX11_go 78 = .ok (.aload_n 3, 1) := by decide +kernel
theorem dX11_go_79 : decode cX11_go 79 = .ok (.getfield 123, 3) := by decide +kernel
theorem dX11_go_82 : decode cX11_go 82 = .ok (.ireturn, 1) := by decide +kernel
theorem dX11_fail_0 : decode cX11_fail 0 = .ok (.aload_n 0, 1) := by decide +kernel
theorem dX11_fail_1 : decode cX11_fail 1 = .ok (.getfield 10, 3) := by decide +kernel
theorem dX11_fail_4 : decode cX11_fail 4 = .ok (.iload_n 1, 1) := by decide +kernel
theorem dX11_fail_5 : decode cX11_fail 5 = .ok (.invokevirtual 150, 3) := by decide +kernel
theorem dX11_fail_8 : decode cX11_fail 8 = .ok (.ifCond .ne 5, 3) := by decide +kernel
theorem dX11_fail_11 : decode cX11_fail 11 = .ok (.iconst (-1), 1) := by decide +kernel
theorem dX11_fail_12 : decode cX11_fail 12 = .ok (.ireturn, 1) := by decide +kernel
theorem dX11_fail_13 : decode cX11_fail 13 = .ok (.aload_n 0, 1) := by decide +kernel
theorem dX11_fail_14 : decode cX11_fail 14 = .ok (.getfield 10, 3) := by decide +kernel
theorem dX11_fail_17 : decode cX11_fail 17 = .ok (.getfield 85, 3) := by decide +kernel
theorem dX11_fail_20 : decode cX11_fail 20 = .ok (.iload_n 1, 1) := by decide +kernel
theorem dX11_fail_21 : decode cX11_fail 21 = .ok (.aaload, 1) := by decide +kernel
theorem dX11_fail_22 : decode cX11_fail 22 = .ok (.getfield 243, 3) := by decide +kernel
theorem dX11_fail_25 : decode cX11_fail 25 = .ok (.iload_n 2, 1) := by decide +kernel
theorem dX11_fail_26 : decode cX11_fail 26 = .ok (.if_icmp .eq 7, 3) := by decide +kernel
theorem dX11_fail_29 : decode cX11_fail 29 = .ok (.iconst 1, 1) := by decide +kernel
theorem dX11_fail_30 : decode cX11_fail 30 = .ok (.goto 4, 3) := by decide +kernel
theorem dX11_fail_33 : decode cX11_fail 33 = .ok (.iconst 0, 1) := by decide +kernel
theorem dX11_fail_34 : decode cX11_fail 34 = .ok (.istore_n 3, 1) := by decide +kernel
theorem dX11_fail_35 : decode cX11_fail 35 = .ok (.aload_n 0, 1) := by decide +kernel
theorem dX11_fail_36 : decode cX11_fail 36 = .ok (.getfield 10, 3) := by decide +kernel
theorem dX11_fail_39 : decode cX11_fail 39 = .ok (.getfield 85, 3) := by decide +kernel
theorem dX11_fail_42 : decode cX11_fail 42 = .ok (.iload_n 1, 1) := by decide +kernel
theorem dX11_fail_43 : decode cX11_fail 43 = .ok (.aaload, 1) := by decide +kernel
theorem dX11_fail_44 : decode cX11_fail 44 = .ok (.iload_n 2, 1) := by decide +kernel
theorem dX11_fail_45 : decode cX11_fail 45 = .ok (.putfield 243, 3) := by decide +kernel
theorem dX11_fail_48 : decode cX11_fail 48 = .ok (.iload_n 3, 1) := by decide +kernel
theorem dX11_fail_49 : decode cX11_fail 49 = .ok (.ifCond .eq 7, 3) := by decide +kernel
theorem dX11_fail_52 : decode cX11_fail 52 = .ok (.iconst 1, 1) := by decide +kernel
theorem dX11_fail_53 : decode cX11_fail 53 = .ok (.goto 4, 3) := by decide +kernel
theorem dX11_fail_56 : decode cX11_fail 56 = .ok (.iconst 0, 1) := by decide +kernel
theorem dX11_fail_57 : decode cX11_fail 57 = .ok (.ireturn, 1) := by decide +kernel
theorem dX11_ticks_0 : decode cX11_ticks 0 = .ok (.iload_n 1, 1) := by decide +kernel
theorem dX11_ticks_1 : decode cX11_ticks 1 = .ok (.iconst 1, 1) := by decide +kernel
theorem dX11_ticks_2 : decode cX11_ticks 2 = .ok (.bipush 100, 2) := by decide +kernel
theorem dX11_ticks_4 : decode cX11_ticks 4 = .ok (.invokestatic 58, 3) := by decide +kernel
theorem dX11_ticks_7 : decode cX11_ticks 7 = .ok (.ifCond .eq 5, 3) := by decide +kernel
theorem dX11_ticks_10 : decode cX11_ticks 10 = .ok (.iconst (-1), 1) := by decide +kernel
theorem dX11_ticks_11 : decode cX11_ticks 11 = .ok (.ireturn, 1) := by decide +kernel
theorem dX11_ticks_12 : decode cX11_ticks 12 = .ok (.aload_n 0, 1) := by decide +kernel
theorem dX11_ticks_13 : decode cX11_ticks 13 = .ok (.getfield 10, 3) := by decide +kernel
theorem dX11_ticks_16 : decode cX11_ticks 16 = .ok (.getfield 246, 3) := by decide +kernel
theorem dX11_ticks_19 : decode cX11_ticks 19 = .ok (.iload_n 1, 1) := by decide +kernel
theorem dX11_ticks_20 : decode cX11_ticks 20 = .ok (.iadd, 1) := by decide +kernel
theorem dX11_ticks_21 : decode cX11_ticks 21 = .ok (.sipush 2000, 3) := by decide +kernel
theorem dX11_ticks_24 : decode cX11_ticks 24 = .ok (.if_icmp .le 6, 3) := by decide +kernel
theorem dX11_ticks_27 : decode cX11_ticks 27 = .ok (.bipush (-4), 2) := by decide +kernel
theorem dX11_ticks_29 : decode cX11_ticks 29 = .ok (.ireturn, 1) := by decide +kernel
theorem dX11_ticks_30 : decode cX11_ticks 30 = .ok (.aload_n 0, 1) := by decide +kernel
theorem dX11_ticks_31 : decode cX11_ticks 31 = .ok (.getfield 10, 3) := by decide +kernel
theorem dX11_ticks_34 : decode cX11_ticks 34 = .ok (.getfield 249, 3) := by decide +kernel
theorem dX11_ticks_37 : decode cX11_ticks 37 = .ok (.istore_n 2, 1) := by decide +kernel
theorem dX11_ticks_38 : decode cX11_ticks 38 = .ok (.iconst 0, 1) := by decide +kernel
theorem dX11_ticks_39 : decode cX11_ticks 39 = .ok (.istore_n 3, 1) := by decide +kernel
theorem dX11_ticks_40 : decode cX11_ticks 40 = .ok (.iload_n 3, 1) := by decide +kernel
theorem dX11_ticks_41 : decode cX11_ticks 41 = .ok (.iload_n 1, 1) := by decide +kernel
theorem dX11_ticks_42 : decode cX11_ticks 42 = .ok (.if_icmp .ge 20, 3) := by decide +kernel
theorem dX11_ticks_45 : decode cX11_ticks 45 = .ok (.aload_n 0, 1) := by decide +kernel
theorem dX11_ticks_46 : decode cX11_ticks 46 = .ok (.getfield 36, 3) := by decide +kernel
theorem dX11_ticks_49 : decode cX11_ticks 49 = .ok (.aload_n 0, 1) := by decide +kernel
theorem dX11_ticks_50 : decode cX11_ticks 50 = .ok (.getfield 10, 3) := by decide +kernel
theorem dX11_ticks_53 : decode cX11_ticks 53 = .ok (.invokevirtual 250, 3) := by decide +kernel
theorem dX11_ticks_56 : decode cX11_ticks 56 = .ok (.iinc 3 1, 3) := by decide +kernel
theorem dX11_ticks_59 : decode cX11_ticks 59 = .ok (.goto (-19), 3) := by decide +kernel
theorem dX11_ticks_62 : decode cX11_ticks 62 = .ok (.aload_n 0, 1) := by decide +kernel
theorem dX11_ticks_63 : decode cX11_ticks 63 = .ok (.getfield 10, 3) := by decide +kernel
theorem dX11_ticks_66 : decode cX11_ticks 66 = .ok (.getfield 249, 3) := by decide +kernel
theorem dX11_ticks_69 : decode cX11_ticks 69 = .ok (.iload_n 2, 1) := by decide +kernel
theorem dX11_ticks_70 : decode cX11_ticks 70 = .ok (.isub, 1) := by decide +kernel
theorem dX11_ticks_71 : decode cX11_ticks 71 = .ok (.ireturn, 1) := by decide +kernel
theorem dX11_plugOf_0 : decode cX11_plugOf 0 = .ok (.aload_n 0, 1) := by decide +kernel
theorem dX11_plugOf_1 : decode cX11_plugOf 1 = .ok (.getfield 10, 3) := by decide +kernel
theorem dX11_plugOf_4 : decode cX11_plugOf 4 = .ok (.iload_n 1, 1) := by decide +kernel
theorem dX11_plugOf_5 : decode cX11_plugOf 5 = .ok (.invokevirtual 150, 3) := by decide +kernel
theorem dX11_plugOf_8 : decode cX11_plugOf 8 = .ok (.ifCond .ne 5, 3) := by decide +kernel
theorem dX11_plugOf_11 : decode cX11_plugOf 11 = .ok (.iconst (-1), 1) := by decide +kernel
theorem dX11_plugOf_12 : decode cX11_plugOf 12 = .ok (.ireturn, 1) := by decide +kernel
theorem dX11_plugOf_13 : decode cX11_plugOf 13 = .ok (.aload_n 0, 1) := by decide +kernel
theorem dX11_plugOf_14 : decode cX11_plugOf 14 = .ok (.getfield 10, 3) := by decide +kernel
theorem dX11_plugOf_17 : decode cX11_plugOf 17 = .ok (.getfield 85, 3) := by decide +kernel
theorem dX11_plugOf_20 : decode cX11_plugOf 20 = .ok (.iload_n 1, 1) := by decide +kernel
theorem dX11_plugOf_21 : decode cX11_plugOf 21 = .ok (.aaload, 1) := by decide +kernel
theorem dX11_plugOf_22 : decode cX11_plugOf 22 = .ok (.astore_n 3, 1) := by decide +kernel
theorem dX11_plugOf_23 : decode cX11_plugOf 23 = .ok (.iload_n 2, 1) := by decide +kernel
theorem dX11_plugOf_24 : decode cX11_plugOf 24 = .ok (.tableswitch 122 0 6 #[44, 49, 54, 59, 77, 97, 110], 44) := by decide +kernel
theorem dX11_plugOf_68 : decode cX11_plugOf 68 = .ok (.aload_n 3, 1) := by decide +kernel
theorem dX11_plugOf_69 : decode cX11_plugOf 69 = .ok (.getfield 89, 3) := by decide +kernel
theorem dX11_plugOf_72 : decode cX11_plugOf 72 = .ok (.ireturn, 1) := by decide +kernel
theorem dX11_plugOf_73 : decode cX11_plugOf 73 = .ok (.aload_n 3, 1) := by decide +kernel
theorem dX11_plugOf_74 : decode cX11_plugOf 74 = .ok (.getfield 94, 3) := by decide +kernel
theorem dX11_plugOf_77 : decode cX11_plugOf 77 = .ok (.ireturn, 1) := by decide +kernel
theorem dX11_plugOf_78 : decode cX11_plugOf 78 = .ok (.aload_n 3, 1) := by decide +kernel
theorem dX11_plugOf_79 : decode cX11_plugOf 79 = .ok (.getfield 97, 3) := by decide +kernel
theorem dX11_plugOf_82 : decode cX11_plugOf 82 = .ok (.ireturn, 1) := by decide +kernel
theorem dX11_plugOf_83 : decode cX11_plugOf 83 = .ok (.aload_n 3, 1) := by decide +kernel
theorem dX11_plugOf_84 : decode cX11_plugOf 84 = .ok (.getfield 254, 3) := by decide +kernel
theorem dX11_plugOf_87 : decode cX11_plugOf 87 = .ok (.iconst (-1), 1) := by decide +kernel
theorem dX11_plugOf_88 : decode cX11_plugOf 88 = .ok (.if_icmp .ne 8, 3) := by decide +kernel
theorem dX11_plugOf_91 : decode cX11_plugOf 91 = .ok (.bipush (-3), 2) := by decide +kernel
theorem dX11_plugOf_93 : decode cX11_plugOf 93 = .ok (.goto 7, 3) := by decide +kernel
theorem dX11_plugOf_96 : decode cX11_plugOf 96 = .ok (.aload_n 3, 1) := by decide +kernel
theorem dX11_plugOf_97 : decode cX11_plugOf 97 = .ok (.getfield 254, 3) := by decide +kernel
theorem dX11_plugOf_100 : decode cX11_plugOf 100 = .ok (.ireturn, 1) := by decide +kernel
theorem dX11_plugOf_101 : decode cX11_plugOf 101 = .ok (.aload_n 0, 1) := by decide +kernel
theorem dX11_plugOf_102 : decode cX11_plugOf 102 = .ok (.getfield 10, 3) := by decide +kernel
theorem dX11_plugOf_105 : decode cX11_plugOf 105 = .ok (.getfield 257, 3) := by decide +kernel
theorem dX11_plugOf_108 : decode cX11_plugOf 108 = .ok (.iload_n 1, 1) := by decide +kernel
theorem dX11_plugOf_109 : decode cX11_plugOf 109 = .ok (.invokevirtual 261, 3) := by decide +kernel
theorem dX11_plugOf_112 : decode cX11_plugOf 112 = .ok (.ifCond .eq 7, 3) := by decide +kernel
theorem dX11_plugOf_115 : decode cX11_plugOf 115 = .ok (.iconst 1, 1) := by decide +kernel
theorem dX11_plugOf_116 : decode cX11_plugOf 116 = .ok (.goto 4, 3) := by decide +kernel
theorem dX11_plugOf_119 : decode cX11_plugOf 119 = .ok (.iconst 0, 1) := by decide +kernel
theorem dX11_plugOf_120 : decode cX11_plugOf 120 = .ok (.ireturn, 1) := by decide +kernel
theorem dX11_plugOf_121 : decode cX11_plugOf 121 = .ok (.aload_n 3, 1) := by decide +kernel
theorem dX11_plugOf_122 : decode cX11_plugOf 122 = .ok (.getfield 266, 3) := by decide +kernel
theorem dX11_plugOf_125 : decode cX11_plugOf 125 = .ok (.ifCond .eq 7, 3) := by decide +kernel
theorem dX11_plugOf_128 : decode cX11_plugOf 128 = .ok (.iconst 1, 1) := by decide +kernel
theorem dX11_plugOf_129 : decode cX11_plugOf 129 = .ok (.goto 4, 3) := by decide +kernel
theorem dX11_plugOf_132 : decode cX11_plugOf 132 = .ok (.iconst 0, 1) := by decide +kernel
theorem dX11_plugOf_133 : decode cX11_plugOf 133 = .ok (.ireturn, 1) := by decide +kernel
theorem dX11_plugOf_134 : decode cX11_plugOf 134 = .ok (.aload_n 0, 1) := by decide +kernel
theorem dX11_plugOf_135 : decode cX11_plugOf 135 = .ok (.getfield 10, 3) := by decide +kernel
theorem dX11_plugOf_138 : decode cX11_plugOf 138 = .ok (.getfield 257, 3) := by decide +kernel
theorem dX11_plugOf_141 : decode cX11_plugOf 141 = .ok (.iload_n 1, 1) := by decide +kernel
theorem dX11_plugOf_142 : decode cX11_plugOf 142 = .ok (.invokevirtual 269, 3) := by decide +kernel
theorem dX11_plugOf_145 : decode cX11_plugOf 145 = .ok (.ireturn, 1) := by decide +kernel
theorem dX11_plugOf_146 : decode cX11_plugOf 146 = .ok (.iconst (-1), 1) := by decide +kernel
theorem dX11_plugOf_147 : decode cX11_plugOf 147 = .ok (.ireturn, 1) := by decide +kernel
theorem dX11_says_0 : decode cX11_says 0 = .ok (.aload_n 0, 1) := by decide +kernel
theorem dX11_says_1 : decode cX11_says 1 = .ok (.getfield 10, 3) := by decide +kernel
theorem dX11_says_4 : decode cX11_says 4 = .ok (.iload_n 1, 1) := by decide +kernel
theorem dX11_says_5 : decode cX11_says 5 = .ok (.invokevirtual 150, 3) := by decide +kernel
theorem dX11_says_8 : decode cX11_says 8 = .ok (.ifCond .ne 5, 3) := by decide +kernel
theorem dX11_says_11 : decode cX11_says 11 = .ok (.iconst (-1), 1) := by decide +kernel
theorem dX11_says_12 : decode cX11_says 12 = .ok (.ireturn, 1) := by decide +kernel
theorem dX11_says_13 : decode cX11_says 13 = .ok (.aload_n 0, 1) := by decide +kernel
theorem dX11_says_14 : decode cX11_says 14 = .ok (.getfield 10, 3) := by decide +kernel
theorem dX11_says_17 : decode cX11_says 17 = .ok (.getfield 85, 3) := by decide +kernel
theorem dX11_says_20 : decode cX11_says 20 = .ok (.iload_n 1, 1) := by decide +kernel
theorem dX11_says_21 : decode cX11_says 21 = .ok (.aaload, 1) := by decide +kernel
theorem dX11_says_22 : decode cX11_says 22 = .ok (.getfield 266, 3) := by decide +kernel
theorem dX11_says_25 : decode cX11_says 25 = .ok (.iload_n 2, 1) := by decide +kernel
theorem dX11_says_26 : decode cX11_says 26 = .ok (.if_icmp .eq 7, 3) := by decide +kernel
theorem dX11_says_29 : decode cX11_says 29 = .ok (.iconst 1, 1) := by decide +kernel
theorem dX11_says_30 : decode cX11_says 30 = .ok (.goto 4, 3) := by decide +kernel
theorem dX11_says_33 : decode cX11_says 33 = .ok (.iconst 0, 1) := by decide +kernel
theorem dX11_says_34 : decode cX11_says 34 = .ok (.istore_n 3, 1) := by decide +kernel
theorem dX11_says_35 : decode cX11_says 35 = .ok (.aload_n 0, 1) := by decide +kernel
theorem dX11_says_36 : decode cX11_says 36 = .ok (.getfield 10, 3) := by decide +kernel
theorem dX11_says_39 : decode cX11_says 39 = .ok (.getfield 85, 3) := by decide +kernel
theorem dX11_says_42 : decode cX11_says 42 = .ok (.iload_n 1, 1) := by decide +kernel
theorem dX11_says_43 : decode cX11_says 43 = .ok (.aaload, 1) := by decide +kernel
theorem dX11_says_44 : decode cX11_says 44 = .ok (.iload_n 2, 1) := by decide +kernel
theorem dX11_says_45 : decode cX11_says 45 = .ok (.putfield 266, 3) := by decide +kernel
theorem dX11_says_48 : decode cX11_says 48 = .ok (.iload_n 3, 1) := by decide +kernel
theorem dX11_says_49 : decode cX11_says 49 = .ok (.ifCond .eq 7, 3) := by decide +kernel
theorem dX11_says_52 : decode cX11_says 52 = .ok (.iconst 1, 1) := by decide +kernel
theorem dX11_says_53 : decode cX11_says 53 = .ok (.goto 4, 3) := by decide +kernel
theorem dX11_says_56 : decode cX11_says 56 = .ok (.iconst 0, 1) := by decide +kernel
theorem dX11_says_57 : decode cX11_says 57 = .ok (.ireturn, 1) := by decide +kernel
theorem dX11_tried_0 : decode cX11_tried 0 = .ok (.aload_n 0, 1) := by decide +kernel
theorem dX11_tried_1 : decode cX11_tried 1 = .ok (.getfield 10, 3) := by decide +kernel
theorem dX11_tried_4 : decode cX11_tried 4 = .ok (.iload_n 1, 1) := by decide +kernel
theorem dX11_tried_5 : decode cX11_tried 5 = .ok (.invokevirtual 150, 3) := by decide +kernel
theorem dX11_tried_8 : decode cX11_tried 8 = .ok (.ifCond .eq 14, 3) := by decide +kernel
theorem dX11_tried_11 : decode cX11_tried 11 = .ok (.aload_n 0, 1) := by decide +kernel
theorem dX11_tried_12 : decode cX11_tried 12 = .ok (.getfield 10, 3) := by decide +kernel
theorem dX11_tried_15 : decode cX11_tried 15 = .ok (.iload_n 2, 1) := by decide +kernel
theorem dX11_tried_16 : decode cX11_tried 16 = .ok (.invokevirtual 139, 3) := by decide +kernel
theorem dX11_tried_19 : decode cX11_tried 19 = .ok (.ifCond .ne 5, 3) := by decide +kernel
theorem dX11_tried_22 : decode cX11_tried 22 = .ok (.iconst (-1), 1) := by decide +kernel
theorem dX11_tried_23 : decode cX11_tried 23 = .ok (.ireturn, 1) := by decide +kernel
theorem dX11_tried_24 : decode cX11_tried 24 = .ok (.aload_n 0, 1) := by decide +kernel
theorem dX11_tried_25 : decode cX11_tried 25 = .ok (.getfield 10, 3) := by decide +kernel
theorem dX11_tried_28 : decode cX11_tried 28 = .ok (.getfield 257, 3) := by decide +kernel
theorem dX11_tried_31 : decode cX11_tried 31 = .ok (.iload_n 1, 1) := by decide +kernel
theorem dX11_tried_32 : decode cX11_tried 32 = .ok (.iload_n 2, 1) := by decide +kernel
theorem dX11_tried_33 : decode cX11_tried 33 = .ok (.aload_n 0, 1) := by decide +kernel
theorem dX11_tried_34 : decode cX11_tried 34 = .ok (.getfield 10, 3) := by decide +kernel
theorem dX11_tried_37 : decode cX11_tried 37 = .ok (.getfield 246, 3) := by decide +kernel
theorem dX11_tried_40 : decode cX11_tried 40 = .ok (.iload_n 3, 1) := by decide +kernel
theorem dX11_tried_41 : decode cX11_tried 41 = .ok (.invokevirtual 272, 3) := by decide +kernel
theorem dX11_tried_44 : decode cX11_tried 44 = .ok (.aload_n 0, 1) := by decide +kernel
theorem dX11_tried_45 : decode cX11_tried 45 = .ok (.getfield 10, 3) := by decide +kernel
theorem dX11_tried_48 : decode cX11_tried 48 = .ok (.getfield 257, 3) := by decide +kernel
theorem dX11_tried_51 : decode cX11_tried 51 = .ok (.getfield 276, 3) := by decide +kernel
theorem dX11_tried_54 : decode cX11_tried 54 = .ok (.ireturn, 1) := by decide +kernel
theorem dX11_tryOf_0 : decode cX11_tryOf 0 = .ok (.iload_n 2, 1) := by decide +kernel
theorem dX11_tryOf_1 : decode cX11_tryOf 1 = .ok (.iconst 0, 1) := by decide +kernel
theorem dX11_tryOf_2 : decode cX11_tryOf 2 = .ok (.iconst 3, 1) := by decide +kernel
theorem dX11_tryOf_3 : decode cX11_tryOf 3 = .ok (.invokestatic 58, 3) := by decide +kernel
theorem dX11_tryOf_6 : decode cX11_tryOf 6 = .ok (.ifCond .eq 5, 3) := by decide +kernel
theorem dX11_tryOf_9 : decode cX11_tryOf 9 = .ok (.iconst (-1), 1) := by decide +kernel
theorem dX11_tryOf_10 : decode cX11_tryOf 10 = .ok (.ireturn, 1) := by decide +kernel
theorem dX11_tryOf_11 : decode cX11_tryOf 11 = .ok (.iload_n 1, 1) := by decide +kernel
theorem dX11_tryOf_12 : decode cX11_tryOf 12 = .ok (.iconst 0, 1) := by decide +kernel
theorem dX11_tryOf_13 : decode cX11_tryOf 13 = .ok (.aload_n 0, 1) := by decide +kernel
theorem dX11_tryOf_14 : decode cX11_tryOf 14 = .ok (.getfield 10, 3) := by decide +kernel
theorem dX11_tryOf_17 : decode cX11_tryOf 17 = .ok (.getfield 257, 3) := by decide +kernel
theorem dX11_tryOf_20 : decode cX11_tryOf 20 = .ok (.getfield 276, 3) := by decide +kernel
theorem dX11_tryOf_23 : decode cX11_tryOf 23 = .ok (.iconst 1, 1) := by decide +kernel
theorem dX11_tryOf_24 : decode cX11_tryOf 24 = .ok (.isub, 1) := by decide +kernel
theorem dX11_tryOf_25 : decode cX11_tryOf 25 = .ok (.invokestatic 58, 3) := by decide +kernel
theorem dX11_tryOf_28 : decode cX11_tryOf 28 = .ok (.ifCond .eq 6, 3) := by decide +kernel
theorem dX11_tryOf_31 : decode cX11_tryOf 31 = .ok (.bipush (-3), 2) := by decide +kernel
theorem dX11_tryOf_33 : decode cX11_tryOf 33 = .ok (.ireturn, 1) := by decide +kernel
theorem dX11_tryOf_34 : decode cX11_tryOf 34 = .ok (.aload_n 0, 1) := by decide +kernel
theorem dX11_tryOf_35 : decode cX11_tryOf 35 = .ok (.getfield 10, 3) := by decide +kernel
theorem dX11_tryOf_38 : decode cX11_tryOf 38 = .ok (.getfield 257, 3) := by decide +kernel
theorem dX11_tryOf_41 : decode cX11_tryOf 41 = .ok (.iload_n 1, 1) := by decide +kernel
theorem dX11_tryOf_42 : decode cX11_tryOf 42 = .ok (.invokevirtual 279, 3) := by decide +kernel
theorem dX11_tryOf_45 : decode cX11_tryOf 45 = .ok (.istore_n 3, 1) := by decide +kernel
theorem dX11_tryOf_46 : decode cX11_tryOf 46 = .ok (.iload_n 2, 1) := by decide +kernel
theorem dX11_tryOf_47 : decode cX11_tryOf 47 = .ok (.tableswitch 64 0 2 #[25, 38, 51], 25) := by decide +kernel
theorem dX11_tryOf_72 : decode cX11_tryOf 72 = .ok (.aload_n 0, 1) := by decide +kernel
theorem dX11_tryOf_73 : decode cX11_tryOf 73 = .ok (.getfield 10, 3) := by decide +kernel
theorem dX11_tryOf_76 : decode cX11_tryOf 76 = .ok (.getfield 257, 3) := by decide +kernel
theorem dX11_tryOf_79 : decode cX11_tryOf 79 = .ok (.getfield 282, 3) := by decide +kernel
theorem dX11_tryOf_82 : decode cX11_tryOf 82 = .ok (.iload_n 3, 1) := by decide +kernel
theorem dX11_tryOf_83 : decode cX11_tryOf 83 = .ok (.iaload, 1) := by decide +kernel
theorem dX11_tryOf_84 : decode cX11_tryOf 84 = .ok (.ireturn, 1) := by decide +kernel
theorem dX11_tryOf_85 : decode cX11_tryOf 85 = .ok (.aload_n 0, 1) := by decide +kernel
theorem dX11_tryOf_86 : decode cX11_tryOf 86 = .ok (.getfield 10, 3) := by decide +kernel
theorem dX11_tryOf_89 : decode cX11_tryOf 89 = .ok (.getfield 257, 3) := by decide +kernel
theorem dX11_tryOf_92 : decode cX11_tryOf 92 = .ok (.getfield 284, 3) := by decide +kernel
theorem dX11_tryOf_95 : decode cX11_tryOf 95 = .ok (.iload_n 3, 1) := by decide +kernel
theorem dX11_tryOf_96 : decode cX11_tryOf 96 = .ok (.iaload, 1) := by decide +kernel
theorem dX11_tryOf_97 : decode cX11_tryOf 97 = .ok (.ireturn, 1) := by decide +kernel
theorem dX11_tryOf_98 : decode cX11_tryOf 98 = .ok (.aload_n 0, 1) := by decide +kernel
theorem dX11_tryOf_99 : decode cX11_tryOf 99 = .ok (.getfield 10, 3) := by decide +kernel
theorem dX11_tryOf_102 : decode cX11_tryOf 102 = .ok (.getfield 257, 3) := by decide +kernel
theorem dX11_tryOf_105 : decode cX11_tryOf 105 = .ok (.getfield 286, 3) := by decide +kernel
theorem dX11_tryOf_108 : decode cX11_tryOf 108 = .ok (.iload_n 3, 1) := by decide +kernel
theorem dX11_tryOf_109 : decode cX11_tryOf 109 = .ok (.iaload, 1) := by decide +kernel
theorem dX11_tryOf_110 : decode cX11_tryOf 110 = .ok (.ireturn, 1) := by decide +kernel
theorem dX11_tryOf_111 : decode cX11_tryOf 111 = .ok (.aload_n 0, 1) := by decide +kernel
theorem dX11_tryOf_112 : decode cX11_tryOf 112 = .ok (.getfield 10, 3) := by decide +kernel
theorem dX11_tryOf_115 : decode cX11_tryOf 115 = .ok (.getfield 257, 3) := by decide +kernel
theorem dX11_tryOf_118 : decode cX11_tryOf 118 = .ok (.getfield 289, 3) := by decide +kernel
theorem dX11_tryOf_121 : decode cX11_tryOf 121 = .ok (.iload_n 3, 1) := by decide +kernel
theorem dX11_tryOf_122 : decode cX11_tryOf 122 = .ok (.iaload, 1) := by decide +kernel
theorem dX11_tryOf_123 : decode cX11_tryOf 123 = .ok (.ireturn, 1) := by decide +kernel
theorem dX11_lies_0 : decode cX11_lies 0 = .ok (.iconst 0, 1) := by decide +kernel
theorem dX11_lies_1 : decode cX11_lies 1 = .ok (.istore_n 1, 1) := by decide +kernel
theorem dX11_lies_2 : decode cX11_lies 2 = .ok (.iconst 0, 1) := by decide +kernel
theorem dX11_lies_3 : decode cX11_lies 3 = .ok (.istore_n 2, 1) := by decide +kernel
theorem dX11_lies_4 : decode cX11_lies 4 = .ok (.iload_n 2, 1) := by decide +kernel
theorem dX11_lies_5 : decode cX11_lies 5 = .ok (.aload_n 0, 1) := by decide +kernel
theorem dX11_lies_6 : decode cX11_lies 6 = .ok (.getfield 10, 3) := by decide +kernel
theorem dX11_lies_9 : decode cX11_lies 9 = .ok (.getfield 82, 3) := by decide +kernel
theorem dX11_lies_12 : decode cX11_lies 12 = .ok (.if_icmp .ge 60, 3) := by decide +kernel
theorem dX11_lies_15 : decode cX11_lies 15 = .ok (.aload_n 0, 1) := by decide +kernel
theorem dX11_lies_16 : decode cX11_lies 16 = .ok (.getfield 10, 3) := by decide +kernel
theorem dX11_lies_19 : decode cX11_lies 19 = .ok (.getfield 85, 3) := by decide +kernel
theorem dX11_lies_22 : decode cX11_lies 22 = .ok (.iload_n 2, 1) := by decide +kernel
theorem dX11_lies_23 : decode cX11_lies 23 = .ok (.aaload, 1) := by decide +kernel
theorem dX11_lies_24 : decode cX11_lies 24 = .ok (.getfield 266, 3) := by decide +kernel
theorem dX11_lies_27 : decode cX11_lies 27 = .ok (.ifCond .eq 17, 3) := by decide +kernel
theorem dX11_lies_30 : decode cX11_lies 30 = .ok (.aload_n 0, 1) := by decide +kernel
theorem dX11_lies_31 : decode cX11_lies 31 = .ok (.getfield 10, 3) := by decide +kernel
theorem dX11_lies_34 : decode cX11_lies 34 = .ok (.getfield 257, 3) := by decide +kernel
theorem dX11_lies_37 : decode cX11_lies 37 = .ok (.iload_n 2, 1) := by decide +kernel
theorem dX11_lies_38 : decode cX11_lies 38 = .ok (.invokevirtual 261, 3) := by decide +kernel
theorem dX11_lies_41 : decode cX11_lies 41 = .ok (.goto 14, 3) := by decide +kernel
theorem dX11_lies_44 : decode cX11_lies 44 = .ok (.aload_n 0, 1) := by decide +kernel
theorem dX11_lies_45 : decode cX11_lies 45 = .ok (.getfield 10, 3) := by decide +kernel
theorem dX11_lies_48 : decode cX11_lies 48 = .ok (.getfield 257, 3) := by decide +kernel
theorem dX11_lies_51 : decode cX11_lies 51 = .ok (.iload_n 2, 1) := by decide +kernel
theorem dX11_lies_52 : decode cX11_lies 52 = .ok (.invokevirtual 292, 3) := by decide +kernel
theorem dX11_lies_55 : decode cX11_lies 55 = .ok (.istore_n 3, 1) := by decide +kernel
theorem dX11_lies_56 : decode cX11_lies 56 = .ok (.iload_n 3, 1) := by decide +kernel
theorem dX11_lies_57 : decode cX11_lies 57 = .ok (.ifCond .eq 9, 3) := by decide +kernel
theorem dX11_lies_60 : decode cX11_lies 60 = .ok (.iload_n 1, 1) := by decide +kernel
theorem dX11_lies_61 : decode cX11_lies 61 = .ok (.iconst 1, 1) := by decide +kernel
theorem dX11_lies_62 : decode cX11_lies 62 = .ok (.iload_n 2, 1) := by decide +kernel
theorem dX11_lies_63 : decode cX11_lies 63 = .ok (.ishl, 1) := by decide +kernel
theorem dX11_lies_64 : decode cX11_lies 64 = .ok (.ior, 1) := by decide +kernel
theorem dX11_lies_65 : decode cX11_lies 65 = .ok (.istore_n 1, 1) := by decide +kernel
theorem dX11_lies_66 : decode cX11_lies 66 = .ok (.iinc 2 1, 3) := by decide +kernel
theorem dX11_lies_69 : decode cX11_lies 69 = .ok (.goto (-65), 3) := by decide +kernel
theorem dX11_lies_72 : decode cX11_lies 72 = .ok (.iload_n 1, 1) := by decide +kernel
theorem dX11_lies_73 : decode cX11_lies 73 = .ok (.ireturn, 1) := by decide +kernel
theorem dX11_advice_0 : decode cX11_advice 0 = .ok (.iload_n 1, 1) := by decide +kernel
theorem dX11_advice_1 : decode cX11_advice 1 = .ok (.iconst 1, 1) := by decide +kernel
theorem dX11_advice_2 : decode cX11_advice 2 = .ok (.aload_n 0, 1) := by decide +kernel
theorem dX11_advice_3 : decode cX11_advice 3 = .ok (.getfield 10, 3) := by decide +kernel
theorem dX11_advice_6 : decode cX11_advice 6 = .ok (.getfield 104, 3) := by decide +kernel
theorem dX11_advice_9 : decode cX11_advice 9 = .ok (.invokestatic 58, 3) := by decide +kernel
theorem dX11_advice_12 : decode cX11_advice 12 = .ok (.ifCond .ne 14, 3) := by decide +kernel
theorem dX11_advice_15 : decode cX11_advice 15 = .ok (.iload_n 2, 1) := by decide +kernel
theorem dX11_advice_16 : decode cX11_advice 16 = .ok (.iconst 0, 1) := by decide +kernel
theorem dX11_advice_17 : decode cX11_advice 17 = .ok (.sipush 999, 3) := by decide +kernel
theorem dX11_advice_20 : decode cX11_advice 20 = .ok (.invokestatic 58, 3) := by decide +kernel
theorem dX11_advice_23 : decode cX11_advice 23 = .ok (.ifCond .eq 5, 3) := by decide +kernel
theorem dX11_advice_26 : decode cX11_advice 26 = .ok (.iconst (-1), 1) := by decide +kernel
theorem dX11_advice_27 : decode cX11_advice 27 = .ok (.ireturn, 1) := by decide +kernel
theorem dX11_advice_28 : decode cX11_advice 28 = .ok (.iload_n 3, 1) := by decide +kernel
theorem dX11_advice_29 : decode cX11_advice 29 = .ok (.ifCond .eq 18, 3) := by decide +kernel
theorem dX11_advice_32 : decode cX11_advice 32 = .ok (.iload_n 3, 1) := by decide +kernel
theorem dX11_advice_33 : decode cX11_advice 33 = .ok (.bipush 10, 2) := by decide +kernel
theorem dX11_advice_35 : decode cX11_advice 35 = .ok (.bipush 10, 2) := by decide +kernel
theorem dX11_advice_37 : decode cX11_advice 37 = .ok (.iload_n 1, 1) := by decide +kernel
theorem dX11_advice_38 : decode cX11_advice 38 = .ok (.iadd, 1) := by decide +kernel
theorem dX11_advice_39 : decode cX11_advice 39 = .ok (.iconst 1, 1) := by decide +kernel
theorem dX11_advice_40 : decode cX11_advice 40 = .ok (.isub, 1) := by decide +kernel
theorem dX11_advice_41 : decode cX11_advice 41 = .ok (.invokestatic 58, 3) := by decide +kernel
theorem dX11_advice_44 : decode cX11_advice 44 = .ok (.ifCond .ne 7, 3) := by decide +kernel
theorem dX11_advice_47 : decode cX11_advice 47 = .ok (.iconst 1, 1) := by decide +kernel
theorem dX11_advice_48 : decode cX11_advice 48 = .ok (.goto 4, 3) := by decide +kernel
theorem dX11_advice_51 : decode cX11_advice 51 = .ok (.iconst 0, 1) := by decide +kernel
theorem dX11_advice_52 : decode cX11_advice 52 = .ok (.istore 4, 2) := by decide +kernel
theorem dX11_advice_54 : decode cX11_advice 54 = .ok (.iload_n 3, 1) := by decide +kernel
theorem dX11_advice_55 : decode cX11_advice 55 = .ok (.iconst 1, 1) := by decide +kernel
theorem dX11_advice_56 : decode cX11_advice 56 = .ok (.if_icmp .eq 18, 3) := by decide +kernel
theorem dX11_advice_59 : decode cX11_advice 59 = .ok (.iload_n 3, 1) := by decide +kernel
theorem dX11_advice_60 : decode cX11_advice 60 = .ok (.bipush 30, 2) := by decide +kernel
theorem dX11_advice_62 : decode cX11_advice 62 = .ok (.bipush 30, 2) := by decide +kernel
theorem dX11_advice_64 : decode cX11_advice 64 = .ok (.iload_n 1, 1) := by decide +kernel
theorem dX11_advice_65 : decode cX11_advice 65 = .ok (.iadd, 1) := by decide +kernel
theorem dX11_advice_66 : decode cX11_advice 66 = .ok (.iconst 1, 1) := by decide +kernel
theorem dX11_advice_67 : decode cX11_advice 67 = .ok (.isub, 1) := by decide +kernel
theorem dX11_advice_68 : decode cX11_advice 68 = .ok (.invokestatic 58, 3) := by decide +kernel
theorem dX11_advice_71 : decode cX11_advice 71 = .ok (.ifCond .ne 7, 3) := by decide +kernel
theorem dX11_advice_74 : decode cX11_advice 74 = .ok (.iconst 1, 1) := by decide +kernel
theorem dX11_advice_75 : decode cX11_advice 75 = .ok (.goto 4, 3) := by decide +kernel
theorem dX11_advice_78 : decode cX11_advice 78 = .ok (.iconst 0, 1) := by decide +kernel
theorem dX11_advice_79 : decode cX11_advice 79 = .ok (.istore 5, 2) := by decide +kernel
theorem dX11_advice_81 : decode cX11_advice 81 = .ok (.iload 4, 2) := by decide +kernel
theorem dX11_advice_83 : decode cX11_advice 83 = .ok (.ifCond .ne 10, 3) := by decide +kernel
theorem dX11_advice_86 : decode cX11_advice 86 = .ok (.iload 5, 2) := by decide +kernel
theorem dX11_advice_88 : decode cX11_advice 88 = .ok (.ifCond .ne 5, 3) := by decide +kernel
theorem dX11_advice_91 : decode cX11_advice 91 = .ok (.iconst (-1), 1) := by decide +kernel
theorem dX11_advice_92 : decode cX11_advice 92 = .ok (.ireturn, 1) := by decide +kernel
theorem dX11_advice_93 : decode cX11_advice 93 = .ok (.aload_n 0, 1) := by decide +kernel
theorem dX11_advice_94 : decode cX11_advice 94 = .ok (.getfield 43, 3) := by decide +kernel
theorem dX11_advice_97 : decode cX11_advice 97 = .ok (.aload_n 0, 1) := by decide +kernel
theorem dX11_advice_98 : decode cX11_advice 98 = .ok (.getfield 10, 3) := by decide +kernel
theorem dX11_advice_101 : decode cX11_advice 101 = .ok (.iload_n 1, 1) := by decide +kernel
theorem dX11_advice_102 : decode cX11_advice 102 = .ok (.iload_n 2, 1) := by decide +kernel
theorem dX11_advice_103 : decode cX11_advice 103 = .ok (.iload 5, 2) := by decide +kernel
theorem dX11_advice_105 : decode cX11_advice 105 = .ok (.invokevirtual 295, 3) := by decide +kernel
theorem dX11_advice_108 : decode cX11_advice 108 = .ok (.iload_n 3, 1) := by decide +kernel
theorem dX11_advice_109 : decode cX11_advice 109 = .ok (.iconst 1, 1) := by decide +kernel
theorem dX11_advice_110 : decode cX11_advice 110 = .ok (.if_icmp .gt 11, 3) := by decide +kernel
theorem dX11_advice_113 : decode cX11_advice 113 = .ok (.aload_n 0, 1) := by decide +kernel
theorem dX11_advice_114 : decode cX11_advice 114 = .ok (.getfield 43, 3) := by decide +kernel
theorem dX11_advice_117 : decode cX11_advice 117 = .ok (.invokevirtual 299, 3) := by decide +kernel
theorem dX11_advice_120 : decode cX11_advice 120 = .ok (.ireturn, 1) := by decide +kernel
theorem dX11_advice_121 : decode cX11_advice 121 = .ok (.aload_n 0, 1) := by decide +kernel
theorem dX11_advice_122 : decode cX11_advice 122 = .ok (.getfield 43, 3) := by decide +kernel
theorem dX11_advice_125 : decode cX11_advice 125 = .ok (.getfield 302, 3) := by decide +kernel
theorem dX11_advice_128 : decode cX11_advice 128 = .ok (.iload 5, 2) := by decide +kernel
theorem dX11_advice_130 : decode cX11_advice 130 = .ok (.ifCond .eq 10, 3) := by decide +kernel
theorem dX11_advice_133 : decode cX11_advice 133 = .ok (.iload_n 3, 1) := by decide +kernel
theorem dX11_advice_134 : decode cX11_advice 134 = .ok (.bipush 30, 2) := by decide +kernel
theorem dX11_advice_136 : decode cX11_advice 136 = .ok (.isub, 1) := by decide +kernel
theorem dX11_advice_137 : decode cX11_advice 137 = .ok (.goto 7, 3) := by decide +kernel
theorem dX11_advice_140 : decode cX11_advice 140 = .ok (.iload_n 3, 1) := by decide +kernel
theorem dX11_advice_141 : decode cX11_advice 141 = .ok (.bipush 10, 2) := by decide +kernel
theorem dX11_advice_143 : decode cX11_advice 143 = .ok (.isub, 1) := by decide +kernel
theorem dX11_advice_144 : decode cX11_advice 144 = .ok (.iaload, 1) := by decide +kernel
theorem dX11_advice_145 : decode cX11_advice 145 = .ok (.ireturn, 1) := by decide +kernel
theorem dX11_line_0 : decode cX11_line 0 = .ok (.iload_n 2, 1) := by decide +kernel
theorem dX11_line_1 : decode cX11_line 1 = .ok (.iconst 0, 1) := by decide +kernel
theorem dX11_line_2 : decode cX11_line 2 = .ok (.bipush 11, 2) := by decide +kernel
theorem dX11_line_4 : decode cX11_line 4 = .ok (.invokestatic 58, 3) := by decide +kernel
theorem dX11_line_7 : decode cX11_line 7 = .ok (.ifCond .ne 26, 3) := by decide +kernel
theorem dX11_line_10 : decode cX11_line 10 = .ok (.iload_n 3, 1) := by decide +kernel
theorem dX11_line_11 : decode cX11_line 11 = .ok (.iconst 0, 1) := by decide +kernel
theorem dX11_line_12 : decode cX11_line 12 = .ok (.sipush 2000, 3) := by decide +kernel
theorem dX11_line_15 : decode cX11_line 15 = .ok (.invokestatic 58, 3) := by decide +kernel
theorem dX11_line_18 : decode cX11_line 18 = .ok (.ifCond .ne 15, 3) := by decide +kernel
theorem dX11_line_21 : decode cX11_line 21 = .ok (.iload 4, 2) := by decide +kernel
theorem dX11_line_23 : decode cX11_line 23 = .ok (.iconst 0, 1) := by decide +kernel
theorem dX11_line_24 : decode cX11_line 24 = .ok (.sipush 200, 3) := by decide +kernel
theorem dX11_line_27 : decode cX11_line 27 = .ok (.invokestatic 58, 3) := by decide +kernel
theorem dX11_line_30 : decode cX11_line 30 = .ok (.ifCond .eq 5, 3) := by decide +kernel
theorem dX11_line_33 : decode cX11_line 33 = .ok (.iconst (-1), 1) := by decide +kernel
theorem dX11_line_34 : decode cX11_line 34 = .ok (.ireturn, 1) := by decide +kernel
theorem dX11_line_35 : decode cX11_line 35 = .ok (.iload_n 1, 1) := by decide +kernel
theorem dX11_line_36 : decode cX11_line 36 = .ok (.ifCond .eq 13, 3) := by decide +kernel
theorem dX11_line_39 : decode cX11_line 39 = .ok (.aload_n 0, 1) := by decide +kernel
theorem dX11_line_40 : decode cX11_line 40 = .ok (.getfield 10, 3) := by decide +kernel
theorem dX11_line_43 : decode cX11_line 43 = .ok (.getfield 305, 3) := by decide +kernel
theorem dX11_line_46 : decode cX11_line 46 = .ok (.goto 10, 3) := by decide +kernel
theorem dX11_line_49 : decode cX11_line 49 = .ok (.aload_n 0, 1) := by decide +kernel
theorem dX11_line_50 : decode cX11_line 50 = .ok (.getfield 10, 3) := by decide +kernel
theorem dX11_line_53 : decode cX11_line 53 = .ok (.getfield 309, 3) := by decide +kernel
theorem dX11_line_56 : decode cX11_line 56 = .ok (.astore 5, 2) := by decide +kernel
theorem dX11_line_58 : decode cX11_line 58 = .ok (.aload 5, 2) := by decide +kernel
theorem dX11_line_60 : decode cX11_line 60 = .ok (.getfield 312, 3) := by decide +kernel
theorem dX11_line_63 : decode cX11_line 63 = .ok (.bipush 7, 2) := by decide +kernel
theorem dX11_line_65 : decode cX11_line 65 = .ok (.if_icmp .lt 6, 3) := by decide +kernel
theorem dX11_line_68 : decode cX11_line 68 = .ok (.bipush (-2), 2) := by decide +kernel
theorem dX11_line_70 : decode cX11_line 70 = .ok (.ireturn, 1) := by decide +kernel
theorem dX11_line_71 : decode cX11_line 71 = .ok (.aload 5, 2) := by decide +kernel
theorem dX11_line_73 : decode cX11_line 73 = .ok (.iload_n 2, 1) := by decide +kernel
theorem dX11_line_74 : decode cX11_line 74 = .ok (.iload_n 3, 1) := by decide +kernel
theorem dX11_line_75 : decode cX11_line 75 = .ok (.iload 4, 2) := by decide +kernel
theorem dX11_line_77 : decode cX11_line 77 = .ok (.invokevirtual 315, 3) := by decide +kernel
theorem dX11_line_80 : decode cX11_line 80 = .ok (.aload 5, 2) := by decide +kernel
theorem dX11_line_82 : decode cX11_line 82 = .ok (.getfield 312, 3) := by decide +kernel
theorem dX11_line_85 : decode cX11_line 85 = .ok (.iconst 1, 1) := by decide +kernel
theorem dX11_line_86 : decode cX11_line 86 = .ok (.isub, 1) := by decide +kernel
theorem dX11_line_87 : decode cX11_line 87 = .ok (.ireturn, 1) := by decide +kernel
theorem dX11_joined_0 : decode cX11_joined 0 = .ok (.iload_n 1, 1) := by decide +kernel
theorem dX11_joined_1 : decode cX11_joined 1 = .ok (.iconst 0, 1) := by decide +kernel
theorem dX11_joined_2 : decode cX11_joined 2 = .ok (.iconst 1, 1) := by decide +kernel
theorem dX11_joined_3 : decode cX11_joined 3 = .ok (.invokestatic 58, 3) := by decide +kernel
theorem dX11_joined_6 : decode cX11_joined 6 = .ok (.ifCond .eq 29, 3) := by decide +kernel
theorem dX11_joined_9 : decode cX11_joined 9 = .ok (.iload_n 1, 1) := by decide +kernel
theorem dX11_joined_10 : decode cX11_joined 10 = .ok (.bipush 10, 2) := by decide +kernel
theorem dX11_joined_12 : decode cX11_joined 12 = .ok (.bipush 10, 2) := by decide +kernel
theorem dX11_joined_14 : decode cX11_joined 14 = .ok (.aload_n 0, 1) := by decide +kernel
theorem dX11_joined_15 : decode cX11_joined 15 = .ok (.getfield 10, 3) := by decide +kernel
theorem dX11_joined_18 : decode cX11_joined 18 = .ok (.getfield 309, 3) := by decide +kernel
theorem dX11_joined_21 : decode cX11_joined 21 = .ok (.getfield 312, 3) := by decide +kernel
theorem dX11_joined_24 : decode cX11_joined 24 = .ok (.iadd, 1) := by decide +kernel
theorem dX11_joined_25 : decode cX11_joined 25 = .ok (.iconst 1, 1) := by decide +kernel
theorem dX11_joined_26 : decode cX11_joined 26 = .ok (.isub, 1) := by decide +kernel
theorem dX11_joined_27 : decode cX11_joined 27 = .ok (.invokestatic 58, 3) := by decide +kernel
theorem dX11_joined_30 : decode cX11_joined 30 = .ok (.ifCond .eq 5, 3) := by decide +kernel
theorem dX11_joined_33 : decode cX11_joined 33 = .ok (.iconst (-1), 1) := by decide +kernel
theorem dX11_joined_34 : decode cX11_joined 34 = .ok (.ireturn, 1) := by decide +kernel
theorem dX11_joined_35 : decode cX11_joined 35 = .ok (.aload_n 0, 1) := by decide +kernel
theorem dX11_joined_36 : decode cX11_joined 36 = .ok (.getfield 50, 3) := by decide +kernel
theorem dX11_joined_39 : decode cX11_joined 39 = .ok (.aload_n 0, 1) := by decide +kernel
theorem dX11_joined_40 : decode cX11_joined 40 = .ok (.getfield 10, 3) := by decide +kernel
theorem dX11_joined_43 : decode cX11_joined 43 = .ok (.getfield 309, 3) := by decide +kernel
theorem dX11_joined_46 : decode cX11_joined 46 = .ok (.aload_n 0, 1) := by decide +kernel
theorem dX11_joined_47 : decode cX11_joined 47 = .ok (.getfield 10, 3) := by decide +kernel
theorem dX11_joined_50 : decode cX11_joined 50 = .ok (.getfield 305, 3) := by decide +kernel
theorem dX11_joined_53 : decode cX11_joined 53 = .ok (.aload_n 0, 1) := by decide +kernel
theorem dX11_joined_54 : decode cX11_joined 54 = .ok (.getfield 10, 3) := by decide +kernel
theorem dX11_joined_57 : decode cX11_joined 57 = .ok (.getfield 129, 3) := by decide +kernel
theorem dX11_joined_60 : decode cX11_joined 60 = .ok (.invokevirtual 319, 3) := by decide +kernel
theorem dX11_joined_63 : decode cX11_joined 63 = .ok (.iload_n 1, 1) := by decide +kernel
theorem dX11_joined_64 : decode cX11_joined 64 = .ok (.lookupswitch 44 #[(0, 28), (1, 36)], 28) := by decide +kernel
theorem dX11_joined_92 : decode cX11_joined 92 = .ok (.aload_n 0, 1) := by decide +kernel
theorem dX11_joined_93 : decode cX11_joined 93 = .ok (.getfield 50, 3) := by decide +kernel
theorem dX11_joined_96 : decode cX11_joined 96 = .ok (.getfield 323, 3) := by decide +kernel
theorem dX11_joined_99 : decode cX11_joined 99 = .ok (.ireturn, 1) := by decide +kernel
theorem dX11_joined_100 : decode cX11_joined 100 = .ok (.aload_n 0, 1) := by decide +kernel
theorem dX11_joined_101 : decode cX11_joined 101 = .ok (.getfield 50, 3) := by decide +kernel
theorem dX11_joined_104 : decode cX11_joined 104 = .ok (.getfield 326, 3) := by decide +kernel
theorem dX11_joined_107 : decode cX11_joined 107 = .ok (.ireturn, 1) := by decide +kernel
theorem dX11_joined_108 : decode cX11_joined 108 = .ok (.aload_n 0, 1) := by decide +kernel
theorem dX11_joined_109 : decode cX11_joined 109 = .ok (.getfield 50, 3) := by decide +kernel
theorem dX11_joined_112 : decode cX11_joined 112 = .ok (.getfield 329, 3) := by decide +kernel
theorem dX11_joined_115 : decode cX11_joined 115 = .ok (.iload_n 1, 1) := by decide +kernel
theorem dX11_joined_116 : decode cX11_joined 116 = .ok (.bipush 10, 2) := by decide +kernel
theorem dX11_joined_118 : decode cX11_joined 118 = .ok (.isub, 1) := by decide +kernel
theorem dX11_joined_119 : decode cX11_joined 119 = .ok (.iaload, 1) := by decide +kernel
theorem dX11_joined_120 : decode cX11_joined 120 = .ok (.ireturn, 1) := by decide +kernel
theorem dX11_clear_0 : decode cX11_clear 0 = .ok (.aload_n 0, 1) := by decide +kernel
theorem dX11_clear_1 : decode cX11_clear 1 = .ok (.getfield 10, 3) := by decide +kernel
theorem dX11_clear_4 : decode cX11_clear 4 = .ok (.getfield 309, 3) := by decide +kernel
theorem dX11_clear_7 : decode cX11_clear 7 = .ok (.getfield 312, 3) := by decide +kernel
theorem dX11_clear_10 : decode cX11_clear 10 = .ok (.aload_n 0, 1) := by decide +kernel
theorem dX11_clear_11 : decode cX11_clear 11 = .ok (.getfield 10, 3) := by decide +kernel
theorem dX11_clear_14 : decode cX11_clear 14 = .ok (.getfield 305, 3) := by decide +kernel
theorem dX11_clear_17 : decode cX11_clear 17 = .ok (.getfield 312, 3) := by decide +kernel
theorem dX11_clear_20 : decode cX11_clear 20 = .ok (.iadd, 1) := by decide +kernel
theorem dX11_clear_21 : decode cX11_clear 21 = .ok (.istore_n 1, 1) := by decide +kernel
theorem dX11_clear_22 : decode cX11_clear 22 = .ok (.aload_n 0, 1) := by decide +kernel
theorem dX11_clear_23 : decode cX11_clear 23 = .ok (.getfield 10, 3) := by decide +kernel
theorem dX11_clear_26 : decode cX11_clear 26 = .ok (.getfield 309, 3) := by decide +kernel
theorem dX11_clear_29 : decode cX11_clear 29 = .ok (.iconst 0, 1) := by decide +kernel
theorem dX11_clear_30 : decode cX11_clear 30 = .ok (.putfield 312, 3) := by decide +kernel
theorem dX11_clear_33 : decode cX11_clear 33 = .ok (.aload_n 0, 1) := by decide +kernel
theorem dX11_clear_34 : decode cX11_clear 34 = .ok (.getfield 10, 3) := by decide +kernel
theorem dX11_clear_37 : decode cX11_clear 37 = .ok (.getfield 305, 3) := by decide +kernel
theorem dX11_clear_40 : decode cX11_clear 40 = .ok (.iconst 0, 1) := by decide +kernel
theorem dX11_clear_41 : decode cX11_clear 41 = .ok (.putfield 312, 3) := by decide +kernel
theorem dX11_clear_44 : decode cX11_clear 44 = .ok (.iload_n 1, 1) := by decide +kernel
theorem dX11_clear_45 : decode cX11_clear 45 = .ok (.ireturn, 1) := by decide +kernel
theorem dX11_many_0 : decode cX11_many 0 = .ok (.iload_n 1, 1) := by decide +kernel
theorem dX11_many_1 : decode cX11_many 1 = .ok (.tableswitch 168 0 11 #[63, 71, 79, 87, 95, 103, 111, 122, 133, 144, 152, 160], 63) := by decide +kernel
theorem dX11_many_64 : decode cX11_many 64 = .ok (.aload_n 0, 1) := by decide +kernel
theorem dX11_many_65 : decode cX11_many 65 = .ok (.getfield 10, 3) := by decide +kernel
theorem dX11_many_68 : decode cX11_many 68 = .ok (.getfield 246, 3) := by decide +kernel
theorem dX11_many_71 : decode cX11_many 71 = .ok (.ireturn, 1) := by decide +kernel
theorem dX11_many_72 : decode cX11_many 72 = .ok (.aload_n 0, 1) := by decide +kernel
theorem dX11_many_73 : decode cX11_many 73 = .ok (.getfield 10, 3) := by decide +kernel
theorem dX11_many_76 : decode cX11_many 76 = .ok (.getfield 62, 3) := by decide +kernel
theorem dX11_many_79 : decode cX11_many 79 = .ok (.ireturn, 1) := by decide +kernel
theorem dX11_many_80 : decode cX11_many 80 = .ok (.aload_n 0, 1) := by decide +kernel
theorem dX11_many_81 : decode cX11_many 81 = .ok (.getfield 10, 3) := by decide +kernel
theorem dX11_many_84 : decode cX11_many 84 = .ok (.getfield 82, 3) := by decide +kernel
theorem dX11_many_87 : decode cX11_many 87 = .ok (.ireturn, 1) := by decide +kernel
theorem dX11_many_88 : decode cX11_many 88 = .ok (.aload_n 0, 1) := by decide +kernel
theorem dX11_many_89 : decode cX11_many 89 = .ok (.getfield 10, 3) := by decide +kernel
theorem dX11_many_92 : decode cX11_many 92 = .ok (.getfield 104, 3) := by decide +kernel
theorem dX11_many_95 : decode cX11_many 95 = .ok (.ireturn, 1) := by decide +kernel
theorem dX11_many_96 : decode cX11_many 96 = .ok (.aload_n 0, 1) := by decide +kernel
theorem dX11_many_97 : decode cX11_many 97 = .ok (.getfield 10, 3) := by decide +kernel
theorem dX11_many_100 : decode cX11_many 100 = .ok (.invokevirtual 332, 3) := by decide +kernel
theorem dX11_many_103 : decode cX11_many 103 = .ok (.ireturn, 1) := by decide +kernel
theorem dX11_many_104 : decode cX11_many 104 = .ok (.aload_n 0, 1) := by decide +kernel
theorem dX11_many_105 : decode cX11_many 105 = .ok (.getfield 10, 3) := by decide +kernel
theorem dX11_many_108 : decode cX11_many 108 = .ok (.invokevirtual 335, 3) := by decide +kernel
theorem dX11_many_111 : decode cX11_many 111 = .ok (.ireturn, 1) := by decide +kernel
theorem dX11_many_112 : decode cX11_many 112 = .ok (.aload_n 0, 1) := by decide +kernel
theorem dX11_many_113 : decode cX11_many 113 = .ok (.getfield 10, 3) := by decide +kernel
theorem dX11_many_116 : decode cX11_many 116 = .ok (.getfield 257, 3) := by decide +kernel
theorem dX11_many_119 : decode cX11_many 119 = .ok (.getfield 276, 3) := by decide +kernel
theorem dX11_many_122 : decode cX11_many 122 = .ok (.ireturn, 1) := by decide +kernel
theorem dX11_many_123 : decode cX11_many 123 = .ok (.aload_n 0, 1) := by decide +kernel
theorem dX11_many_124 : decode cX11_many 124 = .ok (.getfield 10, 3) := by decide +kernel
theorem dX11_many_127 : decode cX11_many 127 = .ok (.getfield 309, 3) := by decide +kernel
theorem dX11_many_130 : decode cX11_many 130 = .ok (.getfield 312, 3) := by decide +kernel
theorem dX11_many_133 : decode cX11_many 133 = .ok (.ireturn, 1) := by decide +kernel
theorem dX11_many_134 : decode cX11_many 134 = .ok (.aload_n 0, 1) := by decide +kernel
theorem dX11_many_135 : decode cX11_many 135 = .ok (.getfield 10, 3) := by decide +kernel
theorem dX11_many_138 : decode cX11_many 138 = .ok (.getfield 305, 3) := by decide +kernel
theorem dX11_many_141 : decode cX11_many 141 = .ok (.getfield 312, 3) := by decide +kernel
theorem dX11_many_144 : decode cX11_many 144 = .ok (.ireturn, 1) := by decide +kernel
theorem dX11_many_145 : decode cX11_many 145 = .ok (.aload_n 0, 1) := by decide +kernel
theorem dX11_many_146 : decode cX11_many 146 = .ok (.getfield 22, 3) := by decide +kernel
theorem dX11_many_149 : decode cX11_many 149 = .ok (.getfield 194, 3) := by decide +kernel
theorem dX11_many_152 : decode cX11_many 152 = .ok (.ireturn, 1) := by decide +kernel
theorem dX11_many_153 : decode cX11_many 153 = .ok (.aload_n 0, 1) := by decide +kernel
theorem dX11_many_154 : decode cX11_many 154 = .ok (.getfield 10, 3) := by decide +kernel
theorem dX11_many_157 : decode cX11_many 157 = .ok (.getfield 249, 3) := by decide +kernel
theorem dX11_many_160 : decode cX11_many 160 = .ok (.ireturn, 1) := by decide +kernel
theorem dX11_many_161 : decode cX11_many 161 = .ok (.aload_n 0, 1) := by decide +kernel
theorem dX11_many_162 : decode cX11_many 162 = .ok (.getfield 10, 3) := by decide +kernel
theorem dX11_many_165 : decode cX11_many 165 = .ok (.invokevirtual 338, 3) := by decide +kernel
theorem dX11_many_168 : decode cX11_many 168 = .ok (.ireturn, 1) := by decide +kernel
theorem dX11_many_169 : decode cX11_many 169 = .ok (.iconst (-1), 1) := by decide +kernel
theorem dX11_many_170 : decode cX11_many 170 = .ok (.ireturn, 1) := by decide +kernel
theorem dX11_keep_0 : decode cX11_keep 0 = .ok (.aload_n 0, 1) := by decide +kernel
theorem dX11_keep_1 : decode cX11_keep 1 = .ok (.getfield 16, 3) := by decide +kernel
theorem dX11_keep_4 : decode cX11_keep 4 = .ok (.aload_n 0, 1) := by decide +kernel
theorem dX11_keep_5 : decode cX11_keep 5 = .ok (.getfield 10, 3) := by decide +kernel
theorem dX11_keep_8 : decode cX11_keep 8 = .ok (.invokevirtual 341, 3) := by decide +kernel
theorem dX11_keep_11 : decode cX11_keep 11 = .ok (.aload_n 0, 1) := by decide +kernel
theorem dX11_keep_12 : decode cX11_keep 12 = .ok (.iconst 1, 1) := by decide +kernel
theorem dX11_keep_13 : decode cX11_keep 13 = .ok (.putfield 54, 3) := by decide +kernel
theorem dX11_keep_16 : decode cX11_keep 16 = .ok (.iconst 1, 1) := by decide +kernel
theorem dX11_keep_17 : decode cX11_keep 17 = .ok (.ireturn, 1) := by decide +kernel
theorem dX11_back_0 : decode cX11_back 0 = .ok (.aload_n 0, 1) := by decide +kernel
theorem dX11_back_1 : decode cX11_back 1 = .ok (.getfield 54, 3) := by decide +kernel
theorem dX11_back_4 : decode cX11_back 4 = .ok (.ifCond .ne 6, 3) := by decide +kernel
theorem dX11_back_7 : decode cX11_back 7 = .ok (.bipush (-3), 2) := by decide +kernel
theorem dX11_back_9 : decode cX11_back 9 = .ok (.ireturn, 1) := by decide +kernel
theorem dX11_back_10 : decode cX11_back 10 = .ok (.aload_n 0, 1) := by decide +kernel
theorem dX11_back_11 : decode cX11_back 11 = .ok (.getfield 10, 3) := by decide +kernel
theorem dX11_back_14 : decode cX11_back 14 = .ok (.aload_n 0, 1) := by decide +kernel
theorem dX11_back_15 : decode cX11_back 15 = .ok (.getfield 16, 3) := by decide +kernel
theorem dX11_back_18 : decode cX11_back 18 = .ok (.invokevirtual 341, 3) := by decide +kernel
theorem dX11_back_21 : decode cX11_back 21 = .ok (.iconst 1, 1) := by decide +kernel
theorem dX11_back_22 : decode cX11_back 22 = .ok (.ireturn, 1) := by decide +kernel
theorem dX11_isOutside_0 : decode cX11_isOutside 0 = .ok (.iload_n 0, 1) := by decide +kernel
theorem dX11_isOutside_1 : decode cX11_isOutside 1 = .ok (.iload_n 1, 1) := by decide +kernel
theorem dX11_isOutside_2 : decode cX11_isOutside 2 = .ok (.if_icmp .lt 8, 3) := by decide +kernel
theorem dX11_isOutside_5 : decode cX11_isOutside 5 = .ok (.iload_n 0, 1) := by decide +kernel
theorem dX11_isOutside_6 : decode cX11_isOutside 6 = .ok (.iload_n 2, 1) := by decide +kernel
theorem dX11_isOutside_7 : decode cX11_isOutside 7 = .ok (.if_icmp .le 7, 3) := by decide +kernel
theorem dX11_isOutside_10 : decode cX11_isOutside 10 = .ok (.iconst 1, 1) := by decide +kernel
theorem dX11_isOutside_11 : decode cX11_isOutside 11 = .ok (.goto 4, 3) := by decide +kernel
theorem dX11_isOutside_14 : decode cX11_isOutside 14 = .ok (.iconst 0, 1) := by decide +kernel
theorem dX11_isOutside_15 : decode cX11_isOutside 15 = .ok (.ireturn, 1) := by decide +kernel
theorem dX11_cutUp_0 : decode cX11_cutUp 0 = .ok (.iload_n 1, 1) := by decide +kernel
theorem dX11_cutUp_1 : decode cX11_cutUp 1 = .ok (.ifCond .le 13, 3) := by decide +kernel
theorem dX11_cutUp_4 : decode cX11_cutUp 4 = .ok (.iload_n 0, 1) := by decide +kernel
theorem dX11_cutUp_5 : decode cX11_cutUp 5 = .ok (.iload_n 1, 1) := by decide +kernel
theorem dX11_cutUp_6 : decode cX11_cutUp 6 = .ok (.iadd, 1) := by decide +kernel
theorem dX11_cutUp_7 : decode cX11_cutUp 7 = .ok (.iconst 1, 1) := by decide +kernel
theorem dX11_cutUp_8 : decode cX11_cutUp 8 = .ok (.isub, 1) := by decide +kernel
theorem dX11_cutUp_9 : decode cX11_cutUp 9 = .ok (.iload_n 1, 1) := by decide +kernel
theorem dX11_cutUp_10 : decode cX11_cutUp 10 = .ok (.idiv, 1) := by decide +kernel
theorem dX11_cutUp_11 : decode cX11_cutUp 11 = .ok (.goto 4, 3) := by decide +kernel
theorem dX11_cutUp_14 : decode cX11_cutUp 14 = .ok (.iconst 0, 1) := by decide +kernel
theorem dX11_cutUp_15 : decode cX11_cutUp 15 = .ok (.ireturn, 1) := by decide +kernel
theorem dX12_init_0 : decode cX12_init 0 = .ok (.aload_n 0, 1) := by decide +kernel
theorem dX12_init_1 : decode cX12_init 1 = .ok (.invokespecial 1, 3) := by decide +kernel
theorem dX12_init_4 : decode cX12_init 4 = .ok (.aload_n 0, 1) := by decide +kernel
theorem dX12_init_5 : decode cX12_init 5 = .ok (.bipush 10, 2) := by decide +kernel
theorem dX12_init_7 : decode cX12_init 7 = .ok (.newarray .int, 2) := by decide +kernel
theorem dX12_init_9 : decode cX12_init 9 = .ok (.putfield 7, 3) := by decide +kernel
theorem dX12_init_12 : decode cX12_init 12 = .ok (.aload_n 0, 1) := by decide +kernel
theorem dX12_init_13 : decode cX12_init 13 = .ok (.bipush 63, 2) := by decide +kernel
theorem dX12_init_15 : decode cX12_init 15 = .ok (.newarray .int, 2) := by decide +kernel
theorem dX12_init_17 : decode cX12_init 17 = .ok (.putfield 13, 3) := by decide +kernel
theorem dX12_init_20 : decode cX12_init 20 = .ok (.aload_n 0, 1) := by decide +kernel
theorem dX12_init_21 : decode cX12_init 21 = .ok (.bipush 72, 2) := by decide +kernel
theorem dX12_init_23 : decode cX12_init 23 = .ok (.newarray .int, 2) := by decide +kernel
theorem dX12_init_25 : decode cX12_init 25 = .ok (.putfield 16, 3) := by decide +kernel
theorem dX12_init_28 : decode cX12_init 28 = .ok (.aload_n 0, 1) := by decide +kernel
theorem dX12_init_29 : decode cX12_init 29 = .ok (.bipush 96, 2) := by decide +kernel
theorem dX12_init_31 : decode cX12_init 31 = .ok (.newarray .int, 2) := by decide +kernel
theorem dX12_init_33 : decode cX12_init 33 = .ok (.putfield 19, 3) := by decide +kernel
theorem dX12_init_36 : decode cX12_init 36 = .ok (.aload_n 0, 1) := by decide +kernel
theorem dX12_init_37 : decode cX12_init 37 = .ok (.sipush 192, 3) := by decide +kernel
theorem dX12_init_40 : decode cX12_init 40 = .ok (.newarray .int, 2) := by decide +kernel
theorem dX12_init_42 : decode cX12_init 42 = .ok (.putfield 22, 3) := by decide +kernel
theorem dX12_init_45 : decode cX12_init 45 = .ok (.aload_n 0, 1) := by decide +kernel
theorem dX12_init_46 : decode cX12_init 46 = .ok (.bipush 24, 2) := by decide +kernel
theorem dX12_init_48 : decode cX12_init 48 = .ok (.newarray .int, 2) := by decide +kernel
theorem dX12_init_50 : decode cX12_init 50 = .ok (.dup, 1) := by decide +kernel
theorem dX12_init_51 : decode cX12_init 51 = .ok (.iconst 0, 1) := by decide +kernel
theorem dX12_init_52 : decode cX12_init 52 = .ok (.bipush 10, 2) := by decide +kernel
theorem dX12_init_54 : decode cX12_init 54 = .ok (.iastore, 1) := by decide +kernel
theorem dX12_init_55 : decode cX12_init 55 = .ok (.dup, 1) := by decide +kernel
theorem dX12_init_56 : decode cX12_init 56 = .ok (.iconst 1, 1) := by decide +kernel
theorem dX12_init_57 : decode cX12_init 57 = .ok (.bipush 10, 2) := by decide +kernel
theorem dX12_init_59 : decode cX12_init 59 = .ok (.iastore, 1) := by decide +kernel
theorem dX12_init_60 : decode cX12_init 60 = .ok (.dup, 1) := by decide +kernel
theorem dX12_init_61 : decode cX12_init 61 = .ok (.iconst 2, 1) := by decide +kernel
theorem dX12_init_62 : decode cX12_init 62 = .ok (.bipush 10, 2) := by decide +kernel
theorem dX12_init_64 : decode cX12_init 64 = .ok (.iastore, 1) := by decide +kernel
theorem dX12_init_65 : decode cX12_init 65 = .ok (.dup, 1) := by decide +kernel
theorem dX12_init_66 : decode cX12_init 66 = .ok (.iconst 3, 1) := by decide +kernel
theorem dX12_init_67 : decode cX12_init 67 = .ok (.bipush 10, 2) := by decide +kernel
theorem dX12_init_69 : decode cX12_init 69 = .ok (.iastore, 1) := by decide +kernel
theorem dX12_init_70 : decode cX12_init 70 = .ok (.dup, 1) := by decide +kernel
theorem dX12_init_71 : decode cX12_init 71 = .ok (.iconst 4, 1) := by decide +kernel
theorem dX12_init_72 : decode cX12_init 72 = .ok (.bipush 10, 2) := by decide +kernel
theorem dX12_init_74 : decode cX12_init 74 = .ok (.iastore, 1) := by decide +kernel
theorem dX12_init_75 : decode cX12_init 75 = .ok (.dup, 1) := by decide +kernel
theorem dX12_init_76 : decode cX12_init 76 = .ok (.iconst 5, 1) := by decide +kernel
theorem dX12_init_77 : decode cX12_init 77 = .ok (.bipush 10, 2) := by decide +kernel
theorem dX12_init_79 : decode cX12_init 79 = .ok (.iastore, 1) := by decide +kernel
theorem dX12_init_80 : decode cX12_init 80 = .ok (.dup, 1) := by decide +kernel
theorem dX12_init_81 : decode cX12_init 81 = .ok (.bipush 6, 2) := by decide +kernel
theorem dX12_init_83 : decode cX12_init 83 = .ok (.bipush 10, 2) := by decide +kernel
theorem dX12_init_85 : decode cX12_init 85 = .ok (.iastore, 1) := by decide +kernel
theorem dX12_init_86 : decode cX12_init 86 = .ok (.dup, 1) := by decide +kernel
theorem dX12_init_87 : decode cX12_init 87 = .ok (.bipush 7, 2) := by decide +kernel
theorem dX12_init_89 : decode cX12_init 89 = .ok (.bipush 10, 2) := by decide +kernel
theorem dX12_init_91 : decode cX12_init 91 = .ok (.iastore, 1) := by decide +kernel
theorem dX12_init_92 : decode cX12_init 92 = .ok (.dup, 1) := by decide +kernel
theorem dX12_init_93 : decode cX12_init 93 = .ok (.bipush 8, 2) := by decide +kernel
theorem dX12_init_95 : decode cX12_init 95 = .ok (.bipush 10, 2) := by decide +kernel
theorem dX12_init_97 : decode cX12_init 97 = .ok (.iastore, 1) := by decide +kernel
theorem dX12_init_98 : decode cX12_init 98 = .ok (.dup, 1) := by decide +kernel
theorem dX12_init_99 : decode cX12_init 99 = .ok (.bipush 9, 2) := by decide +kernel
theorem dX12_init_101 : decode cX12_init 101 = .ok (.bipush 10, 2) := by decide +kernel
theorem dX12_init_103 : decode cX12_init 103 = .ok (.iastore, 1) := by decide +kernel
theorem dX12_init_104 : decode cX12_init 104 = .ok (.dup, 1) := by decide +kernel
theorem dX12_init_105 : decode cX12_init 105 = .ok (.bipush 10, 2) := by decide +kernel
theorem dX12_init_107 : decode cX12_init 107 = .ok (.bipush 10, 2) := by decide +kernel
theorem dX12_init_109 : decode cX12_init 109 = .ok (.iastore, 1) := by decide +kernel
theorem dX12_init_110 : decode cX12_init 110 = .ok (.dup, 1) := by decide +kernel
theorem dX12_init_111 : decode cX12_init 111 = .ok (.bipush 11, 2) := by decide +kernel
theorem dX12_init_113 : decode cX12_init 113 = .ok (.bipush 10, 2) := by decide +kernel
theorem dX12_init_115 : decode cX12_init 115 = .ok (.iastore, 1) := by decide +kernel
theorem dX12_init_116 : decode cX12_init 116 = .ok (.dup, 1) := by decide +kernel
theorem dX12_init_117 : decode cX12_init 117 = .ok (.bipush 12, 2) := by decide +kernel
theorem dX12_init_119 : decode cX12_init 119 = .ok (.bipush 10, 2) := by decide +kernel
theorem dX12_init_121 : decode cX12_init 121 = .ok (.iastore, 1) := by decide +kernel
theorem dX12_init_122 : decode cX12_init 122 = .ok (.dup, 1) := by decide +kernel
theorem dX12_init_123 : decode cX12_init 123 = .ok (.bipush 13, 2) := by decide +kernel
theorem dX12_init_125 : decode cX12_init 125 = .ok (.bipush 10, 2) := by decide +kernel
theorem dX12_init_127 : decode cX12_init 127 = .ok (.iastore, 1) := by decide +kernel
theorem dX12_init_128 : decode cX12_init 128 = .ok (.dup, 1) := by decide +kernel
theorem dX12_init_129 : decode cX12_init 129 = .ok (.bipush 14, 2) := by decide +kernel
theorem dX12_init_131 : decode cX12_init 131 = .ok (.bipush 10, 2) := by decide +kernel
theorem dX12_init_133 : decode cX12_init 133 = .ok (.iastore, 1) := by decide +kernel
theorem dX12_init_134 : decode cX12_init 134 = .ok (.dup, 1) := by decide +kernel
theorem dX12_init_135 : decode cX12_init 135 = .ok (.bipush 15, 2) := by decide +kernel
theorem dX12_init_137 : decode cX12_init 137 = .ok (.bipush 10, 2) := by decide +kernel
theorem dX12_init_139 : decode cX12_init 139 = .ok (.iastore, 1) := by decide +kernel
theorem dX12_init_140 : decode cX12_init 140 = .ok (.dup, 1) := by decide +kernel
theorem dX12_init_141 : decode cX12_init 141 = .ok (.bipush 16, 2) := by decide +kernel
theorem dX12_init_143 : decode cX12_init 143 = .ok (.bipush 10, 2) := by decide +kernel
theorem dX12_init_145 : decode cX12_init 145 = .ok (.iastore, 1) := by decide +kernel
theorem dX12_init_146 : decode cX12_init 146 = .ok (.dup, 1) := by decide +kernel
theorem dX12_init_147 : decode cX12_init 147 = .ok (.bipush 17, 2) := by decide +kernel
theorem dX12_init_149 : decode cX12_init 149 = .ok (.bipush 10, 2) := by decide +kernel
theorem dX12_init_151 : decode cX12_init 151 = .ok (.iastore, 1) := by decide +kernel
theorem dX12_init_152 : decode cX12_init 152 = .ok (.dup, 1) := by decide +kernel
theorem dX12_init_153 : decode cX12_init 153 = .ok (.bipush 18, 2) := by decide +kernel
theorem dX12_init_155 : decode cX12_init 155 = .ok (.bipush 10, 2) := by decide +kernel
theorem dX12_init_157 : decode cX12_init 157 = .ok (.iastore, 1) := by decide +kernel
theorem dX12_init_158 : decode cX12_init 158 = .ok (.dup, 1) := by decide +kernel
theorem dX12_init_159 : decode cX12_init 159 = .ok (.bipush 19, 2) := by decide +kernel
theorem dX12_init_161 : decode cX12_init 161 = .ok (.bipush 10, 2) := by decide +kernel
theorem dX12_init_163 : decode cX12_init 163 = .ok (.iastore, 1) := by decide +kernel
theorem dX12_init_164 : decode cX12_init 164 = .ok (.dup, 1) := by decide +kernel
theorem dX12_init_165 : decode cX12_init 165 = .ok (.bipush 20, 2) := by decide +kernel
theorem dX12_init_167 : decode cX12_init 167 = .ok (.bipush 10, 2) := by decide +kernel
theorem dX12_init_169 : decode cX12_init 169 = .ok (.iastore, 1) := by decide +kernel
theorem dX12_init_170 : decode cX12_init 170 = .ok (.dup, 1) := by decide +kernel
theorem dX12_init_171 : decode cX12_init 171 = .ok (.bipush 21, 2) := by decide +kernel
theorem dX12_init_173 : decode cX12_init 173 = .ok (.bipush 10, 2) := by decide +kernel
theorem dX12_init_175 : decode cX12_init 175 = .ok (.iastore, 1) := by decide +kernel
theorem dX12_init_176 : decode cX12_init 176 = .ok (.dup, 1) := by decide +kernel
theorem dX12_init_177 : decode cX12_init 177 = .ok (.bipush 22, 2) := by decide +kernel
theorem dX12_init_179 : decode cX12_init 179 = .ok (.bipush 10, 2) := by decide +kernel
theorem dX12_init_181 : decode cX12_init 181 = .ok (.iastore, 1) := by decide +kernel
theorem dX12_init_182 : decode cX12_init 182 = .ok (.dup, 1) := by decide +kernel
theorem dX12_init_183 : decode cX12_init 183 = .ok (.bipush 23, 2) := by decide +kernel
theorem dX12_init_185 : decode cX12_init 185 = .ok (.bipush 10, 2) := by decide +kernel
theorem dX12_init_187 : decode cX12_init 187 = .ok (.iastore, 1) := by decide +kernel
theorem dX12_init_188 : decode cX12_init 188 = .ok (.putfield 25, 3) := by decide +kernel
theorem dX12_init_191 : decode cX12_init 191 = .ok (.aload_n 0, 1) := by decide +kernel
theorem dX12_init_192 : decode cX12_init 192 = .ok (.sipush 240, 3) := by decide +kernel
theorem dX12_init_195 : decode cX12_init 195 = .ok (.newarray .int, 2) := by decide +kernel
theorem dX12_init_197 : decode cX12_init 197 = .ok (.putfield 28, 3) := by decide +kernel
theorem dX12_init_200 : decode cX12_init 200 = .ok (.aload_n 0, 1) := by decide +kernel
theorem dX12_init_201 : decode cX12_init 201 = .ok (.bipush 42, 2) := by decide +kernel
theorem dX12_init_203 : decode cX12_init 203 = .ok (.newarray .int, 2) := by decide +kernel
theorem dX12_init_205 : decode cX12_init 205 = .ok (.putfield 31, 3) := by decide +kernel
theorem dX12_init_208 : decode cX12_init 208 = .ok (.aload_n 0, 1) := by decide +kernel
theorem dX12_init_209 : decode cX12_init 209 = .ok (.sipush 1407, 3) := by decide +kernel
theorem dX12_init_212 : decode cX12_init 212 = .ok (.newarray .int, 2) := by decide +kernel
theorem dX12_init_214 : decode cX12_init 214 = .ok (.putfield 34, 3) := by decide +kernel
theorem dX12_init_217 : decode cX12_init 217 = .ok (.aload_n 0, 1) := by decide +kernel
theorem dX12_init_218 : decode cX12_init 218 = .ok (.sipush 1407, 3) := by decide +kernel
theorem dX12_init_221 : decode cX12_init 221 = .ok (.newarray .int, 2) := by decide +kernel
theorem dX12_init_223 : decode cX12_init 223 = .ok (.putfield 37, 3) := by decide +kernel
theorem dX12_init_226 : decode cX12_init 226 = .ok (.aload_n 0, 1) := by decide +kernel
theorem dX12_init_227 : decode cX12_init 227 = .ok (.sipush 1407, 3) := by decide +kernel
theorem dX12_init_230 : decode cX12_init 230 = .ok (.newarray .int, 2) := by decide +kernel
theorem dX12_init_232 : decode cX12_init 232 = .ok (.putfield 40, 3) := by decide +kernel
theorem dX12_init_235 : decode cX12_init 235 = .ok (.aload_n 0, 1) := by decide +kernel
theorem dX12_init_236 : decode cX12_init 236 = .ok (.bipush 8, 2) := by decide +kernel
theorem dX12_init_238 : decode cX12_init 238 = .ok (.newarray .int, 2) := by decide +kernel
theorem dX12_init_240 : decode cX12_init 240 = .ok (.putfield 43, 3) := by decide +kernel
theorem dX12_init_243 : decode cX12_init 243 = .ok (.aload_n 0, 1) := by decide +kernel
theorem dX12_init_244 : decode cX12_init 244 = .ok (.bipush 8, 2) := by decide +kernel
theorem dX12_init_246 : decode cX12_init 246 = .ok (.newarray .int, 2) := by decide +kernel
theorem dX12_init_248 : decode cX12_init 248 = .ok (.putfield 46, 3) := by decide +kernel
theorem dX12_init_251 : decode cX12_init 251 = .ok (.aload_n 0, 1) := by decide +kernel
theorem dX12_init_252 : decode cX12_init 252 = .ok (.bipush 8, 2) := by decide +kernel
theorem dX12_init_254 : decode cX12_init 254 = .ok (.newarray .int, 2) := by decide +kernel
theorem dX12_init_256 : decode cX12_init 256 = .ok (.putfield 49, 3) := by decide +kernel
theorem dX12_init_259 : decode cX12_init 259 = .ok (.aload_n 0, 1) := by decide +kernel
theorem dX12_init_260 : decode cX12_init 260 = .ok (.bipush 100, 2) := by decide +kernel
theorem dX12_init_262 : decode cX12_init 262 = .ok (.newarray .int, 2) := by decide +kernel
theorem dX12_init_264 : decode cX12_init 264 = .ok (.putfield 52, 3) := by decide +kernel
theorem dX12_init_267 : decode cX12_init 267 = .ok (.aload_n 0, 1) := by decide +kernel
theorem dX12_init_268 : decode cX12_init 268 = .ok (.bipush 16, 2) := by decide +kernel
theorem dX12_init_270 : decode cX12_init 270 = .ok (.newarray .int, 2) := by decide +kernel
theorem dX12_init_272 : decode cX12_init 272 = .ok (.putfield 55, 3) := by decide +kernel
theorem dX12_init_275 : decode cX12_init 275 = .ok (.aload_n 0, 1) := by decide +kernel
theorem dX12_init_276 : decode cX12_init 276 = .ok (.bipush 16, 2) := by decide +kernel
theorem dX12_init_278 : decode cX12_init 278 = .ok (.newarray .int, 2) := by decide +kernel
theorem dX12_init_280 : decode cX12_init 280 = .ok (.putfield 58, 3) := by decide +kernel
theorem dX12_init_283 : decode cX12_init 283 = .ok (.aload_n 0, 1) := by decide +kernel
theorem dX12_init_284 : decode cX12_init 284 = .ok (.bipush 6, 2) := by decide +kernel
theorem dX12_init_286 : decode cX12_init 286 = .ok (.newarray .int, 2) := by decide +kernel
theorem dX12_init_288 : decode cX12_init 288 = .ok (.putfield 61, 3) := by decide +kernel
theorem dX12_init_291 : decode cX12_init 291 = .ok (.aload_n 0, 1) := by decide +kernel
theorem dX12_init_292 : decode cX12_init 292 = .ok (.bipush 6, 2) := by decide +kernel
theorem dX12_init_294 : decode cX12_init 294 = .ok (.newarray .int, 2) := by decide +kernel
theorem dX12_init_296 : decode cX12_init 296 = .ok (.putfield 64, 3) := by decide +kernel
theorem dX12_init_299 : decode cX12_init 299 = .ok (.aload_n 0, 1) := by decide +kernel
theorem dX12_init_300 : decode cX12_init 300 = .ok (.bipush 12, 2) := by decide +kernel
theorem dX12_init_302 : decode cX12_init 302 = .ok (.newarray .int, 2) := by decide +kernel
theorem dX12_init_304 : decode cX12_init 304 = .ok (.putfield 67, 3) := by decide +kernel
theorem dX12_init_307 : decode cX12_init 307 = .ok (.aload_n 0, 1) := by decide +kernel
theorem dX12_init_308 : decode cX12_init 308 = .ok (.sipush 1024, 3) := by decide +kernel
theorem dX12_init_311 : decode cX12_init 311 = .ok (.newarray .int, 2) := by decide +kernel
theorem dX12_init_313 : decode cX12_init 313 = .ok (.putfield 70, 3) := by decide +kernel
theorem dX12_init_316 : decode cX12_init 316 = .ok (.aload_n 0, 1) := by decide +kernel
theorem dX12_init_317 : decode cX12_init 317 = .ok (.sipush 745, 3) := by decide +kernel
theorem dX12_init_320 : decode cX12_init 320 = .ok (.newarray .int, 2) := by decide +kernel
theorem dX12_init_322 : decode cX12_init 322 = .ok (.putfield 73, 3) := by decide +kernel
theorem dX12_init_325 : decode cX12_init 325 = .ok (.return_, 1) := by decide +kernel
theorem dX12_in_0 : decode cX12_in 0 = .ok (.iload_n 0, 1) := by decide +kernel
theorem dX12_in_1 : decode cX12_in 1 = .ok (.iload_n 1, 1) := by decide +kernel
theorem dX12_in_2 : decode cX12_in 2 = .ok (.if_icmp .lt 12, 3) := by decide +kernel
theorem dX12_in_5 : decode cX12_in 5 = .ok (.iload_n 0, 1) := by decide +kernel
theorem dX12_in_6 : decode cX12_in 6 = .ok (.iload_n 2, 1) := by decide +kernel
theorem dX12_in_7 : decode cX12_in 7 = .ok (.if_icmp .gt 7, 3) := by decide +kernel
theorem dX12_in_10 : decode cX12_in 10 = .ok (.iconst 1, 1) := by decide +kernel
theorem dX12_in_11 : decode cX12_in 11 = .ok (.goto 4, 3) := by decide +kernel
theorem dX12_in_14 : decode cX12_in 14 = .ok (.iconst 0, 1) := by decide +kernel
theorem dX12_in_15 : decode cX12_in 15 = .ok (.ireturn, 1) := by decide +kernel
theorem dX12_isSite_0 : decode cX12_isSite 0 = .ok (.iload_n 1, 1) := by decide +kernel
theorem dX12_isSite_1 : decode cX12_isSite 1 = .ok (.iconst 0, 1) := by decide +kernel
theorem dX12_isSite_2 : decode cX12_isSite 2 = .ok (.aload_n 0, 1) := by decide +kernel
theorem dX12_isSite_3 : decode cX12_isSite 3 = .ok (.getfield 7, 3) := by decide +kernel
theorem dX12_isSite_6 : decode cX12_isSite 6 = .ok (.iconst 1, 1) := by decide +kernel
theorem dX12_isSite_7 : decode cX12_isSite 7 = .ok (.iaload, 1) := by decide +kernel
theorem dX12_isSite_8 : decode cX12_isSite 8 = .ok (.iconst 1, 1) := by decide +kernel
theorem dX12_isSite_9 : decode cX12_isSite 9 = .ok (.isub, 1) := by decide +kernel
theorem dX12_isSite_10 : decode cX12_isSite 10 = .ok (.invokestatic 76, 3) := by decide +kernel
theorem dX12_isSite_13 : decode cX12_isSite 13 = .ok (.ireturn, 1) := by decide +kernel
theorem dX12_isPlug_0 : decode cX12_isPlug 0 = .ok (.iload_n 1, 1) := by decide +kernel
theorem dX12_isPlug_1 : decode cX12_isPlug 1 = .ok (.iconst 0, 1) := by decide +kernel
theorem dX12_isPlug_2 : decode cX12_isPlug 2 = .ok (.aload_n 0, 1) := by decide +kernel
theorem dX12_isPlug_3 : decode cX12_isPlug 3 = .ok (.getfield 7, 3) := by decide +kernel
theorem dX12_isPlug_6 : decode cX12_isPlug 6 = .ok (.iconst 2, 1) := by decide +kernel
theorem dX12_isPlug_7 : decode cX12_isPlug 7 = .ok (.iaload, 1) := by decide +kernel
theorem dX12_isPlug_8 : decode cX12_isPlug 8 = .ok (.iconst 1, 1) := by decide +kernel
theorem dX12_isPlug_9 : decode cX12_isPlug 9 = .ok (.isub, 1) := by decide +kernel
theorem dX12_isPlug_10 : decode cX12_isPlug 10 = .ok (.invokestatic 76, 3) := by decide +kernel
theorem dX12_isPlug_13 : decode cX12_isPlug 13 = .ok (.ireturn, 1) := by decide +kernel
theorem dX12_isCar_0 : decode cX12_isCar 0 = .ok (.iload_n 1, 1) := by decide +kernel
theorem dX12_isCar_1 : decode cX12_isCar 1 = .ok (.iconst 0, 1) := by decide +kernel
theorem dX12_isCar_2 : decode cX12_isCar 2 = .ok (.aload_n 0, 1) := by decide +kernel
theorem dX12_isCar_3 : decode cX12_isCar 3 = .ok (.getfield 7, 3) := by decide +kernel
theorem dX12_isCar_6 : decode cX12_isCar 6 = .ok (.iconst 3, 1) := by decide +kernel
theorem dX12_isCar_7 : decode cX12_isCar 7 = .ok (.iaload, 1) := by decide +kernel
theorem dX12_isCar_8 : decode cX12_isCar 8 = .ok (.iconst 1, 1) := by decide +kernel
theorem dX12_isCar_9 : decode cX12_isCar 9 = .ok (.isub, 1) := by decide +kernel
theorem dX12_isCar_10 : decode cX12_isCar 10 = .ok (.invokestatic 76, 3) := by decide +kernel
theorem dX12_isCar_13 : decode cX12_isCar 13 = .ok (.ireturn, 1) := by decide +kernel
theorem dX12_site_0 : decode cX12_site 0 = .ok (.iload_n 1, 1) := by decide +kernel
theorem dX12_site_1 : decode cX12_site 1 = .ok (.iconst 0, 1) := by decide +kernel
theorem dX12_site_2 : decode cX12_site 2 = .ok (.sipush 999, 3) := by decide +kernel
theorem dX12_site_5 : decode cX12_site 5 = .ok (.invokestatic 76, 3) := by decide +kernel
theorem dX12_site_8 : decode cX12_site 8 = .ok (.ifCond .eq 14, 3) := by decide +kernel
theorem dX12_site_11 : decode cX12_site 11 = .ok (.iload_n 2, 1) := by decide +kernel
theorem dX12_site_12 : decode cX12_site 12 = .ok (.iconst 1, 1) := by decide +kernel
theorem dX12_site_13 : decode cX12_site 13 = .ok (.sipush 300, 3) := by decide +kernel
theorem dX12_site_16 : decode cX12_site 16 = .ok (.invokestatic 76, 3) := by decide +kernel
theorem dX12_site_19 : decode cX12_site 19 = .ok (.ifCond .ne 5, 3) := by decide +kernel
theorem dX12_site_22 : decode cX12_site 22 = .ok (.iconst (-1), 1) := by decide +kernel
theorem dX12_site_23 : decode cX12_site 23 = .ok (.ireturn, 1) := by decide +kernel
theorem dX12_site_24 : decode cX12_site 24 = .ok (.aload_n 0, 1) := by decide +kernel
theorem dX12_site_25 : decode cX12_site 25 = .ok (.getfield 7, 3) := by decide +kernel
theorem dX12_site_28 : decode cX12_site 28 = .ok (.iconst 1, 1) := by decide +kernel
theorem dX12_site_29 : decode cX12_site 29 = .ok (.iaload, 1) := by decide +kernel
theorem dX12_site_30 : decode cX12_site 30 = .ok (.istore_n 3, 1) := by decide +kernel
theorem dX12_site_31 : decode cX12_site 31 = .ok (.iload_n 3, 1) := by decide +kernel
theorem dX12_site_32 : decode cX12_site 32 = .ok (.ifCond .le 21, 3) := by decide +kernel
theorem dX12_site_35 : decode cX12_site 35 = .ok (.iload_n 1, 1) := by decide +kernel
theorem dX12_site_36 : decode cX12_site 36 = .ok (.aload_n 0, 1) := by decide +kernel
theorem dX12_site_37 : decode cX12_site 37 = .ok (.getfield 13, 3) := by decide +kernel
theorem dX12_site_40 : decode cX12_site 40 = .ok (.bipush 9, 2) := by decide +kernel
theorem dX12_site_42 : decode cX12_site 42 = .ok (.iload_n 3, 1) := by decide +kernel
theorem dX12_site_43 : decode cX12_site 43 = .ok (.iconst 1, 1) := by decide +kernel
theorem dX12_site_44 : decode cX12_site 44 = .ok (.isub, 1) := by decide +kernel
theorem dX12_site_45 : decode cX12_site 45 = .ok (.imul, 1) := by decide +kernel
theorem dX12_site_46 : decode cX12_site 46 = .ok (.iaload, 1) := by decide +kernel
theorem dX12_site_47 : decode cX12_site 47 = .ok (.if_icmp .gt 6, 3) := by decide +kernel
theorem dX12_site_50 : decode cX12_site 50 = .ok (.bipush (-4), 2) := by decide +kernel
theorem dX12_site_52 : decode cX12_site 52 = .ok (.ireturn, 1) := by decide +kernel
theorem dX12_site_53 : decode cX12_site 53 = .ok (.iload_n 3, 1) := by decide +kernel
theorem dX12_site_54 : decode cX12_site 54 = .ok (.bipush 6, 2) := by decide +kernel
theorem dX12_site_56 : decode cX12_site 56 = .ok (.if_icmp .ne 6, 3) := by decide +kernel
theorem dX12_site_59 : decode cX12_site 59 = .ok (.bipush (-2), 2) := by decide +kernel
theorem dX12_site_61 : decode cX12_site 61 = .ok (.ireturn, 1) := by decide +kernel
theorem dX12_site_62 : decode cX12_site 62 = .ok (.bipush 9, 2) := by decide +kernel
theorem dX12_site_64 : decode cX12_site 64 = .ok (.iload_n 3, 1) := by decide +kernel
theorem dX12_site_65 : decode cX12_site 65 = .ok (.imul, 1) := by decide +kernel
theorem dX12_site_66 : decode cX12_site 66 = .ok (.istore 4, 2) := by decide +kernel
theorem dX12_site_68 : decode cX12_site 68 = .ok (.iconst 0, 1) := by decide +kernel
theorem dX12_site_69 : decode cX12_site 69 = .ok (.istore 5, 2) := by decide +kernel
theorem dX12_site_71 : decode cX12_site 71 = .ok (.iload 5, 2) := by decide +kernel
theorem dX12_site_73 : decode cX12_site 73 = .ok (.bipush 9, 2) := by decide +kernel
theorem dX12_site_75 : decode cX12_site 75 = .ok (.if_icmp .ge 20, 3) := by decide +kernel
theorem dX12_site_78 : decode cX12_site 78 = .ok (.aload_n 0, 1) := by decide +kernel
theorem dX12_site_79 : decode cX12_site 79 = .ok (.getfield 13, 3) := by decide +kernel
theorem dX12_site_82 : decode cX12_site 82 = .ok (.iload 4, 2) := by decide +kernel
theorem dX12_site_84 : decode cX12_site 84 = .ok (.iload 5, 2) := by decide +kernel
theorem dX12_site_86 : decode cX12_site 86 = .ok (.iadd, 1) := by decide +kernel
theorem dX12_site_87 : decode cX12_site 87 = .ok (.iconst 0, 1) := by decide +kernel
theorem dX12_site_88 : decode cX12_site 88 = .ok (.iastore, 1) := by decide +kernel
theorem dX12_site_89 : decode cX12_site 89 = .ok (.iinc 5 1, 3) := by decide +kernel
theorem dX12_site_92 : decode cX12_site 92 = .ok (.goto (-21), 3) := by decide +kernel
theorem dX12_site_95 : decode cX12_site 95 = .ok (.aload_n 0, 1) := by decide +kernel
theorem dX12_site_96 : decode cX12_site 96 = .ok (.getfield 13, 3) := by decide +kernel
theorem dX12_site_99 : decode cX12_site 99 = .ok (.iload 4, 2) := by decide +kernel
theorem dX12_site_101 : decode cX12_site 101 = .ok (.iload_n 1, 1) := by decide +kernel
theorem dX12_site_102 : decode cX12_site 102 = .ok (.iastore, 1) := by decide +kernel
theorem dX12_site_103 : decode cX12_site 103 = .ok (.aload_n 0, 1) := by decide +kernel
theorem dX12_site_104 : decode cX12_site 104 = .ok (.getfield 13, 3) := by decide +kernel
theorem dX12_site_107 : decode cX12_site 107 = .ok (.iload 4, 2) := by decide +kernel
theorem dX12_site_109 : decode cX12_site 109 = .ok (.iconst 1, 1) := by decide +kernel
theorem dX12_site_110 : decode cX12_site 110 = .ok (.iadd, 1) := by decide +kernel
theorem dX12_site_111 : decode cX12_site 111 = .ok (.iload_n 2, 1) := by decide +kernel
theorem dX12_site_112 : decode cX12_site 112 = .ok (.iastore, 1) := by decide +kernel
theorem dX12_site_113 : decode cX12_site 113 = .ok (.aload_n 0, 1) := by decide +kernel
theorem dX12_site_114 : decode cX12_site 114 = .ok (.getfield 13, 3) := by decide +kernel
theorem dX12_site_117 : decode cX12_site 117 = .ok (.iload 4, 2) := by decide +kernel
theorem dX12_site_119 : decode cX12_site 119 = .ok (.iconst 3, 1) := by decide +kernel
theorem dX12_site_120 : decode cX12_site 120 = .ok (.iadd, 1) := by decide +kernel
theorem dX12_site_121 : decode cX12_site 121 = .ok (.bipush 100, 2) := by decide +kernel
theorem dX12_site_123 : decode cX12_site 123 = .ok (.iastore, 1) := by decide +kernel
theorem dX12_site_124 : decode cX12_site 124 = .ok (.aload_n 0, 1) := by decide +kernel
theorem dX12_site_125 : decode cX12_site 125 = .ok (.getfield 13, 3) := by decide +kernel
theorem dX12_site_128 : decode cX12_site 128 = .ok (.iload 4, 2) := by decide +kernel
theorem dX12_site_130 : decode cX12_site 130 = .ok (.iconst 5, 1) := by decide +kernel
theorem dX12_site_131 : decode cX12_site 131 = .ok (.iadd, 1) := by decide +kernel
theorem dX12_site_132 : decode cX12_site 132 = .ok (.bipush 100, 2) := by decide +kernel
theorem dX12_site_134 : decode cX12_site 134 = .ok (.iastore, 1) := by decide +kernel
theorem dX12_site_135 : decode cX12_site 135 = .ok (.aload_n 0, 1) := by decide +kernel
theorem dX12_site_136 : decode cX12_site 136 = .ok (.getfield 7, 3) := by decide +kernel
theorem dX12_site_139 : decode cX12_site 139 = .ok (.iconst 1, 1) := by decide +kernel
theorem dX12_site_140 : decode cX12_site 140 = .ok (.dup2, 1) := by decide +kernel
theorem dX12_site_141 : decode cX12_site 141 = .ok (.iaload, 1) := by decide +kernel
theorem dX12_site_142 : decode cX12_site 142 = .ok (.iconst 1, 1) := by decide +kernel
theorem dX12_site_143 : decode cX12_site 143 = .ok (.iadd, 1) := by decide +kernel
theorem dX12_site_144 : decode cX12_site 144 = .ok (.iastore, 1) := by decide +kernel
theorem dX12_site_145 : decode cX12_site 145 = .ok (.iload_n 3, 1) := by decide +kernel
theorem dX12_site_146 : decode cX12_site 146 = .ok (.ireturn, 1) := by decide +kernel
theorem dX12_plug_0 : decode cX12_plug 0 = .ok (.aload_n 0, 1) := by decide +kernel
theorem dX12_plug_1 : decode cX12_plug 1 = .ok (.iload_n 1, 1) := by decide +kernel
theorem dX12_plug_2 : decode cX12_plug 2 = .ok (.invokevirtual 80, 3) := by decide +kernel
theorem dX12_plug_5 : decode cX12_plug 5 = .ok (.ifCond .eq 23, 3) := by decide +kernel
theorem dX12_plug_8 : decode cX12_plug 8 = .ok (.iload_n 2, 1) := by decide +kernel
theorem dX12_plug_9 : decode cX12_plug 9 = .ok (.iconst 1, 1) := by decide +kernel
theorem dX12_plug_10 : decode cX12_plug 10 = .ok (.sipush 150, 3) := by decide +kernel
theorem dX12_plug_13 : decode cX12_plug 13 = .ok (.invokestatic 76, 3) := by decide +kernel
theorem dX12_plug_16 : decode cX12_plug 16 = .ok (.ifCond .eq 12, 3) := by decide +kernel
theorem dX12_plug_19 : decode cX12_plug 19 = .ok (.iload_n 3, 1) := by decide +kernel
theorem dX12_plug_20 : decode cX12_plug 20 = .ok (.iconst 0, 1) := by decide +kernel
theorem dX12_plug_21 : decode cX12_plug 21 = .ok (.iconst 2, 1) := by decide +kernel
theorem dX12_plug_22 : decode cX12_plug 22 = .ok (.invokestatic 76, 3) := by decide +kernel
theorem dX12_plug_25 : decode cX12_plug 25 = .ok (.ifCond .ne 5, 3) := by decide +kernel
theorem dX12_plug_28 : decode cX12_plug 28 = .ok (.iconst (-1), 1) := by decide +kernel
theorem dX12_plug_29 : decode cX12_plug 29 = .ok (.ireturn, 1) := by decide +kernel
theorem dX12_plug_30 : decode cX12_plug 30 = .ok (.aload_n 0, 1) := by decide +kernel
theorem dX12_plug_31 : decode cX12_plug 31 = .ok (.getfield 7, 3) := by decide +kernel
theorem dX12_plug_34 : decode cX12_plug 34 = .ok (.iconst 2, 1) := by decide +kernel
theorem dX12_plug_35 : decode cX12_plug 35 = .ok (.iaload, 1) := by decide +kernel
theorem dX12_plug_36 : decode cX12_plug 36 = .ok (.istore 4, 2) := by decide +kernel
theorem dX12_plug_38 : decode cX12_plug 38 = .ok (.iload 4, 2) := by decide +kernel
theorem dX12_plug_40 : decode cX12_plug 40 = .ok (.bipush 16, 2) := by decide +kernel
theorem dX12_plug_42 : decode cX12_plug 42 = .ok (.if_icmp .ne 6, 3) := by decide +kernel
theorem dX12_plug_45 : decode cX12_plug 45 = .ok (.bipush (-2), 2) := by decide +kernel
theorem dX12_plug_47 : decode cX12_plug 47 = .ok (.ireturn, 1) := by decide +kernel
theorem dX12_plug_48 : decode cX12_plug 48 = .ok (.aload_n 0, 1) := by decide +kernel
theorem dX12_plug_49 : decode cX12_plug 49 = .ok (.getfield 19, 3) := by decide +kernel
theorem dX12_plug_52 : decode cX12_plug 52 = .ok (.bipush 6, 2) := by decide +kernel
theorem dX12_plug_54 : decode cX12_plug 54 = .ok (.iload 4, 2) := by decide +kernel
theorem dX12_plug_56 : decode cX12_plug 56 = .ok (.imul, 1) := by decide +kernel
theorem dX12_plug_57 : decode cX12_plug 57 = .ok (.iload_n 1, 1) := by decide +kernel
theorem dX12_plug_58 : decode cX12_plug 58 = .ok (.iastore, 1) := by decide +kernel
theorem dX12_plug_59 : decode cX12_plug 59 = .ok (.aload_n 0, 1) := by decide +kernel
theorem dX12_plug_60 : decode cX12_plug 60 = .ok (.getfield 19, 3) := by decide +kernel
theorem dX12_plug_63 : decode cX12_plug 63 = .ok (.bipush 6, 2) := by decide +kernel
theorem dX12_plug_65 : decode cX12_plug 65 = .ok (.iload 4, 2) := by decide +kernel
theorem dX12_plug_67 : decode cX12_plug 67 = .ok (.imul, 1) := by decide +kernel
theorem dX12_plug_68 : decode cX12_plug 68 = .ok (.iconst 1, 1) := by decide +kernel
theorem dX12_plug_69 : decode cX12_plug 69 = .ok (.iadd, 1) := by decide +kernel
theorem dX12_plug_70 : decode cX12_plug 70 = .ok (.iload_n 2, 1) := by decide +kernel
theorem dX12_plug_71 : decode cX12_plug 71 = .ok (.iastore, 1) := by decide +kernel
theorem dX12_plug_72 : decode cX12_plug 72 = .ok (.aload_n 0, 1) := by decide +kernel
theorem dX12_plug_73 : decode cX12_plug 73 = .ok (.getfield 19, 3) := by decide +kernel
theorem dX12_plug_76 : decode cX12_plug 76 = .ok (.bipush 6, 2) := by decide +kernel
theorem dX12_plug_78 : decode cX12_plug 78 = .ok (.iload 4, 2) := by decide +kernel
theorem dX12_plug_80 : decode cX12_plug 80 = .ok (.imul, 1) := by decide +kernel
theorem dX12_plug_81 : decode cX12_plug 81 = .ok (.iconst 2, 1) := by decide +kernel
theorem dX12_plug_82 : decode cX12_plug 82 = .ok (.iadd, 1) := by decide +kernel
theorem dX12_plug_83 : decode cX12_plug 83 = .ok (.iload_n 3, 1) := by decide +kernel
theorem dX12_plug_84 : decode cX12_plug 84 = .ok (.iastore, 1) := by decide +kernel
theorem dX12_plug_85 : decode cX12_plug 85 = .ok (.aload_n 0, 1) := by decide +kernel
theorem dX12_plug_86 : decode cX12_plug 86 = .ok (.getfield 19, 3) := by decide +kernel
theorem dX12_plug_89 : decode cX12_plug 89 = .ok (.bipush 6, 2) := by decide +kernel
theorem dX12_plug_91 : decode cX12_plug 91 = .ok (.iload 4, 2) := by decide +kernel
theorem dX12_plug_93 : decode cX12_plug 93 = .ok (.imul, 1) := by decide +kernel
theorem dX12_plug_94 : decode cX12_plug 94 = .ok (.iconst 3, 1) := by decide +kernel
theorem dX12_plug_95 : decode cX12_plug 95 = .ok (.iadd, 1) := by decide +kernel
theorem dX12_plug_96 : decode cX12_plug 96 = .ok (.iconst (-1), 1) := by decide +kernel
theorem dX12_plug_97 : decode cX12_plug 97 = .ok (.iastore, 1) := by decide +kernel
theorem dX12_plug_98 : decode cX12_plug 98 = .ok (.aload_n 0, 1) := by decide +kernel
theorem dX12_plug_99 : decode cX12_plug 99 = .ok (.getfield 19, 3) := by decide +kernel
theorem dX12_plug_102 : decode cX12_plug 102 = .ok (.bipush 6, 2) := by decide +kernel
theorem dX12_plug_104 : decode cX12_plug 104 = .ok (.iload 4, 2) := by decide +kernel
theorem dX12_plug_106 : decode cX12_plug 106 = .ok (.imul, 1) := by decide +kernel
theorem dX12_plug_107 : decode cX12_plug 107 = .ok (.iconst 4, 1) := by decide +kernel
theorem dX12_plug_108 : decode cX12_plug 108 = .ok (.iadd, 1) := by decide +kernel
theorem dX12_plug_109 : decode cX12_plug 109 = .ok (.iconst 0, 1) := by decide +kernel
theorem dX12_plug_110 : decode cX12_plug 110 = .ok (.iastore, 1) := by decide +kernel
theorem dX12_plug_111 : decode cX12_plug 111 = .ok (.aload_n 0, 1) := by decide +kernel
theorem dX12_plug_112 : decode cX12_plug 112 = .ok (.getfield 19, 3) := by decide +kernel
theorem dX12_plug_115 : decode cX12_plug 115 = .ok (.bipush 6, 2) := by decide +kernel
theorem dX12_plug_117 : decode cX12_plug 117 = .ok (.iload 4, 2) := by decide +kernel
theorem dX12_plug_119 : decode cX12_plug 119 = .ok (.imul, 1) := by decide +kernel
theorem dX12_plug_120 : decode cX12_plug 120 = .ok (.iconst 5, 1) := by decide +kernel
theorem dX12_plug_121 : decode cX12_plug 121 = .ok (.iadd, 1) := by decide +kernel
theorem dX12_plug_122 : decode cX12_plug 122 = .ok (.iconst 1, 1) := by decide +kernel
theorem dX12_plug_123 : decode cX12_plug 123 = .ok (.iastore, 1) := by decide +kernel
theorem dX12_plug_124 : decode cX12_plug 124 = .ok (.aload_n 0, 1) := by decide +kernel
theorem dX12_plug_125 : decode cX12_plug 125 = .ok (.getfield 7, 3) := by decide +kernel
theorem dX12_plug_128 : decode cX12_plug 128 = .ok (.iconst 2, 1) := by decide +kernel
theorem dX12_plug_129 : decode cX12_plug 129 = .ok (.dup2, 1) := by decide +kernel
theorem dX12_plug_130 : decode cX12_plug 130 = .ok (.iaload, 1) := by decide +kernel
theorem dX12_plug_131 : decode cX12_plug 131 = .ok (.iconst 1, 1) := by decide +kernel
theorem dX12_plug_132 : decode cX12_plug 132 = .ok (.iadd, 1) := by decide +kernel
theorem dX12_plug_133 : decode cX12_plug 133 = .ok (.iastore, 1) := by decide +kernel
theorem dX12_plug_134 : decode cX12_plug 134 = .ok (.iload 4, 2) := by decide +kernel
theorem dX12_plug_136 : decode cX12_plug 136 = .ok (.ireturn, 1) := by decide +kernel
theorem dX12_car_0 : decode cX12_car 0 = .ok (.iload_n 1, 1) := by decide +kernel
theorem dX12_car_1 : decode cX12_car 1 = .ok (.bipush 10, 2) := by decide +kernel
theorem dX12_car_3 : decode cX12_car 3 = .ok (.sipush 200, 3) := by decide +kernel
theorem dX12_car_6 : decode cX12_car 6 = .ok (.invokestatic 76, 3) := by decide +kernel
theorem dX12_car_9 : decode cX12_car 9 = .ok (.ifCond .eq 44, 3) := by decide +kernel
theorem dX12_car_12 : decode cX12_car 12 = .ok (.iload_n 2, 1) := by decide +kernel
theorem dX12_car_13 : decode cX12_car 13 = .ok (.iconst 1, 1) := by decide +kernel
theorem dX12_car_14 : decode cX12_car 14 = .ok (.bipush 40, 2) := by decide +kernel
theorem dX12_car_16 : decode cX12_car 16 = .ok (.invokestatic 76, 3) := by decide +kernel
theorem dX12_car_19 : decode cX12_car 19 = .ok (.ifCond .eq 34, 3) := by decide +kernel
theorem dX12_car_22 : decode cX12_car 22 = .ok (.iload_n 3, 1) := by decide +kernel
theorem dX12_car_23 : decode cX12_car 23 = .ok (.iconst 1, 1) := by decide +kernel
theorem dX12_car_24 : decode cX12_car 24 = .ok (.sipush 150, 3) := by decide +kernel
theorem dX12_car_27 : decode cX12_car 27 = .ok (.invokestatic 76, 3) := by decide +kernel
theorem dX12_car_30 : decode cX12_car 30 = .ok (.ifCond .eq 23, 3) := by decide +kernel
theorem dX12_car_33 : decode cX12_car 33 = .ok (.iload 4, 2) := by decide +kernel
theorem dX12_car_35 : decode cX12_car 35 = .ok (.iconst 0, 1) := by decide +kernel
theorem dX12_car_36 : decode cX12_car 36 = .ok (.iconst 2, 1) := by decide +kernel
theorem dX12_car_37 : decode cX12_car 37 = .ok (.invokestatic 76, 3) := by decide +kernel
theorem dX12_car_40 : decode cX12_car 40 = .ok (.ifCond .eq 13, 3) := by decide +kernel
theorem dX12_car_43 : decode cX12_car 43 = .ok (.iload 5, 2) := by decide +kernel
theorem dX12_car_45 : decode cX12_car 45 = .ok (.iconst 0, 1) := by decide +kernel
theorem dX12_car_46 : decode cX12_car 46 = .ok (.iload_n 1, 1) := by decide +kernel
theorem dX12_car_47 : decode cX12_car 47 = .ok (.invokestatic 76, 3) := by decide +kernel
theorem dX12_car_50 : decode cX12_car 50 = .ok (.ifCond .ne 5, 3) := by decide +kernel
theorem dX12_car_53 : decode cX12_car 53 = .ok (.iconst (-1), 1) := by decide +kernel
theorem dX12_car_54 : decode cX12_car 54 = .ok (.ireturn, 1) := by decide +kernel
theorem dX12_car_55 : decode cX12_car 55 = .ok (.aload_n 0, 1) := by decide +kernel
theorem dX12_car_56 : decode cX12_car 56 = .ok (.getfield 7, 3) := by decide +kernel
theorem dX12_car_59 : decode cX12_car 59 = .ok (.iconst 3, 1) := by decide +kernel
theorem dX12_car_60 : decode cX12_car 60 = .ok (.iaload, 1) := by decide +kernel
theorem dX12_car_61 : decode cX12_car 61 = .ok (.istore 6, 2) := by decide +kernel
theorem dX12_car_63 : decode cX12_car 63 = .ok (.iload 6, 2) := by decide +kernel
theorem dX12_car_65 : decode cX12_car 65 = .ok (.bipush 12, 2) := by decide +kernel
theorem dX12_car_67 : decode cX12_car 67 = .ok (.if_icmp .ne 6, 3) := by decide +kernel
theorem dX12_car_70 : decode cX12_car 70 = .ok (.bipush (-2), 2) := by decide +kernel
theorem dX12_car_72 : decode cX12_car 72 = .ok (.ireturn, 1) := by decide +kernel
theorem dX12_car_73 : decode cX12_car 73 = .ok (.bipush 16, 2) := by decide +kernel
theorem dX12_car_75 : decode cX12_car 75 = .ok (.iload 6, 2) := by decide +kernel
theorem dX12_car_77 : decode cX12_car 77 = .ok (.imul, 1) := by decide +kernel
theorem dX12_car_78 : decode cX12_car 78 = .ok (.istore 7, 2) := by decide +kernel
theorem dX12_car_80 : decode cX12_car 80 = .ok (.iconst 0, 1) := by decide +kernel
theorem dX12_car_81 : decode cX12_car 81 = .ok (.istore 8, 2) := by decide +kernel
theorem dX12_car_83 : decode cX12_car 83 = .ok (.iload 8, 2) := by decide +kernel
theorem dX12_car_85 : decode cX12_car 85 = .ok (.bipush 16, 2) := by decide +kernel
theorem dX12_car_87 : decode cX12_car 87 = .ok (.if_icmp .ge 20, 3) := by decide +kernel
theorem dX12_car_90 : decode cX12_car 90 = .ok (.aload_n 0, 1) := by decide +kernel
theorem dX12_car_91 : decode cX12_car 91 = .ok (.getfield 22, 3) := by decide +kernel
theorem dX12_car_94 : decode cX12_car 94 = .ok (.iload 7, 2) := by decide +kernel
theorem dX12_car_96 : decode cX12_car 96 = .ok (.iload 8, 2) := by decide +kernel
theorem dX12_car_98 : decode cX12_car 98 = .ok (.iadd, 1) := by decide +kernel
theorem dX12_car_99 : decode cX12_car 99 = .ok (.iconst 0, 1) := by decide +kernel
theorem dX12_car_100 : decode cX12_car 100 = .ok (.iastore, 1) := by decide +kernel
theorem dX12_car_101 : decode cX12_car 101 = .ok (.iinc 8 1, 3) := by decide +kernel
theorem dX12_car_104 : decode cX12_car 104 = .ok (.goto (-21), 3) := by decide +kernel
theorem dX12_car_107 : decode cX12_car 107 = .ok (.aload_n 0, 1) := by decide +kernel
theorem dX12_car_108 : decode cX12_car 108 = .ok (.getfield 22, 3) := by decide +kernel
theorem dX12_car_111 : decode cX12_car 111 = .ok (.iload 7, 2) := by decide +kernel
theorem dX12_car_113 : decode cX12_car 113 = .ok (.iconst 0, 1) := by decide +kernel
theorem dX12_car_114 : decode cX12_car 114 = .ok (.iadd, 1) := by decide +kernel
theorem dX12_car_115 : decode cX12_car 115 = .ok (.iload_n 1, 1) := by decide +kernel
theorem dX12_car_116 : decode cX12_car 116 = .ok (.iastore, 1) := by decide +kernel
theorem dX12_car_117 : decode cX12_car 117 = .ok (.aload_n 0, 1) := by decide +kernel
theorem dX12_car_118 : decode cX12_car 118 = .ok (.getfield 22, 3) := by decide +kernel
theorem dX12_car_121 : decode cX12_car 121 = .ok (.iload 7, 2) := by decide +kernel
theorem dX12_car_123 : decode cX12_car 123 = .ok (.iconst 1, 1) := by decide +kernel
theorem dX12_car_124 : decode cX12_car 124 = .ok (.iadd, 1) := by decide +kernel
theorem dX12_car_125 : decode cX12_car 125 = .ok (.iload_n 2, 1) := by decide +kernel
theorem dX12_car_126 : decode cX12_car 126 = .ok (.iastore, 1) := by decide +kernel
theorem dX12_car_127 : decode cX12_car 127 = .ok (.aload_n 0, 1) := by decide +kernel
theorem dX12_car_128 : decode cX12_car 128 = .ok (.getfield 22, 3) := by decide +kernel
theorem dX12_car_131 : decode cX12_car 131 = .ok (.iload 7, 2) := by decide +kernel
theorem dX12_car_133 : decode cX12_car 133 = .ok (.iconst 2, 1) := by decide +kernel
theorem dX12_car_134 : decode cX12_car 134 = .ok (.iadd, 1) := by decide +kernel
theorem dX12_car_135 : decode cX12_car 135 = .ok (.iload_n 3, 1) := by decide +kernel
theorem dX12_car_136 : decode cX12_car 136 = .ok (.iastore, 1) := by decide +kernel
theorem dX12_car_137 : decode cX12_car 137 = .ok (.aload_n 0, 1) := by decide +kernel
theorem dX12_car_138 : decode cX12_car 138 = .ok (.getfield 22, 3) := by decide +kernel
theorem dX12_car_141 : decode cX12_car 141 = .ok (.iload 7, 2) := by decide +kernel
theorem dX12_car_143 : decode cX12_car 143 = .ok (.iconst 3, 1) := by decide +kernel
theorem dX12_car_144 : decode cX12_car 144 = .ok (.iadd, 1) := by decide +kernel
theorem dX12_car_145 : decode cX12_car 145 = .ok (.iload 4, 2) := by decide +kernel
theorem dX12_car_147 : decode cX12_car 147 = .ok (.iastore, 1) := by decide +kernel
theorem dX12_car_148 : decode cX12_car 148 = .ok (.aload_n 0, 1) := by decide +kernel
theorem dX12_car_149 : decode cX12_car 149 = .ok (.getfield 22, 3) := by decide +kernel
theorem dX12_car_152 : decode cX12_car 152 = .ok (.iload 7, 2) := by decide +kernel
theorem dX12_car_154 : decode cX12_car 154 = .ok (.iconst 4, 1) := by decide +kernel
theorem dX12_car_155 : decode cX12_car 155 = .ok (.iadd, 1) := by decide +kernel
theorem dX12_car_156 : decode cX12_car 156 = .ok (.iload 5, 2) := by decide +kernel
theorem dX12_car_158 : decode cX12_car 158 = .ok (.iastore, 1) := by decide +kernel
theorem dX12_car_159 : decode cX12_car 159 = .ok (.aload_n 0, 1) := by decide +kernel
theorem dX12_car_160 : decode cX12_car 160 = .ok (.getfield 7, 3) := by decide +kernel
theorem dX12_car_163 : decode cX12_car 163 = .ok (.iconst 3, 1) := by decide +kernel
theorem dX12_car_164 : decode cX12_car 164 = .ok (.dup2, 1) := by decide +kernel
theorem dX12_car_165 : decode cX12_car 165 = .ok (.iaload, 1) := by decide +kernel
theorem dX12_car_166 : decode cX12_car 166 = .ok (.iconst 1, 1) := by decide +kernel
theorem dX12_car_167 : decode cX12_car 167 = .ok (.iadd, 1) := by decide +kernel
theorem dX12_car_168 : decode cX12_car 168 = .ok (.iastore, 1) := by decide +kernel
theorem dX12_car_169 : decode cX12_car 169 = .ok (.iload 6, 2) := by decide +kernel
theorem dX12_car_171 : decode cX12_car 171 = .ok (.ireturn, 1) := by decide +kernel
theorem dX12_set_0 : decode cX12_set 0 = .ok (.iload_n 1, 1) := by decide +kernel
theorem dX12_set_1 : decode cX12_set 1 = .ok (.iconst 0, 1) := by decide +kernel
theorem dX12_set_2 : decode cX12_set 2 = .ok (.iconst 1, 1) := by decide +kernel
theorem dX12_set_3 : decode cX12_set 3 = .ok (.invokestatic 76, 3) := by decide +kernel
theorem dX12_set_6 : decode cX12_set 6 = .ok (.ifCond .eq 46, 3) := by decide +kernel
theorem dX12_set_9 : decode cX12_set 9 = .ok (.iload_n 2, 1) := by decide +kernel
theorem dX12_set_10 : decode cX12_set 10 = .ok (.iconst 0, 1) := by decide +kernel
theorem dX12_set_11 : decode cX12_set 11 = .ok (.iload_n 1, 1) := by decide +kernel
theorem dX12_set_12 : decode cX12_set 12 = .ok (.ifCond .ne 8, 3) := by decide +kernel
theorem dX12_set_15 : decode cX12_set 15 = .ok (.bipush 50, 2) := by decide +kernel
theorem dX12_set_17 : decode cX12_set 17 = .ok (.goto 5, 3) := by decide +kernel
theorem dX12_set_20 : decode cX12_set 20 = .ok (.bipush 20, 2) := by decide +kernel
theorem dX12_set_22 : decode cX12_set 22 = .ok (.invokestatic 76, 3) := by decide +kernel
theorem dX12_set_25 : decode cX12_set 25 = .ok (.ifCond .ne 5, 3) := by decide +kernel
theorem dX12_set_28 : decode cX12_set 28 = .ok (.iconst (-1), 1) := by decide +kernel
theorem dX12_set_29 : decode cX12_set 29 = .ok (.ireturn, 1) := by decide +kernel
theorem dX12_set_30 : decode cX12_set 30 = .ok (.aload_n 0, 1) := by decide +kernel
theorem dX12_set_31 : decode cX12_set 31 = .ok (.getfield 7, 3) := by decide +kernel
theorem dX12_set_34 : decode cX12_set 34 = .ok (.bipush 7, 2) := by decide +kernel
theorem dX12_set_36 : decode cX12_set 36 = .ok (.iload_n 1, 1) := by decide +kernel
theorem dX12_set_37 : decode cX12_set 37 = .ok (.iadd, 1) := by decide +kernel
theorem dX12_set_38 : decode cX12_set 38 = .ok (.iaload, 1) := by decide +kernel
theorem dX12_set_39 : decode cX12_set 39 = .ok (.istore_n 3, 1) := by decide +kernel
theorem dX12_set_40 : decode cX12_set 40 = .ok (.aload_n 0, 1) := by decide +kernel
theorem dX12_set_41 : decode cX12_set 41 = .ok (.getfield 7, 3) := by decide +kernel
theorem dX12_set_44 : decode cX12_set 44 = .ok (.bipush 7, 2) := by decide +kernel
theorem dX12_set_46 : decode cX12_set 46 = .ok (.iload_n 1, 1) := by decide +kernel
theorem dX12_set_47 : decode cX12_set 47 = .ok (.iadd, 1) := by decide +kernel
theorem dX12_set_48 : decode cX12_set 48 = .ok (.iload_n 2, 1) := by decide +kernel
theorem dX12_set_49 : decode cX12_set 49 = .ok (.iastore, 1) := by decide +kernel
theorem dX12_set_50 : decode cX12_set 50 = .ok (.iload_n 3, 1) := by decide +kernel
theorem dX12_set_51 : decode cX12_set 51 = .ok (.ireturn, 1) := by decide +kernel
theorem dX12_set_52 : decode cX12_set 52 = .ok (.iload_n 1, 1) := by decide +kernel
theorem dX12_set_53 : decode cX12_set 53 = .ok (.bipush 10, 2) := by decide +kernel
theorem dX12_set_55 : decode cX12_set 55 = .ok (.bipush 33, 2) := by decide +kernel
theorem dX12_set_57 : decode cX12_set 57 = .ok (.invokestatic 76, 3) := by decide +kernel
theorem dX12_set_60 : decode cX12_set 60 = .ok (.ifCond .eq 37, 3) := by decide +kernel
theorem dX12_set_63 : decode cX12_set 63 = .ok (.iload_n 2, 1) := by decide +kernel
theorem dX12_set_64 : decode cX12_set 64 = .ok (.iconst 0, 1) := by decide +kernel
theorem dX12_set_65 : decode cX12_set 65 = .ok (.bipush 99, 2) := by decide +kernel
theorem dX12_set_67 : decode cX12_set 67 = .ok (.invokestatic 76, 3) := by decide +kernel
theorem dX12_set_70 : decode cX12_set 70 = .ok (.ifCond .ne 5, 3) := by decide +kernel
theorem dX12_set_73 : decode cX12_set 73 = .ok (.iconst (-1), 1) := by decide +kernel
theorem dX12_set_74 : decode cX12_set 74 = .ok (.ireturn, 1) := by decide +kernel
theorem dX12_set_75 : decode cX12_set 75 = .ok (.aload_n 0, 1) := by decide +kernel
theorem dX12_set_76 : decode cX12_set 76 = .ok (.getfield 25, 3) := by decide +kernel
theorem dX12_set_79 : decode cX12_set 79 = .ok (.iload_n 1, 1) := by decide +kernel
theorem dX12_set_80 : decode cX12_set 80 = .ok (.bipush 10, 2) := by decide +kernel
theorem dX12_set_82 : decode cX12_set 82 = .ok (.isub, 1) := by decide +kernel
theorem dX12_set_83 : decode cX12_set 83 = .ok (.iaload, 1) := by decide +kernel
theorem dX12_set_84 : decode cX12_set 84 = .ok (.istore_n 3, 1) := by decide +kernel
theorem dX12_set_85 : decode cX12_set 85 = .ok (.aload_n 0, 1) := by decide +kernel
theorem dX12_set_86 : decode cX12_set 86 = .ok (.getfield 25, 3) := by decide +kernel
theorem dX12_set_89 : decode cX12_set 89 = .ok (.iload_n 1, 1) := by decide +kernel
theorem dX12_set_90 : decode cX12_set 90 = .ok (.bipush 10, 2) := by decide +kernel
theorem dX12_set_92 : decode cX12_set 92 = .ok (.isub, 1) := by decide +kernel
theorem dX12_set_93 : decode cX12_set 93 = .ok (.iload_n 2, 1) := by decide +kernel
theorem dX12_set_94 : decode cX12_set 94 = .ok (.iastore, 1) := by decide +kernel
theorem dX12_set_95 : decode cX12_set 95 = .ok (.iload_n 3, 1) := by decide +kernel
theorem dX12_set_96 : decode cX12_set 96 = .ok (.ireturn, 1) := by decide +kernel
theorem dX12_set_97 : decode cX12_set 97 = .ok (.iload_n 1, 1) := by decide +kernel
theorem dX12_set_98 : decode cX12_set 98 = .ok (.bipush 40, 2) := by decide +kernel
theorem dX12_set_100 : decode cX12_set 100 = .ok (.bipush 39, 2) := by decide +kernel
theorem dX12_set_102 : decode cX12_set 102 = .ok (.aload_n 0, 1) := by decide +kernel
theorem dX12_set_103 : decode cX12_set 103 = .ok (.getfield 7, 3) := by decide +kernel
theorem dX12_set_106 : decode cX12_set 106 = .ok (.iconst 1, 1) := by decide +kernel
theorem dX12_set_107 : decode cX12_set 107 = .ok (.iaload, 1) := by decide +kernel
theorem dX12_set_108 : decode cX12_set 108 = .ok (.iadd, 1) := by decide +kernel
theorem dX12_set_109 : decode cX12_set 109 = .ok (.invokestatic 76, 3) := by decide +kernel
theorem dX12_set_112 : decode cX12_set 112 = .ok (.ifCond .eq 13, 3) := by decide +kernel
theorem dX12_set_115 : decode cX12_set 115 = .ok (.iload_n 2, 1) := by decide +kernel
theorem dX12_set_116 : decode cX12_set 116 = .ok (.iconst 0, 1) := by decide +kernel
theorem dX12_set_117 : decode cX12_set 117 = .ok (.bipush 99, 2) := by decide +kernel
theorem dX12_set_119 : decode cX12_set 119 = .ok (.invokestatic 76, 3) := by decide +kernel
theorem dX12_set_122 : decode cX12_set 122 = .ok (.ifCond .ne 5, 3) := by decide +kernel
theorem dX12_set_125 : decode cX12_set 125 = .ok (.iconst (-1), 1) := by decide +kernel
theorem dX12_set_126 : decode cX12_set 126 = .ok (.ireturn, 1) := by decide +kernel
theorem dX12_set_127 : decode cX12_set 127 = .ok (.aload_n 0, 1) := by decide +kernel
theorem dX12_set_128 : decode cX12_set 128 = .ok (.getfield 13, 3) := by decide +kernel
theorem dX12_set_131 : decode cX12_set 131 = .ok (.bipush 9, 2) := by decide +kernel
theorem dX12_set_133 : decode cX12_set 133 = .ok (.iload_n 1, 1) := by decide +kernel
theorem dX12_set_134 : decode cX12_set 134 = .ok (.bipush 40, 2) := by decide +kernel
theorem dX12_set_136 : decode cX12_set 136 = .ok (.isub, 1) := by decide +kernel
theorem dX12_set_137 : decode cX12_set 137 = .ok (.imul, 1) := by decide +kernel
theorem dX12_set_138 : decode cX12_set 138 = .ok (.bipush 7, 2) := by decide +kernel
theorem dX12_set_140 : decode cX12_set 140 = .ok (.iadd, 1) := by decide +kernel
theorem dX12_set_141 : decode cX12_set 141 = .ok (.iaload, 1) := by decide +kernel
theorem dX12_set_142 : decode cX12_set 142 = .ok (.istore_n 3, 1) := by decide +kernel
theorem dX12_set_143 : decode cX12_set 143 = .ok (.aload_n 0, 1) := by decide +kernel
theorem dX12_set_144 : decode cX12_set 144 = .ok (.getfield 13, 3) := by decide +kernel
theorem dX12_set_147 : decode cX12_set 147 = .ok (.bipush 9, 2) := by decide +kernel
theorem dX12_set_149 : decode cX12_set 149 = .ok (.iload_n 1, 1) := by decide +kernel
theorem dX12_set_150 : decode cX12_set 150 = .ok (.bipush 40, 2) := by decide +kernel
theorem dX12_set_152 : decode cX12_set 152 = .ok (.isub, 1) := by decide +kernel
theorem dX12_set_153 : decode cX12_set 153 = .ok (.imul, 1) := by decide +kernel
theorem dX12_set_154 : decode cX12_set 154 = .ok (.bipush 7, 2) := by decide +kernel
theorem dX12_set_156 : decode cX12_set 156 = .ok (.iadd, 1) := by decide +kernel
theorem dX12_set_157 : decode cX12_set 157 = .ok (.iload_n 2, 1) := by decide +kernel
theorem dX12_set_158 : decode cX12_set 158 = .ok (.iastore, 1) := by decide +kernel
theorem dX12_set_159 : decode cX12_set 159 = .ok (.iload_n 3, 1) := by decide +kernel
theorem dX12_set_160 : decode cX12_set 160 = .ok (.ireturn, 1) := by decide +kernel
theorem dX12_get_0 : decode cX12_get 0 = .ok (.aload_n 0, 1) := by decide +kernel
theorem dX12_get_1 : decode cX12_get 1 = .ok (.getfield 22, 3) := by decide +kernel
theorem dX12_get_4 : decode cX12_get 4 = .ok (.bipush 16, 2) := by decide +kernel
theorem dX12_get_6 : decode cX12_get 6 = .ok (.iload_n 1, 1) := by decide +kernel
theorem dX12_get_7 : decode cX12_get 7 = .ok (.imul, 1) := by decide +kernel
theorem dX12_get_8 : decode cX12_get 8 = .ok (.iload_n 2, 1) := by decide +kernel
theorem dX12_get_9 : decode cX12_get 9 = .ok (.iadd, 1) := by decide +kernel
theorem dX12_get_10 : decode cX12_get 10 = .ok (.iaload, 1) := by decide +kernel
theorem dX12_get_11 : decode cX12_get 11 = .ok (.ireturn, 1) := by decide +kernel
theorem dX12_put_0 : decode cX12_put 0 = .ok (.aload_n 0, 1) := by decide +kernel
theorem dX12_put_1 : decode cX12_put 1 = .ok (.getfield 22, 3) := by decide +kernel
theorem dX12_put_4 : decode cX12_put 4 = .ok (.bipush 16, 2) := by decide +kernel
theorem dX12_put_6 : decode cX12_put 6 = .ok (.iload_n 1, 1) := by decide +kernel
theorem dX12_put_7 : decode cX12_put 7 = .ok (.imul, 1) := by decide +kernel
theorem dX12_put_8 : decode cX12_put 8 = .ok (.iload_n 2, 1) := by decide +kernel
theorem dX12_put_9 : decode cX12_put 9 = .ok (.iadd, 1) := by decide +kernel
theorem dX12_put_10 : decode cX12_put 10 = .ok (.iload_n 3, 1) := by decide +kernel
theorem dX12_put_11 : decode cX12_put 11 = .ok (.iastore, 1) := by decide +kernel
theorem dX12_put_12 : decode cX12_put 12 = .ok (.return_, 1) := by decide +kernel
theorem dX12_more_0 : decode cX12_more 0 = .ok (.aload_n 0, 1) := by decide +kernel
theorem dX12_more_1 : decode cX12_more 1 = .ok (.getfield 22, 3) := by decide +kernel
theorem dX12_more_4 : decode cX12_more 4 = .ok (.bipush 16, 2) := by decide +kernel
theorem dX12_more_6 : decode cX12_more 6 = .ok (.iload_n 1, 1) := by decide +kernel
theorem dX12_more_7 : decode cX12_more 7 = .ok (.imul, 1) := by decide +kernel
theorem dX12_more_8 : decode cX12_more 8 = .ok (.iload_n 2, 1) := by decide +kernel
theorem dX12_more_9 : decode cX12_more 9 = .ok (.iadd, 1) := by decide +kernel
theorem dX12_more_10 : decode cX12_more 10 = .ok (.dup2, 1) := by decide +kernel
theorem dX12_more_11 : decode cX12_more 11 = .ok (.iaload, 1) := by decide +kernel
theorem dX12_more_12 : decode cX12_more 12 = .ok (.iload_n 3, 1) := by decide +kernel
theorem dX12_more_13 : decode cX12_more 13 = .ok (.iadd, 1) := by decide +kernel
theorem dX12_more_14 : decode cX12_more 14 = .ok (.iastore, 1) := by decide +kernel
theorem dX12_more_15 : decode cX12_more 15 = .ok (.return_, 1) := by decide +kernel
theorem dX12_ticksFor_0 : decode cX12_ticksFor 0 = .ok (.iload_n 0, 1) := by decide +kernel
theorem dX12_ticksFor_1 : decode cX12_ticksFor 1 = .ok (.bipush 7, 2) := by decide +kernel
theorem dX12_ticksFor_3 : decode cX12_ticksFor 3 = .ok (.iadd, 1) := by decide +kernel
theorem dX12_ticksFor_4 : decode cX12_ticksFor 4 = .ok (.bipush 8, 2) := by decide +kernel
theorem dX12_ticksFor_6 : decode cX12_ticksFor 6 = .ok (.idiv, 1) := by decide +kernel
theorem dX12_ticksFor_7 : decode cX12_ticksFor 7 = .ok (.ireturn, 1) := by decide +kernel
theorem dX12_chargeFor_0 : decode cX12_chargeFor 0 = .ok (.iload_n 2, 1) := by decide +kernel
theorem dX12_chargeFor_1 : decode cX12_chargeFor 1 = .ok (.aload_n 0, 1) := by decide +kernel
theorem dX12_chargeFor_2 : decode cX12_chargeFor 2 = .ok (.iload_n 1, 1) := by decide +kernel
theorem dX12_chargeFor_3 : decode cX12_chargeFor 3 = .ok (.iconst 1, 1) := by decide +kernel
theorem dX12_chargeFor_4 : decode cX12_chargeFor 4 = .ok (.invokevirtual 84, 3) := by decide +kernel
theorem dX12_chargeFor_7 : decode cX12_chargeFor 7 = .ok (.imul, 1) := by decide +kernel
theorem dX12_chargeFor_8 : decode cX12_chargeFor 8 = .ok (.bipush 100, 2) := by decide +kernel
theorem dX12_chargeFor_10 : decode cX12_chargeFor 10 = .ok (.aload_n 0, 1) := by decide +kernel
theorem dX12_chargeFor_11 : decode cX12_chargeFor 11 = .ok (.getfield 7, 3) := by decide +kernel
theorem dX12_chargeFor_14 : decode cX12_chargeFor 14 = .ok (.bipush 7, 2) := by decide +kernel
theorem dX12_chargeFor_16 : decode cX12_chargeFor 16 = .ok (.iaload, 1) := by decide +kernel
theorem dX12_chargeFor_17 : decode cX12_chargeFor 17 = .ok (.iadd, 1) := by decide +kernel
theorem dX12_chargeFor_18 : decode cX12_chargeFor 18 = .ok (.imul, 1) := by decide +kernel
theorem dX12_chargeFor_19 : decode cX12_chargeFor 19 = .ok (.sipush 9999, 3) := by decide +kernel
theorem dX12_chargeFor_22 : decode cX12_chargeFor 22 = .ok (.iadd, 1) := by decide +kernel
theorem dX12_chargeFor_23 : decode cX12_chargeFor 23 = .ok (.sipush 10000, 3) := by decide +kernel
theorem dX12_chargeFor_26 : decode cX12_chargeFor 26 = .ok (.idiv, 1) := by decide +kernel
theorem dX12_chargeFor_27 : decode cX12_chargeFor 27 = .ok (.ireturn, 1) := by decide +kernel
theorem dX12_drive_0 : decode cX12_drive 0 = .ok (.aload_n 0, 1) := by decide +kernel
theorem dX12_drive_1 : decode cX12_drive 1 = .ok (.iload_n 1, 1) := by decide +kernel
theorem dX12_drive_2 : decode cX12_drive 2 = .ok (.invokevirtual 88, 3) := by decide +kernel
theorem dX12_drive_5 : decode cX12_drive 5 = .ok (.ifCond .eq 23, 3) := by decide +kernel
theorem dX12_drive_8 : decode cX12_drive 8 = .ok (.iload_n 2, 1) := by decide +kernel
theorem dX12_drive_9 : decode cX12_drive 9 = .ok (.iconst 0, 1) := by decide +kernel
theorem dX12_drive_10 : decode cX12_drive 10 = .ok (.sipush 999, 3) := by decide +kernel
theorem dX12_drive_13 : decode cX12_drive 13 = .ok (.invokestatic 76, 3) := by decide +kernel
theorem dX12_drive_16 : decode cX12_drive 16 = .ok (.ifCond .eq 12, 3) := by decide +kernel
theorem dX12_drive_19 : decode cX12_drive 19 = .ok (.iload_n 3, 1) := by decide +kernel
theorem dX12_drive_20 : decode cX12_drive 20 = .ok (.iconst 0, 1) := by decide +kernel
theorem dX12_drive_21 : decode cX12_drive 21 = .ok (.iconst 1, 1) := by decide +kernel
theorem dX12_drive_22 : decode cX12_drive 22 = .ok (.invokestatic 76, 3) := by decide +kernel
theorem dX12_drive_25 : decode cX12_drive 25 = .ok (.ifCond .ne 5, 3) := by decide +kernel
theorem dX12_drive_28 : decode cX12_drive 28 = .ok (.iconst (-1), 1) := by decide +kernel
theorem dX12_drive_29 : decode cX12_drive 29 = .ok (.ireturn, 1) := by decide +kernel
theorem dX12_drive_30 : decode cX12_drive 30 = .ok (.iload_n 3, 1) := by decide +kernel
theorem dX12_drive_31 : decode cX12_drive 31 = .ok (.ifCond .ne 10, 3) := by decide +kernel
theorem dX12_drive_34 : decode cX12_drive 34 = .ok (.iload_n 2, 1) := by decide +kernel
theorem dX12_drive_35 : decode cX12_drive 35 = .ok (.invokestatic 91, 3) := by decide +kernel
theorem dX12_drive_38 : decode cX12_drive 38 = .ok (.goto 9, 3) := by decide +kernel
theorem dX12_drive_41 : decode cX12_drive 41 = .ok (.aload_n 0, 1) := by decide +kernel
theorem dX12_drive_42 : decode cX12_drive 42 = .ok (.iload_n 1, 1) := by decide +kernel
theorem dX12_drive_43 : decode cX12_drive 43 = .ok (.iload_n 2, 1) := by decide +kernel
theorem dX12_drive_44 : decode cX12_drive 44 = .ok (.invokevirtual 95, 3) := by decide +kernel
theorem dX12_drive_47 : decode cX12_drive 47 = .ok (.ireturn, 1) := by decide +kernel
theorem dX12_gainOf_0 : decode cX12_gainOf 0 = .ok (.aload_n 0, 1) := by decide +kernel
theorem dX12_gainOf_1 : decode cX12_gainOf 1 = .ok (.iload_n 1, 1) := by decide +kernel
theorem dX12_gainOf_2 : decode cX12_gainOf 2 = .ok (.iconst 0, 1) := by decide +kernel
theorem dX12_gainOf_3 : decode cX12_gainOf 3 = .ok (.invokevirtual 84, 3) := by decide +kernel
theorem dX12_gainOf_6 : decode cX12_gainOf 6 = .ok (.istore 4, 2) := by decide +kernel
theorem dX12_gainOf_8 : decode cX12_gainOf 8 = .ok (.aload_n 0, 1) := by decide +kernel
theorem dX12_gainOf_9 : decode cX12_gainOf 9 = .ok (.getfield 19, 3) := by decide +kernel
theorem dX12_gainOf_12 : decode cX12_gainOf 12 = .ok (.bipush 6, 2) := by decide +kernel
theorem dX12_gainOf_14 : decode cX12_gainOf 14 = .ok (.iload_n 2, 1) := by decide +kernel
theorem dX12_gainOf_15 : decode cX12_gainOf 15 = .ok (.imul, 1) := by decide +kernel
theorem dX12_gainOf_16 : decode cX12_gainOf 16 = .ok (.iconst 1, 1) := by decide +kernel
theorem dX12_gainOf_17 : decode cX12_gainOf 17 = .ok (.iadd, 1) := by decide +kernel
theorem dX12_gainOf_18 : decode cX12_gainOf 18 = .ok (.iaload, 1) := by decide +kernel
theorem dX12_gainOf_19 : decode cX12_gainOf 19 = .ok (.istore 5, 2) := by decide +kernel
theorem dX12_gainOf_21 : decode cX12_gainOf 21 = .ok (.aload_n 0, 1) := by decide +kernel
theorem dX12_gainOf_22 : decode cX12_gainOf 22 = .ok (.iload_n 1, 1) := by decide +kernel
theorem dX12_gainOf_23 : decode cX12_gainOf 23 = .ok (.iconst 2, 1) := by decide +kernel
theorem dX12_gainOf_24 : decode cX12_gainOf 24 = .ok (.invokevirtual 84, 3) := by decide +kernel
theorem dX12_gainOf_27 : decode cX12_gainOf 27 = .ok (.iload 5, 2) := by decide +kernel
theorem dX12_gainOf_29 : decode cX12_gainOf 29 = .ok (.if_icmp .ge 12, 3) := by decide +kernel
theorem dX12_gainOf_32 : decode cX12_gainOf 32 = .ok (.aload_n 0, 1) := by decide +kernel
theorem dX12_gainOf_33 : decode cX12_gainOf 33 = .ok (.iload_n 1, 1) := by decide +kernel
theorem dX12_gainOf_34 : decode cX12_gainOf 34 = .ok (.iconst 2, 1) := by decide +kernel
theorem dX12_gainOf_35 : decode cX12_gainOf 35 = .ok (.invokevirtual 84, 3) := by decide +kernel
theorem dX12_gainOf_38 : decode cX12_gainOf 38 = .ok (.goto 5, 3) := by decide +kernel
theorem dX12_gainOf_41 : decode cX12_gainOf 41 = .ok (.iload 5, 2) := by decide +kernel
theorem dX12_gainOf_43 : decode cX12_gainOf 43 = .ok (.istore 6, 2) := by decide +kernel
theorem dX12_gainOf_45 : decode cX12_gainOf 45 = .ok (.iload 6, 2) := by decide +kernel
theorem dX12_gainOf_47 : decode cX12_gainOf 47 = .ok (.bipush 100, 2) := by decide +kernel
theorem dX12_gainOf_49 : decode cX12_gainOf 49 = .ok (.aload_n 0, 1) := by decide +kernel
theorem dX12_gainOf_50 : decode cX12_gainOf 50 = .ok (.getfield 7, 3) := by decide +kernel
theorem dX12_gainOf_53 : decode cX12_gainOf 53 = .ok (.bipush 7, 2) := by decide +kernel
theorem dX12_gainOf_55 : decode cX12_gainOf 55 = .ok (.iaload, 1) := by decide +kernel
theorem dX12_gainOf_56 : decode cX12_gainOf 56 = .ok (.isub, 1) := by decide +kernel
theorem dX12_gainOf_57 : decode cX12_gainOf 57 = .ok (.imul, 1) := by decide +kernel
theorem dX12_gainOf_58 : decode cX12_gainOf 58 = .ok (.bipush 100, 2) := by decide +kernel
theorem dX12_gainOf_60 : decode cX12_gainOf 60 = .ok (.idiv, 1) := by decide +kernel
theorem dX12_gainOf_61 : decode cX12_gainOf 61 = .ok (.istore 7, 2) := by decide +kernel
theorem dX12_gainOf_63 : decode cX12_gainOf 63 = .ok (.bipush 20, 2) := by decide +kernel
theorem dX12_gainOf_65 : decode cX12_gainOf 65 = .ok (.iload_n 3, 1) := by decide +kernel
theorem dX12_gainOf_66 : decode cX12_gainOf 66 = .ok (.imul, 1) := by decide +kernel
theorem dX12_gainOf_67 : decode cX12_gainOf 67 = .ok (.bipush 19, 2) := by decide +kernel
theorem dX12_gainOf_69 : decode cX12_gainOf 69 = .ok (.iload 4, 2) := by decide +kernel
theorem dX12_gainOf_71 : decode cX12_gainOf 71 = .ok (.imul, 1) := by decide +kernel
theorem dX12_gainOf_72 : decode cX12_gainOf 72 = .ok (.if_icmp .lt 10, 3) := by decide +kernel
theorem dX12_gainOf_75 : decode cX12_gainOf 75 = .ok (.iload 7, 2) := by decide +kernel
theorem dX12_gainOf_77 : decode cX12_gainOf 77 = .ok (.iconst 4, 1) := by decide +kernel
theorem dX12_gainOf_78 : decode cX12_gainOf 78 = .ok (.idiv, 1) := by decide +kernel
theorem dX12_gainOf_79 : decode cX12_gainOf 79 = .ok (.goto 22, 3) := by decide +kernel
theorem dX12_gainOf_82 : decode cX12_gainOf 82 = .ok (.iconst 5, 1) := by decide +kernel
theorem dX12_gainOf_83 : decode cX12_gainOf 83 = .ok (.iload_n 3, 1) := by decide +kernel
theorem dX12_gainOf_84 : decode cX12_gainOf 84 = .ok (.imul, 1) := by decide +kernel
theorem dX12_gainOf_85 : decode cX12_gainOf 85 = .ok (.iconst 4, 1) := by decide +kernel
theorem dX12_gainOf_86 : decode cX12_gainOf 86 = .ok (.iload 4, 2) := by decide +kernel
theorem dX12_gainOf_88 : decode cX12_gainOf 88 = .ok (.imul, 1) := by decide +kernel
theorem dX12_gainOf_89 : decode cX12_gainOf 89 = .ok (.if_icmp .lt 10, 3) := by decide +kernel
theorem dX12_gainOf_92 : decode cX12_gainOf 92 = .ok (.iload 7, 2) := by decide +kernel
theorem dX12_gainOf_94 : decode cX12_gainOf 94 = .ok (.iconst 2, 1) := by decide +kernel
theorem dX12_gainOf_95 : decode cX12_gainOf 95 = .ok (.idiv, 1) := by decide +kernel
theorem dX12_gainOf_96 : decode cX12_gainOf 96 = .ok (.goto 5, 3) := by decide +kernel
theorem dX12_gainOf_99 : decode cX12_gainOf 99 = .ok (.iload 7, 2) := by decide +kernel
theorem dX12_gainOf_101 : decode cX12_gainOf 101 = .ok (.istore 7, 2) := by decide +kernel
theorem dX12_gainOf_103 : decode cX12_gainOf 103 = .ok (.iload 7, 2) := by decide +kernel
theorem dX12_gainOf_105 : decode cX12_gainOf 105 = .ok (.iconst 1, 1) := by decide +kernel
theorem dX12_gainOf_106 : decode cX12_gainOf 106 = .ok (.if_icmp .ge 7, 3) := by decide +kernel
theorem dX12_gainOf_109 : decode cX12_gainOf 109 = .ok (.iconst 1, 1) := by decide +kernel
theorem dX12_gainOf_110 : decode cX12_gainOf 110 = .ok (.goto 5, 3) := by decide +kernel
theorem dX12_gainOf_113 : decode cX12_gainOf 113 = .ok (.iload 7, 2) := by decide +kernel
theorem dX12_gainOf_115 : decode cX12_gainOf 115 = .ok (.istore 7, 2) := by decide +kernel
theorem dX12_gainOf_117 : decode cX12_gainOf 117 = .ok (.iload 7, 2) := by decide +kernel
theorem dX12_gainOf_119 : decode cX12_gainOf 119 = .ok (.iload 4, 2) := by decide +kernel
theorem dX12_gainOf_121 : decode cX12_gainOf 121 = .ok (.iload_n 3, 1) := by decide +kernel
theorem dX12_gainOf_122 : decode cX12_gainOf 122 = .ok (.isub, 1) := by decide +kernel
theorem dX12_gainOf_123 : decode cX12_gainOf 123 = .ok (.if_icmp .ge 8, 3) := by decide +kernel
theorem dX12_gainOf_126 : decode cX12_gainOf 126 = .ok (.iload 7, 2) := by decide +kernel
theorem dX12_gainOf_128 : decode cX12_gainOf 128 = .ok (.goto 7, 3) := by decide +kernel
theorem dX12_gainOf_131 : decode cX12_gainOf 131 = .ok (.iload 4, 2) := by decide +kernel
theorem dX12_gainOf_133 : decode cX12_gainOf 133 = .ok (.iload_n 3, 1) := by decide +kernel
theorem dX12_gainOf_134 : decode cX12_gainOf 134 = .ok (.isub, 1) := by decide +kernel
theorem dX12_gainOf_135 : decode cX12_gainOf 135 = .ok (.ireturn, 1) := by decide +kernel
theorem dX12_gain_0 : decode cX12_gain 0 = .ok (.aload_n 0, 1) := by decide +kernel
theorem dX12_gain_1 : decode cX12_gain 1 = .ok (.iload_n 1, 1) := by decide +kernel
theorem dX12_gain_2 : decode cX12_gain 2 = .ok (.invokevirtual 88, 3) := by decide +kernel
theorem dX12_gain_5 : decode cX12_gain 5 = .ok (.ifCond .eq 35, 3) := by decide +kernel
theorem dX12_gain_8 : decode cX12_gain 8 = .ok (.aload_n 0, 1) := by decide +kernel
theorem dX12_gain_9 : decode cX12_gain 9 = .ok (.iload_n 2, 1) := by decide +kernel
theorem dX12_gain_10 : decode cX12_gain 10 = .ok (.invokevirtual 98, 3) := by decide +kernel
theorem dX12_gain_13 : decode cX12_gain 13 = .ok (.ifCond .eq 27, 3) := by decide +kernel
theorem dX12_gain_16 : decode cX12_gain 16 = .ok (.iload_n 3, 1) := by decide +kernel
theorem dX12_gain_17 : decode cX12_gain 17 = .ok (.iconst 0, 1) := by decide +kernel
theorem dX12_gain_18 : decode cX12_gain 18 = .ok (.aload_n 0, 1) := by decide +kernel
theorem dX12_gain_19 : decode cX12_gain 19 = .ok (.iload_n 1, 1) := by decide +kernel
theorem dX12_gain_20 : decode cX12_gain 20 = .ok (.iconst 0, 1) := by decide +kernel
theorem dX12_gain_21 : decode cX12_gain 21 = .ok (.invokevirtual 84, 3) := by decide +kernel
theorem dX12_gain_24 : decode cX12_gain 24 = .ok (.invokestatic 76, 3) := by decide +kernel
theorem dX12_gain_27 : decode cX12_gain 27 = .ok (.ifCond .eq 13, 3) := by decide +kernel
theorem dX12_gain_30 : decode cX12_gain 30 = .ok (.aload_n 0, 1) := by decide +kernel
theorem dX12_gain_31 : decode cX12_gain 31 = .ok (.iload_n 1, 1) := by decide +kernel
theorem dX12_gain_32 : decode cX12_gain 32 = .ok (.iload_n 2, 1) := by decide +kernel
theorem dX12_gain_33 : decode cX12_gain 33 = .ok (.iload_n 3, 1) := by decide +kernel
theorem dX12_gain_34 : decode cX12_gain 34 = .ok (.invokevirtual 101, 3) := by decide +kernel
theorem dX12_gain_37 : decode cX12_gain 37 = .ok (.goto 4, 3) := by decide +kernel
theorem dX12_gain_40 : decode cX12_gain 40 = .ok (.iconst (-1), 1) := by decide +kernel
theorem dX12_gain_41 : decode cX12_gain 41 = .ok (.ireturn, 1) := by decide +kernel
theorem dX12_placeOf_0 : decode cX12_placeOf 0 = .ok (.aload_n 0, 1) := by decide +kernel
theorem dX12_placeOf_1 : decode cX12_placeOf 1 = .ok (.iload_n 1, 1) := by decide +kernel
theorem dX12_placeOf_2 : decode cX12_placeOf 2 = .ok (.iconst 5, 1) := by decide +kernel
theorem dX12_placeOf_3 : decode cX12_placeOf 3 = .ok (.invokevirtual 84, 3) := by decide +kernel
theorem dX12_placeOf_6 : decode cX12_placeOf 6 = .ok (.istore_n 2, 1) := by decide +kernel
theorem dX12_placeOf_7 : decode cX12_placeOf 7 = .ok (.iload_n 2, 1) := by decide +kernel
theorem dX12_placeOf_8 : decode cX12_placeOf 8 = .ok (.bipush 100, 2) := by decide +kernel
theorem dX12_placeOf_10 : decode cX12_placeOf 10 = .ok (.sipush 199, 3) := by decide +kernel
theorem dX12_placeOf_13 : decode cX12_placeOf 13 = .ok (.invokestatic 76, 3) := by decide +kernel
theorem dX12_placeOf_16 : decode cX12_placeOf 16 = .ok (.ifCond .ne 6, 3) := by decide +kernel
theorem dX12_placeOf_19 : decode cX12_placeOf 19 = .ok (.bipush (-3), 2) := by decide +kernel
theorem dX12_placeOf_21 : decode cX12_placeOf 21 = .ok (.ireturn, 1) := by decide +kernel
theorem dX12_placeOf_22 : decode cX12_placeOf 22 = .ok (.bipush 12, 2) := by decide +kernel
theorem dX12_placeOf_24 : decode cX12_placeOf 24 = .ok (.iload_n 2, 1) := by decide +kernel
theorem dX12_placeOf_25 : decode cX12_placeOf 25 = .ok (.bipush 100, 2) := by decide +kernel
theorem dX12_placeOf_27 : decode cX12_placeOf 27 = .ok (.isub, 1) := by decide +kernel
theorem dX12_placeOf_28 : decode cX12_placeOf 28 = .ok (.imul, 1) := by decide +kernel
theorem dX12_placeOf_29 : decode cX12_placeOf 29 = .ok (.istore_n 3, 1) := by decide +kernel
theorem dX12_placeOf_30 : decode cX12_placeOf 30 = .ok (.aload_n 0, 1) := by decide +kernel
theorem dX12_placeOf_31 : decode cX12_placeOf 31 = .ok (.getfield 16, 3) := by decide +kernel
theorem dX12_placeOf_34 : decode cX12_placeOf 34 = .ok (.iload_n 3, 1) := by decide +kernel
theorem dX12_placeOf_35 : decode cX12_placeOf 35 = .ok (.iaload, 1) := by decide +kernel
theorem dX12_placeOf_36 : decode cX12_placeOf 36 = .ok (.iload_n 1, 1) := by decide +kernel
theorem dX12_placeOf_37 : decode cX12_placeOf 37 = .ok (.if_icmp .eq 9, 3) := by decide +kernel
theorem dX12_placeOf_40 : decode cX12_placeOf 40 = .ok (.iinc 3 1, 3) := by decide +kernel
theorem dX12_placeOf_43 : decode cX12_placeOf 43 = .ok (.goto (-13), 3) := by decide +kernel
theorem dX12_placeOf_46 : decode cX12_placeOf 46 = .ok (.iload_n 3, 1) := by decide +kernel
theorem dX12_placeOf_47 : decode cX12_placeOf 47 = .ok (.bipush 12, 2) := by decide +kernel
theorem dX12_placeOf_49 : decode cX12_placeOf 49 = .ok (.irem, 1) := by decide +kernel
theorem dX12_placeOf_50 : decode cX12_placeOf 50 = .ok (.ireturn, 1) := by decide +kernel
theorem dX12_of_0 : decode cX12_of 0 = .ok (.aload_n 0, 1) := by decide +kernel
theorem dX12_of_1 : decode cX12_of 1 = .ok (.iload_n 1, 1) := by decide +kernel
theorem dX12_of_2 : decode cX12_of 2 = .ok (.invokevirtual 88, 3) := by decide +kernel
theorem dX12_of_5 : decode cX12_of 5 = .ok (.ifCond .ne 5, 3) := by decide +kernel
theorem dX12_of_8 : decode cX12_of 8 = .ok (.iconst (-1), 1) := by decide +kernel
theorem dX12_of_9 : decode cX12_of 9 = .ok (.ireturn, 1) := by decide +kernel
theorem dX12_of_10 : decode cX12_of 10 = .ok (.iload_n 2, 1) := by decide +kernel
theorem dX12_of_11 : decode cX12_of 11 = .ok (.tableswitch 105 0 7 #[45, 52, 59, 67, 75, 83, 91, 99], 45) := by decide +kernel
theorem dX12_of_56 : decode cX12_of 56 = .ok (.aload_n 0, 1) := by decide +kernel
theorem dX12_of_57 : decode cX12_of 57 = .ok (.iload_n 1, 1) := by decide +kernel
theorem dX12_of_58 : decode cX12_of 58 = .ok (.iconst 4, 1) := by decide +kernel
theorem dX12_of_59 : decode cX12_of 59 = .ok (.invokevirtual 84, 3) := by decide +kernel
theorem dX12_of_62 : decode cX12_of 62 = .ok (.ireturn, 1) := by decide +kernel
theorem dX12_of_63 : decode cX12_of 63 = .ok (.aload_n 0, 1) := by decide +kernel
theorem dX12_of_64 : decode cX12_of 64 = .ok (.iload_n 1, 1) := by decide +kernel
theorem dX12_of_65 : decode cX12_of 65 = .ok (.iconst 5, 1) := by decide +kernel
theorem dX12_of_66 : decode cX12_of 66 = .ok (.invokevirtual 84, 3) := by decide +kernel
theorem dX12_of_69 : decode cX12_of 69 = .ok (.ireturn, 1) := by decide +kernel
theorem dX12_of_70 : decode cX12_of 70 = .ok (.aload_n 0, 1) := by decide +kernel
theorem dX12_of_71 : decode cX12_of 71 = .ok (.iload_n 1, 1) := by decide +kernel
theorem dX12_of_72 : decode cX12_of 72 = .ok (.bipush 6, 2) := by decide +kernel
theorem dX12_of_74 : decode cX12_of 74 = .ok (.invokevirtual 84, 3) := by decide +kernel
theorem dX12_of_77 : decode cX12_of 77 = .ok (.ireturn, 1) := by decide +kernel
theorem dX12_of_78 : decode cX12_of 78 = .ok (.aload_n 0, 1) := by decide +kernel
theorem dX12_of_79 : decode cX12_of 79 = .ok (.iload_n 1, 1) := by decide +kernel
theorem dX12_of_80 : decode cX12_of 80 = .ok (.bipush 8, 2) := by decide +kernel
theorem dX12_of_82 : decode cX12_of 82 = .ok (.invokevirtual 84, 3) := by decide +kernel
theorem dX12_of_85 : decode cX12_of 85 = .ok (.ireturn, 1) := by decide +kernel
theorem dX12_of_86 : decode cX12_of 86 = .ok (.aload_n 0, 1) := by decide +kernel
theorem dX12_of_87 : decode cX12_of 87 = .ok (.iload_n 1, 1) := by decide +kernel
theorem dX12_of_88 : decode cX12_of 88 = .ok (.bipush 9, 2) := by decide +kernel
theorem dX12_of_90 : decode cX12_of 90 = .ok (.invokevirtual 84, 3) := by decide +kernel
theorem dX12_of_93 : decode cX12_of 93 = .ok (.ireturn, 1) := by decide +kernel
theorem dX12_of_94 : decode cX12_of 94 = .ok (.aload_n 0, 1) := by decide +kernel
theorem dX12_of_95 : decode cX12_of 95 = .ok (.iload_n 1, 1) := by decide +kernel
theorem dX12_of_96 : decode cX12_of 96 = .ok (.bipush 10, 2) := by decide +kernel
theorem dX12_of_98 : decode cX12_of 98 = .ok (.invokevirtual 84, 3) := by decide +kernel
theorem dX12_of_101 : decode cX12_of 101 = .ok (.ireturn, 1) := by decide +kernel
theorem dX12_of_102 : decode cX12_of 102 = .ok (.aload_n 0, 1) := by decide +kernel
theorem dX12_of_103 : decode cX12_of 103 = .ok (.iload_n 1, 1) := by decide +kernel
theorem dX12_of_104 : decode cX12_of 104 = .ok (.bipush 11, 2) := by decide +kernel
theorem dX12_of_106 : decode cX12_of 106 = .ok (.invokevirtual 84, 3) := by decide +kernel
theorem dX12_of_109 : decode cX12_of 109 = .ok (.ireturn, 1) := by decide +kernel
theorem dX12_of_110 : decode cX12_of 110 = .ok (.aload_n 0, 1) := by decide +kernel
theorem dX12_of_111 : decode cX12_of 111 = .ok (.iload_n 1, 1) := by decide +kernel
theorem dX12_of_112 : decode cX12_of 112 = .ok (.invokevirtual 105, 3) := by decide +kernel
theorem dX12_of_115 : decode cX12_of 115 = .ok (.ireturn, 1) := by decide +kernel
theorem dX12_of_116 : decode cX12_of 116 = .ok (.iconst (-1), 1) := by decide +kernel
theorem dX12_of_117 : decode cX12_of 117 = .ok (.ireturn, 1) := by decide +kernel
theorem dX12_latestTry_0 : decode cX12_latestTry 0 = .ok (.iload_n 2, 1) := by decide +kernel
theorem dX12_latestTry_1 : decode cX12_latestTry 1 = .ok (.iconst 1, 1) := by decide +kernel
theorem dX12_latestTry_2 : decode cX12_latestTry 2 = .ok (.isub, 1) := by decide +kernel
theorem dX12_latestTry_3 : decode cX12_latestTry 3 = .ok (.istore_n 3, 1) := by decide +kernel
theorem dX12_latestTry_4 : decode cX12_latestTry 4 = .ok (.iload_n 3, 1) := by decide +kernel
theorem dX12_latestTry_5 : decode cX12_latestTry 5 = .ok (.ifCond .lt 21, 3) := by decide +kernel
theorem dX12_latestTry_8 : decode cX12_latestTry 8 = .ok (.aload_n 0, 1) := by decide +kernel
theorem dX12_latestTry_9 : decode cX12_latestTry 9 = .ok (.getfield 28, 3) := by decide +kernel
theorem dX12_latestTry_12 : decode cX12_latestTry 12 = .ok (.iconst 4, 1) := by decide +kernel
theorem dX12_latestTry_13 : decode cX12_latestTry 13 = .ok (.iload_n 3, 1) := by decide +kernel
theorem dX12_latestTry_14 : decode cX12_latestTry 14 = .ok (.imul, 1) := by decide +kernel
theorem dX12_latestTry_15 : decode cX12_latestTry 15 = .ok (.iaload, 1) := by decide +kernel
theorem dX12_latestTry_16 : decode cX12_latestTry 16 = .ok (.iload_n 1, 1) := by decide +kernel
theorem dX12_latestTry_17 : decode cX12_latestTry 17 = .ok (.if_icmp .eq 9, 3) := by decide +kernel
theorem dX12_latestTry_20 : decode cX12_latestTry 20 = .ok (.iinc 3 (-1), 3) := by decide +kernel
theorem dX12_latestTry_23 : decode cX12_latestTry 23 = .ok (.goto (-19), 3) := by decide +kernel
theorem dX12_latestTry_26 : decode cX12_latestTry 26 = .ok (.iload_n 3, 1) := by decide +kernel
theorem dX12_latestTry_27 : decode cX12_latestTry 27 = .ok (.ireturn, 1) := by decide +kernel
theorem dX12_isBroken_0 : decode cX12_isBroken 0 = .ok (.aload_n 0, 1) := by decide +kernel
theorem dX12_isBroken_1 : decode cX12_isBroken 1 = .ok (.iload_n 1, 1) := by decide +kernel
theorem dX12_isBroken_2 : decode cX12_isBroken 2 = .ok (.aload_n 0, 1) := by decide +kernel
theorem dX12_isBroken_3 : decode cX12_isBroken 3 = .ok (.getfield 7, 3) := by decide +kernel
theorem dX12_isBroken_6 : decode cX12_isBroken 6 = .ok (.iconst 4, 1) := by decide +kernel
theorem dX12_isBroken_7 : decode cX12_isBroken 7 = .ok (.iaload, 1) := by decide +kernel
theorem dX12_isBroken_8 : decode cX12_isBroken 8 = .ok (.invokevirtual 108, 3) := by decide +kernel
theorem dX12_isBroken_11 : decode cX12_isBroken 11 = .ok (.istore_n 2, 1) := by decide +kernel
theorem dX12_isBroken_12 : decode cX12_isBroken 12 = .ok (.iconst (-1), 1) := by decide +kernel
theorem dX12_isBroken_13 : decode cX12_isBroken 13 = .ok (.istore_n 3, 1) := by decide +kernel
theorem dX12_isBroken_14 : decode cX12_isBroken 14 = .ok (.iconst 0, 1) := by decide +kernel
theorem dX12_isBroken_15 : decode cX12_isBroken 15 = .ok (.istore 4, 2) := by decide +kernel
theorem dX12_isBroken_17 : decode cX12_isBroken 17 = .ok (.iload_n 2, 1) := by decide +kernel
theorem dX12_isBroken_18 : decode cX12_isBroken 18 = .ok (.ifCond .lt 72, 3) := by decide +kernel
theorem dX12_isBroken_21 : decode cX12_isBroken 21 = .ok (.aload_n 0, 1) := by decide +kernel
theorem dX12_isBroken_22 : decode cX12_isBroken 22 = .ok (.getfield 28, 3) := by decide +kernel
theorem dX12_isBroken_25 : decode cX12_isBroken 25 = .ok (.iconst 4, 1) := by decide +kernel
theorem dX12_isBroken_26 : decode cX12_isBroken 26 = .ok (.iload_n 2, 1) := by decide +kernel
theorem dX12_isBroken_27 : decode cX12_isBroken 27 = .ok (.imul, 1) := by decide +kernel
theorem dX12_isBroken_28 : decode cX12_isBroken 28 = .ok (.iconst 3, 1) := by decide +kernel
theorem dX12_isBroken_29 : decode cX12_isBroken 29 = .ok (.iadd, 1) := by decide +kernel
theorem dX12_isBroken_30 : decode cX12_isBroken 30 = .ok (.iaload, 1) := by decide +kernel
theorem dX12_isBroken_31 : decode cX12_isBroken 31 = .ok (.iconst 1, 1) := by decide +kernel
theorem dX12_isBroken_32 : decode cX12_isBroken 32 = .ok (.if_icmp .ne 58, 3) := by decide +kernel
theorem dX12_isBroken_35 : decode cX12_isBroken 35 = .ok (.iload_n 3, 1) := by decide +kernel
theorem dX12_isBroken_36 : decode cX12_isBroken 36 = .ok (.ifCond .ge 16, 3) := by decide +kernel
theorem dX12_isBroken_39 : decode cX12_isBroken 39 = .ok (.aload_n 0, 1) := by decide +kernel
theorem dX12_isBroken_40 : decode cX12_isBroken 40 = .ok (.getfield 28, 3) := by decide +kernel
theorem dX12_isBroken_43 : decode cX12_isBroken 43 = .ok (.iconst 4, 1) := by decide +kernel
theorem dX12_isBroken_44 : decode cX12_isBroken 44 = .ok (.iload_n 2, 1) := by decide +kernel
theorem dX12_isBroken_45 : decode cX12_isBroken 45 = .ok (.imul, 1) := by decide +kernel
theorem dX12_isBroken_46 : decode cX12_isBroken 46 = .ok (.iconst 1, 1) := by decide +kernel
theorem dX12_isBroken_47 : decode cX12_isBroken 47 = .ok (.iadd, 1) := by decide +kernel
theorem dX12_isBroken_48 : decode cX12_isBroken 48 = .ok (.iaload, 1) := by decide +kernel
theorem dX12_isBroken_49 : decode cX12_isBroken 49 = .ok (.goto 4, 3) := by decide +kernel
theorem dX12_isBroken_52 : decode cX12_isBroken 52 = .ok (.iload_n 3, 1) := by decide +kernel
theorem dX12_isBroken_53 : decode cX12_isBroken 53 = .ok (.istore_n 3, 1) := by decide +kernel
theorem dX12_isBroken_54 : decode cX12_isBroken 54 = .ok (.iload 4, 2) := by decide +kernel
theorem dX12_isBroken_56 : decode cX12_isBroken 56 = .ok (.ifCond .ne 17, 3) := by decide +kernel
theorem dX12_isBroken_59 : decode cX12_isBroken 59 = .ok (.aload_n 0, 1) := by decide +kernel
theorem dX12_isBroken_60 : decode cX12_isBroken 60 = .ok (.getfield 28, 3) := by decide +kernel
theorem dX12_isBroken_63 : decode cX12_isBroken 63 = .ok (.iconst 4, 1) := by decide +kernel
theorem dX12_isBroken_64 : decode cX12_isBroken 64 = .ok (.iload_n 2, 1) := by decide +kernel
theorem dX12_isBroken_65 : decode cX12_isBroken 65 = .ok (.imul, 1) := by decide +kernel
theorem dX12_isBroken_66 : decode cX12_isBroken 66 = .ok (.iconst 1, 1) := by decide +kernel
theorem dX12_isBroken_67 : decode cX12_isBroken 67 = .ok (.iadd, 1) := by decide +kernel
theorem dX12_isBroken_68 : decode cX12_isBroken 68 = .ok (.iaload, 1) := by decide +kernel
theorem dX12_isBroken_69 : decode cX12_isBroken 69 = .ok (.iload_n 3, 1) := by decide +kernel
theorem dX12_isBroken_70 : decode cX12_isBroken 70 = .ok (.if_icmp .eq 7, 3) := by decide +kernel
theorem dX12_isBroken_73 : decode cX12_isBroken 73 = .ok (.iconst 1, 1) := by decide +kernel
theorem dX12_isBroken_74 : decode cX12_isBroken 74 = .ok (.goto 4, 3) := by decide +kernel
theorem dX12_isBroken_77 : decode cX12_isBroken 77 = .ok (.iconst 0, 1) := by decide +kernel
theorem dX12_isBroken_78 : decode cX12_isBroken 78 = .ok (.istore 4, 2) := by decide +kernel
theorem dX12_isBroken_80 : decode cX12_isBroken 80 = .ok (.aload_n 0, 1) := by decide +kernel
theorem dX12_isBroken_81 : decode cX12_isBroken 81 = .ok (.iload_n 1, 1) := by decide +kernel
theorem dX12_isBroken_82 : decode cX12_isBroken 82 = .ok (.iload_n 2, 1) := by decide +kernel
theorem dX12_isBroken_83 : decode cX12_isBroken 83 = .ok (.invokevirtual 108, 3) := by decide +kernel
theorem dX12_isBroken_86 : decode cX12_isBroken 86 = .ok (.istore_n 2, 1) := by decide +kernel
theorem dX12_isBroken_87 : decode cX12_isBroken 87 = .ok (.goto (-70), 3) := by decide +kernel
theorem dX12_isBroken_90 : decode cX12_isBroken 90 = .ok (.iload 4, 2) := by decide +kernel
theorem dX12_isBroken_92 : decode cX12_isBroken 92 = .ok (.ireturn, 1) := by decide +kernel
theorem dX12_addTry_0 : decode cX12_addTry 0 = .ok (.aload_n 0, 1) := by decide +kernel
theorem dX12_addTry_1 : decode cX12_addTry 1 = .ok (.getfield 7, 3) := by decide +kernel
theorem dX12_addTry_4 : decode cX12_addTry 4 = .ok (.iconst 4, 1) := by decide +kernel
theorem dX12_addTry_5 : decode cX12_addTry 5 = .ok (.iaload, 1) := by decide +kernel
theorem dX12_addTry_6 : decode cX12_addTry 6 = .ok (.bipush 60, 2) := by decide +kernel
theorem dX12_addTry_8 : decode cX12_addTry 8 = .ok (.if_icmp .ne 46, 3) := by decide +kernel
theorem dX12_addTry_11 : decode cX12_addTry 11 = .ok (.iconst 0, 1) := by decide +kernel
theorem dX12_addTry_12 : decode cX12_addTry 12 = .ok (.istore 4, 2) := by decide +kernel
theorem dX12_addTry_14 : decode cX12_addTry 14 = .ok (.iload 4, 2) := by decide +kernel
theorem dX12_addTry_16 : decode cX12_addTry 16 = .ok (.sipush 236, 3) := by decide +kernel
theorem dX12_addTry_19 : decode cX12_addTry 19 = .ok (.if_icmp .ge 25, 3) := by decide +kernel
theorem dX12_addTry_22 : decode cX12_addTry 22 = .ok (.aload_n 0, 1) := by decide +kernel
theorem dX12_addTry_23 : decode cX12_addTry 23 = .ok (.getfield 28, 3) := by decide +kernel
theorem dX12_addTry_26 : decode cX12_addTry 26 = .ok (.iload 4, 2) := by decide +kernel
theorem dX12_addTry_28 : decode cX12_addTry 28 = .ok (.aload_n 0, 1) := by decide +kernel
theorem dX12_addTry_29 : decode cX12_addTry 29 = .ok (.getfield 28, 3) := by decide +kernel
theorem dX12_addTry_32 : decode cX12_addTry 32 = .ok (.iload 4, 2) := by decide +kernel
theorem dX12_addTry_34 : decode cX12_addTry 34 = .ok (.iconst 4, 1) := by decide +kernel
theorem dX12_addTry_35 : decode cX12_addTry 35 = .ok (.iadd, 1) := by decide +kernel
theorem dX12_addTry_36 : decode cX12_addTry 36 = .ok (.iaload, 1) := by decide +kernel
theorem dX12_addTry_37 : decode cX12_addTry 37 = .ok (.iastore, 1) := by decide +kernel
theorem dX12_addTry_38 : decode cX12_addTry 38 = .ok (.iinc 4 1, 3) := by decide +kernel
theorem dX12_addTry_41 : decode cX12_addTry 41 = .ok (.goto (-27), 3) := by decide +kernel
theorem dX12_addTry_44 : decode cX12_addTry 44 = .ok (.aload_n 0, 1) := by decide +kernel
theorem dX12_addTry_45 : decode cX12_addTry 45 = .ok (.getfield 7, 3) := by decide +kernel
theorem dX12_addTry_48 : decode cX12_addTry 48 = .ok (.iconst 4, 1) := by decide +kernel
theorem dX12_addTry_49 : decode cX12_addTry 49 = .ok (.dup2, 1) := by decide +kernel
theorem dX12_addTry_50 : decode cX12_addTry 50 = .ok (.iaload, 1) := by decide +kernel
theorem dX12_addTry_51 : decode cX12_addTry 51 = .ok (.iconst 1, 1) := by decide +kernel
theorem dX12_addTry_52 : decode cX12_addTry 52 = .ok (.isub, 1) := by decide +kernel
theorem dX12_addTry_53 : decode cX12_addTry 53 = .ok (.iastore, 1) := by decide +kernel
theorem dX12_addTry_54 : decode cX12_addTry 54 = .ok (.iconst 4, 1) := by decide +kernel
theorem dX12_addTry_55 : decode cX12_addTry 55 = .ok (.aload_n 0, 1) := by decide +kernel
theorem dX12_addTry_56 : decode cX12_addTry 56 = .ok (.getfield 7, 3) := by decide +kernel
theorem dX12_addTry_59 : decode cX12_addTry 59 = .ok (.iconst 4, 1) := by decide +kernel
theorem dX12_addTry_60 : decode cX12_addTry 60 = .ok (.iaload, 1) := by decide +kernel
theorem dX12_addTry_61 : decode cX12_addTry 61 = .ok (.imul, 1) := by decide +kernel
theorem dX12_addTry_62 : decode cX12_addTry 62 = .ok (.istore 4, 2) := by decide +kernel
theorem dX12_addTry_64 : decode cX12_addTry 64 = .ok (.aload_n 0, 1) := by decide +kernel
theorem dX12_addTry_65 : decode cX12_addTry 65 = .ok (.getfield 28, 3) := by decide +kernel
theorem dX12_addTry_68 : decode cX12_addTry 68 = .ok (.iload 4, 2) := by decide +kernel
theorem dX12_addTry_70 : decode cX12_addTry 70 = .ok (.iload_n 1, 1) := by decide +kernel
theorem dX12_addTry_71 : decode cX12_addTry 71 = .ok (.iastore, 1) := by decide +kernel
theorem dX12_addTry_72 : decode cX12_addTry 72 = .ok (.aload_n 0, 1) := by decide +kernel
theorem dX12_addTry_73 : decode cX12_addTry 73 = .ok (.getfield 28, 3) := by decide +kernel
theorem dX12_addTry_76 : decode cX12_addTry 76 = .ok (.iload 4, 2) := by decide +kernel
theorem dX12_addTry_78 : decode cX12_addTry 78 = .ok (.iconst 1, 1) := by decide +kernel
theorem dX12_addTry_79 : decode cX12_addTry 79 = .ok (.iadd, 1) := by decide +kernel
theorem dX12_addTry_80 : decode cX12_addTry 80 = .ok (.iload_n 2, 1) := by decide +kernel
theorem dX12_addTry_81 : decode cX12_addTry 81 = .ok (.iastore, 1) := by decide +kernel
theorem dX12_addTry_82 : decode cX12_addTry 82 = .ok (.aload_n 0, 1) := by decide +kernel
theorem dX12_addTry_83 : decode cX12_addTry 83 = .ok (.getfield 28, 3) := by decide +kernel
theorem dX12_addTry_86 : decode cX12_addTry 86 = .ok (.iload 4, 2) := by decide +kernel
theorem dX12_addTry_88 : decode cX12_addTry 88 = .ok (.iconst 2, 1) := by decide +kernel
theorem dX12_addTry_89 : decode cX12_addTry 89 = .ok (.iadd, 1) := by decide +kernel
theorem dX12_addTry_90 : decode cX12_addTry 90 = .ok (.aload_n 0, 1) := by decide +kernel
theorem dX12_addTry_91 : decode cX12_addTry 91 = .ok (.getfield 7, 3) := by decide +kernel
theorem dX12_addTry_94 : decode cX12_addTry 94 = .ok (.iconst 0, 1) := by decide +kernel
theorem dX12_addTry_95 : decode cX12_addTry 95 = .ok (.iaload, 1) := by decide +kernel
theorem dX12_addTry_96 : decode cX12_addTry 96 = .ok (.iastore, 1) := by decide +kernel
theorem dX12_addTry_97 : decode cX12_addTry 97 = .ok (.aload_n 0, 1) := by decide +kernel
theorem dX12_addTry_98 : decode cX12_addTry 98 = .ok (.getfield 28, 3) := by decide +kernel
theorem dX12_addTry_101 : decode cX12_addTry 101 = .ok (.iload 4, 2) := by decide +kernel
theorem dX12_addTry_103 : decode cX12_addTry 103 = .ok (.iconst 3, 1) := by decide +kernel
theorem dX12_addTry_104 : decode cX12_addTry 104 = .ok (.iadd, 1) := by decide +kernel
theorem dX12_addTry_105 : decode cX12_addTry 105 = .ok (.iload_n 3, 1) := by decide +kernel
theorem dX12_addTry_106 : decode cX12_addTry 106 = .ok (.ifCond .eq 7, 3) := by decide +kernel
theorem dX12_addTry_109 : decode cX12_addTry 109 = .ok (.iconst 1, 1) := by decide +kernel
theorem dX12_addTry_110 : decode cX12_addTry 110 = .ok (.goto 4, 3) := by decide +kernel
theorem dX12_addTry_113 : decode cX12_addTry 113 = .ok (.iconst 0, 1) := by decide +kernel
theorem dX12_addTry_114 : decode cX12_addTry 114 = .ok (.iastore, 1) := by decide +kernel
theorem dX12_addTry_115 : decode cX12_addTry 115 = .ok (.aload_n 0, 1) := by decide +kernel
theorem dX12_addTry_116 : decode cX12_addTry 116 = .ok (.getfield 7, 3) := by decide +kernel
theorem dX12_addTry_119 : decode cX12_addTry 119 = .ok (.iconst 4, 1) := by decide +kernel
theorem dX12_addTry_120 : decode cX12_addTry 120 = .ok (.dup2, 1) := by decide +kernel
theorem dX12_addTry_121 : decode cX12_addTry 121 = .ok (.iaload, 1) := by decide +kernel
theorem dX12_addTry_122 : decode cX12_addTry 122 = .ok (.iconst 1, 1) := by decide +kernel
theorem dX12_addTry_123 : decode cX12_addTry 123 = .ok (.iadd, 1) := by decide +kernel
theorem dX12_addTry_124 : decode cX12_addTry 124 = .ok (.iastore, 1) := by decide +kernel
theorem dX12_addTry_125 : decode cX12_addTry 125 = .ok (.return_, 1) := by decide +kernel
theorem dX12_says_0 : decode cX12_says 0 = .ok (.aload_n 0, 1) := by decide +kernel
theorem dX12_says_1 : decode cX12_says 1 = .ok (.iload_n 1, 1) := by decide +kernel
theorem dX12_says_2 : decode cX12_says 2 = .ok (.invokevirtual 98, 3) := by decide +kernel
theorem dX12_says_5 : decode cX12_says 5 = .ok (.ifCond .ne 5, 3) := by decide +kernel
theorem dX12_says_8 : decode cX12_says 8 = .ok (.iconst (-1), 1) := by decide +kernel
theorem dX12_says_9 : decode cX12_says 9 = .ok (.ireturn, 1) := by decide +kernel
theorem dX12_says_10 : decode cX12_says 10 = .ok (.iload_n 2, 1) := by decide +kernel
theorem dX12_says_11 : decode cX12_says 11 = .ok (.ifCond .eq 7, 3) := by decide +kernel
theorem dX12_says_14 : decode cX12_says 14 = .ok (.iconst 1, 1) := by decide +kernel
theorem dX12_says_15 : decode cX12_says 15 = .ok (.goto 4, 3) := by decide +kernel
theorem dX12_says_18 : decode cX12_says 18 = .ok (.iconst 0, 1) := by decide +kernel
theorem dX12_says_19 : decode cX12_says 19 = .ok (.istore_n 3, 1) := by decide +kernel
theorem dX12_says_20 : decode cX12_says 20 = .ok (.aload_n 0, 1) := by decide +kernel
theorem dX12_says_21 : decode cX12_says 21 = .ok (.getfield 19, 3) := by decide +kernel
theorem dX12_says_24 : decode cX12_says 24 = .ok (.bipush 6, 2) := by decide +kernel
theorem dX12_says_26 : decode cX12_says 26 = .ok (.iload_n 1, 1) := by decide +kernel
theorem dX12_says_27 : decode cX12_says 27 = .ok (.imul, 1) := by decide +kernel
theorem dX12_says_28 : decode cX12_says 28 = .ok (.iconst 5, 1) := by decide +kernel
theorem dX12_says_29 : decode cX12_says 29 = .ok (.iadd, 1) := by decide +kernel
theorem dX12_says_30 : decode cX12_says 30 = .ok (.iaload, 1) := by decide +kernel
theorem dX12_says_31 : decode cX12_says 31 = .ok (.iload_n 3, 1) := by decide +kernel
theorem dX12_says_32 : decode cX12_says 32 = .ok (.if_icmp .ne 7, 3) := by decide +kernel
theorem dX12_says_35 : decode cX12_says 35 = .ok (.iconst 0, 1) := by decide +kernel
theorem dX12_says_36 : decode cX12_says 36 = .ok (.goto 4, 3) := by decide +kernel
theorem dX12_says_39 : decode cX12_says 39 = .ok (.iconst 1, 1) := by decide +kernel
theorem dX12_says_40 : decode cX12_says 40 = .ok (.istore 4, 2) := by decide +kernel
theorem dX12_says_42 : decode cX12_says 42 = .ok (.aload_n 0, 1) := by decide +kernel
theorem dX12_says_43 : decode cX12_says 43 = .ok (.getfield 19, 3) := by decide +kernel
theorem dX12_says_46 : decode cX12_says 46 = .ok (.bipush 6, 2) := by decide +kernel
theorem dX12_says_48 : decode cX12_says 48 = .ok (.iload_n 1, 1) := by decide +kernel
theorem dX12_says_49 : decode cX12_says 49 = .ok (.imul, 1) := by decide +kernel
theorem dX12_says_50 : decode cX12_says 50 = .ok (.iconst 5, 1) := by decide +kernel
theorem dX12_says_51 : decode cX12_says 51 = .ok (.iadd, 1) := by decide +kernel
theorem dX12_says_52 : decode cX12_says 52 = .ok (.iload_n 3, 1) := by decide +kernel
theorem dX12_says_53 : decode cX12_says 53 = .ok (.iastore, 1) := by decide +kernel
theorem dX12_says_54 : decode cX12_says 54 = .ok (.iload 4, 2) := by decide +kernel
theorem dX12_says_56 : decode cX12_says 56 = .ok (.ireturn, 1) := by decide +kernel
theorem dX12_tried_0 : decode cX12_tried 0 = .ok (.aload_n 0, 1) := by decide +kernel
theorem dX12_tried_1 : decode cX12_tried 1 = .ok (.iload_n 1, 1) := by decide +kernel
theorem dX12_tried_2 : decode cX12_tried 2 = .ok (.invokevirtual 98, 3) := by decide +kernel
theorem dX12_tried_5 : decode cX12_tried 5 = .ok (.ifCond .eq 11, 3) := by decide +kernel
theorem dX12_tried_8 : decode cX12_tried 8 = .ok (.aload_n 0, 1) := by decide +kernel
theorem dX12_tried_9 : decode cX12_tried 9 = .ok (.iload_n 2, 1) := by decide +kernel
theorem dX12_tried_10 : decode cX12_tried 10 = .ok (.invokevirtual 88, 3) := by decide +kernel
theorem dX12_tried_13 : decode cX12_tried 13 = .ok (.ifCond .ne 5, 3) := by decide +kernel
theorem dX12_tried_16 : decode cX12_tried 16 = .ok (.iconst (-1), 1) := by decide +kernel
theorem dX12_tried_17 : decode cX12_tried 17 = .ok (.ireturn, 1) := by decide +kernel
theorem dX12_tried_18 : decode cX12_tried 18 = .ok (.aload_n 0, 1) := by decide +kernel
theorem dX12_tried_19 : decode cX12_tried 19 = .ok (.iload_n 1, 1) := by decide +kernel
theorem dX12_tried_20 : decode cX12_tried 20 = .ok (.iload_n 2, 1) := by decide +kernel
theorem dX12_tried_21 : decode cX12_tried 21 = .ok (.iload_n 3, 1) := by decide +kernel
theorem dX12_tried_22 : decode cX12_tried 22 = .ok (.invokevirtual 111, 3) := by decide +kernel
theorem dX12_tried_25 : decode cX12_tried 25 = .ok (.aload_n 0, 1) := by decide +kernel
theorem dX12_tried_26 : decode cX12_tried 26 = .ok (.getfield 7, 3) := by decide +kernel
theorem dX12_tried_29 : decode cX12_tried 29 = .ok (.iconst 4, 1) := by decide +kernel
theorem dX12_tried_30 : decode cX12_tried 30 = .ok (.iaload, 1) := by decide +kernel
theorem dX12_tried_31 : decode cX12_tried 31 = .ok (.ireturn, 1) := by decide +kernel
theorem dX12_tryOf_0 : decode cX12_tryOf 0 = .ok (.iload_n 2, 1) := by decide +kernel
theorem dX12_tryOf_1 : decode cX12_tryOf 1 = .ok (.iconst 0, 1) := by decide +kernel
theorem dX12_tryOf_2 : decode cX12_tryOf 2 = .ok (.iconst 3, 1) := by decide +kernel
theorem dX12_tryOf_3 : decode cX12_tryOf 3 = .ok (.invokestatic 76, 3) := by decide +kernel
theorem dX12_tryOf_6 : decode cX12_tryOf 6 = .ok (.ifCond .ne 5, 3) := by decide +kernel
theorem dX12_tryOf_9 : decode cX12_tryOf 9 = .ok (.iconst (-1), 1) := by decide +kernel
theorem dX12_tryOf_10 : decode cX12_tryOf 10 = .ok (.ireturn, 1) := by decide +kernel
theorem dX12_tryOf_11 : decode cX12_tryOf 11 = .ok (.iload_n 1, 1) := by decide +kernel
theorem dX12_tryOf_12 : decode cX12_tryOf 12 = .ok (.iconst 0, 1) := by decide +kernel
theorem dX12_tryOf_13 : decode cX12_tryOf 13 = .ok (.aload_n 0, 1) := by decide +kernel
theorem dX12_tryOf_14 : decode cX12_tryOf 14 = .ok (.getfield 7, 3) := by decide +kernel
theorem dX12_tryOf_17 : decode cX12_tryOf 17 = .ok (.iconst 4, 1) := by decide +kernel
theorem dX12_tryOf_18 : decode cX12_tryOf 18 = .ok (.iaload, 1) := by decide +kernel
theorem dX12_tryOf_19 : decode cX12_tryOf 19 = .ok (.iconst 1, 1) := by decide +kernel
theorem dX12_tryOf_20 : decode cX12_tryOf 20 = .ok (.isub, 1) := by decide +kernel
theorem dX12_tryOf_21 : decode cX12_tryOf 21 = .ok (.invokestatic 76, 3) := by decide +kernel
theorem dX12_tryOf_24 : decode cX12_tryOf 24 = .ok (.ifCond .eq 16, 3) := by decide +kernel
theorem dX12_tryOf_27 : decode cX12_tryOf 27 = .ok (.aload_n 0, 1) := by decide +kernel
theorem dX12_tryOf_28 : decode cX12_tryOf 28 = .ok (.getfield 28, 3) := by decide +kernel
theorem dX12_tryOf_31 : decode cX12_tryOf 31 = .ok (.iconst 4, 1) := by decide +kernel
theorem dX12_tryOf_32 : decode cX12_tryOf 32 = .ok (.iload_n 1, 1) := by decide +kernel
theorem dX12_tryOf_33 : decode cX12_tryOf 33 = .ok (.imul, 1) := by decide +kernel
theorem dX12_tryOf_34 : decode cX12_tryOf 34 = .ok (.iload_n 2, 1) := by decide +kernel
theorem dX12_tryOf_35 : decode cX12_tryOf 35 = .ok (.iadd, 1) := by decide +kernel
theorem dX12_tryOf_36 : decode cX12_tryOf 36 = .ok (.iaload, 1) := by decide +kernel
theorem dX12_tryOf_37 : decode cX12_tryOf 37 = .ok (.goto 5, 3) := by decide +kernel
theorem dX12_tryOf_40 : decode cX12_tryOf 40 = .ok (.bipush (-3), 2) := by decide +kernel
theorem dX12_tryOf_42 : decode cX12_tryOf 42 = .ok (.ireturn, 1) := by decide +kernel
theorem dX12_lies_0 : decode cX12_lies 0 = .ok (.iconst 0, 1) := by decide +kernel
theorem dX12_lies_1 : decode cX12_lies 1 = .ok (.istore_n 1, 1) := by decide +kernel
theorem dX12_lies_2 : decode cX12_lies 2 = .ok (.iconst 0, 1) := by decide +kernel
theorem dX12_lies_3 : decode cX12_lies 3 = .ok (.istore_n 2, 1) := by decide +kernel
theorem dX12_lies_4 : decode cX12_lies 4 = .ok (.iload_n 2, 1) := by decide +kernel
theorem dX12_lies_5 : decode cX12_lies 5 = .ok (.aload_n 0, 1) := by decide +kernel
theorem dX12_lies_6 : decode cX12_lies 6 = .ok (.getfield 7, 3) := by decide +kernel
theorem dX12_lies_9 : decode cX12_lies 9 = .ok (.iconst 2, 1) := by decide +kernel
theorem dX12_lies_10 : decode cX12_lies 10 = .ok (.iaload, 1) := by decide +kernel
theorem dX12_lies_11 : decode cX12_lies 11 = .ok (.if_icmp .ge 87, 3) := by decide +kernel
theorem dX12_lies_14 : decode cX12_lies 14 = .ok (.aload_n 0, 1) := by decide +kernel
theorem dX12_lies_15 : decode cX12_lies 15 = .ok (.iload_n 2, 1) := by decide +kernel
theorem dX12_lies_16 : decode cX12_lies 16 = .ok (.aload_n 0, 1) := by decide +kernel
theorem dX12_lies_17 : decode cX12_lies 17 = .ok (.getfield 7, 3) := by decide +kernel
theorem dX12_lies_20 : decode cX12_lies 20 = .ok (.iconst 4, 1) := by decide +kernel
theorem dX12_lies_21 : decode cX12_lies 21 = .ok (.iaload, 1) := by decide +kernel
theorem dX12_lies_22 : decode cX12_lies 22 = .ok (.invokevirtual 108, 3) := by decide +kernel
theorem dX12_lies_25 : decode cX12_lies 25 = .ok (.istore_n 3, 1) := by decide +kernel
theorem dX12_lies_26 : decode cX12_lies 26 = .ok (.iload_n 3, 1) := by decide +kernel
theorem dX12_lies_27 : decode cX12_lies 27 = .ok (.ifCond .lt 20, 3) := by decide +kernel
theorem dX12_lies_30 : decode cX12_lies 30 = .ok (.aload_n 0, 1) := by decide +kernel
theorem dX12_lies_31 : decode cX12_lies 31 = .ok (.getfield 28, 3) := by decide +kernel
theorem dX12_lies_34 : decode cX12_lies 34 = .ok (.iconst 4, 1) := by decide +kernel
theorem dX12_lies_35 : decode cX12_lies 35 = .ok (.iload_n 3, 1) := by decide +kernel
theorem dX12_lies_36 : decode cX12_lies 36 = .ok (.imul, 1) := by decide +kernel
theorem dX12_lies_37 : decode cX12_lies 37 = .ok (.iconst 3, 1) := by decide +kernel
theorem dX12_lies_38 : decode cX12_lies 38 = .ok (.iadd, 1) := by decide +kernel
theorem dX12_lies_39 : decode cX12_lies 39 = .ok (.iaload, 1) := by decide +kernel
theorem dX12_lies_40 : decode cX12_lies 40 = .ok (.ifCond .ne 7, 3) := by decide +kernel
theorem dX12_lies_43 : decode cX12_lies 43 = .ok (.iconst 1, 1) := by decide +kernel
theorem dX12_lies_44 : decode cX12_lies 44 = .ok (.goto 4, 3) := by decide +kernel
theorem dX12_lies_47 : decode cX12_lies 47 = .ok (.iconst 0, 1) := by decide +kernel
theorem dX12_lies_48 : decode cX12_lies 48 = .ok (.istore 4, 2) := by decide +kernel
theorem dX12_lies_50 : decode cX12_lies 50 = .ok (.aload_n 0, 1) := by decide +kernel
theorem dX12_lies_51 : decode cX12_lies 51 = .ok (.getfield 19, 3) := by decide +kernel
theorem dX12_lies_54 : decode cX12_lies 54 = .ok (.bipush 6, 2) := by decide +kernel
theorem dX12_lies_56 : decode cX12_lies 56 = .ok (.iload_n 2, 1) := by decide +kernel
theorem dX12_lies_57 : decode cX12_lies 57 = .ok (.imul, 1) := by decide +kernel
theorem dX12_lies_58 : decode cX12_lies 58 = .ok (.iconst 5, 1) := by decide +kernel
theorem dX12_lies_59 : decode cX12_lies 59 = .ok (.iadd, 1) := by decide +kernel
theorem dX12_lies_60 : decode cX12_lies 60 = .ok (.iaload, 1) := by decide +kernel
theorem dX12_lies_61 : decode cX12_lies 61 = .ok (.iconst 1, 1) := by decide +kernel
theorem dX12_lies_62 : decode cX12_lies 62 = .ok (.if_icmp .ne 11, 3) := by decide +kernel
theorem dX12_lies_65 : decode cX12_lies 65 = .ok (.aload_n 0, 1) := by decide +kernel
theorem dX12_lies_66 : decode cX12_lies 66 = .ok (.iload_n 2, 1) := by decide +kernel
theorem dX12_lies_67 : decode cX12_lies 67 = .ok (.invokevirtual 115, 3) := by decide +kernel
theorem dX12_lies_70 : decode cX12_lies 70 = .ok (.goto 5, 3) := by decide +kernel
theorem dX12_lies_73 : decode cX12_lies 73 = .ok (.iload 4, 2) := by decide +kernel
theorem dX12_lies_75 : decode cX12_lies 75 = .ok (.istore 5, 2) := by decide +kernel
theorem dX12_lies_77 : decode cX12_lies 77 = .ok (.iload_n 1, 1) := by decide +kernel
theorem dX12_lies_78 : decode cX12_lies 78 = .ok (.iload 5, 2) := by decide +kernel
theorem dX12_lies_80 : decode cX12_lies 80 = .ok (.ifCond .eq 9, 3) := by decide +kernel
theorem dX12_lies_83 : decode cX12_lies 83 = .ok (.iconst 1, 1) := by decide +kernel
theorem dX12_lies_84 : decode cX12_lies 84 = .ok (.iload_n 2, 1) := by decide +kernel
theorem dX12_lies_85 : decode cX12_lies 85 = .ok (.ishl, 1) := by decide +kernel
theorem dX12_lies_86 : decode cX12_lies 86 = .ok (.goto 4, 3) := by decide +kernel
theorem dX12_lies_89 : decode cX12_lies 89 = .ok (.iconst 0, 1) := by decide +kernel
theorem dX12_lies_90 : decode cX12_lies 90 = .ok (.ior, 1) := by decide +kernel
theorem dX12_lies_91 : decode cX12_lies 91 = .ok (.istore_n 1, 1) := by decide +kernel
theorem dX12_lies_92 : decode cX12_lies 92 = .ok (.iinc 2 1, 3) := by decide +kernel
theorem dX12_lies_95 : decode cX12_lies 95 = .ok (.goto (-91), 3) := by decide +kernel
theorem dX12_lies_98 : decode cX12_lies 98 = .ok (.iload_n 1, 1) := by decide +kernel
theorem dX12_lies_99 : decode cX12_lies 99 = .ok (.ireturn, 1) := by decide +kernel
theorem dX12_serving_0 : decode cX12_serving 0 = .ok (.iconst (-1), 1) := by decide +kernel
theorem dX12_serving_1 : decode cX12_serving 1 = .ok (.istore_n 3, 1) := by decide +kernel
theorem dX12_serving_2 : decode cX12_serving 2 = .ok (.iconst 0, 1) := by decide +kernel
theorem dX12_serving_3 : decode cX12_serving 3 = .ok (.istore 4, 2) := by decide +kernel
theorem dX12_serving_5 : decode cX12_serving 5 = .ok (.iload 4, 2) := by decide +kernel
theorem dX12_serving_7 : decode cX12_serving 7 = .ok (.aload_n 0, 1) := by decide +kernel
theorem dX12_serving_8 : decode cX12_serving 8 = .ok (.getfield 7, 3) := by decide +kernel
theorem dX12_serving_11 : decode cX12_serving 11 = .ok (.iconst 2, 1) := by decide +kernel
theorem dX12_serving_12 : decode cX12_serving 12 = .ok (.iaload, 1) := by decide +kernel
theorem dX12_serving_13 : decode cX12_serving 13 = .ok (.if_icmp .ge 90, 3) := by decide +kernel
theorem dX12_serving_16 : decode cX12_serving 16 = .ok (.aload_n 0, 1) := by decide +kernel
theorem dX12_serving_17 : decode cX12_serving 17 = .ok (.getfield 19, 3) := by decide +kernel
theorem dX12_serving_20 : decode cX12_serving 20 = .ok (.bipush 6, 2) := by decide +kernel
theorem dX12_serving_22 : decode cX12_serving 22 = .ok (.iload 4, 2) := by decide +kernel
theorem dX12_serving_24 : decode cX12_serving 24 = .ok (.imul, 1) := by decide +kernel
theorem dX12_serving_25 : decode cX12_serving 25 = .ok (.iaload, 1) := by decide +kernel
theorem dX12_serving_26 : decode cX12_serving 26 = .ok (.iload_n 1, 1) := by decide +kernel
theorem dX12_serving_27 : decode cX12_serving 27 = .ok (.if_icmp .ne 70, 3) := by decide +kernel
theorem dX12_serving_30 : decode cX12_serving 30 = .ok (.aload_n 0, 1) := by decide +kernel
theorem dX12_serving_31 : decode cX12_serving 31 = .ok (.getfield 19, 3) := by decide +kernel
theorem dX12_serving_34 : decode cX12_serving 34 = .ok (.bipush 6, 2) := by decide +kernel
theorem dX12_serving_36 : decode cX12_serving 36 = .ok (.iload 4, 2) := by decide +kernel
theorem dX12_serving_38 : decode cX12_serving 38 = .ok (.imul, 1) := by decide +kernel
theorem dX12_serving_39 : decode cX12_serving 39 = .ok (.iconst 2, 1) := by decide +kernel
theorem dX12_serving_40 : decode cX12_serving 40 = .ok (.iadd, 1) := by decide +kernel
theorem dX12_serving_41 : decode cX12_serving 41 = .ok (.iaload, 1) := by decide +kernel
theorem dX12_serving_42 : decode cX12_serving 42 = .ok (.aload_n 0, 1) := by decide +kernel
theorem dX12_serving_43 : decode cX12_serving 43 = .ok (.iload_n 2, 1) := by decide +kernel
theorem dX12_serving_44 : decode cX12_serving 44 = .ok (.iconst 3, 1) := by decide +kernel
theorem dX12_serving_45 : decode cX12_serving 45 = .ok (.invokevirtual 84, 3) := by decide +kernel
theorem dX12_serving_48 : decode cX12_serving 48 = .ok (.if_icmp .ne 49, 3) := by decide +kernel
theorem dX12_serving_51 : decode cX12_serving 51 = .ok (.aload_n 0, 1) := by decide +kernel
theorem dX12_serving_52 : decode cX12_serving 52 = .ok (.iload 4, 2) := by decide +kernel
theorem dX12_serving_54 : decode cX12_serving 54 = .ok (.invokevirtual 115, 3) := by decide +kernel
theorem dX12_serving_57 : decode cX12_serving 57 = .ok (.ifCond .ne 40, 3) := by decide +kernel
theorem dX12_serving_60 : decode cX12_serving 60 = .ok (.iload_n 3, 1) := by decide +kernel
theorem dX12_serving_61 : decode cX12_serving 61 = .ok (.ifCond .lt 29, 3) := by decide +kernel
theorem dX12_serving_64 : decode cX12_serving 64 = .ok (.aload_n 0, 1) := by decide +kernel
theorem dX12_serving_65 : decode cX12_serving 65 = .ok (.getfield 19, 3) := by decide +kernel
theorem dX12_serving_68 : decode cX12_serving 68 = .ok (.bipush 6, 2) := by decide +kernel
theorem dX12_serving_70 : decode cX12_serving 70 = .ok (.iload 4, 2) := by decide +kernel
theorem dX12_serving_72 : decode cX12_serving 72 = .ok (.imul, 1) := by decide +kernel
theorem dX12_serving_73 : decode cX12_serving 73 = .ok (.iconst 1, 1) := by decide +kernel
theorem dX12_serving_74 : decode cX12_serving 74 = .ok (.iadd, 1) := by decide +kernel
theorem dX12_serving_75 : decode cX12_serving 75 = .ok (.iaload, 1) := by decide +kernel
theorem dX12_serving_76 : decode cX12_serving 76 = .ok (.aload_n 0, 1) := by decide +kernel
theorem dX12_serving_77 : decode cX12_serving 77 = .ok (.getfield 19, 3) := by decide +kernel
theorem dX12_serving_80 : decode cX12_serving 80 = .ok (.bipush 6, 2) := by decide +kernel
theorem dX12_serving_82 : decode cX12_serving 82 = .ok (.iload_n 3, 1) := by decide +kernel
theorem dX12_serving_83 : decode cX12_serving 83 = .ok (.imul, 1) := by decide +kernel
theorem dX12_serving_84 : decode cX12_serving 84 = .ok (.iconst 1, 1) := by decide +kernel
theorem dX12_serving_85 : decode cX12_serving 85 = .ok (.iadd, 1) := by decide +kernel
theorem dX12_serving_86 : decode cX12_serving 86 = .ok (.iaload, 1) := by decide +kernel
theorem dX12_serving_87 : decode cX12_serving 87 = .ok (.if_icmp .le 8, 3) := by decide +kernel
theorem dX12_serving_90 : decode cX12_serving 90 = .ok (.iload 4, 2) := by decide +kernel
theorem dX12_serving_92 : decode cX12_serving 92 = .ok (.goto 4, 3) := by decide +kernel
theorem dX12_serving_95 : decode cX12_serving 95 = .ok (.iload_n 3, 1) := by decide +kernel
theorem dX12_serving_96 : decode cX12_serving 96 = .ok (.istore_n 3, 1) := by decide +kernel
theorem dX12_serving_97 : decode cX12_serving 97 = .ok (.iinc 4 1, 3) := by decide +kernel
theorem dX12_serving_100 : decode cX12_serving 100 = .ok (.goto (-95), 3) := by decide +kernel
theorem dX12_serving_103 : decode cX12_serving 103 = .ok (.iload_n 3, 1) := by decide +kernel
theorem dX12_serving_104 : decode cX12_serving 104 = .ok (.ireturn, 1) := by decide +kernel
theorem dX12_findWay_0 : decode cX12_findWay 0 = .ok (.aload_n 0, 1) := by decide +kernel
theorem dX12_findWay_1 : decode cX12_findWay 1 = .ok (.iconst 0, 1) := by decide +kernel
theorem dX12_findWay_2 : decode cX12_findWay 2 = .ok (.putfield 118, 3) := by decide +kernel
theorem dX12_findWay_5 : decode cX12_findWay 5 = .ok (.aload_n 0, 1) := by decide +kernel
theorem dX12_findWay_6 : decode cX12_findWay 6 = .ok (.getfield 43, 3) := by decide +kernel
theorem dX12_findWay_9 : decode cX12_findWay 9 = .ok (.iconst 0, 1) := by decide +kernel
theorem dX12_findWay_10 : decode cX12_findWay 10 = .ok (.iload_n 2, 1) := by decide +kernel
theorem dX12_findWay_11 : decode cX12_findWay 11 = .ok (.iastore, 1) := by decide +kernel
theorem dX12_findWay_12 : decode cX12_findWay 12 = .ok (.iconst 0, 1) := by decide +kernel
theorem dX12_findWay_13 : decode cX12_findWay 13 = .ok (.istore 4, 2) := by decide +kernel
theorem dX12_findWay_15 : decode cX12_findWay 15 = .ok (.iload 4, 2) := by decide +kernel
theorem dX12_findWay_17 : decode cX12_findWay 17 = .ok (.aload_n 0, 1) := by decide +kernel
theorem dX12_findWay_18 : decode cX12_findWay 18 = .ok (.getfield 7, 3) := by decide +kernel
theorem dX12_findWay_21 : decode cX12_findWay 21 = .ok (.iconst 1, 1) := by decide +kernel
theorem dX12_findWay_22 : decode cX12_findWay 22 = .ok (.iaload, 1) := by decide +kernel
theorem dX12_findWay_23 : decode cX12_findWay 23 = .ok (.if_icmp .ge 81, 3) := by decide +kernel
theorem dX12_findWay_26 : decode cX12_findWay 26 = .ok (.aload_n 0, 1) := by decide +kernel
theorem dX12_findWay_27 : decode cX12_findWay 27 = .ok (.getfield 13, 3) := by decide +kernel
theorem dX12_findWay_30 : decode cX12_findWay 30 = .ok (.bipush 9, 2) := by decide +kernel
theorem dX12_findWay_32 : decode cX12_findWay 32 = .ok (.iload 4, 2) := by decide +kernel
theorem dX12_findWay_34 : decode cX12_findWay 34 = .ok (.imul, 1) := by decide +kernel
theorem dX12_findWay_35 : decode cX12_findWay 35 = .ok (.iaload, 1) := by decide +kernel
theorem dX12_findWay_36 : decode cX12_findWay 36 = .ok (.istore 5, 2) := by decide +kernel
theorem dX12_findWay_38 : decode cX12_findWay 38 = .ok (.iload 5, 2) := by decide +kernel
theorem dX12_findWay_40 : decode cX12_findWay 40 = .ok (.iload_n 2, 1) := by decide +kernel
theorem dX12_findWay_41 : decode cX12_findWay 41 = .ok (.if_icmp .le 57, 3) := by decide +kernel
theorem dX12_findWay_44 : decode cX12_findWay 44 = .ok (.iload 5, 2) := by decide +kernel
theorem dX12_findWay_46 : decode cX12_findWay 46 = .ok (.iload_n 3, 1) := by decide +kernel
theorem dX12_findWay_47 : decode cX12_findWay 47 = .ok (.if_icmp .gt 51, 3) := by decide +kernel
theorem dX12_findWay_50 : decode cX12_findWay 50 = .ok (.aload_n 0, 1) := by decide +kernel
theorem dX12_findWay_51 : decode cX12_findWay 51 = .ok (.dup, 1) := by decide +kernel
theorem dX12_findWay_52 : decode cX12_findWay 52 = .ok (.getfield 118, 3) := by decide +kernel
theorem dX12_findWay_55 : decode cX12_findWay 55 = .ok (.iconst 1, 1) := by decide +kernel
theorem dX12_findWay_56 : decode cX12_findWay 56 = .ok (.iadd, 1) := by decide +kernel
theorem dX12_findWay_57 : decode cX12_findWay 57 = .ok (.putfield 118, 3) := by decide +kernel
theorem dX12_findWay_60 : decode cX12_findWay 60 = .ok (.aload_n 0, 1) := by decide +kernel
theorem dX12_findWay_61 : decode cX12_findWay 61 = .ok (.getfield 43, 3) := by decide +kernel
theorem dX12_findWay_64 : decode cX12_findWay 64 = .ok (.aload_n 0, 1) := by decide +kernel
theorem dX12_findWay_65 : decode cX12_findWay 65 = .ok (.getfield 118, 3) := by decide +kernel
theorem dX12_findWay_68 : decode cX12_findWay 68 = .ok (.iload 5, 2) := by decide +kernel
theorem dX12_findWay_70 : decode cX12_findWay 70 = .ok (.iastore, 1) := by decide +kernel
theorem dX12_findWay_71 : decode cX12_findWay 71 = .ok (.aload_n 0, 1) := by decide +kernel
theorem dX12_findWay_72 : decode cX12_findWay 72 = .ok (.getfield 46, 3) := by decide +kernel
theorem dX12_findWay_75 : decode cX12_findWay 75 = .ok (.aload_n 0, 1) := by decide +kernel
theorem dX12_findWay_76 : decode cX12_findWay 76 = .ok (.getfield 118, 3) := by decide +kernel
theorem dX12_findWay_79 : decode cX12_findWay 79 = .ok (.iload 4, 2) := by decide +kernel
theorem dX12_findWay_81 : decode cX12_findWay 81 = .ok (.iastore, 1) := by decide +kernel
theorem dX12_findWay_82 : decode cX12_findWay 82 = .ok (.aload_n 0, 1) := by decide +kernel
theorem dX12_findWay_83 : decode cX12_findWay 83 = .ok (.getfield 49, 3) := by decide +kernel
theorem dX12_findWay_86 : decode cX12_findWay 86 = .ok (.aload_n 0, 1) := by decide +kernel
theorem dX12_findWay_87 : decode cX12_findWay 87 = .ok (.getfield 118, 3) := by decide +kernel
theorem dX12_findWay_90 : decode cX12_findWay 90 = .ok (.aload_n 0, 1) := by decide +kernel
theorem dX12_findWay_91 : decode cX12_findWay 91 = .ok (.iload 4, 2) := by decide +kernel
theorem dX12_findWay_93 : decode cX12_findWay 93 = .ok (.iload_n 1, 1) := by decide +kernel
theorem dX12_findWay_94 : decode cX12_findWay 94 = .ok (.invokevirtual 122, 3) := by decide +kernel
theorem dX12_findWay_97 : decode cX12_findWay 97 = .ok (.iastore, 1) := by decide +kernel
theorem dX12_findWay_98 : decode cX12_findWay 98 = .ok (.iinc 4 1, 3) := by decide +kernel
theorem dX12_findWay_101 : decode cX12_findWay 101 = .ok (.goto (-86), 3) := by decide +kernel
theorem dX12_findWay_104 : decode cX12_findWay 104 = .ok (.aload_n 0, 1) := by decide +kernel
theorem dX12_findWay_105 : decode cX12_findWay 105 = .ok (.getfield 43, 3) := by decide +kernel
theorem dX12_findWay_108 : decode cX12_findWay 108 = .ok (.aload_n 0, 1) := by decide +kernel
theorem dX12_findWay_109 : decode cX12_findWay 109 = .ok (.getfield 118, 3) := by decide +kernel
theorem dX12_findWay_112 : decode cX12_findWay 112 = .ok (.iconst 1, 1) := by decide +kernel
theorem dX12_findWay_113 : decode cX12_findWay 113 = .ok (.iadd, 1) := by decide +kernel
theorem dX12_findWay_114 : decode cX12_findWay 114 = .ok (.iload_n 3, 1) := by decide +kernel
theorem dX12_findWay_115 : decode cX12_findWay 115 = .ok (.iastore, 1) := by decide +kernel
theorem dX12_findWay_116 : decode cX12_findWay 116 = .ok (.return_, 1) := by decide +kernel
theorem dX12_goOn_0 : decode cX12_goOn 0 = .ok (.aload_n 0, 1) := by decide +kernel
theorem dX12_goOn_1 : decode cX12_goOn 1 = .ok (.getfield 43, 3) := by decide +kernel
theorem dX12_goOn_4 : decode cX12_goOn 4 = .ok (.iload_n 2, 1) := by decide +kernel
theorem dX12_goOn_5 : decode cX12_goOn 5 = .ok (.iconst 1, 1) := by decide +kernel
theorem dX12_goOn_6 : decode cX12_goOn 6 = .ok (.iadd, 1) := by decide +kernel
theorem dX12_goOn_7 : decode cX12_goOn 7 = .ok (.iaload, 1) := by decide +kernel
theorem dX12_goOn_8 : decode cX12_goOn 8 = .ok (.aload_n 0, 1) := by decide +kernel
theorem dX12_goOn_9 : decode cX12_goOn 9 = .ok (.getfield 43, 3) := by decide +kernel
theorem dX12_goOn_12 : decode cX12_goOn 12 = .ok (.iload_n 2, 1) := by decide +kernel
theorem dX12_goOn_13 : decode cX12_goOn 13 = .ok (.iaload, 1) := by decide +kernel
theorem dX12_goOn_14 : decode cX12_goOn 14 = .ok (.isub, 1) := by decide +kernel
theorem dX12_goOn_15 : decode cX12_goOn 15 = .ok (.istore 4, 2) := by decide +kernel
theorem dX12_goOn_17 : decode cX12_goOn 17 = .ok (.iload_n 3, 1) := by decide +kernel
theorem dX12_goOn_18 : decode cX12_goOn 18 = .ok (.aload_n 0, 1) := by decide +kernel
theorem dX12_goOn_19 : decode cX12_goOn 19 = .ok (.iload_n 1, 1) := by decide +kernel
theorem dX12_goOn_20 : decode cX12_goOn 20 = .ok (.iload 4, 2) := by decide +kernel
theorem dX12_goOn_22 : decode cX12_goOn 22 = .ok (.invokevirtual 95, 3) := by decide +kernel
theorem dX12_goOn_25 : decode cX12_goOn 25 = .ok (.isub, 1) := by decide +kernel
theorem dX12_goOn_26 : decode cX12_goOn 26 = .ok (.istore 5, 2) := by decide +kernel
theorem dX12_goOn_28 : decode cX12_goOn 28 = .ok (.aload_n 0, 1) := by decide +kernel
theorem dX12_goOn_29 : decode cX12_goOn 29 = .ok (.ldc 125, 2) := by decide +kernel
theorem dX12_goOn_31 : decode cX12_goOn 31 = .ok (.putfield 126, 3) := by decide +kernel
theorem dX12_goOn_34 : decode cX12_goOn 34 = .ok (.aload_n 0, 1) := by decide +kernel
theorem dX12_goOn_35 : decode cX12_goOn 35 = .ok (.iconst 0, 1) := by decide +kernel
theorem dX12_goOn_36 : decode cX12_goOn 36 = .ok (.putfield 129, 3) := by decide +kernel
theorem dX12_goOn_39 : decode cX12_goOn 39 = .ok (.iload 5, 2) := by decide +kernel
theorem dX12_goOn_41 : decode cX12_goOn 41 = .ok (.ifCond .ge 4, 3) := by decide +kernel
theorem dX12_goOn_44 : decode cX12_goOn 44 = .ok (.return_, 1) := by decide +kernel
theorem dX12_goOn_45 : decode cX12_goOn 45 = .ok (.iload_n 2, 1) := by decide +kernel
theorem dX12_goOn_46 : decode cX12_goOn 46 = .ok (.aload_n 0, 1) := by decide +kernel
theorem dX12_goOn_47 : decode cX12_goOn 47 = .ok (.getfield 118, 3) := by decide +kernel
theorem dX12_goOn_50 : decode cX12_goOn 50 = .ok (.if_icmp .ne 13, 3) := by decide +kernel
theorem dX12_goOn_53 : decode cX12_goOn 53 = .ok (.aload_n 0, 1) := by decide +kernel
theorem dX12_goOn_54 : decode cX12_goOn 54 = .ok (.iload 4, 2) := by decide +kernel
theorem dX12_goOn_56 : decode cX12_goOn 56 = .ok (.invokestatic 91, 3) := by decide +kernel
theorem dX12_goOn_59 : decode cX12_goOn 59 = .ok (.putfield 126, 3) := by decide +kernel
theorem dX12_goOn_62 : decode cX12_goOn 62 = .ok (.return_, 1) := by decide +kernel
theorem dX12_goOn_63 : decode cX12_goOn 63 = .ok (.sipush 201, 3) := by decide +kernel
theorem dX12_goOn_66 : decode cX12_goOn 66 = .ok (.iload_n 2, 1) := by decide +kernel
theorem dX12_goOn_67 : decode cX12_goOn 67 = .ok (.iconst 1, 1) := by decide +kernel
theorem dX12_goOn_68 : decode cX12_goOn 68 = .ok (.iadd, 1) := by decide +kernel
theorem dX12_goOn_69 : decode cX12_goOn 69 = .ok (.imul, 1) := by decide +kernel
theorem dX12_goOn_70 : decode cX12_goOn 70 = .ok (.iload 5, 2) := by decide +kernel
theorem dX12_goOn_72 : decode cX12_goOn 72 = .ok (.iadd, 1) := by decide +kernel
theorem dX12_goOn_73 : decode cX12_goOn 73 = .ok (.istore 6, 2) := by decide +kernel
theorem dX12_goOn_75 : decode cX12_goOn 75 = .ok (.aload_n 0, 1) := by decide +kernel
theorem dX12_goOn_76 : decode cX12_goOn 76 = .ok (.getfield 34, 3) := by decide +kernel
theorem dX12_goOn_79 : decode cX12_goOn 79 = .ok (.iload 6, 2) := by decide +kernel
theorem dX12_goOn_81 : decode cX12_goOn 81 = .ok (.iaload, 1) := by decide +kernel
theorem dX12_goOn_82 : decode cX12_goOn 82 = .ok (.ldc 125, 2) := by decide +kernel
theorem dX12_goOn_84 : decode cX12_goOn 84 = .ok (.if_icmp .ge 31, 3) := by decide +kernel
theorem dX12_goOn_87 : decode cX12_goOn 87 = .ok (.aload_n 0, 1) := by decide +kernel
theorem dX12_goOn_88 : decode cX12_goOn 88 = .ok (.iload 4, 2) := by decide +kernel
theorem dX12_goOn_90 : decode cX12_goOn 90 = .ok (.invokestatic 91, 3) := by decide +kernel
theorem dX12_goOn_93 : decode cX12_goOn 93 = .ok (.aload_n 0, 1) := by decide +kernel
theorem dX12_goOn_94 : decode cX12_goOn 94 = .ok (.getfield 34, 3) := by decide +kernel
theorem dX12_goOn_97 : decode cX12_goOn 97 = .ok (.iload 6, 2) := by decide +kernel
theorem dX12_goOn_99 : decode cX12_goOn 99 = .ok (.iaload, 1) := by decide +kernel
theorem dX12_goOn_100 : decode cX12_goOn 100 = .ok (.iadd, 1) := by decide +kernel
theorem dX12_goOn_101 : decode cX12_goOn 101 = .ok (.putfield 126, 3) := by decide +kernel
theorem dX12_goOn_104 : decode cX12_goOn 104 = .ok (.aload_n 0, 1) := by decide +kernel
theorem dX12_goOn_105 : decode cX12_goOn 105 = .ok (.aload_n 0, 1) := by decide +kernel
theorem dX12_goOn_106 : decode cX12_goOn 106 = .ok (.getfield 37, 3) := by decide +kernel
theorem dX12_goOn_109 : decode cX12_goOn 109 = .ok (.iload 6, 2) := by decide +kernel
theorem dX12_goOn_111 : decode cX12_goOn 111 = .ok (.iaload, 1) := by decide +kernel
theorem dX12_goOn_112 : decode cX12_goOn 112 = .ok (.putfield 129, 3) := by decide +kernel
theorem dX12_goOn_115 : decode cX12_goOn 115 = .ok (.return_, 1) := by decide +kernel
theorem dX12_weighPlace_0 : decode cX12_weighPlace 0 = .ok (.sipush 201, 3) := by decide +kernel
theorem dX12_weighPlace_3 : decode cX12_weighPlace 3 = .ok (.iload_n 2, 1) := by decide +kernel
theorem dX12_weighPlace_4 : decode cX12_weighPlace 4 = .ok (.imul, 1) := by decide +kernel
theorem dX12_weighPlace_5 : decode cX12_weighPlace 5 = .ok (.iload_n 3, 1) := by decide +kernel
theorem dX12_weighPlace_6 : decode cX12_weighPlace 6 = .ok (.iadd, 1) := by decide +kernel
theorem dX12_weighPlace_7 : decode cX12_weighPlace 7 = .ok (.istore 4, 2) := by decide +kernel
theorem dX12_weighPlace_9 : decode cX12_weighPlace 9 = .ok (.aload_n 0, 1) := by decide +kernel
theorem dX12_weighPlace_10 : decode cX12_weighPlace 10 = .ok (.iload_n 1, 1) := by decide +kernel
theorem dX12_weighPlace_11 : decode cX12_weighPlace 11 = .ok (.iload_n 2, 1) := by decide +kernel
theorem dX12_weighPlace_12 : decode cX12_weighPlace 12 = .ok (.iload_n 3, 1) := by decide +kernel
theorem dX12_weighPlace_13 : decode cX12_weighPlace 13 = .ok (.invokevirtual 132, 3) := by decide +kernel
theorem dX12_weighPlace_16 : decode cX12_weighPlace 16 = .ok (.aload_n 0, 1) := by decide +kernel
theorem dX12_weighPlace_17 : decode cX12_weighPlace 17 = .ok (.getfield 34, 3) := by decide +kernel
theorem dX12_weighPlace_20 : decode cX12_weighPlace 20 = .ok (.iload 4, 2) := by decide +kernel
theorem dX12_weighPlace_22 : decode cX12_weighPlace 22 = .ok (.aload_n 0, 1) := by decide +kernel
theorem dX12_weighPlace_23 : decode cX12_weighPlace 23 = .ok (.getfield 126, 3) := by decide +kernel
theorem dX12_weighPlace_26 : decode cX12_weighPlace 26 = .ok (.iastore, 1) := by decide +kernel
theorem dX12_weighPlace_27 : decode cX12_weighPlace 27 = .ok (.aload_n 0, 1) := by decide +kernel
theorem dX12_weighPlace_28 : decode cX12_weighPlace 28 = .ok (.getfield 37, 3) := by decide +kernel
theorem dX12_weighPlace_31 : decode cX12_weighPlace 31 = .ok (.iload 4, 2) := by decide +kernel
theorem dX12_weighPlace_33 : decode cX12_weighPlace 33 = .ok (.aload_n 0, 1) := by decide +kernel
theorem dX12_weighPlace_34 : decode cX12_weighPlace 34 = .ok (.getfield 129, 3) := by decide +kernel
theorem dX12_weighPlace_37 : decode cX12_weighPlace 37 = .ok (.iastore, 1) := by decide +kernel
theorem dX12_weighPlace_38 : decode cX12_weighPlace 38 = .ok (.aload_n 0, 1) := by decide +kernel
theorem dX12_weighPlace_39 : decode cX12_weighPlace 39 = .ok (.getfield 40, 3) := by decide +kernel
theorem dX12_weighPlace_42 : decode cX12_weighPlace 42 = .ok (.iload 4, 2) := by decide +kernel
theorem dX12_weighPlace_44 : decode cX12_weighPlace 44 = .ok (.iconst 0, 1) := by decide +kernel
theorem dX12_weighPlace_45 : decode cX12_weighPlace 45 = .ok (.iastore, 1) := by decide +kernel
theorem dX12_weighPlace_46 : decode cX12_weighPlace 46 = .ok (.aload_n 0, 1) := by decide +kernel
theorem dX12_weighPlace_47 : decode cX12_weighPlace 47 = .ok (.getfield 49, 3) := by decide +kernel
theorem dX12_weighPlace_50 : decode cX12_weighPlace 50 = .ok (.iload_n 2, 1) := by decide +kernel
theorem dX12_weighPlace_51 : decode cX12_weighPlace 51 = .ok (.iaload, 1) := by decide +kernel
theorem dX12_weighPlace_52 : decode cX12_weighPlace 52 = .ok (.ifCond .ge 4, 3) := by decide +kernel
theorem dX12_weighPlace_55 : decode cX12_weighPlace 55 = .ok (.return_, 1) := by decide +kernel
theorem dX12_weighPlace_56 : decode cX12_weighPlace 56 = .ok (.iload_n 3, 1) := by decide +kernel
theorem dX12_weighPlace_57 : decode cX12_weighPlace 57 = .ok (.istore 5, 2) := by decide +kernel
theorem dX12_weighPlace_59 : decode cX12_weighPlace 59 = .ok (.iconst 0, 1) := by decide +kernel
theorem dX12_weighPlace_60 : decode cX12_weighPlace 60 = .ok (.istore 6, 2) := by decide +kernel
theorem dX12_weighPlace_62 : decode cX12_weighPlace 62 = .ok (.aload_n 0, 1) := by decide +kernel
theorem dX12_weighPlace_63 : decode cX12_weighPlace 63 = .ok (.iload_n 1, 1) := by decide +kernel
theorem dX12_weighPlace_64 : decode cX12_weighPlace 64 = .ok (.aload_n 0, 1) := by decide +kernel
theorem dX12_weighPlace_65 : decode cX12_weighPlace 65 = .ok (.getfield 49, 3) := by decide +kernel
theorem dX12_weighPlace_68 : decode cX12_weighPlace 68 = .ok (.iload_n 2, 1) := by decide +kernel
theorem dX12_weighPlace_69 : decode cX12_weighPlace 69 = .ok (.iaload, 1) := by decide +kernel
theorem dX12_weighPlace_70 : decode cX12_weighPlace 70 = .ok (.iload 5, 2) := by decide +kernel
theorem dX12_weighPlace_72 : decode cX12_weighPlace 72 = .ok (.invokevirtual 101, 3) := by decide +kernel
theorem dX12_weighPlace_75 : decode cX12_weighPlace 75 = .ok (.istore 7, 2) := by decide +kernel
theorem dX12_weighPlace_77 : decode cX12_weighPlace 77 = .ok (.iload 7, 2) := by decide +kernel
theorem dX12_weighPlace_79 : decode cX12_weighPlace 79 = .ok (.ifCond .le 146, 3) := by decide +kernel
theorem dX12_weighPlace_82 : decode cX12_weighPlace 82 = .ok (.iload 5, 2) := by decide +kernel
theorem dX12_weighPlace_84 : decode cX12_weighPlace 84 = .ok (.iload 7, 2) := by decide +kernel
theorem dX12_weighPlace_86 : decode cX12_weighPlace 86 = .ok (.iadd, 1) := by decide +kernel
theorem dX12_weighPlace_87 : decode cX12_weighPlace 87 = .ok (.istore 5, 2) := by decide +kernel
theorem dX12_weighPlace_89 : decode cX12_weighPlace 89 = .ok (.iinc 6 1, 3) := by decide +kernel
theorem dX12_weighPlace_92 : decode cX12_weighPlace 92 = .ok (.aload_n 0, 1) := by decide +kernel
theorem dX12_weighPlace_93 : decode cX12_weighPlace 93 = .ok (.iload_n 1, 1) := by decide +kernel
theorem dX12_weighPlace_94 : decode cX12_weighPlace 94 = .ok (.iload_n 2, 1) := by decide +kernel
theorem dX12_weighPlace_95 : decode cX12_weighPlace 95 = .ok (.iload 5, 2) := by decide +kernel
theorem dX12_weighPlace_97 : decode cX12_weighPlace 97 = .ok (.invokevirtual 132, 3) := by decide +kernel
theorem dX12_weighPlace_100 : decode cX12_weighPlace 100 = .ok (.aload_n 0, 1) := by decide +kernel
theorem dX12_weighPlace_101 : decode cX12_weighPlace 101 = .ok (.getfield 126, 3) := by decide +kernel
theorem dX12_weighPlace_104 : decode cX12_weighPlace 104 = .ok (.aload_n 0, 1) := by decide +kernel
theorem dX12_weighPlace_105 : decode cX12_weighPlace 105 = .ok (.getfield 13, 3) := by decide +kernel
theorem dX12_weighPlace_108 : decode cX12_weighPlace 108 = .ok (.bipush 9, 2) := by decide +kernel
theorem dX12_weighPlace_110 : decode cX12_weighPlace 110 = .ok (.aload_n 0, 1) := by decide +kernel
theorem dX12_weighPlace_111 : decode cX12_weighPlace 111 = .ok (.getfield 46, 3) := by decide +kernel
theorem dX12_weighPlace_114 : decode cX12_weighPlace 114 = .ok (.iload_n 2, 1) := by decide +kernel
theorem dX12_weighPlace_115 : decode cX12_weighPlace 115 = .ok (.iaload, 1) := by decide +kernel
theorem dX12_weighPlace_116 : decode cX12_weighPlace 116 = .ok (.imul, 1) := by decide +kernel
theorem dX12_weighPlace_117 : decode cX12_weighPlace 117 = .ok (.bipush 7, 2) := by decide +kernel
theorem dX12_weighPlace_119 : decode cX12_weighPlace 119 = .ok (.iadd, 1) := by decide +kernel
theorem dX12_weighPlace_120 : decode cX12_weighPlace 120 = .ok (.iaload, 1) := by decide +kernel
theorem dX12_weighPlace_121 : decode cX12_weighPlace 121 = .ok (.iadd, 1) := by decide +kernel
theorem dX12_weighPlace_122 : decode cX12_weighPlace 122 = .ok (.iload 6, 2) := by decide +kernel
theorem dX12_weighPlace_124 : decode cX12_weighPlace 124 = .ok (.iadd, 1) := by decide +kernel
theorem dX12_weighPlace_125 : decode cX12_weighPlace 125 = .ok (.istore 8, 2) := by decide +kernel
theorem dX12_weighPlace_127 : decode cX12_weighPlace 127 = .ok (.aload_n 0, 1) := by decide +kernel
theorem dX12_weighPlace_128 : decode cX12_weighPlace 128 = .ok (.getfield 129, 3) := by decide +kernel
theorem dX12_weighPlace_131 : decode cX12_weighPlace 131 = .ok (.iconst 1, 1) := by decide +kernel
theorem dX12_weighPlace_132 : decode cX12_weighPlace 132 = .ok (.iadd, 1) := by decide +kernel
theorem dX12_weighPlace_133 : decode cX12_weighPlace 133 = .ok (.istore 9, 2) := by decide +kernel
theorem dX12_weighPlace_135 : decode cX12_weighPlace 135 = .ok (.aload_n 0, 1) := by decide +kernel
theorem dX12_weighPlace_136 : decode cX12_weighPlace 136 = .ok (.getfield 126, 3) := by decide +kernel
theorem dX12_weighPlace_139 : decode cX12_weighPlace 139 = .ok (.ldc 125, 2) := by decide +kernel
theorem dX12_weighPlace_141 : decode cX12_weighPlace 141 = .ok (.if_icmp .ge 66, 3) := by decide +kernel
theorem dX12_weighPlace_144 : decode cX12_weighPlace 144 = .ok (.iload 8, 2) := by decide +kernel
theorem dX12_weighPlace_146 : decode cX12_weighPlace 146 = .ok (.aload_n 0, 1) := by decide +kernel
theorem dX12_weighPlace_147 : decode cX12_weighPlace 147 = .ok (.getfield 34, 3) := by decide +kernel
theorem dX12_weighPlace_150 : decode cX12_weighPlace 150 = .ok (.iload 4, 2) := by decide +kernel
theorem dX12_weighPlace_152 : decode cX12_weighPlace 152 = .ok (.iaload, 1) := by decide +kernel
theorem dX12_weighPlace_153 : decode cX12_weighPlace 153 = .ok (.if_icmp .lt 27, 3) := by decide +kernel
theorem dX12_weighPlace_156 : decode cX12_weighPlace 156 = .ok (.iload 8, 2) := by decide +kernel
theorem dX12_weighPlace_158 : decode cX12_weighPlace 158 = .ok (.aload_n 0, 1) := by decide +kernel
theorem dX12_weighPlace_159 : decode cX12_weighPlace 159 = .ok (.getfield 34, 3) := by decide +kernel
theorem dX12_weighPlace_162 : decode cX12_weighPlace 162 = .ok (.iload 4, 2) := by decide +kernel
theorem dX12_weighPlace_164 : decode cX12_weighPlace 164 = .ok (.iaload, 1) := by decide +kernel
theorem dX12_weighPlace_165 : decode cX12_weighPlace 165 = .ok (.if_icmp .ne 42, 3) := by decide +kernel
theorem dX12_weighPlace_168 : decode cX12_weighPlace 168 = .ok (.iload 9, 2) := by decide +kernel
theorem dX12_weighPlace_170 : decode cX12_weighPlace 170 = .ok (.aload_n 0, 1) := by decide +kernel
theorem dX12_weighPlace_171 : decode cX12_weighPlace 171 = .ok (.getfield 37, 3) := by decide +kernel
theorem dX12_weighPlace_174 : decode cX12_weighPlace 174 = .ok (.iload 4, 2) := by decide +kernel
theorem dX12_weighPlace_176 : decode cX12_weighPlace 176 = .ok (.iaload, 1) := by decide +kernel
theorem dX12_weighPlace_177 : decode cX12_weighPlace 177 = .ok (.if_icmp .ge 30, 3) := by decide +kernel
theorem dX12_weighPlace_180 : decode cX12_weighPlace 180 = .ok (.aload_n 0, 1) := by decide +kernel
theorem dX12_weighPlace_181 : decode cX12_weighPlace 181 = .ok (.getfield 34, 3) := by decide +kernel
theorem dX12_weighPlace_184 : decode cX12_weighPlace 184 = .ok (.iload 4, 2) := by decide +kernel
theorem dX12_weighPlace_186 : decode cX12_weighPlace 186 = .ok (.iload 8, 2) := by decide +kernel
theorem dX12_weighPlace_188 : decode cX12_weighPlace 188 = .ok (.iastore, 1) := by decide +kernel
theorem dX12_weighPlace_189 : decode cX12_weighPlace 189 = .ok (.aload_n 0, 1) := by decide +kernel
theorem dX12_weighPlace_190 : decode cX12_weighPlace 190 = .ok (.getfield 37, 3) := by decide +kernel
theorem dX12_weighPlace_193 : decode cX12_weighPlace 193 = .ok (.iload 4, 2) := by decide +kernel
theorem dX12_weighPlace_195 : decode cX12_weighPlace 195 = .ok (.iload 9, 2) := by decide +kernel
theorem dX12_weighPlace_197 : decode cX12_weighPlace 197 = .ok (.iastore, 1) := by decide +kernel
theorem dX12_weighPlace_198 : decode cX12_weighPlace 198 = .ok (.aload_n 0, 1) := by decide +kernel
theorem dX12_weighPlace_199 : decode cX12_weighPlace 199 = .ok (.getfield 40, 3) := by decide +kernel
theorem dX12_weighPlace_202 : decode cX12_weighPlace 202 = .ok (.iload 4, 2) := by decide +kernel
theorem dX12_weighPlace_204 : decode cX12_weighPlace 204 = .ok (.iload 6, 2) := by decide +kernel
theorem dX12_weighPlace_206 : decode cX12_weighPlace 206 = .ok (.iastore, 1) := by decide +kernel
theorem dX12_weighPlace_207 : decode cX12_weighPlace 207 = .ok (.aload_n 0, 1) := by decide +kernel
theorem dX12_weighPlace_208 : decode cX12_weighPlace 208 = .ok (.iload_n 1, 1) := by decide +kernel
theorem dX12_weighPlace_209 : decode cX12_weighPlace 209 = .ok (.aload_n 0, 1) := by decide +kernel
theorem dX12_weighPlace_210 : decode cX12_weighPlace 210 = .ok (.getfield 49, 3) := by decide +kernel
theorem dX12_weighPlace_213 : decode cX12_weighPlace 213 = .ok (.iload_n 2, 1) := by decide +kernel
theorem dX12_weighPlace_214 : decode cX12_weighPlace 214 = .ok (.iaload, 1) := by decide +kernel
theorem dX12_weighPlace_215 : decode cX12_weighPlace 215 = .ok (.iload 5, 2) := by decide +kernel
theorem dX12_weighPlace_217 : decode cX12_weighPlace 217 = .ok (.invokevirtual 101, 3) := by decide +kernel
theorem dX12_weighPlace_220 : decode cX12_weighPlace 220 = .ok (.istore 7, 2) := by decide +kernel
theorem dX12_weighPlace_222 : decode cX12_weighPlace 222 = .ok (.goto (-145), 3) := by decide +kernel
theorem dX12_weighPlace_225 : decode cX12_weighPlace 225 = .ok (.return_, 1) := by decide +kernel
theorem dX12_weighTrip_0 : decode cX12_weighTrip 0 = .ok (.aload_n 0, 1) := by decide +kernel
theorem dX12_weighTrip_1 : decode cX12_weighTrip 1 = .ok (.iload_n 1, 1) := by decide +kernel
theorem dX12_weighTrip_2 : decode cX12_weighTrip 2 = .ok (.iload_n 2, 1) := by decide +kernel
theorem dX12_weighTrip_3 : decode cX12_weighTrip 3 = .ok (.iload_n 3, 1) := by decide +kernel
theorem dX12_weighTrip_4 : decode cX12_weighTrip 4 = .ok (.invokevirtual 136, 3) := by decide +kernel
theorem dX12_weighTrip_7 : decode cX12_weighTrip 7 = .ok (.aload_n 0, 1) := by decide +kernel
theorem dX12_weighTrip_8 : decode cX12_weighTrip 8 = .ok (.getfield 118, 3) := by decide +kernel
theorem dX12_weighTrip_11 : decode cX12_weighTrip 11 = .ok (.istore 4, 2) := by decide +kernel
theorem dX12_weighTrip_13 : decode cX12_weighTrip 13 = .ok (.iload 4, 2) := by decide +kernel
