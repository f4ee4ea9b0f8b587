theorem dX4_init_0 : decode cX4_init 0 = .ok (.aload_n 0, 1) := by decide +kernel
theorem dX4_init_1 : decode cX4_init 1 = .ok (.invokespecial 1, 3) := by decide +kernel
theorem dX4_init_4 : decode cX4_init 4 = .ok (.iload_n 1, 1) := by decide +kernel
theorem dX4_init_5 : decode cX4_init 5 = .ok (.iconst 3, 1) := by decide +kernel
theorem dX4_init_6 : decode cX4_init 6 = .ok (.iconst 5, 1) := by decide +kernel
theorem dX4_init_7 : decode cX4_init 7 = .ok (.invokestatic 7, 3) := by decide +kernel
theorem dX4_init_10 : decode cX4_init 10 = .ok (.istore 4, 2) := by decide +kernel
theorem dX4_init_12 : decode cX4_init 12 = .ok (.iload_n 2, 1) := by decide +kernel
theorem dX4_init_13 : decode cX4_init 13 = .ok (.iconst 1, 1) := by decide +kernel
theorem dX4_init_14 : decode cX4_init 14 = .ok (.bipush 12, 2) := by decide +kernel
theorem dX4_init_16 : decode cX4_init 16 = .ok (.invokestatic 7, 3) := by decide +kernel
theorem dX4_init_19 : decode cX4_init 19 = .ok (.istore 5, 2) := by decide +kernel
theorem dX4_init_21 : decode cX4_init 21 = .ok (.aload_n 0, 1) := by decide +kernel
theorem dX4_init_22 : decode cX4_init 22 = .ok (.iload 4, 2) := by decide +kernel
theorem dX4_init_24 : decode cX4_init 24 = .ok (.anewarray 13, 3) := by decide +kernel
theorem dX4_init_27 : decode cX4_init 27 = .ok (.putfield 15, 3) := by decide +kernel
theorem dX4_init_30 : decode cX4_init 30 = .ok (.iconst 0, 1) := by decide +kernel
theorem dX4_init_31 : decode cX4_init 31 = .ok (.istore 6, 2) := by decide +kernel
theorem dX4_init_33 : decode cX4_init 33 = .ok (.iload 6, 2) := by decide +kernel
theorem dX4_init_35 : decode cX4_init 35 = .ok (.iload 4, 2) := by decide +kernel
theorem dX4_init_37 : decode cX4_init 37 = .ok (.if_icmp .ge 29, 3) := by decide +kernel
theorem dX4_init_40 : decode cX4_init 40 = .ok (.aload_n 0, 1) := by decide +kernel
theorem dX4_init_41 : decode cX4_init 41 = .ok (.getfield 15, 3) := by decide +kernel
theorem dX4_init_44 : decode cX4_init 44 = .ok (.iload 6, 2) := by decide +kernel
theorem dX4_init_46 : decode cX4_init 46 = .ok (.new 13, 3) := by decide +kernel
theorem dX4_init_49 : decode cX4_init 49 = .ok (.dup, 1) := by decide +kernel
theorem dX4_init_50 : decode cX4_init 50 = .ok (.iload 6, 2) := by decide +kernel
theorem dX4_init_52 : decode cX4_init 52 = .ok (.iload 4, 2) := by decide +kernel
theorem dX4_init_54 : decode cX4_init 54 = .ok (.iload 5, 2) := by decide +kernel
theorem dX4_init_56 : decode cX4_init 56 = .ok (.invokespecial 19, 3) := by decide +kernel
theorem dX4_init_59 : decode cX4_init 59 = .ok (.aastore, 1) := by decide +kernel
theorem dX4_init_60 : decode cX4_init 60 = .ok (.iinc 6 1, 3) := by decide +kernel
theorem dX4_init_63 : decode cX4_init 63 = .ok (.goto (-30), 3) := by decide +kernel
theorem dX4_init_66 : decode cX4_init 66 = .ok (.aload_n 0, 1) := by decide +kernel
theorem dX4_init_67 : decode cX4_init 67 = .ok (.new 22, 3) := by decide +kernel
theorem dX4_init_70 : decode cX4_init 70 = .ok (.dup, 1) := by decide +kernel
theorem dX4_init_71 : decode cX4_init 71 = .ok (.iload_n 3, 1) := by decide +kernel
theorem dX4_init_72 : decode cX4_init 72 = .ok (.bipush 8, 2) := by decide +kernel
theorem dX4_init_74 : decode cX4_init 74 = .ok (.bipush 40, 2) := by decide +kernel
theorem dX4_init_76 : decode cX4_init 76 = .ok (.invokestatic 7, 3) := by decide +kernel
theorem dX4_init_79 : decode cX4_init 79 = .ok (.invokespecial 24, 3) := by decide +kernel
theorem dX4_init_82 : decode cX4_init 82 = .ok (.putfield 27, 3) := by decide +kernel
theorem dX4_init_85 : decode cX4_init 85 = .ok (.aload_n 0, 1) := by decide +kernel
theorem dX4_init_86 : decode cX4_init 86 = .ok (.new 31, 3) := by decide +kernel
theorem dX4_init_89 : decode cX4_init 89 = .ok (.dup, 1) := by decide +kernel
theorem dX4_init_90 : decode cX4_init 90 = .ok (.invokespecial 33, 3) := by decide +kernel
theorem dX4_init_93 : decode cX4_init 93 = .ok (.putfield 34, 3) := by decide +kernel
theorem dX4_init_96 : decode cX4_init 96 = .ok (.aload_n 0, 1) := by decide +kernel
theorem dX4_init_97 : decode cX4_init 97 = .ok (.new 31, 3) := by decide +kernel
theorem dX4_init_100 : decode cX4_init 100 = .ok (.dup, 1) := by decide +kernel
theorem dX4_init_101 : decode cX4_init 101 = .ok (.invokespecial 33, 3) := by decide +kernel
theorem dX4_init_104 : decode cX4_init 104 = .ok (.putfield 38, 3) := by decide +kernel
theorem dX4_init_107 : decode cX4_init 107 = .ok (.return_, 1) := by decide +kernel
theorem dX4_timeout_0 : decode cX4_timeout 0 = .ok (.aload_n 0, 1) := by decide +kernel
theorem dX4_timeout_1 : decode cX4_timeout 1 = .ok (.iload_n 1, 1) := by decide +kernel
theorem dX4_timeout_2 : decode cX4_timeout 2 = .ok (.invokevirtual 41, 3) := by decide +kernel
theorem dX4_timeout_5 : decode cX4_timeout 5 = .ok (.ifCond .ne 5, 3) := by decide +kernel
theorem dX4_timeout_8 : decode cX4_timeout 8 = .ok (.iconst (-1), 1) := by decide +kernel
theorem dX4_timeout_9 : decode cX4_timeout 9 = .ok (.ireturn, 1) := by decide +kernel
theorem dX4_timeout_10 : decode cX4_timeout 10 = .ok (.aload_n 0, 1) := by decide +kernel
theorem dX4_timeout_11 : decode cX4_timeout 11 = .ok (.getfield 15, 3) := by decide +kernel
theorem dX4_timeout_14 : decode cX4_timeout 14 = .ok (.iload_n 1, 1) := by decide +kernel
theorem dX4_timeout_15 : decode cX4_timeout 15 = .ok (.aaload, 1) := by decide +kernel
theorem dX4_timeout_16 : decode cX4_timeout 16 = .ok (.astore_n 2, 1) := by decide +kernel
theorem dX4_timeout_17 : decode cX4_timeout 17 = .ok (.aload_n 2, 1) := by decide +kernel
theorem dX4_timeout_18 : decode cX4_timeout 18 = .ok (.getfield 45, 3) := by decide +kernel
theorem dX4_timeout_21 : decode cX4_timeout 21 = .ok (.ifCond .ne 6, 3) := by decide +kernel
theorem dX4_timeout_24 : decode cX4_timeout 24 = .ok (.bipush (-2), 2) := by decide +kernel
theorem dX4_timeout_26 : decode cX4_timeout 26 = .ok (.ireturn, 1) := by decide +kernel
theorem dX4_timeout_27 : decode cX4_timeout 27 = .ok (.aload_n 2, 1) := by decide +kernel
theorem dX4_timeout_28 : decode cX4_timeout 28 = .ok (.getfield 49, 3) := by decide +kernel
theorem dX4_timeout_31 : decode cX4_timeout 31 = .ok (.iconst 2, 1) := by decide +kernel
theorem dX4_timeout_32 : decode cX4_timeout 32 = .ok (.if_icmp .ne 6, 3) := by decide +kernel
theorem dX4_timeout_35 : decode cX4_timeout 35 = .ok (.bipush (-3), 2) := by decide +kernel
theorem dX4_timeout_37 : decode cX4_timeout 37 = .ok (.ireturn, 1) := by decide +kernel
theorem dX4_timeout_38 : decode cX4_timeout 38 = .ok (.aload_n 0, 1) := by decide +kernel
theorem dX4_timeout_39 : decode cX4_timeout 39 = .ok (.getfield 27, 3) := by decide +kernel
theorem dX4_timeout_42 : decode cX4_timeout 42 = .ok (.invokevirtual 53, 3) := by decide +kernel
theorem dX4_timeout_45 : decode cX4_timeout 45 = .ok (.aload_n 0, 1) := by decide +kernel
theorem dX4_timeout_46 : decode cX4_timeout 46 = .ok (.getfield 15, 3) := by decide +kernel
theorem dX4_timeout_49 : decode cX4_timeout 49 = .ok (.arraylength, 1) := by decide +kernel
theorem dX4_timeout_50 : decode cX4_timeout 50 = .ok (.iconst 1, 1) := by decide +kernel
theorem dX4_timeout_51 : decode cX4_timeout 51 = .ok (.isub, 1) := by decide +kernel
theorem dX4_timeout_52 : decode cX4_timeout 52 = .ok (.if_icmp .ge 6, 3) := by decide +kernel
theorem dX4_timeout_55 : decode cX4_timeout 55 = .ok (.bipush (-4), 2) := by decide +kernel
theorem dX4_timeout_57 : decode cX4_timeout 57 = .ok (.ireturn, 1) := by decide +kernel
theorem dX4_timeout_58 : decode cX4_timeout 58 = .ok (.aload_n 2, 1) := by decide +kernel
theorem dX4_timeout_59 : decode cX4_timeout 59 = .ok (.invokevirtual 57, 3) := by decide +kernel
theorem dX4_timeout_62 : decode cX4_timeout 62 = .ok (.iconst 0, 1) := by decide +kernel
theorem dX4_timeout_63 : decode cX4_timeout 63 = .ok (.istore_n 3, 1) := by decide +kernel
theorem dX4_timeout_64 : decode cX4_timeout 64 = .ok (.iload_n 3, 1) := by decide +kernel
theorem dX4_timeout_65 : decode cX4_timeout 65 = .ok (.aload_n 0, 1) := by decide +kernel
theorem dX4_timeout_66 : decode cX4_timeout 66 = .ok (.getfield 15, 3) := by decide +kernel
theorem dX4_timeout_69 : decode cX4_timeout 69 = .ok (.arraylength, 1) := by decide +kernel
theorem dX4_timeout_70 : decode cX4_timeout 70 = .ok (.if_icmp .ge 20, 3) := by decide +kernel
theorem dX4_timeout_73 : decode cX4_timeout 73 = .ok (.iload_n 3, 1) := by decide +kernel
theorem dX4_timeout_74 : decode cX4_timeout 74 = .ok (.iload_n 1, 1) := by decide +kernel
theorem dX4_timeout_75 : decode cX4_timeout 75 = .ok (.if_icmp .eq 9, 3) := by decide +kernel
theorem dX4_timeout_78 : decode cX4_timeout 78 = .ok (.aload_n 0, 1) := by decide +kernel
theorem dX4_timeout_79 : decode cX4_timeout 79 = .ok (.aload_n 2, 1) := by decide +kernel
theorem dX4_timeout_80 : decode cX4_timeout 80 = .ok (.iload_n 3, 1) := by decide +kernel
theorem dX4_timeout_81 : decode cX4_timeout 81 = .ok (.invokevirtual 60, 3) := by decide +kernel
theorem dX4_timeout_84 : decode cX4_timeout 84 = .ok (.iinc 3 1, 3) := by decide +kernel
theorem dX4_timeout_87 : decode cX4_timeout 87 = .ok (.goto (-23), 3) := by decide +kernel
theorem dX4_timeout_90 : decode cX4_timeout 90 = .ok (.iconst 0, 1) := by decide +kernel
theorem dX4_timeout_91 : decode cX4_timeout 91 = .ok (.ireturn, 1) := by decide +kernel
theorem dX4_heartbeat_0 : decode cX4_heartbeat 0 = .ok (.aload_n 0, 1) := by decide +kernel
theorem dX4_heartbeat_1 : decode cX4_heartbeat 1 = .ok (.iload_n 1, 1) := by decide +kernel
theorem dX4_heartbeat_2 : decode cX4_heartbeat 2 = .ok (.iload_n 2, 1) := by decide +kernel
theorem dX4_heartbeat_3 : decode cX4_heartbeat 3 = .ok (.invokevirtual 64, 3) := by decide +kernel
theorem dX4_heartbeat_6 : decode cX4_heartbeat 6 = .ok (.ifCond .ne 5, 3) := by decide +kernel
theorem dX4_heartbeat_9 : decode cX4_heartbeat 9 = .ok (.iconst (-1), 1) := by decide +kernel
theorem dX4_heartbeat_10 : decode cX4_heartbeat 10 = .ok (.ireturn, 1) := by decide +kernel
theorem dX4_heartbeat_11 : decode cX4_heartbeat 11 = .ok (.aload_n 0, 1) := by decide +kernel
theorem dX4_heartbeat_12 : decode cX4_heartbeat 12 = .ok (.getfield 15, 3) := by decide +kernel
theorem dX4_heartbeat_15 : decode cX4_heartbeat 15 = .ok (.iload_n 1, 1) := by decide +kernel
theorem dX4_heartbeat_16 : decode cX4_heartbeat 16 = .ok (.aaload, 1) := by decide +kernel
theorem dX4_heartbeat_17 : decode cX4_heartbeat 17 = .ok (.astore_n 3, 1) := by decide +kernel
theorem dX4_heartbeat_18 : decode cX4_heartbeat 18 = .ok (.aload_n 3, 1) := by decide +kernel
theorem dX4_heartbeat_19 : decode cX4_heartbeat 19 = .ok (.getfield 45, 3) := by decide +kernel
theorem dX4_heartbeat_22 : decode cX4_heartbeat 22 = .ok (.ifCond .ne 6, 3) := by decide +kernel
theorem dX4_heartbeat_25 : decode cX4_heartbeat 25 = .ok (.bipush (-2), 2) := by decide +kernel
theorem dX4_heartbeat_27 : decode cX4_heartbeat 27 = .ok (.ireturn, 1) := by decide +kernel
theorem dX4_heartbeat_28 : decode cX4_heartbeat 28 = .ok (.aload_n 3, 1) := by decide +kernel
theorem dX4_heartbeat_29 : decode cX4_heartbeat 29 = .ok (.getfield 49, 3) := by decide +kernel
theorem dX4_heartbeat_32 : decode cX4_heartbeat 32 = .ok (.iconst 2, 1) := by decide +kernel
theorem dX4_heartbeat_33 : decode cX4_heartbeat 33 = .ok (.if_icmp .eq 6, 3) := by decide +kernel
theorem dX4_heartbeat_36 : decode cX4_heartbeat 36 = .ok (.bipush (-3), 2) := by decide +kernel
theorem dX4_heartbeat_38 : decode cX4_heartbeat 38 = .ok (.ireturn, 1) := by decide +kernel
theorem dX4_heartbeat_39 : decode cX4_heartbeat 39 = .ok (.aload_n 0, 1) := by decide +kernel
theorem dX4_heartbeat_40 : decode cX4_heartbeat 40 = .ok (.getfield 27, 3) := by decide +kernel
theorem dX4_heartbeat_43 : decode cX4_heartbeat 43 = .ok (.invokevirtual 53, 3) := by decide +kernel
theorem dX4_heartbeat_46 : decode cX4_heartbeat 46 = .ok (.ifCond .ne 6, 3) := by decide +kernel
theorem dX4_heartbeat_49 : decode cX4_heartbeat 49 = .ok (.bipush (-4), 2) := by decide +kernel
theorem dX4_heartbeat_51 : decode cX4_heartbeat 51 = .ok (.ireturn, 1) := by decide +kernel
theorem dX4_heartbeat_52 : decode cX4_heartbeat 52 = .ok (.aload_n 3, 1) := by decide +kernel
theorem dX4_heartbeat_53 : decode cX4_heartbeat 53 = .ok (.getfield 68, 3) := by decide +kernel
theorem dX4_heartbeat_56 : decode cX4_heartbeat 56 = .ok (.iload_n 2, 1) := by decide +kernel
theorem dX4_heartbeat_57 : decode cX4_heartbeat 57 = .ok (.iaload, 1) := by decide +kernel
theorem dX4_heartbeat_58 : decode cX4_heartbeat 58 = .ok (.aload_n 3, 1) := by decide +kernel
theorem dX4_heartbeat_59 : decode cX4_heartbeat 59 = .ok (.getfield 72, 3) := by decide +kernel
theorem dX4_heartbeat_62 : decode cX4_heartbeat 62 = .ok (.getfield 76, 3) := by decide +kernel
theorem dX4_heartbeat_65 : decode cX4_heartbeat 65 = .ok (.if_icmp .gt 11, 3) := by decide +kernel
theorem dX4_heartbeat_68 : decode cX4_heartbeat 68 = .ok (.aload_n 0, 1) := by decide +kernel
theorem dX4_heartbeat_69 : decode cX4_heartbeat 69 = .ok (.aload_n 3, 1) := by decide +kernel
theorem dX4_heartbeat_70 : decode cX4_heartbeat 70 = .ok (.iload_n 2, 1) := by decide +kernel
theorem dX4_heartbeat_71 : decode cX4_heartbeat 71 = .ok (.invokevirtual 81, 3) := by decide +kernel
theorem dX4_heartbeat_74 : decode cX4_heartbeat 74 = .ok (.iconst 5, 1) := by decide +kernel
theorem dX4_heartbeat_75 : decode cX4_heartbeat 75 = .ok (.ireturn, 1) := by decide +kernel
theorem dX4_heartbeat_76 : decode cX4_heartbeat 76 = .ok (.aload_n 0, 1) := by decide +kernel
theorem dX4_heartbeat_77 : decode cX4_heartbeat 77 = .ok (.aload_n 3, 1) := by decide +kernel
theorem dX4_heartbeat_78 : decode cX4_heartbeat 78 = .ok (.iload_n 2, 1) := by decide +kernel
theorem dX4_heartbeat_79 : decode cX4_heartbeat 79 = .ok (.invokevirtual 84, 3) := by decide +kernel
theorem dX4_heartbeat_82 : decode cX4_heartbeat 82 = .ok (.iconst 3, 1) := by decide +kernel
theorem dX4_heartbeat_83 : decode cX4_heartbeat 83 = .ok (.ireturn, 1) := by decide +kernel
theorem dX4_propose_0 : decode cX4_propose 0 = .ok (.aload_n 0, 1) := by decide +kernel
theorem dX4_propose_1 : decode cX4_propose 1 = .ok (.iload_n 1, 1) := by decide +kernel
theorem dX4_propose_2 : decode cX4_propose 2 = .ok (.invokevirtual 41, 3) := by decide +kernel
theorem dX4_propose_5 : decode cX4_propose 5 = .ok (.ifCond .ne 5, 3) := by decide +kernel
theorem dX4_propose_8 : decode cX4_propose 8 = .ok (.iconst (-1), 1) := by decide +kernel
theorem dX4_propose_9 : decode cX4_propose 9 = .ok (.ireturn, 1) := by decide +kernel
theorem dX4_propose_10 : decode cX4_propose 10 = .ok (.aload_n 0, 1) := by decide +kernel
theorem dX4_propose_11 : decode cX4_propose 11 = .ok (.getfield 15, 3) := by decide +kernel
theorem dX4_propose_14 : decode cX4_propose 14 = .ok (.iload_n 1, 1) := by decide +kernel
theorem dX4_propose_15 : decode cX4_propose 15 = .ok (.aaload, 1) := by decide +kernel
theorem dX4_propose_16 : decode cX4_propose 16 = .ok (.astore_n 3, 1) := by decide +kernel
theorem dX4_propose_17 : decode cX4_propose 17 = .ok (.aload_n 3, 1) := by decide +kernel
theorem dX4_propose_18 : decode cX4_propose 18 = .ok (.getfield 45, 3) := by decide +kernel
theorem dX4_propose_21 : decode cX4_propose 21 = .ok (.ifCond .ne 6, 3) := by decide +kernel
theorem dX4_propose_24 : decode cX4_propose 24 = .ok (.bipush (-2), 2) := by decide +kernel
theorem dX4_propose_26 : decode cX4_propose 26 = .ok (.ireturn, 1) := by decide +kernel
theorem dX4_propose_27 : decode cX4_propose 27 = .ok (.aload_n 3, 1) := by decide +kernel
theorem dX4_propose_28 : decode cX4_propose 28 = .ok (.getfield 49, 3) := by decide +kernel
theorem dX4_propose_31 : decode cX4_propose 31 = .ok (.iconst 2, 1) := by decide +kernel
theorem dX4_propose_32 : decode cX4_propose 32 = .ok (.if_icmp .eq 6, 3) := by decide +kernel
theorem dX4_propose_35 : decode cX4_propose 35 = .ok (.bipush (-3), 2) := by decide +kernel
theorem dX4_propose_37 : decode cX4_propose 37 = .ok (.ireturn, 1) := by decide +kernel
theorem dX4_propose_38 : decode cX4_propose 38 = .ok (.aload_n 3, 1) := by decide +kernel
theorem dX4_propose_39 : decode cX4_propose 39 = .ok (.getfield 72, 3) := by decide +kernel
theorem dX4_propose_42 : decode cX4_propose 42 = .ok (.invokevirtual 87, 3) := by decide +kernel
theorem dX4_propose_45 : decode cX4_propose 45 = .ok (.ifCond .eq 6, 3) := by decide +kernel
theorem dX4_propose_48 : decode cX4_propose 48 = .ok (.bipush (-4), 2) := by decide +kernel
theorem dX4_propose_50 : decode cX4_propose 50 = .ok (.ireturn, 1) := by decide +kernel
theorem dX4_propose_51 : decode cX4_propose 51 = .ok (.aload_n 3, 1) := by decide +kernel
theorem dX4_propose_52 : decode cX4_propose 52 = .ok (.getfield 72, 3) := by decide +kernel
theorem dX4_propose_55 : decode cX4_propose 55 = .ok (.aload_n 3, 1) := by decide +kernel
theorem dX4_propose_56 : decode cX4_propose 56 = .ok (.getfield 91, 3) := by decide +kernel
theorem dX4_propose_59 : decode cX4_propose 59 = .ok (.iload_n 2, 1) := by decide +kernel
theorem dX4_propose_60 : decode cX4_propose 60 = .ok (.invokevirtual 94, 3) := by decide +kernel
theorem dX4_propose_63 : decode cX4_propose 63 = .ok (.aload_n 3, 1) := by decide +kernel
theorem dX4_propose_64 : decode cX4_propose 64 = .ok (.getfield 72, 3) := by decide +kernel
theorem dX4_propose_67 : decode cX4_propose 67 = .ok (.invokevirtual 98, 3) := by decide +kernel
theorem dX4_propose_70 : decode cX4_propose 70 = .ok (.ireturn, 1) := by decide +kernel
theorem dX4_compact_0 : decode cX4_compact 0 = .ok (.aload_n 0, 1) := by decide +kernel
theorem dX4_compact_1 : decode cX4_compact 1 = .ok (.iload_n 1, 1) := by decide +kernel
theorem dX4_compact_2 : decode cX4_compact 2 = .ok (.invokevirtual 41, 3) := by decide +kernel
theorem dX4_compact_5 : decode cX4_compact 5 = .ok (.ifCond .ne 5, 3) := by decide +kernel
theorem dX4_compact_8 : decode cX4_compact 8 = .ok (.iconst (-1), 1) := by decide +kernel
theorem dX4_compact_9 : decode cX4_compact 9 = .ok (.ireturn, 1) := by decide +kernel
theorem dX4_compact_10 : decode cX4_compact 10 = .ok (.aload_n 0, 1) := by decide +kernel
theorem dX4_compact_11 : decode cX4_compact 11 = .ok (.getfield 15, 3) := by decide +kernel
theorem dX4_compact_14 : decode cX4_compact 14 = .ok (.iload_n 1, 1) := by decide +kernel
theorem dX4_compact_15 : decode cX4_compact 15 = .ok (.aaload, 1) := by decide +kernel
theorem dX4_compact_16 : decode cX4_compact 16 = .ok (.astore_n 2, 1) := by decide +kernel
theorem dX4_compact_17 : decode cX4_compact 17 = .ok (.aload_n 2, 1) := by decide +kernel
theorem dX4_compact_18 : decode cX4_compact 18 = .ok (.getfield 45, 3) := by decide +kernel
theorem dX4_compact_21 : decode cX4_compact 21 = .ok (.ifCond .ne 6, 3) := by decide +kernel
theorem dX4_compact_24 : decode cX4_compact 24 = .ok (.bipush (-2), 2) := by decide +kernel
theorem dX4_compact_26 : decode cX4_compact 26 = .ok (.ireturn, 1) := by decide +kernel
theorem dX4_compact_27 : decode cX4_compact 27 = .ok (.aload_n 2, 1) := by decide +kernel
theorem dX4_compact_28 : decode cX4_compact 28 = .ok (.getfield 72, 3) := by decide +kernel
theorem dX4_compact_31 : decode cX4_compact 31 = .ok (.getfield 76, 3) := by decide +kernel
theorem dX4_compact_34 : decode cX4_compact 34 = .ok (.istore_n 3, 1) := by decide +kernel
theorem dX4_compact_35 : decode cX4_compact 35 = .ok (.aload_n 2, 1) := by decide +kernel
theorem dX4_compact_36 : decode cX4_compact 36 = .ok (.getfield 72, 3) := by decide +kernel
theorem dX4_compact_39 : decode cX4_compact 39 = .ok (.aload_n 2, 1) := by decide +kernel
theorem dX4_compact_40 : decode cX4_compact 40 = .ok (.getfield 101, 3) := by decide +kernel
theorem dX4_compact_43 : decode cX4_compact 43 = .ok (.aload_n 2, 1) := by decide +kernel
theorem dX4_compact_44 : decode cX4_compact 44 = .ok (.getfield 72, 3) := by decide +kernel
theorem dX4_compact_47 : decode cX4_compact 47 = .ok (.aload_n 2, 1) := by decide +kernel
theorem dX4_compact_48 : decode cX4_compact 48 = .ok (.getfield 101, 3) := by decide +kernel
theorem dX4_compact_51 : decode cX4_compact 51 = .ok (.invokevirtual 104, 3) := by decide +kernel
theorem dX4_compact_54 : decode cX4_compact 54 = .ok (.aload_n 2, 1) := by decide +kernel
theorem dX4_compact_55 : decode cX4_compact 55 = .ok (.getfield 72, 3) := by decide +kernel
theorem dX4_compact_58 : decode cX4_compact 58 = .ok (.aload_n 2, 1) := by decide +kernel
theorem dX4_compact_59 : decode cX4_compact 59 = .ok (.getfield 101, 3) := by decide +kernel
theorem dX4_compact_62 : decode cX4_compact 62 = .ok (.invokevirtual 108, 3) := by decide +kernel
theorem dX4_compact_65 : decode cX4_compact 65 = .ok (.invokevirtual 111, 3) := by decide +kernel
theorem dX4_compact_68 : decode cX4_compact 68 = .ok (.aload_n 2, 1) := by decide +kernel
theorem dX4_compact_69 : decode cX4_compact 69 = .ok (.getfield 72, 3) := by decide +kernel
theorem dX4_compact_72 : decode cX4_compact 72 = .ok (.getfield 76, 3) := by decide +kernel
theorem dX4_compact_75 : decode cX4_compact 75 = .ok (.iload_n 3, 1) := by decide +kernel
theorem dX4_compact_76 : decode cX4_compact 76 = .ok (.isub, 1) := by decide +kernel
theorem dX4_compact_77 : decode cX4_compact 77 = .ok (.ireturn, 1) := by decide +kernel
theorem dX4_deliver_0 : decode cX4_deliver 0 = .ok (.aload_n 0, 1) := by decide +kernel
theorem dX4_deliver_1 : decode cX4_deliver 1 = .ok (.getfield 27, 3) := by decide +kernel
theorem dX4_deliver_4 : decode cX4_deliver 4 = .ok (.iload_n 1, 1) := by decide +kernel
theorem dX4_deliver_5 : decode cX4_deliver 5 = .ok (.invokevirtual 114, 3) := by decide +kernel
theorem dX4_deliver_8 : decode cX4_deliver 8 = .ok (.ifCond .ne 5, 3) := by decide +kernel
theorem dX4_deliver_11 : decode cX4_deliver 11 = .ok (.iconst (-1), 1) := by decide +kernel
theorem dX4_deliver_12 : decode cX4_deliver 12 = .ok (.ireturn, 1) := by decide +kernel
theorem dX4_deliver_13 : decode cX4_deliver 13 = .ok (.aload_n 0, 1) := by decide +kernel
theorem dX4_deliver_14 : decode cX4_deliver 14 = .ok (.getfield 27, 3) := by decide +kernel
theorem dX4_deliver_17 : decode cX4_deliver 17 = .ok (.iload_n 1, 1) := by decide +kernel
theorem dX4_deliver_18 : decode cX4_deliver 18 = .ok (.invokevirtual 117, 3) := by decide +kernel
theorem dX4_deliver_21 : decode cX4_deliver 21 = .ok (.ifCond .eq 6, 3) := by decide +kernel
theorem dX4_deliver_24 : decode cX4_deliver 24 = .ok (.bipush (-5), 2) := by decide +kernel
theorem dX4_deliver_26 : decode cX4_deliver 26 = .ok (.ireturn, 1) := by decide +kernel
theorem dX4_deliver_27 : decode cX4_deliver 27 = .ok (.aload_n 0, 1) := by decide +kernel
theorem dX4_deliver_28 : decode cX4_deliver 28 = .ok (.getfield 38, 3) := by decide +kernel
theorem dX4_deliver_31 : decode cX4_deliver 31 = .ok (.aload_n 0, 1) := by decide +kernel
theorem dX4_deliver_32 : decode cX4_deliver 32 = .ok (.getfield 27, 3) := by decide +kernel
theorem dX4_deliver_35 : decode cX4_deliver 35 = .ok (.getfield 120, 3) := by decide +kernel
theorem dX4_deliver_38 : decode cX4_deliver 38 = .ok (.iload_n 1, 1) := by decide +kernel
theorem dX4_deliver_39 : decode cX4_deliver 39 = .ok (.aaload, 1) := by decide +kernel
theorem dX4_deliver_40 : decode cX4_deliver 40 = .ok (.invokevirtual 124, 3) := by decide +kernel
theorem dX4_deliver_43 : decode cX4_deliver 43 = .ok (.aload_n 0, 1) := by decide +kernel
theorem dX4_deliver_44 : decode cX4_deliver 44 = .ok (.getfield 27, 3) := by decide +kernel
theorem dX4_deliver_47 : decode cX4_deliver 47 = .ok (.iload_n 1, 1) := by decide +kernel
theorem dX4_deliver_48 : decode cX4_deliver 48 = .ok (.invokevirtual 128, 3) := by decide +kernel
theorem dX4_deliver_51 : decode cX4_deliver 51 = .ok (.aload_n 0, 1) := by decide +kernel
theorem dX4_deliver_52 : decode cX4_deliver 52 = .ok (.getfield 15, 3) := by decide +kernel
theorem dX4_deliver_55 : decode cX4_deliver 55 = .ok (.aload_n 0, 1) := by decide +kernel
theorem dX4_deliver_56 : decode cX4_deliver 56 = .ok (.getfield 38, 3) := by decide +kernel
theorem dX4_deliver_59 : decode cX4_deliver 59 = .ok (.getfield 131, 3) := by decide +kernel
theorem dX4_deliver_62 : decode cX4_deliver 62 = .ok (.aaload, 1) := by decide +kernel
theorem dX4_deliver_63 : decode cX4_deliver 63 = .ok (.astore_n 2, 1) := by decide +kernel
theorem dX4_deliver_64 : decode cX4_deliver 64 = .ok (.aload_n 2, 1) := by decide +kernel
theorem dX4_deliver_65 : decode cX4_deliver 65 = .ok (.getfield 45, 3) := by decide +kernel
theorem dX4_deliver_68 : decode cX4_deliver 68 = .ok (.ifCond .eq 12, 3) := by decide +kernel
theorem dX4_deliver_71 : decode cX4_deliver 71 = .ok (.aload_n 0, 1) := by decide +kernel
theorem dX4_deliver_72 : decode cX4_deliver 72 = .ok (.aload_n 2, 1) := by decide +kernel
theorem dX4_deliver_73 : decode cX4_deliver 73 = .ok (.aload_n 0, 1) := by decide +kernel
theorem dX4_deliver_74 : decode cX4_deliver 74 = .ok (.getfield 38, 3) := by decide +kernel
theorem dX4_deliver_77 : decode cX4_deliver 77 = .ok (.invokevirtual 134, 3) := by decide +kernel
theorem dX4_deliver_80 : decode cX4_deliver 80 = .ok (.aload_n 0, 1) := by decide +kernel
theorem dX4_deliver_81 : decode cX4_deliver 81 = .ok (.getfield 38, 3) := by decide +kernel
theorem dX4_deliver_84 : decode cX4_deliver 84 = .ok (.getfield 138, 3) := by decide +kernel
theorem dX4_deliver_87 : decode cX4_deliver 87 = .ok (.ireturn, 1) := by decide +kernel
theorem dX4_drop_0 : decode cX4_drop 0 = .ok (.aload_n 0, 1) := by decide +kernel
theorem dX4_drop_1 : decode cX4_drop 1 = .ok (.getfield 27, 3) := by decide +kernel
theorem dX4_drop_4 : decode cX4_drop 4 = .ok (.iload_n 1, 1) := by decide +kernel
theorem dX4_drop_5 : decode cX4_drop 5 = .ok (.invokevirtual 114, 3) := by decide +kernel
theorem dX4_drop_8 : decode cX4_drop 8 = .ok (.ifCond .ne 5, 3) := by decide +kernel
theorem dX4_drop_11 : decode cX4_drop 11 = .ok (.iconst (-1), 1) := by decide +kernel
theorem dX4_drop_12 : decode cX4_drop 12 = .ok (.ireturn, 1) := by decide +kernel
theorem dX4_drop_13 : decode cX4_drop 13 = .ok (.aload_n 0, 1) := by decide +kernel
theorem dX4_drop_14 : decode cX4_drop 14 = .ok (.getfield 27, 3) := by decide +kernel
theorem dX4_drop_17 : decode cX4_drop 17 = .ok (.iload_n 1, 1) := by decide +kernel
theorem dX4_drop_18 : decode cX4_drop 18 = .ok (.invokevirtual 117, 3) := by decide +kernel
theorem dX4_drop_21 : decode cX4_drop 21 = .ok (.ifCond .eq 6, 3) := by decide +kernel
theorem dX4_drop_24 : decode cX4_drop 24 = .ok (.bipush (-5), 2) := by decide +kernel
theorem dX4_drop_26 : decode cX4_drop 26 = .ok (.ireturn, 1) := by decide +kernel
theorem dX4_drop_27 : decode cX4_drop 27 = .ok (.aload_n 0, 1) := by decide +kernel
theorem dX4_drop_28 : decode cX4_drop 28 = .ok (.getfield 27, 3) := by decide +kernel
theorem dX4_drop_31 : decode cX4_drop 31 = .ok (.iload_n 1, 1) := by decide +kernel
theorem dX4_drop_32 : decode cX4_drop 32 = .ok (.invokevirtual 128, 3) := by decide +kernel
theorem dX4_drop_35 : decode cX4_drop 35 = .ok (.iconst 0, 1) := by decide +kernel
theorem dX4_drop_36 : decode cX4_drop 36 = .ok (.ireturn, 1) := by decide +kernel
theorem dX4_duplicate_0 : decode cX4_duplicate 0 = .ok (.aload_n 0, 1) := by decide +kernel
theorem dX4_duplicate_1 : decode cX4_duplicate 1 = .ok (.getfield 27, 3) := by decide +kernel
theorem dX4_duplicate_4 : decode cX4_duplicate 4 = .ok (.iload_n 1, 1) := by decide +kernel
theorem dX4_duplicate_5 : decode cX4_duplicate 5 = .ok (.invokevirtual 114, 3) := by decide +kernel
theorem dX4_duplicate_8 : decode cX4_duplicate 8 = .ok (.ifCond .ne 5, 3) := by decide +kernel
theorem dX4_duplicate_11 : decode cX4_duplicate 11 = .ok (.iconst (-1), 1) := by decide +kernel
theorem dX4_duplicate_12 : decode cX4_duplicate 12 = .ok (.ireturn, 1) := by decide +kernel
theorem dX4_duplicate_13 : decode cX4_duplicate 13 = .ok (.aload_n 0, 1) := by decide +kernel
theorem dX4_duplicate_14 : decode cX4_duplicate 14 = .ok (.getfield 27, 3) := by decide +kernel
theorem dX4_duplicate_17 : decode cX4_duplicate 17 = .ok (.iload_n 1, 1) := by decide +kernel
theorem dX4_duplicate_18 : decode cX4_duplicate 18 = .ok (.invokevirtual 117, 3) := by decide +kernel
theorem dX4_duplicate_21 : decode cX4_duplicate 21 = .ok (.ifCond .eq 6, 3) := by decide +kernel
theorem dX4_duplicate_24 : decode cX4_duplicate 24 = .ok (.bipush (-5), 2) := by decide +kernel
theorem dX4_duplicate_26 : decode cX4_duplicate 26 = .ok (.ireturn, 1) := by decide +kernel
theorem dX4_duplicate_27 : decode cX4_duplicate 27 = .ok (.aload_n 0, 1) := by decide +kernel
theorem dX4_duplicate_28 : decode cX4_duplicate 28 = .ok (.getfield 27, 3) := by decide +kernel
theorem dX4_duplicate_31 : decode cX4_duplicate 31 = .ok (.aload_n 0, 1) := by decide +kernel
theorem dX4_duplicate_32 : decode cX4_duplicate 32 = .ok (.getfield 27, 3) := by decide +kernel
theorem dX4_duplicate_35 : decode cX4_duplicate 35 = .ok (.getfield 120, 3) := by decide +kernel
theorem dX4_duplicate_38 : decode cX4_duplicate 38 = .ok (.iload_n 1, 1) := by decide +kernel
theorem dX4_duplicate_39 : decode cX4_duplicate 39 = .ok (.aaload, 1) := by decide +kernel
theorem dX4_duplicate_40 : decode cX4_duplicate 40 = .ok (.invokevirtual 141, 3) := by decide +kernel
theorem dX4_duplicate_43 : decode cX4_duplicate 43 = .ok (.ireturn, 1) := by decide +kernel
theorem dX4_crash_0 : decode cX4_crash 0 = .ok (.aload_n 0, 1) := by decide +kernel
theorem dX4_crash_1 : decode cX4_crash 1 = .ok (.iload_n 1, 1) := by decide +kernel
theorem dX4_crash_2 : decode cX4_crash 2 = .ok (.invokevirtual 41, 3) := by decide +kernel
theorem dX4_crash_5 : decode cX4_crash 5 = .ok (.ifCond .ne 5, 3) := by decide +kernel
theorem dX4_crash_8 : decode cX4_crash 8 = .ok (.iconst (-1), 1) := by decide +kernel
theorem dX4_crash_9 : decode cX4_crash 9 = .ok (.ireturn, 1) := by decide +kernel
theorem dX4_crash_10 : decode cX4_crash 10 = .ok (.aload_n 0, 1) := by decide +kernel
theorem dX4_crash_11 : decode cX4_crash 11 = .ok (.getfield 15, 3) := by decide +kernel
theorem dX4_crash_14 : decode cX4_crash 14 = .ok (.iload_n 1, 1) := by decide +kernel
theorem dX4_crash_15 : decode cX4_crash 15 = .ok (.aaload, 1) := by decide +kernel
theorem dX4_crash_16 : decode cX4_crash 16 = .ok (.astore_n 2, 1) := by decide +kernel
theorem dX4_crash_17 : decode cX4_crash 17 = .ok (.aload_n 2, 1) := by decide +kernel
theorem dX4_crash_18 : decode cX4_crash 18 = .ok (.getfield 45, 3) := by decide +kernel
theorem dX4_crash_21 : decode cX4_crash 21 = .ok (.ifCond .ne 6, 3) := by decide +kernel
theorem dX4_crash_24 : decode cX4_crash 24 = .ok (.bipush (-2), 2) := by decide +kernel
theorem dX4_crash_26 : decode cX4_crash 26 = .ok (.ireturn, 1) := by decide +kernel
theorem dX4_crash_27 : decode cX4_crash 27 = .ok (.aload_n 2, 1) := by decide +kernel
theorem dX4_crash_28 : decode cX4_crash 28 = .ok (.iconst 0, 1) := by decide +kernel
theorem dX4_crash_29 : decode cX4_crash 29 = .ok (.putfield 45, 3) := by decide +kernel
theorem dX4_crash_32 : decode cX4_crash 32 = .ok (.aload_n 2, 1) := by decide +kernel
theorem dX4_crash_33 : decode cX4_crash 33 = .ok (.iconst 0, 1) := by decide +kernel
theorem dX4_crash_34 : decode cX4_crash 34 = .ok (.putfield 49, 3) := by decide +kernel
theorem dX4_crash_37 : decode cX4_crash 37 = .ok (.iconst 0, 1) := by decide +kernel
theorem dX4_crash_38 : decode cX4_crash 38 = .ok (.ireturn, 1) := by decide +kernel
theorem dX4_restart_0 : decode cX4_restart 0 = .ok (.aload_n 0, 1) := by decide +kernel
theorem dX4_restart_1 : decode cX4_restart 1 = .ok (.iload_n 1, 1) := by decide +kernel
theorem dX4_restart_2 : decode cX4_restart 2 = .ok (.invokevirtual 41, 3) := by decide +kernel
theorem dX4_restart_5 : decode cX4_restart 5 = .ok (.ifCond .ne 5, 3) := by decide +kernel
theorem dX4_restart_8 : decode cX4_restart 8 = .ok (.iconst (-1), 1) := by decide +kernel
theorem dX4_restart_9 : decode cX4_restart 9 = .ok (.ireturn, 1) := by decide +kernel
theorem dX4_restart_10 : decode cX4_restart 10 = .ok (.aload_n 0, 1) := by decide +kernel
theorem dX4_restart_11 : decode cX4_restart 11 = .ok (.getfield 15, 3) := by decide +kernel
theorem dX4_restart_14 : decode cX4_restart 14 = .ok (.iload_n 1, 1) := by decide +kernel
theorem dX4_restart_15 : decode cX4_restart 15 = .ok (.aaload, 1) := by decide +kernel
theorem dX4_restart_16 : decode cX4_restart 16 = .ok (.astore_n 2, 1) := by decide +kernel
theorem dX4_restart_17 : decode cX4_restart 17 = .ok (.aload_n 2, 1) := by decide +kernel
theorem dX4_restart_18 : decode cX4_restart 18 = .ok (.getfield 45, 3) := by decide +kernel
theorem dX4_restart_21 : decode cX4_restart 21 = .ok (.ifCond .eq 6, 3) := by decide +kernel
theorem dX4_restart_24 : decode cX4_restart 24 = .ok (.bipush (-2), 2) := by decide +kernel
theorem dX4_restart_26 : decode cX4_restart 26 = .ok (.ireturn, 1) := by decide +kernel
theorem dX4_restart_27 : decode cX4_restart 27 = .ok (.aload_n 2, 1) := by decide +kernel
theorem dX4_restart_28 : decode cX4_restart 28 = .ok (.iconst 1, 1) := by decide +kernel
theorem dX4_restart_29 : decode cX4_restart 29 = .ok (.putfield 45, 3) := by decide +kernel
theorem dX4_restart_32 : decode cX4_restart 32 = .ok (.aload_n 2, 1) := by decide +kernel
theorem dX4_restart_33 : decode cX4_restart 33 = .ok (.iconst 0, 1) := by decide +kernel
theorem dX4_restart_34 : decode cX4_restart 34 = .ok (.putfield 49, 3) := by decide +kernel
theorem dX4_restart_37 : decode cX4_restart 37 = .ok (.aload_n 2, 1) := by decide +kernel
theorem dX4_restart_38 : decode cX4_restart 38 = .ok (.aload_n 2, 1) := by decide +kernel
theorem dX4_restart_39 : decode cX4_restart 39 = .ok (.getfield 72, 3) := by decide +kernel
theorem dX4_restart_42 : decode cX4_restart 42 = .ok (.getfield 76, 3) := by decide +kernel
theorem dX4_restart_45 : decode cX4_restart 45 = .ok (.putfield 101, 3) := by decide +kernel
theorem dX4_restart_48 : decode cX4_restart 48 = .ok (.iconst 0, 1) := by decide +kernel
theorem dX4_restart_49 : decode cX4_restart 49 = .ok (.ireturn, 1) := by decide +kernel
theorem dX4_role_0 : decode cX4_role 0 = .ok (.aload_n 0, 1) := by decide +kernel
theorem dX4_role_1 : decode cX4_role 1 = .ok (.iload_n 1, 1) := by decide +kernel
theorem dX4_role_2 : decode cX4_role 2 = .ok (.invokevirtual 41, 3) := by decide +kernel
theorem dX4_role_5 : decode cX4_role 5 = .ok (.ifCond .ne 5, 3) := by decide +kernel
theorem dX4_role_8 : decode cX4_role 8 = .ok (.iconst (-1), 1) := by decide +kernel
theorem dX4_role_9 : decode cX4_role 9 = .ok (.ireturn, 1) := by decide +kernel
theorem dX4_role_10 : decode cX4_role 10 = .ok (.aload_n 0, 1) := by decide +kernel
theorem dX4_role_11 : decode cX4_role 11 = .ok (.getfield 15, 3) := by decide +kernel
theorem dX4_role_14 : decode cX4_role 14 = .ok (.iload_n 1, 1) := by decide +kernel
theorem dX4_role_15 : decode cX4_role 15 = .ok (.aaload, 1) := by decide +kernel
theorem dX4_role_16 : decode cX4_role 16 = .ok (.astore_n 2, 1) := by decide +kernel
theorem dX4_role_17 : decode cX4_role 17 = .ok (.aload_n 2, 1) := by decide +kernel
theorem dX4_role_18 : decode cX4_role 18 = .ok (.getfield 45, 3) := by decide +kernel
theorem dX4_role_21 : decode cX4_role 21 = .ok (.ifCond .eq 12, 3) := by decide +kernel
theorem dX4_role_24 : decode cX4_role 24 = .ok (.aload_n 2, 1) := by decide +kernel
theorem dX4_role_25 : decode cX4_role 25 = .ok (.getfield 49, 3) := by decide +kernel
theorem dX4_role_28 : decode cX4_role 28 = .ok (.iconst 4, 1) := by decide +kernel
theorem dX4_role_29 : decode cX4_role 29 = .ok (.iadd, 1) := by decide +kernel
theorem dX4_role_30 : decode cX4_role 30 = .ok (.goto 7, 3) := by decide +kernel
theorem dX4_role_33 : decode cX4_role 33 = .ok (.aload_n 2, 1) := by decide +kernel
theorem dX4_role_34 : decode cX4_role 34 = .ok (.getfield 49, 3) := by decide +kernel
theorem dX4_role_37 : decode cX4_role 37 = .ok (.ireturn, 1) := by decide +kernel
theorem dX4_term_0 : decode cX4_term 0 = .ok (.aload_n 0, 1) := by decide +kernel
theorem dX4_term_1 : decode cX4_term 1 = .ok (.iload_n 1, 1) := by decide +kernel
theorem dX4_term_2 : decode cX4_term 2 = .ok (.invokevirtual 41, 3) := by decide +kernel
theorem dX4_term_5 : decode cX4_term 5 = .ok (.ifCond .eq 15, 3) := by decide +kernel
theorem dX4_term_8 : decode cX4_term 8 = .ok (.aload_n 0, 1) := by decide +kernel
theorem dX4_term_9 : decode cX4_term 9 = .ok (.getfield 15, 3) := by decide +kernel
theorem dX4_term_12 : decode cX4_term 12 = .ok (.iload_n 1, 1) := by decide +kernel
theorem dX4_term_13 : decode cX4_term 13 = .ok (.aaload, 1) := by decide +kernel
theorem dX4_term_14 : decode cX4_term 14 = .ok (.getfield 91, 3) := by decide +kernel
theorem dX4_term_17 : decode cX4_term 17 = .ok (.goto 4, 3) := by decide +kernel
theorem dX4_term_20 : decode cX4_term 20 = .ok (.iconst (-1), 1) := by decide +kernel
theorem dX4_term_21 : decode cX4_term 21 = .ok (.ireturn, 1) := by decide +kernel
theorem dX4_vote_0 : decode cX4_vote 0 = .ok (.aload_n 0, 1) := by decide +kernel
theorem dX4_vote_1 : decode cX4_vote 1 = .ok (.iload_n 1, 1) := by decide +kernel
theorem dX4_vote_2 : decode cX4_vote 2 = .ok (.invokevirtual 41, 3) := by decide +kernel
theorem dX4_vote_5 : decode cX4_vote 5 = .ok (.ifCond .eq 16, 3) := by decide +kernel
theorem dX4_vote_8 : decode cX4_vote 8 = .ok (.aload_n 0, 1) := by decide +kernel
theorem dX4_vote_9 : decode cX4_vote 9 = .ok (.getfield 15, 3) := by decide +kernel
theorem dX4_vote_12 : decode cX4_vote 12 = .ok (.iload_n 1, 1) := by decide +kernel
theorem dX4_vote_13 : decode cX4_vote 13 = .ok (.aaload, 1) := by decide +kernel
theorem dX4_vote_14 : decode cX4_vote 14 = .ok (.getfield 145, 3) := by decide +kernel
theorem dX4_vote_17 : decode cX4_vote 17 = .ok (.iconst (-1), 1) := by decide +kernel
theorem dX4_vote_18 : decode cX4_vote 18 = .ok (.if_icmp .ne 5, 3) := by decide +kernel
theorem dX4_vote_21 : decode cX4_vote 21 = .ok (.iconst (-1), 1) := by decide +kernel
theorem dX4_vote_22 : decode cX4_vote 22 = .ok (.ireturn, 1) := by decide +kernel
theorem dX4_vote_23 : decode cX4_vote 23 = .ok (.aload_n 0, 1) := by decide +kernel
theorem dX4_vote_24 : decode cX4_vote 24 = .ok (.getfield 15, 3) := by decide +kernel
theorem dX4_vote_27 : decode cX4_vote 27 = .ok (.iload_n 1, 1) := by decide +kernel
theorem dX4_vote_28 : decode cX4_vote 28 = .ok (.aaload, 1) := by decide +kernel
theorem dX4_vote_29 : decode cX4_vote 29 = .ok (.getfield 145, 3) := by decide +kernel
theorem dX4_vote_32 : decode cX4_vote 32 = .ok (.ireturn, 1) := by decide +kernel
theorem dX4_base_0 : decode cX4_base 0 = .ok (.aload_n 0, 1) := by decide +kernel
theorem dX4_base_1 : decode cX4_base 1 = .ok (.iload_n 1, 1) := by decide +kernel
theorem dX4_base_2 : decode cX4_base 2 = .ok (.invokevirtual 41, 3) := by decide +kernel
theorem dX4_base_5 : decode cX4_base 5 = .ok (.ifCond .eq 18, 3) := by decide +kernel
theorem dX4_base_8 : decode cX4_base 8 = .ok (.aload_n 0, 1) := by decide +kernel
theorem dX4_base_9 : decode cX4_base 9 = .ok (.getfield 15, 3) := by decide +kernel
theorem dX4_base_12 : decode cX4_base 12 = .ok (.iload_n 1, 1) := by decide +kernel
theorem dX4_base_13 : decode cX4_base 13 = .ok (.aaload, 1) := by decide +kernel
theorem dX4_base_14 : decode cX4_base 14 = .ok (.getfield 72, 3) := by decide +kernel
theorem dX4_base_17 : decode cX4_base 17 = .ok (.getfield 76, 3) := by decide +kernel
theorem dX4_base_20 : decode cX4_base 20 = .ok (.goto 4, 3) := by decide +kernel
theorem dX4_base_23 : decode cX4_base 23 = .ok (.iconst (-1), 1) := by decide +kernel
theorem dX4_base_24 : decode cX4_base 24 = .ok (.ireturn, 1) := by decide +kernel
theorem dX4_last_0 : decode cX4_last 0 = .ok (.aload_n 0, 1) := by decide +kernel
theorem dX4_last_1 : decode cX4_last 1 = .ok (.iload_n 1, 1) := by decide +kernel
theorem dX4_last_2 : decode cX4_last 2 = .ok (.invokevirtual 41, 3) := by decide +kernel
theorem dX4_last_5 : decode cX4_last 5 = .ok (.ifCond .eq 18, 3) := by decide +kernel
theorem dX4_last_8 : decode cX4_last 8 = .ok (.aload_n 0, 1) := by decide +kernel
theorem dX4_last_9 : decode cX4_last 9 = .ok (.getfield 15, 3) := by decide +kernel
theorem dX4_last_12 : decode cX4_last 12 = .ok (.iload_n 1, 1) := by decide +kernel
theorem dX4_last_13 : decode cX4_last 13 = .ok (.aaload, 1) := by decide +kernel
theorem dX4_last_14 : decode cX4_last 14 = .ok (.getfield 72, 3) := by decide +kernel
theorem dX4_last_17 : decode cX4_last 17 = .ok (.invokevirtual 98, 3) := by decide +kernel
theorem dX4_last_20 : decode cX4_last 20 = .ok (.goto 4, 3) := by decide +kernel
theorem dX4_last_23 : decode cX4_last 23 = .ok (.iconst (-1), 1) := by decide +kernel
theorem dX4_last_24 : decode cX4_last 24 = .ok (.ireturn, 1) := by decide +kernel
theorem dX4_commit_0 : decode cX4_commit 0 = .ok (.aload_n 0, 1) := by decide +kernel
theorem dX4_commit_1 : decode cX4_commit 1 = .ok (.iload_n 1, 1) := by decide +kernel
theorem dX4_commit_2 : decode cX4_commit 2 = .ok (.invokevirtual 41, 3) := by decide +kernel
theorem dX4_commit_5 : decode cX4_commit 5 = .ok (.ifCond .eq 15, 3) := by decide +kernel
theorem dX4_commit_8 : decode cX4_commit 8 = .ok (.aload_n 0, 1) := by decide +kernel
theorem dX4_commit_9 : decode cX4_commit 9 = .ok (.getfield 15, 3) := by decide +kernel
theorem dX4_commit_12 : decode cX4_commit 12 = .ok (.iload_n 1, 1) := by decide +kernel
theorem dX4_commit_13 : decode cX4_commit 13 = .ok (.aaload, 1) := by decide +kernel
theorem dX4_commit_14 : decode cX4_commit 14 = .ok (.getfield 101, 3) := by decide +kernel
theorem dX4_commit_17 : decode cX4_commit 17 = .ok (.goto 4, 3) := by decide +kernel
theorem dX4_commit_20 : decode cX4_commit 20 = .ok (.iconst (-1), 1) := by decide +kernel
theorem dX4_commit_21 : decode cX4_commit 21 = .ok (.ireturn, 1) := by decide +kernel
theorem dX4_termAt_0 : decode cX4_termAt 0 = .ok (.aload_n 0, 1) := by decide +kernel
theorem dX4_termAt_1 : decode cX4_termAt 1 = .ok (.iload_n 1, 1) := by decide +kernel
theorem dX4_termAt_2 : decode cX4_termAt 2 = .ok (.invokevirtual 41, 3) := by decide +kernel
theorem dX4_termAt_5 : decode cX4_termAt 5 = .ok (.ifCond .eq 19, 3) := by decide +kernel
theorem dX4_termAt_8 : decode cX4_termAt 8 = .ok (.aload_n 0, 1) := by decide +kernel
theorem dX4_termAt_9 : decode cX4_termAt 9 = .ok (.getfield 15, 3) := by decide +kernel
theorem dX4_termAt_12 : decode cX4_termAt 12 = .ok (.iload_n 1, 1) := by decide +kernel
theorem dX4_termAt_13 : decode cX4_termAt 13 = .ok (.aaload, 1) := by decide +kernel
theorem dX4_termAt_14 : decode cX4_termAt 14 = .ok (.getfield 72, 3) := by decide +kernel
theorem dX4_termAt_17 : decode cX4_termAt 17 = .ok (.iload_n 2, 1) := by decide +kernel
theorem dX4_termAt_18 : decode cX4_termAt 18 = .ok (.invokevirtual 104, 3) := by decide +kernel
theorem dX4_termAt_21 : decode cX4_termAt 21 = .ok (.goto 4, 3) := by decide +kernel
theorem dX4_termAt_24 : decode cX4_termAt 24 = .ok (.iconst (-1), 1) := by decide +kernel
theorem dX4_termAt_25 : decode cX4_termAt 25 = .ok (.ireturn, 1) := by decide +kernel
theorem dX4_commandAt_0 : decode cX4_commandAt 0 = .ok (.aload_n 0, 1) := by decide +kernel
theorem dX4_commandAt_1 : decode cX4_commandAt 1 = .ok (.iload_n 1, 1) := by decide +kernel
theorem dX4_commandAt_2 : decode cX4_commandAt 2 = .ok (.invokevirtual 41, 3) := by decide +kernel
theorem dX4_commandAt_5 : decode cX4_commandAt 5 = .ok (.ifCond .eq 19, 3) := by decide +kernel
theorem dX4_commandAt_8 : decode cX4_commandAt 8 = .ok (.aload_n 0, 1) := by decide +kernel
theorem dX4_commandAt_9 : decode cX4_commandAt 9 = .ok (.getfield 15, 3) := by decide +kernel
theorem dX4_commandAt_12 : decode cX4_commandAt 12 = .ok (.iload_n 1, 1) := by decide +kernel
theorem dX4_commandAt_13 : decode cX4_commandAt 13 = .ok (.aaload, 1) := by decide +kernel
theorem dX4_commandAt_14 : decode cX4_commandAt 14 = .ok (.getfield 72, 3) := by decide +kernel
theorem dX4_commandAt_17 : decode cX4_commandAt 17 = .ok (.iload_n 2, 1) := by decide +kernel
theorem dX4_commandAt_18 : decode cX4_commandAt 18 = .ok (.invokevirtual 148, 3) := by decide +kernel
theorem dX4_commandAt_21 : decode cX4_commandAt 21 = .ok (.goto 4, 3) := by decide +kernel
theorem dX4_commandAt_24 : decode cX4_commandAt 24 = .ok (.iconst 0, 1) := by decide +kernel
theorem dX4_commandAt_25 : decode cX4_commandAt 25 = .ok (.ireturn, 1) := by decide +kernel
theorem dX4_state_0 : decode cX4_state 0 = .ok (.aload_n 0, 1) := by decide +kernel
theorem dX4_state_1 : decode cX4_state 1 = .ok (.iload_n 1, 1) := by decide +kernel
theorem dX4_state_2 : decode cX4_state 2 = .ok (.invokevirtual 41, 3) := by decide +kernel
theorem dX4_state_5 : decode cX4_state 5 = .ok (.ifCond .eq 27, 3) := by decide +kernel
theorem dX4_state_8 : decode cX4_state 8 = .ok (.aload_n 0, 1) := by decide +kernel
theorem dX4_state_9 : decode cX4_state 9 = .ok (.getfield 15, 3) := by decide +kernel
theorem dX4_state_12 : decode cX4_state 12 = .ok (.iload_n 1, 1) := by decide +kernel
theorem dX4_state_13 : decode cX4_state 13 = .ok (.aaload, 1) := by decide +kernel
theorem dX4_state_14 : decode cX4_state 14 = .ok (.getfield 72, 3) := by decide +kernel
theorem dX4_state_17 : decode cX4_state 17 = .ok (.aload_n 0, 1) := by decide +kernel
theorem dX4_state_18 : decode cX4_state 18 = .ok (.getfield 15, 3) := by decide +kernel
theorem dX4_state_21 : decode cX4_state 21 = .ok (.iload_n 1, 1) := by decide +kernel
theorem dX4_state_22 : decode cX4_state 22 = .ok (.aaload, 1) := by decide +kernel
theorem dX4_state_23 : decode cX4_state 23 = .ok (.getfield 101, 3) := by decide +kernel
theorem dX4_state_26 : decode cX4_state 26 = .ok (.invokevirtual 108, 3) := by decide +kernel
theorem dX4_state_29 : decode cX4_state 29 = .ok (.goto 4, 3) := by decide +kernel
theorem dX4_state_32 : decode cX4_state 32 = .ok (.iconst 0, 1) := by decide +kernel
theorem dX4_state_33 : decode cX4_state 33 = .ok (.ireturn, 1) := by decide +kernel
theorem dX4_peer_0 : decode cX4_peer 0 = .ok (.aload_n 0, 1) := by decide +kernel
theorem dX4_peer_1 : decode cX4_peer 1 = .ok (.iload_n 1, 1) := by decide +kernel
theorem dX4_peer_2 : decode cX4_peer 2 = .ok (.iload_n 2, 1) := by decide +kernel
theorem dX4_peer_3 : decode cX4_peer 3 = .ok (.invokevirtual 64, 3) := by decide +kernel
theorem dX4_peer_6 : decode cX4_peer 6 = .ok (.ifCond .eq 16, 3) := by decide +kernel
theorem dX4_peer_9 : decode cX4_peer 9 = .ok (.aload_n 0, 1) := by decide +kernel
theorem dX4_peer_10 : decode cX4_peer 10 = .ok (.getfield 15, 3) := by decide +kernel
theorem dX4_peer_13 : decode cX4_peer 13 = .ok (.iload_n 1, 1) := by decide +kernel
theorem dX4_peer_14 : decode cX4_peer 14 = .ok (.aaload, 1) := by decide +kernel
theorem dX4_peer_15 : decode cX4_peer 15 = .ok (.getfield 49, 3) := by decide +kernel
theorem dX4_peer_18 : decode cX4_peer 18 = .ok (.iconst 2, 1) := by decide +kernel
theorem dX4_peer_19 : decode cX4_peer 19 = .ok (.if_icmp .eq 5, 3) := by decide +kernel
theorem dX4_peer_22 : decode cX4_peer 22 = .ok (.iconst (-1), 1) := by decide +kernel
theorem dX4_peer_23 : decode cX4_peer 23 = .ok (.ireturn, 1) := by decide +kernel
theorem dX4_peer_24 : decode cX4_peer 24 = .ok (.aload_n 0, 1) := by decide +kernel
theorem dX4_peer_25 : decode cX4_peer 25 = .ok (.getfield 15, 3) := by decide +kernel
theorem dX4_peer_28 : decode cX4_peer 28 = .ok (.iload_n 1, 1) := by decide +kernel
theorem dX4_peer_29 : decode cX4_peer 29 = .ok (.aaload, 1) := by decide +kernel
theorem dX4_peer_30 : decode cX4_peer 30 = .ok (.getfield 151, 3) := by decide +kernel
theorem dX4_peer_33 : decode cX4_peer 33 = .ok (.iload_n 2, 1) := by decide +kernel
theorem dX4_peer_34 : decode cX4_peer 34 = .ok (.iaload, 1) := by decide +kernel
theorem dX4_peer_35 : decode cX4_peer 35 = .ok (.ldc 154, 2) := by decide +kernel
theorem dX4_peer_37 : decode cX4_peer 37 = .ok (.aload_n 0, 1) := by decide +kernel
theorem dX4_peer_38 : decode cX4_peer 38 = .ok (.getfield 15, 3) := by decide +kernel
theorem dX4_peer_41 : decode cX4_peer 41 = .ok (.iload_n 1, 1) := by decide +kernel
theorem dX4_peer_42 : decode cX4_peer 42 = .ok (.aaload, 1) := by decide +kernel
theorem dX4_peer_43 : decode cX4_peer 43 = .ok (.getfield 68, 3) := by decide +kernel
theorem dX4_peer_46 : decode cX4_peer 46 = .ok (.iload_n 2, 1) := by decide +kernel
theorem dX4_peer_47 : decode cX4_peer 47 = .ok (.iaload, 1) := by decide +kernel
theorem dX4_peer_48 : decode cX4_peer 48 = .ok (.imul, 1) := by decide +kernel
theorem dX4_peer_49 : decode cX4_peer 49 = .ok (.iadd, 1) := by decide +kernel
theorem dX4_peer_50 : decode cX4_peer 50 = .ok (.ireturn, 1) := by decide +kernel
theorem dX4_pending_0 : decode cX4_pending 0 = .ok (.aload_n 0, 1) := by decide +kernel
theorem dX4_pending_1 : decode cX4_pending 1 = .ok (.getfield 27, 3) := by decide +kernel
theorem dX4_pending_4 : decode cX4_pending 4 = .ok (.getfield 155, 3) := by decide +kernel
theorem dX4_pending_7 : decode cX4_pending 7 = .ok (.ireturn, 1) := by decide +kernel
theorem dX4_slot_0 : decode cX4_slot 0 = .ok (.aload_n 0, 1) := by decide +kernel
theorem dX4_slot_1 : decode cX4_slot 1 = .ok (.getfield 27, 3) := by decide +kernel
theorem dX4_slot_4 : decode cX4_slot 4 = .ok (.iload_n 1, 1) := by decide +kernel
theorem dX4_slot_5 : decode cX4_slot 5 = .ok (.invokevirtual 114, 3) := by decide +kernel
theorem dX4_slot_8 : decode cX4_slot 8 = .ok (.ifCond .ne 5, 3) := by decide +kernel
theorem dX4_slot_11 : decode cX4_slot 11 = .ok (.iconst (-1), 1) := by decide +kernel
theorem dX4_slot_12 : decode cX4_slot 12 = .ok (.ireturn, 1) := by decide +kernel
theorem dX4_slot_13 : decode cX4_slot 13 = .ok (.aload_n 0, 1) := by decide +kernel
theorem dX4_slot_14 : decode cX4_slot 14 = .ok (.getfield 27, 3) := by decide +kernel
theorem dX4_slot_17 : decode cX4_slot 17 = .ok (.iload_n 1, 1) := by decide +kernel
theorem dX4_slot_18 : decode cX4_slot 18 = .ok (.invokevirtual 117, 3) := by decide +kernel
theorem dX4_slot_21 : decode cX4_slot 21 = .ok (.ifCond .eq 5, 3) := by decide +kernel
theorem dX4_slot_24 : decode cX4_slot 24 = .ok (.iconst 0, 1) := by decide +kernel
theorem dX4_slot_25 : decode cX4_slot 25 = .ok (.ireturn, 1) := by decide +kernel
theorem dX4_slot_26 : decode cX4_slot 26 = .ok (.aload_n 0, 1) := by decide +kernel
theorem dX4_slot_27 : decode cX4_slot 27 = .ok (.getfield 27, 3) := by decide +kernel
theorem dX4_slot_30 : decode cX4_slot 30 = .ok (.getfield 120, 3) := by decide +kernel
theorem dX4_slot_33 : decode cX4_slot 33 = .ok (.iload_n 1, 1) := by decide +kernel
theorem dX4_slot_34 : decode cX4_slot 34 = .ok (.aaload, 1) := by decide +kernel
theorem dX4_slot_35 : decode cX4_slot 35 = .ok (.astore_n 2, 1) := by decide +kernel
theorem dX4_slot_36 : decode cX4_slot 36 = .ok (.aload_n 2, 1) := by decide +kernel
theorem dX4_slot_37 : decode cX4_slot 37 = .ok (.getfield 138, 3) := by decide +kernel
theorem dX4_slot_40 : decode cX4_slot 40 = .ok (.bipush 8, 2) := by decide +kernel
theorem dX4_slot_42 : decode cX4_slot 42 = .ok (.aload_n 2, 1) := by decide +kernel
theorem dX4_slot_43 : decode cX4_slot 43 = .ok (.getfield 158, 3) := by decide +kernel
theorem dX4_slot_46 : decode cX4_slot 46 = .ok (.imul, 1) := by decide +kernel
theorem dX4_slot_47 : decode cX4_slot 47 = .ok (.iadd, 1) := by decide +kernel
theorem dX4_slot_48 : decode cX4_slot 48 = .ok (.bipush 64, 2) := by decide +kernel
theorem dX4_slot_50 : decode cX4_slot 50 = .ok (.aload_n 2, 1) := by decide +kernel
theorem dX4_slot_51 : decode cX4_slot 51 = .ok (.getfield 131, 3) := by decide +kernel
theorem dX4_slot_54 : decode cX4_slot 54 = .ok (.imul, 1) := by decide +kernel
theorem dX4_slot_55 : decode cX4_slot 55 = .ok (.iadd, 1) := by decide +kernel
theorem dX4_slot_56 : decode cX4_slot 56 = .ok (.sipush 512, 3) := by decide +kernel
theorem dX4_slot_59 : decode cX4_slot 59 = .ok (.aload_n 2, 1) := by decide +kernel
theorem dX4_slot_60 : decode cX4_slot 60 = .ok (.getfield 161, 3) := by decide +kernel
theorem dX4_slot_63 : decode cX4_slot 63 = .ok (.imul, 1) := by decide +kernel
theorem dX4_slot_64 : decode cX4_slot 64 = .ok (.iadd, 1) := by decide +kernel
theorem dX4_slot_65 : decode cX4_slot 65 = .ok (.ireturn, 1) := by decide +kernel
theorem dX4_within_0 : decode cX4_within 0 = .ok (.iload_n 1, 1) := by decide +kernel
theorem dX4_within_1 : decode cX4_within 1 = .ok (.iload_n 2, 1) := by decide +kernel
theorem dX4_within_2 : decode cX4_within 2 = .ok (.iload_n 0, 1) := by decide +kernel
theorem dX4_within_3 : decode cX4_within 3 = .ok (.invokestatic 162, 3) := by decide +kernel
theorem dX4_within_6 : decode cX4_within 6 = .ok (.invokestatic 168, 3) := by decide +kernel
theorem dX4_within_9 : decode cX4_within 9 = .ok (.ireturn, 1) := by decide +kernel
theorem dX4_isNode_0 : decode cX4_isNode 0 = .ok (.iload_n 1, 1) := by decide +kernel
theorem dX4_isNode_1 : decode cX4_isNode 1 = .ok (.ifCond .lt 16, 3) := by decide +kernel
theorem dX4_isNode_4 : decode cX4_isNode 4 = .ok (.iload_n 1, 1) := by decide +kernel
theorem dX4_isNode_5 : decode cX4_isNode 5 = .ok (.aload_n 0, 1) := by decide +kernel
theorem dX4_isNode_6 : decode cX4_isNode 6 = .ok (.getfield 15, 3) := by decide +kernel
theorem dX4_isNode_9 : decode cX4_isNode 9 = .ok (.arraylength, 1) := by decide +kernel
theorem dX4_isNode_10 : decode cX4_isNode 10 = .ok (.if_icmp .ge 7, 3) := by decide +kernel
theorem dX4_isNode_13 : decode cX4_isNode 13 = .ok (.iconst 1, 1) := by decide +kernel
theorem dX4_isNode_14 : decode cX4_isNode 14 = .ok (.goto 4, 3) := by decide +kernel
theorem dX4_isNode_17 : decode cX4_isNode 17 = .ok (.iconst 0, 1) := by decide +kernel
theorem dX4_isNode_18 : decode cX4_isNode 18 = .ok (.ireturn, 1) := by decide +kernel
theorem dX4_areTwoNodes_0 : decode cX4_areTwoNodes 0 = .ok (.aload_n 0, 1) := by decide +kernel
theorem dX4_areTwoNodes_1 : decode cX4_areTwoNodes 1 = .ok (.iload_n 1, 1) := by decide +kernel
theorem dX4_areTwoNodes_2 : decode cX4_areTwoNodes 2 = .ok (.invokevirtual 41, 3) := by decide +kernel
theorem dX4_areTwoNodes_5 : decode cX4_areTwoNodes 5 = .ok (.ifCond .eq 20, 3) := by decide +kernel
theorem dX4_areTwoNodes_8 : decode cX4_areTwoNodes 8 = .ok (.aload_n 0, 1) := by decide +kernel
theorem dX4_areTwoNodes_9 : decode cX4_areTwoNodes 9 = .ok (.iload_n 2, 1) := by decide +kernel
theorem dX4_areTwoNodes_10 : decode cX4_areTwoNodes 10 = .ok (.invokevirtual 41, 3) := by decide +kernel
theorem dX4_areTwoNodes_13 : decode cX4_areTwoNodes 13 = .ok (.ifCond .eq 12, 3) := by decide +kernel
theorem dX4_areTwoNodes_16 : decode cX4_areTwoNodes 16 = .ok (.iload_n 1, 1) := by decide +kernel
theorem dX4_areTwoNodes_17 : decode cX4_areTwoNodes 17 = .ok (.iload_n 2, 1) := by decide +kernel
theorem dX4_areTwoNodes_18 : decode cX4_areTwoNodes 18 = .ok (.if_icmp .eq 7, 3) := by decide +kernel
theorem dX4_areTwoNodes_21 : decode cX4_areTwoNodes 21 = .ok (.iconst 1, 1) := by decide +kernel
theorem dX4_areTwoNodes_22 : decode cX4_areTwoNodes 22 = .ok (.goto 4, 3) := by decide +kernel
theorem dX4_areTwoNodes_25 : decode cX4_areTwoNodes 25 = .ok (.iconst 0, 1) := by decide +kernel
theorem dX4_areTwoNodes_26 : decode cX4_areTwoNodes 26 = .ok (.ireturn, 1) := by decide +kernel
theorem dX4_isMajority_0 : decode cX4_isMajority 0 = .ok (.iconst 2, 1) := by decide +kernel
theorem dX4_isMajority_1 : decode cX4_isMajority 1 = .ok (.iload_n 1, 1) := by decide +kernel
theorem dX4_isMajority_2 : decode cX4_isMajority 2 = .ok (.imul, 1) := by decide +kernel
theorem dX4_isMajority_3 : decode cX4_isMajority 3 = .ok (.aload_n 0, 1) := by decide +kernel
theorem dX4_isMajority_4 : decode cX4_isMajority 4 = .ok (.getfield 15, 3) := by decide +kernel
theorem dX4_isMajority_7 : decode cX4_isMajority 7 = .ok (.arraylength, 1) := by decide +kernel
theorem dX4_isMajority_8 : decode cX4_isMajority 8 = .ok (.if_icmp .le 7, 3) := by decide +kernel
theorem dX4_isMajority_11 : decode cX4_isMajority 11 = .ok (.iconst 1, 1) := by decide +kernel
theorem dX4_isMajority_12 : decode cX4_isMajority 12 = .ok (.goto 4, 3) := by decide +kernel
theorem dX4_isMajority_15 : decode cX4_isMajority 15 = .ok (.iconst 0, 1) := by decide +kernel
theorem dX4_isMajority_16 : decode cX4_isMajority 16 = .ok (.ireturn, 1) := by decide +kernel
theorem dX4_sendAsk_0 : decode cX4_sendAsk 0 = .ok (.aload_n 0, 1) := by decide +kernel
theorem dX4_sendAsk_1 : decode cX4_sendAsk 1 = .ok (.getfield 34, 3) := by decide +kernel
theorem dX4_sendAsk_4 : decode cX4_sendAsk 4 = .ok (.iconst 1, 1) := by decide +kernel
theorem dX4_sendAsk_5 : decode cX4_sendAsk 5 = .ok (.aload_n 1, 1) := by decide +kernel
theorem dX4_sendAsk_6 : decode cX4_sendAsk 6 = .ok (.getfield 171, 3) := by decide +kernel
theorem dX4_sendAsk_9 : decode cX4_sendAsk 9 = .ok (.iload_n 2, 1) := by decide +kernel
theorem dX4_sendAsk_10 : decode cX4_sendAsk 10 = .ok (.aload_n 1, 1) := by decide +kernel
theorem dX4_sendAsk_11 : decode cX4_sendAsk 11 = .ok (.getfield 91, 3) := by decide +kernel
theorem dX4_sendAsk_14 : decode cX4_sendAsk 14 = .ok (.invokevirtual 174, 3) := by decide +kernel
theorem dX4_sendAsk_17 : decode cX4_sendAsk 17 = .ok (.aload_n 0, 1) := by decide +kernel
theorem dX4_sendAsk_18 : decode cX4_sendAsk 18 = .ok (.getfield 34, 3) := by decide +kernel
theorem dX4_sendAsk_21 : decode cX4_sendAsk 21 = .ok (.aload_n 1, 1) := by decide +kernel
theorem dX4_sendAsk_22 : decode cX4_sendAsk 22 = .ok (.getfield 72, 3) := by decide +kernel
theorem dX4_sendAsk_25 : decode cX4_sendAsk 25 = .ok (.invokevirtual 98, 3) := by decide +kernel
theorem dX4_sendAsk_28 : decode cX4_sendAsk 28 = .ok (.putfield 178, 3) := by decide +kernel
theorem dX4_sendAsk_31 : decode cX4_sendAsk 31 = .ok (.aload_n 0, 1) := by decide +kernel
theorem dX4_sendAsk_32 : decode cX4_sendAsk 32 = .ok (.getfield 34, 3) := by decide +kernel
theorem dX4_sendAsk_35 : decode cX4_sendAsk 35 = .ok (.aload_n 1, 1) := by decide +kernel
theorem dX4_sendAsk_36 : decode cX4_sendAsk 36 = .ok (.getfield 72, 3) := by decide +kernel
theorem dX4_sendAsk_39 : decode cX4_sendAsk 39 = .ok (.invokevirtual 181, 3) := by decide +kernel
theorem dX4_sendAsk_42 : decode cX4_sendAsk 42 = .ok (.putfield 184, 3) := by decide +kernel
theorem dX4_sendAsk_45 : decode cX4_sendAsk 45 = .ok (.aload_n 0, 1) := by decide +kernel
theorem dX4_sendAsk_46 : decode cX4_sendAsk 46 = .ok (.getfield 27, 3) := by decide +kernel
theorem dX4_sendAsk_49 : decode cX4_sendAsk 49 = .ok (.aload_n 0, 1) := by decide +kernel
theorem dX4_sendAsk_50 : decode cX4_sendAsk 50 = .ok (.getfield 34, 3) := by decide +kernel
theorem dX4_sendAsk_53 : decode cX4_sendAsk 53 = .ok (.invokevirtual 141, 3) := by decide +kernel
theorem dX4_sendAsk_56 : decode cX4_sendAsk 56 = .ok (.pop, 1) := by decide +kernel
theorem dX4_sendAsk_57 : decode cX4_sendAsk 57 = .ok (.return_, 1) := by decide +kernel
theorem dX4_sendVote_0 : decode cX4_sendVote 0 = .ok (.aload_n 0, 1) := by decide +kernel
theorem dX4_sendVote_1 : decode cX4_sendVote 1 = .ok (.getfield 34, 3) := by decide +kernel
theorem dX4_sendVote_4 : decode cX4_sendVote 4 = .ok (.iconst 2, 1) := by decide +kernel
theorem dX4_sendVote_5 : decode cX4_sendVote 5 = .ok (.aload_n 1, 1) := by decide +kernel
theorem dX4_sendVote_6 : decode cX4_sendVote 6 = .ok (.getfield 171, 3) := by decide +kernel
theorem dX4_sendVote_9 : decode cX4_sendVote 9 = .ok (.iload_n 2, 1) := by decide +kernel
theorem dX4_sendVote_10 : decode cX4_sendVote 10 = .ok (.aload_n 1, 1) := by decide +kernel
theorem dX4_sendVote_11 : decode cX4_sendVote 11 = .ok (.getfield 91, 3) := by decide +kernel
theorem dX4_sendVote_14 : decode cX4_sendVote 14 = .ok (.invokevirtual 174, 3) := by decide +kernel
theorem dX4_sendVote_17 : decode cX4_sendVote 17 = .ok (.aload_n 0, 1) := by decide +kernel
theorem dX4_sendVote_18 : decode cX4_sendVote 18 = .ok (.getfield 34, 3) := by decide +kernel
theorem dX4_sendVote_21 : decode cX4_sendVote 21 = .ok (.iload_n 3, 1) := by decide +kernel
theorem dX4_sendVote_22 : decode cX4_sendVote 22 = .ok (.putfield 187, 3) := by decide +kernel
theorem dX4_sendVote_25 : decode cX4_sendVote 25 = .ok (.aload_n 0, 1) := by decide +kernel
theorem dX4_sendVote_26 : decode cX4_sendVote 26 = .ok (.getfield 27, 3) := by decide +kernel
theorem dX4_sendVote_29 : decode cX4_sendVote 29 = .ok (.aload_n 0, 1) := by decide +kernel
theorem dX4_sendVote_30 : decode cX4_sendVote 30 = .ok (.getfield 34, 3) := by decide +kernel
theorem dX4_sendVote_33 : decode cX4_sendVote 33 = .ok (.invokevirtual 141, 3) := by decide +kernel
theorem dX4_sendVote_36 : decode cX4_sendVote 36 = .ok (.pop, 1) := by decide +kernel
theorem dX4_sendVote_37 : decode cX4_sendVote 37 = .ok (.return_, 1) := by decide +kernel
theorem dX4_sendAppend_0 : decode cX4_sendAppend 0 = .ok (.aload_n 1, 1) := by decide +kernel
theorem dX4_sendAppend_1 : decode cX4_sendAppend 1 = .ok (.getfield 68, 3) := by decide +kernel
theorem dX4_sendAppend_4 : decode cX4_sendAppend 4 = .ok (.iload_n 2, 1) := by decide +kernel
theorem dX4_sendAppend_5 : decode cX4_sendAppend 5 = .ok (.iaload, 1) := by decide +kernel
theorem dX4_sendAppend_6 : decode cX4_sendAppend 6 = .ok (.istore_n 3, 1) := by decide +kernel
theorem dX4_sendAppend_7 : decode cX4_sendAppend 7 = .ok (.aload_n 0, 1) := by decide +kernel
theorem dX4_sendAppend_8 : decode cX4_sendAppend 8 = .ok (.getfield 34, 3) := by decide +kernel
theorem dX4_sendAppend_11 : decode cX4_sendAppend 11 = .ok (.iconst 3, 1) := by decide +kernel
theorem dX4_sendAppend_12 : decode cX4_sendAppend 12 = .ok (.aload_n 1, 1) := by decide +kernel
theorem dX4_sendAppend_13 : decode cX4_sendAppend 13 = .ok (.getfield 171, 3) := by decide +kernel
theorem dX4_sendAppend_16 : decode cX4_sendAppend 16 = .ok (.iload_n 2, 1) := by decide +kernel
theorem dX4_sendAppend_17 : decode cX4_sendAppend 17 = .ok (.aload_n 1, 1) := by decide +kernel
theorem dX4_sendAppend_18 : decode cX4_sendAppend 18 = .ok (.getfield 91, 3) := by decide +kernel
theorem dX4_sendAppend_21 : decode cX4_sendAppend 21 = .ok (.invokevirtual 174, 3) := by decide +kernel
theorem dX4_sendAppend_24 : decode cX4_sendAppend 24 = .ok (.aload_n 0, 1) := by decide +kernel
theorem dX4_sendAppend_25 : decode cX4_sendAppend 25 = .ok (.getfield 34, 3) := by decide +kernel
theorem dX4_sendAppend_28 : decode cX4_sendAppend 28 = .ok (.iload_n 3, 1) := by decide +kernel
theorem dX4_sendAppend_29 : decode cX4_sendAppend 29 = .ok (.iconst 1, 1) := by decide +kernel
theorem dX4_sendAppend_30 : decode cX4_sendAppend 30 = .ok (.isub, 1) := by decide +kernel
theorem dX4_sendAppend_31 : decode cX4_sendAppend 31 = .ok (.putfield 178, 3) := by decide +kernel
theorem dX4_sendAppend_34 : decode cX4_sendAppend 34 = .ok (.aload_n 0, 1) := by decide +kernel
theorem dX4_sendAppend_35 : decode cX4_sendAppend 35 = .ok (.getfield 34, 3) := by decide +kernel
theorem dX4_sendAppend_38 : decode cX4_sendAppend 38 = .ok (.aload_n 1, 1) := by decide +kernel
theorem dX4_sendAppend_39 : decode cX4_sendAppend 39 = .ok (.getfield 72, 3) := by decide +kernel
theorem dX4_sendAppend_42 : decode cX4_sendAppend 42 = .ok (.iload_n 3, 1) := by decide +kernel
theorem dX4_sendAppend_43 : decode cX4_sendAppend 43 = .ok (.iconst 1, 1) := by decide +kernel
theorem dX4_sendAppend_44 : decode cX4_sendAppend 44 = .ok (.isub, 1) := by decide +kernel
theorem dX4_sendAppend_45 : decode cX4_sendAppend 45 = .ok (.invokevirtual 104, 3) := by decide +kernel
theorem dX4_sendAppend_48 : decode cX4_sendAppend 48 = .ok (.putfield 184, 3) := by decide +kernel
theorem dX4_sendAppend_51 : decode cX4_sendAppend 51 = .ok (.aload_n 0, 1) := by decide +kernel
theorem dX4_sendAppend_52 : decode cX4_sendAppend 52 = .ok (.getfield 34, 3) := by decide +kernel
theorem dX4_sendAppend_55 : decode cX4_sendAppend 55 = .ok (.aload_n 1, 1) := by decide +kernel
theorem dX4_sendAppend_56 : decode cX4_sendAppend 56 = .ok (.getfield 72, 3) := by decide +kernel
theorem dX4_sendAppend_59 : decode cX4_sendAppend 59 = .ok (.iload_n 3, 1) := by decide +kernel
theorem dX4_sendAppend_60 : decode cX4_sendAppend 60 = .ok (.invokevirtual 190, 3) := by decide +kernel
theorem dX4_sendAppend_63 : decode cX4_sendAppend 63 = .ok (.putfield 193, 3) := by decide +kernel
theorem dX4_sendAppend_66 : decode cX4_sendAppend 66 = .ok (.aload_n 0, 1) := by decide +kernel
theorem dX4_sendAppend_67 : decode cX4_sendAppend 67 = .ok (.getfield 34, 3) := by decide +kernel
theorem dX4_sendAppend_70 : decode cX4_sendAppend 70 = .ok (.getfield 193, 3) := by decide +kernel
theorem dX4_sendAppend_73 : decode cX4_sendAppend 73 = .ok (.ifCond .eq 33, 3) := by decide +kernel
theorem dX4_sendAppend_76 : decode cX4_sendAppend 76 = .ok (.aload_n 0, 1) := by decide +kernel
theorem dX4_sendAppend_77 : decode cX4_sendAppend 77 = .ok (.getfield 34, 3) := by decide +kernel
theorem dX4_sendAppend_80 : decode cX4_sendAppend 80 = .ok (.aload_n 1, 1) := by decide +kernel
theorem dX4_sendAppend_81 : decode cX4_sendAppend 81 = .ok (.getfield 72, 3) := by decide +kernel
theorem dX4_sendAppend_84 : decode cX4_sendAppend 84 = .ok (.iload_n 3, 1) := by decide +kernel
theorem dX4_sendAppend_85 : decode cX4_sendAppend 85 = .ok (.invokevirtual 104, 3) := by decide +kernel
theorem dX4_sendAppend_88 : decode cX4_sendAppend 88 = .ok (.putfield 195, 3) := by decide +kernel
theorem dX4_sendAppend_91 : decode cX4_sendAppend 91 = .ok (.aload_n 0, 1) := by decide +kernel
theorem dX4_sendAppend_92 : decode cX4_sendAppend 92 = .ok (.getfield 34, 3) := by decide +kernel
theorem dX4_sendAppend_95 : decode cX4_sendAppend 95 = .ok (.aload_n 1, 1) := by decide +kernel
theorem dX4_sendAppend_96 : decode cX4_sendAppend 96 = .ok (.getfield 72, 3) := by decide +kernel
theorem dX4_sendAppend_99 : decode cX4_sendAppend 99 = .ok (.iload_n 3, 1) := by decide +kernel
theorem dX4_sendAppend_100 : decode cX4_sendAppend 100 = .ok (.invokevirtual 148, 3) := by decide +kernel
theorem dX4_sendAppend_103 : decode cX4_sendAppend 103 = .ok (.putfield 198, 3) := by decide +kernel
theorem dX4_sendAppend_106 : decode cX4_sendAppend 106 = .ok (.aload_n 0, 1) := by decide +kernel
theorem dX4_sendAppend_107 : decode cX4_sendAppend 107 = .ok (.getfield 34, 3) := by decide +kernel
theorem dX4_sendAppend_110 : decode cX4_sendAppend 110 = .ok (.aload_n 1, 1) := by decide +kernel
theorem dX4_sendAppend_111 : decode cX4_sendAppend 111 = .ok (.getfield 101, 3) := by decide +kernel
theorem dX4_sendAppend_114 : decode cX4_sendAppend 114 = .ok (.putfield 201, 3) := by decide +kernel
theorem dX4_sendAppend_117 : decode cX4_sendAppend 117 = .ok (.aload_n 0, 1) := by decide +kernel
theorem dX4_sendAppend_118 : decode cX4_sendAppend 118 = .ok (.getfield 27, 3) := by decide +kernel
theorem dX4_sendAppend_121 : decode cX4_sendAppend 121 = .ok (.aload_n 0, 1) := by decide +kernel
theorem dX4_sendAppend_122 : decode cX4_sendAppend 122 = .ok (.getfield 34, 3) := by decide +kernel
theorem dX4_sendAppend_125 : decode cX4_sendAppend 125 = .ok (.invokevirtual 141, 3) := by decide +kernel
theorem dX4_sendAppend_128 : decode cX4_sendAppend 128 = .ok (.pop, 1) := by decide +kernel
theorem dX4_sendAppend_129 : decode cX4_sendAppend 129 = .ok (.return_, 1) := by decide +kernel
theorem dX4_sendAppended_0 : decode cX4_sendAppended 0 = .ok (.aload_n 0, 1) := by decide +kernel
theorem dX4_sendAppended_1 : decode cX4_sendAppended 1 = .ok (.getfield 34, 3) := by decide +kernel
theorem dX4_sendAppended_4 : decode cX4_sendAppended 4 = .ok (.iconst 4, 1) := by decide +kernel
theorem dX4_sendAppended_5 : decode cX4_sendAppended 5 = .ok (.aload_n 1, 1) := by decide +kernel
theorem dX4_sendAppended_6 : decode cX4_sendAppended 6 = .ok (.getfield 171, 3) := by decide +kernel
theorem dX4_sendAppended_9 : decode cX4_sendAppended 9 = .ok (.iload_n 2, 1) := by decide +kernel
theorem dX4_sendAppended_10 : decode cX4_sendAppended 10 = .ok (.aload_n 1, 1) := by decide +kernel
theorem dX4_sendAppended_11 : decode cX4_sendAppended 11 = .ok (.getfield 91, 3) := by decide +kernel
theorem dX4_sendAppended_14 : decode cX4_sendAppended 14 = .ok (.invokevirtual 174, 3) := by decide +kernel
theorem dX4_sendAppended_17 : decode cX4_sendAppended 17 = .ok (.aload_n 0, 1) := by decide +kernel
theorem dX4_sendAppended_18 : decode cX4_sendAppended 18 = .ok (.getfield 34, 3) := by decide +kernel
theorem dX4_sendAppended_21 : decode cX4_sendAppended 21 = .ok (.iload_n 3, 1) := by decide +kernel
theorem dX4_sendAppended_22 : decode cX4_sendAppended 22 = .ok (.putfield 187, 3) := by decide +kernel
theorem dX4_sendAppended_25 : decode cX4_sendAppended 25 = .ok (.aload_n 0, 1) := by decide +kernel
theorem dX4_sendAppended_26 : decode cX4_sendAppended 26 = .ok (.getfield 34, 3) := by decide +kernel
theorem dX4_sendAppended_29 : decode cX4_sendAppended 29 = .ok (.iload 4, 2) := by decide +kernel
theorem dX4_sendAppended_31 : decode cX4_sendAppended 31 = .ok (.putfield 178, 3) := by decide +kernel
theorem dX4_sendAppended_34 : decode cX4_sendAppended 34 = .ok (.aload_n 0, 1) := by decide +kernel
theorem dX4_sendAppended_35 : decode cX4_sendAppended 35 = .ok (.getfield 27, 3) := by decide +kernel
theorem dX4_sendAppended_38 : decode cX4_sendAppended 38 = .ok (.aload_n 0, 1) := by decide +kernel
theorem dX4_sendAppended_39 : decode cX4_sendAppended 39 = .ok (.getfield 34, 3) := by decide +kernel
theorem dX4_sendAppended_42 : decode cX4_sendAppended 42 = .ok (.invokevirtual 141, 3) := by decide +kernel
theorem dX4_sendAppended_45 : decode cX4_sendAppended 45 = .ok (.pop, 1) := by decide +kernel
theorem dX4_sendAppended_46 : decode cX4_sendAppended 46 = .ok (.return_, 1) := by decide +kernel
theorem dX4_sendSnapshot_0 : decode cX4_sendSnapshot 0 = .ok (.aload_n 0, 1) := by decide +kernel
theorem dX4_sendSnapshot_1 : decode cX4_sendSnapshot 1 = .ok (.getfield 34, 3) := by decide +kernel
theorem dX4_sendSnapshot_4 : decode cX4_sendSnapshot 4 = .ok (.iconst 5, 1) := by decide +kernel
theorem dX4_sendSnapshot_5 : decode cX4_sendSnapshot 5 = .ok (.aload_n 1, 1) := by decide +kernel
theorem dX4_sendSnapshot_6 : decode cX4_sendSnapshot 6 = .ok (.getfield 171, 3) := by decide +kernel
theorem dX4_sendSnapshot_9 : decode cX4_sendSnapshot 9 = .ok (.iload_n 2, 1) := by decide +kernel
theorem dX4_sendSnapshot_10 : decode cX4_sendSnapshot 10 = .ok (.aload_n 1, 1) := by decide +kernel
theorem dX4_sendSnapshot_11 : decode cX4_sendSnapshot 11 = .ok (.getfield 91, 3) := by decide +kernel
theorem dX4_sendSnapshot_14 : decode cX4_sendSnapshot 14 = .ok (.invokevirtual 174, 3) := by decide +kernel
theorem dX4_sendSnapshot_17 : decode cX4_sendSnapshot 17 = .ok (.aload_n 0, 1) := by decide +kernel
theorem dX4_sendSnapshot_18 : decode cX4_sendSnapshot 18 = .ok (.getfield 34, 3) := by decide +kernel
theorem dX4_sendSnapshot_21 : decode cX4_sendSnapshot 21 = .ok (.aload_n 1, 1) := by decide +kernel
theorem dX4_sendSnapshot_22 : decode cX4_sendSnapshot 22 = .ok (.getfield 72, 3) := by decide +kernel
theorem dX4_sendSnapshot_25 : decode cX4_sendSnapshot 25 = .ok (.getfield 76, 3) := by decide +kernel
theorem dX4_sendSnapshot_28 : decode cX4_sendSnapshot 28 = .ok (.putfield 178, 3) := by decide +kernel
theorem dX4_sendSnapshot_31 : decode cX4_sendSnapshot 31 = .ok (.aload_n 0, 1) := by decide +kernel
theorem dX4_sendSnapshot_32 : decode cX4_sendSnapshot 32 = .ok (.getfield 34, 3) := by decide +kernel
theorem dX4_sendSnapshot_35 : decode cX4_sendSnapshot 35 = .ok (.aload_n 1, 1) := by decide +kernel
theorem dX4_sendSnapshot_36 : decode cX4_sendSnapshot 36 = .ok (.getfield 72, 3) := by decide +kernel
theorem dX4_sendSnapshot_39 : decode cX4_sendSnapshot 39 = .ok (.getfield 202, 3) := by decide +kernel
theorem dX4_sendSnapshot_42 : decode cX4_sendSnapshot 42 = .ok (.putfield 184, 3) := by decide +kernel
theorem dX4_sendSnapshot_45 : decode cX4_sendSnapshot 45 = .ok (.aload_n 0, 1) := by decide +kernel
theorem dX4_sendSnapshot_46 : decode cX4_sendSnapshot 46 = .ok (.getfield 34, 3) := by decide +kernel
theorem dX4_sendSnapshot_49 : decode cX4_sendSnapshot 49 = .ok (.aload_n 1, 1) := by decide +kernel
theorem dX4_sendSnapshot_50 : decode cX4_sendSnapshot 50 = .ok (.getfield 72, 3) := by decide +kernel
theorem dX4_sendSnapshot_53 : decode cX4_sendSnapshot 53 = .ok (.getfield 205, 3) := by decide +kernel
theorem dX4_sendSnapshot_56 : decode cX4_sendSnapshot 56 = .ok (.putfield 208, 3) := by decide +kernel
theorem dX4_sendSnapshot_59 : decode cX4_sendSnapshot 59 = .ok (.aload_n 0, 1) := by decide +kernel
theorem dX4_sendSnapshot_60 : decode cX4_sendSnapshot 60 = .ok (.getfield 27, 3) := by decide +kernel
theorem dX4_sendSnapshot_63 : decode cX4_sendSnapshot 63 = .ok (.aload_n 0, 1) := by decide +kernel
theorem dX4_sendSnapshot_64 : decode cX4_sendSnapshot 64 = .ok (.getfield 34, 3) := by decide +kernel
theorem dX4_sendSnapshot_67 : decode cX4_sendSnapshot 67 = .ok (.invokevirtual 141, 3) := by decide +kernel
theorem dX4_sendSnapshot_70 : decode cX4_sendSnapshot 70 = .ok (.pop, 1) := by decide +kernel
theorem dX4_sendSnapshot_71 : decode cX4_sendSnapshot 71 = .ok (.return_, 1) := by decide +kernel
theorem dX4_receive_0 : decode cX4_receive 0 = .ok (.aload_n 2, 1) := by decide +kernel
theorem dX4_receive_1 : decode cX4_receive 1 = .ok (.getfield 161, 3) := by decide +kernel
theorem dX4_receive_4 : decode cX4_receive 4 = .ok (.aload_n 1, 1) := by decide +kernel
theorem dX4_receive_5 : decode cX4_receive 5 = .ok (.getfield 91, 3) := by decide +kernel
theorem dX4_receive_8 : decode cX4_receive 8 = .ok (.if_icmp .le 11, 3) := by decide +kernel
theorem dX4_receive_11 : decode cX4_receive 11 = .ok (.aload_n 1, 1) := by decide +kernel
theorem dX4_receive_12 : decode cX4_receive 12 = .ok (.aload_n 2, 1) := by decide +kernel
theorem dX4_receive_13 : decode cX4_receive 13 = .ok (.getfield 161, 3) := by decide +kernel
theorem dX4_receive_16 : decode cX4_receive 16 = .ok (.invokevirtual 211, 3) := by decide +kernel
theorem dX4_receive_19 : decode cX4_receive 19 = .ok (.aload_n 2, 1) := by decide +kernel
theorem dX4_receive_20 : decode cX4_receive 20 = .ok (.getfield 138, 3) := by decide +kernel
theorem dX4_receive_23 : decode cX4_receive 23 = .ok (.tableswitch 65 1 4 #[29, 38, 47, 56], 29) := by decide +kernel
theorem dX4_receive_52 : decode cX4_receive 52 = .ok (.aload_n 0, 1) := by decide +kernel
theorem dX4_receive_53 : decode cX4_receive 53 = .ok (.aload_n 1, 1) := by decide +kernel
theorem dX4_receive_54 : decode cX4_receive 54 = .ok (.aload_n 2, 1) := by decide +kernel
theorem dX4_receive_55 : decode cX4_receive 55 = .ok (.invokevirtual 214, 3) := by decide +kernel
theorem dX4_receive_58 : decode cX4_receive 58 = .ok (.goto 36, 3) := by decide +kernel
theorem dX4_receive_61 : decode cX4_receive 61 = .ok (.aload_n 0, 1) := by decide +kernel
theorem dX4_receive_62 : decode cX4_receive 62 = .ok (.aload_n 1, 1) := by decide +kernel
theorem dX4_receive_63 : decode cX4_receive 63 = .ok (.aload_n 2, 1) := by decide +kernel
theorem dX4_receive_64 : decode cX4_receive 64 = .ok (.invokevirtual 217, 3) := by decide +kernel
theorem dX4_receive_67 : decode cX4_receive 67 = .ok (.goto 27, 3) := by decide +kernel
theorem dX4_receive_70 : decode cX4_receive 70 = .ok (.aload_n 0, 1) := by decide +kernel
theorem dX4_receive_71 : decode cX4_receive 71 = .ok (.aload_n 1, 1) := by decide +kernel
theorem dX4_receive_72 : decode cX4_receive 72 = .ok (.aload_n 2, 1) := by decide +kernel
theorem dX4_receive_73 : decode cX4_receive 73 = .ok (.invokevirtual 220, 3) := by decide +kernel
theorem dX4_receive_76 : decode cX4_receive 76 = .ok (.goto 18, 3) := by decide +kernel
theorem dX4_receive_79 : decode cX4_receive 79 = .ok (.aload_n 0, 1) := by decide +kernel
theorem dX4_receive_80 : decode cX4_receive 80 = .ok (.aload_n 1, 1) := by decide +kernel
theorem dX4_receive_81 : decode cX4_receive 81 = .ok (.aload_n 2, 1) := by decide +kernel
theorem dX4_receive_82 : decode cX4_receive 82 = .ok (.invokevirtual 223, 3) := by decide +kernel
theorem dX4_receive_85 : decode cX4_receive 85 = .ok (.goto 9, 3) := by decide +kernel
theorem dX4_receive_88 : decode cX4_receive 88 = .ok (.aload_n 0, 1) := by decide +kernel
theorem dX4_receive_89 : decode cX4_receive 89 = .ok (.aload_n 1, 1) := by decide +kernel
theorem dX4_receive_90 : decode cX4_receive 90 = .ok (.aload_n 2, 1) := by decide +kernel
theorem dX4_receive_91 : decode cX4_receive 91 = .ok (.invokevirtual 226, 3) := by decide +kernel
theorem dX4_receive_94 : decode cX4_receive 94 = .ok (.return_, 1) := by decide +kernel
theorem dX4_receiveAsk_0 : decode cX4_receiveAsk 0 = .ok (.aload_n 1, 1) := by decide +kernel
theorem dX4_receiveAsk_1 : decode cX4_receiveAsk 1 = .ok (.getfield 145, 3) := by decide +kernel
theorem dX4_receiveAsk_4 : decode cX4_receiveAsk 4 = .ok (.iconst (-1), 1) := by decide +kernel
theorem dX4_receiveAsk_5 : decode cX4_receiveAsk 5 = .ok (.if_icmp .eq 14, 3) := by decide +kernel
theorem dX4_receiveAsk_8 : decode cX4_receiveAsk 8 = .ok (.aload_n 1, 1) := by decide +kernel
theorem dX4_receiveAsk_9 : decode cX4_receiveAsk 9 = .ok (.getfield 145, 3) := by decide +kernel
theorem dX4_receiveAsk_12 : decode cX4_receiveAsk 12 = .ok (.aload_n 2, 1) := by decide +kernel
theorem dX4_receiveAsk_13 : decode cX4_receiveAsk 13 = .ok (.getfield 158, 3) := by decide +kernel
theorem dX4_receiveAsk_16 : decode cX4_receiveAsk 16 = .ok (.if_icmp .ne 7, 3) := by decide +kernel
theorem dX4_receiveAsk_19 : decode cX4_receiveAsk 19 = .ok (.iconst 1, 1) := by decide +kernel
theorem dX4_receiveAsk_20 : decode cX4_receiveAsk 20 = .ok (.goto 4, 3) := by decide +kernel
theorem dX4_receiveAsk_23 : decode cX4_receiveAsk 23 = .ok (.iconst 0, 1) := by decide +kernel
theorem dX4_receiveAsk_24 : decode cX4_receiveAsk 24 = .ok (.istore_n 3, 1) := by decide +kernel
theorem dX4_receiveAsk_25 : decode cX4_receiveAsk 25 = .ok (.aload_n 2, 1) := by decide +kernel
theorem dX4_receiveAsk_26 : decode cX4_receiveAsk 26 = .ok (.getfield 161, 3) := by decide +kernel
theorem dX4_receiveAsk_29 : decode cX4_receiveAsk 29 = .ok (.aload_n 1, 1) := by decide +kernel
theorem dX4_receiveAsk_30 : decode cX4_receiveAsk 30 = .ok (.getfield 91, 3) := by decide +kernel
theorem dX4_receiveAsk_33 : decode cX4_receiveAsk 33 = .ok (.if_icmp .ne 29, 3) := by decide +kernel
theorem dX4_receiveAsk_36 : decode cX4_receiveAsk 36 = .ok (.iload_n 3, 1) := by decide +kernel
theorem dX4_receiveAsk_37 : decode cX4_receiveAsk 37 = .ok (.ifCond .eq 25, 3) := by decide +kernel
theorem dX4_receiveAsk_40 : decode cX4_receiveAsk 40 = .ok (.aload_n 1, 1) := by decide +kernel
theorem dX4_receiveAsk_41 : decode cX4_receiveAsk 41 = .ok (.getfield 72, 3) := by decide +kernel
theorem dX4_receiveAsk_44 : decode cX4_receiveAsk 44 = .ok (.aload_n 2, 1) := by decide +kernel
theorem dX4_receiveAsk_45 : decode cX4_receiveAsk 45 = .ok (.getfield 178, 3) := by decide +kernel
theorem dX4_receiveAsk_48 : decode cX4_receiveAsk 48 = .ok (.aload_n 2, 1) := by decide +kernel
theorem dX4_receiveAsk_49 : decode cX4_receiveAsk 49 = .ok (.getfield 184, 3) := by decide +kernel
theorem dX4_receiveAsk_52 : decode cX4_receiveAsk 52 = .ok (.invokevirtual 229, 3) := by decide +kernel
theorem dX4_receiveAsk_55 : decode cX4_receiveAsk 55 = .ok (.ifCond .eq 7, 3) := by decide +kernel
theorem dX4_receiveAsk_58 : decode cX4_receiveAsk 58 = .ok (.iconst 1, 1) := by decide +kernel
theorem dX4_receiveAsk_59 : decode cX4_receiveAsk 59 = .ok (.goto 4, 3) := by decide +kernel
theorem dX4_receiveAsk_62 : decode cX4_receiveAsk 62 = .ok (.iconst 0, 1) := by decide +kernel
theorem dX4_receiveAsk_63 : decode cX4_receiveAsk 63 = .ok (.istore 4, 2) := by decide +kernel
theorem dX4_receiveAsk_65 : decode cX4_receiveAsk 65 = .ok (.iload 4, 2) := by decide +kernel
theorem dX4_receiveAsk_67 : decode cX4_receiveAsk 67 = .ok (.ifCond .eq 11, 3) := by decide +kernel
theorem dX4_receiveAsk_70 : decode cX4_receiveAsk 70 = .ok (.aload_n 1, 1) := by decide +kernel
theorem dX4_receiveAsk_71 : decode cX4_receiveAsk 71 = .ok (.aload_n 2, 1) := by decide +kernel
theorem dX4_receiveAsk_72 : decode cX4_receiveAsk 72 = .ok (.getfield 158, 3) := by decide +kernel
theorem dX4_receiveAsk_75 : decode cX4_receiveAsk 75 = .ok (.putfield 145, 3) := by decide +kernel
theorem dX4_receiveAsk_78 : decode cX4_receiveAsk 78 = .ok (.aload_n 0, 1) := by decide +kernel
theorem dX4_receiveAsk_79 : decode cX4_receiveAsk 79 = .ok (.aload_n 1, 1) := by decide +kernel
theorem dX4_receiveAsk_80 : decode cX4_receiveAsk 80 = .ok (.aload_n 2, 1) := by decide +kernel
theorem dX4_receiveAsk_81 : decode cX4_receiveAsk 81 = .ok (.getfield 158, 3) := by decide +kernel
theorem dX4_receiveAsk_84 : decode cX4_receiveAsk 84 = .ok (.iload 4, 2) := by decide +kernel
theorem dX4_receiveAsk_86 : decode cX4_receiveAsk 86 = .ok (.invokevirtual 232, 3) := by decide +kernel
theorem dX4_receiveAsk_89 : decode cX4_receiveAsk 89 = .ok (.return_, 1) := by decide +kernel
theorem dX4_receiveVote_0 : decode cX4_receiveVote 0 = .ok (.aload_n 1, 1) := by decide +kernel
theorem dX4_receiveVote_1 : decode cX4_receiveVote 1 = .ok (.getfield 49, 3) := by decide +kernel
theorem dX4_receiveVote_4 : decode cX4_receiveVote 4 = .ok (.iconst 1, 1) := by decide +kernel
theorem dX4_receiveVote_5 : decode cX4_receiveVote 5 = .ok (.if_icmp .ne 21, 3) := by decide +kernel
theorem dX4_receiveVote_8 : decode cX4_receiveVote 8 = .ok (.aload_n 2, 1) := by decide +kernel
theorem dX4_receiveVote_9 : decode cX4_receiveVote 9 = .ok (.getfield 161, 3) := by decide +kernel
theorem dX4_receiveVote_12 : decode cX4_receiveVote 12 = .ok (.aload_n 1, 1) := by decide +kernel
theorem dX4_receiveVote_13 : decode cX4_receiveVote 13 = .ok (.getfield 91, 3) := by decide +kernel
theorem dX4_receiveVote_16 : decode cX4_receiveVote 16 = .ok (.if_icmp .ne 10, 3) := by decide +kernel
theorem dX4_receiveVote_19 : decode cX4_receiveVote 19 = .ok (.aload_n 2, 1) := by decide +kernel
theorem dX4_receiveVote_20 : decode cX4_receiveVote 20 = .ok (.getfield 187, 3) := by decide +kernel
theorem dX4_receiveVote_23 : decode cX4_receiveVote 23 = .ok (.ifCond .ne 4, 3) := by decide +kernel
theorem dX4_receiveVote_26 : decode cX4_receiveVote 26 = .ok (.return_, 1) := by decide +kernel
theorem dX4_receiveVote_27 : decode cX4_receiveVote 27 = .ok (.aload_n 1, 1) := by decide +kernel
theorem dX4_receiveVote_28 : decode cX4_receiveVote 28 = .ok (.getfield 236, 3) := by decide +kernel
theorem dX4_receiveVote_31 : decode cX4_receiveVote 31 = .ok (.aload_n 2, 1) := by decide +kernel
theorem dX4_receiveVote_32 : decode cX4_receiveVote 32 = .ok (.getfield 158, 3) := by decide +kernel
theorem dX4_receiveVote_35 : decode cX4_receiveVote 35 = .ok (.iconst 1, 1) := by decide +kernel
theorem dX4_receiveVote_36 : decode cX4_receiveVote 36 = .ok (.bastore, 1) := by decide +kernel
theorem dX4_receiveVote_37 : decode cX4_receiveVote 37 = .ok (.aload_n 0, 1) := by decide +kernel
theorem dX4_receiveVote_38 : decode cX4_receiveVote 38 = .ok (.aload_n 1, 1) := by decide +kernel
theorem dX4_receiveVote_39 : decode cX4_receiveVote 39 = .ok (.invokevirtual 240, 3) := by decide +kernel
theorem dX4_receiveVote_42 : decode cX4_receiveVote 42 = .ok (.invokevirtual 243, 3) := by decide +kernel
theorem dX4_receiveVote_45 : decode cX4_receiveVote 45 = .ok (.ifCond .eq 7, 3) := by decide +kernel
theorem dX4_receiveVote_48 : decode cX4_receiveVote 48 = .ok (.aload_n 1, 1) := by decide +kernel
theorem dX4_receiveVote_49 : decode cX4_receiveVote 49 = .ok (.invokevirtual 246, 3) := by decide +kernel
theorem dX4_receiveVote_52 : decode cX4_receiveVote 52 = .ok (.return_, 1) := by decide +kernel
theorem dX4_receiveAppend_0 : decode cX4_receiveAppend 0 = .ok (.aload_n 2, 1) := by decide +kernel
theorem dX4_receiveAppend_1 : decode cX4_receiveAppend 1 = .ok (.getfield 161, 3) := by decide +kernel
theorem dX4_receiveAppend_4 : decode cX4_receiveAppend 4 = .ok (.aload_n 1, 1) := by decide +kernel
theorem dX4_receiveAppend_5 : decode cX4_receiveAppend 5 = .ok (.getfield 91, 3) := by decide +kernel
theorem dX4_receiveAppend_8 : decode cX4_receiveAppend 8 = .ok (.if_icmp .ge 15, 3) := by decide +kernel
theorem dX4_receiveAppend_11 : decode cX4_receiveAppend 11 = .ok (.aload_n 0, 1) := by decide +kernel
theorem dX4_receiveAppend_12 : decode cX4_receiveAppend 12 = .ok (.aload_n 1, 1) := by decide +kernel
theorem dX4_receiveAppend_13 : decode cX4_receiveAppend 13 = .ok (.aload_n 2, 1) := by decide +kernel
theorem dX4_receiveAppend_14 : decode cX4_receiveAppend 14 = .ok (.getfield 158, 3) := by decide +kernel
theorem dX4_receiveAppend_17 : decode cX4_receiveAppend 17 = .ok (.iconst 0, 1) := by decide +kernel
theorem dX4_receiveAppend_18 : decode cX4_receiveAppend 18 = .ok (.iconst 0, 1) := by decide +kernel
theorem dX4_receiveAppend_19 : decode cX4_receiveAppend 19 = .ok (.invokevirtual 249, 3) := by decide +kernel
theorem dX4_receiveAppend_22 : decode cX4_receiveAppend 22 = .ok (.return_, 1) := by decide +kernel
theorem dX4_receiveAppend_23 : decode cX4_receiveAppend 23 = .ok (.aload_n 1, 1) := by decide +kernel
theorem dX4_receiveAppend_24 : decode cX4_receiveAppend 24 = .ok (.iconst 0, 1) := by decide +kernel
theorem dX4_receiveAppend_25 : decode cX4_receiveAppend 25 = .ok (.putfield 49, 3) := by decide +kernel
theorem dX4_receiveAppend_28 : decode cX4_receiveAppend 28 = .ok (.aload_n 2, 1) := by decide +kernel
theorem dX4_receiveAppend_29 : decode cX4_receiveAppend 29 = .ok (.getfield 178, 3) := by decide +kernel
theorem dX4_receiveAppend_32 : decode cX4_receiveAppend 32 = .ok (.aload_n 1, 1) := by decide +kernel
theorem dX4_receiveAppend_33 : decode cX4_receiveAppend 33 = .ok (.getfield 72, 3) := by decide +kernel
theorem dX4_receiveAppend_36 : decode cX4_receiveAppend 36 = .ok (.getfield 76, 3) := by decide +kernel
theorem dX4_receiveAppend_39 : decode cX4_receiveAppend 39 = .ok (.if_icmp .ge 21, 3) := by decide +kernel
theorem dX4_receiveAppend_42 : decode cX4_receiveAppend 42 = .ok (.aload_n 0, 1) := by decide +kernel
theorem dX4_receiveAppend_43 : decode cX4_receiveAppend 43 = .ok (.aload_n 1, 1) := by decide +kernel
theorem dX4_receiveAppend_44 : decode cX4_receiveAppend 44 = .ok (.aload_n 2, 1) := by decide +kernel
theorem dX4_receiveAppend_45 : decode cX4_receiveAppend 45 = .ok (.getfield 158, 3) := by decide +kernel
theorem dX4_receiveAppend_48 : decode cX4_receiveAppend 48 = .ok (.iconst 1, 1) := by decide +kernel
theorem dX4_receiveAppend_49 : decode cX4_receiveAppend 49 = .ok (.aload_n 1, 1) := by decide +kernel
theorem dX4_receiveAppend_50 : decode cX4_receiveAppend 50 = .ok (.getfield 72, 3) := by decide +kernel
theorem dX4_receiveAppend_53 : decode cX4_receiveAppend 53 = .ok (.getfield 76, 3) := by decide +kernel
theorem dX4_receiveAppend_56 : decode cX4_receiveAppend 56 = .ok (.invokevirtual 249, 3) := by decide +kernel
theorem dX4_receiveAppend_59 : decode cX4_receiveAppend 59 = .ok (.return_, 1) := by decide +kernel
theorem dX4_receiveAppend_60 : decode cX4_receiveAppend 60 = .ok (.aload_n 2, 1) := by decide +kernel
theorem dX4_receiveAppend_61 : decode cX4_receiveAppend 61 = .ok (.getfield 178, 3) := by decide +kernel
theorem dX4_receiveAppend_64 : decode cX4_receiveAppend 64 = .ok (.aload_n 1, 1) := by decide +kernel
theorem dX4_receiveAppend_65 : decode cX4_receiveAppend 65 = .ok (.getfield 72, 3) := by decide +kernel
theorem dX4_receiveAppend_68 : decode cX4_receiveAppend 68 = .ok (.invokevirtual 98, 3) := by decide +kernel
theorem dX4_receiveAppend_71 : decode cX4_receiveAppend 71 = .ok (.if_icmp .gt 21, 3) := by decide +kernel
theorem dX4_receiveAppend_74 : decode cX4_receiveAppend 74 = .ok (.aload_n 1, 1) := by decide +kernel
theorem dX4_receiveAppend_75 : decode cX4_receiveAppend 75 = .ok (.getfield 72, 3) := by decide +kernel
theorem dX4_receiveAppend_78 : decode cX4_receiveAppend 78 = .ok (.aload_n 2, 1) := by decide +kernel
theorem dX4_receiveAppend_79 : decode cX4_receiveAppend 79 = .ok (.getfield 178, 3) := by decide +kernel
theorem dX4_receiveAppend_82 : decode cX4_receiveAppend 82 = .ok (.invokevirtual 104, 3) := by decide +kernel
theorem dX4_receiveAppend_85 : decode cX4_receiveAppend 85 = .ok (.aload_n 2, 1) := by decide +kernel
theorem dX4_receiveAppend_86 : decode cX4_receiveAppend 86 = .ok (.getfield 184, 3) := by decide +kernel
theorem dX4_receiveAppend_89 : decode cX4_receiveAppend 89 = .ok (.if_icmp .eq 15, 3) := by decide +kernel
theorem dX4_receiveAppend_92 : decode cX4_receiveAppend 92 = .ok (.aload_n 0, 1) := by decide +kernel
theorem dX4_receiveAppend_93 : decode cX4_receiveAppend 93 = .ok (.aload_n 1, 1) := by decide +kernel
theorem dX4_receiveAppend_94 : decode cX4_receiveAppend 94 = .ok (.aload_n 2, 1) := by decide +kernel
theorem dX4_receiveAppend_95 : decode cX4_receiveAppend 95 = .ok (.getfield 158, 3) := by decide +kernel
theorem dX4_receiveAppend_98 : decode cX4_receiveAppend 98 = .ok (.iconst 0, 1) := by decide +kernel
theorem dX4_receiveAppend_99 : decode cX4_receiveAppend 99 = .ok (.iconst 0, 1) := by decide +kernel
theorem dX4_receiveAppend_100 : decode cX4_receiveAppend 100 = .ok (.invokevirtual 249, 3) := by decide +kernel
theorem dX4_receiveAppend_103 : decode cX4_receiveAppend 103 = .ok (.return_, 1) := by decide +kernel
theorem dX4_receiveAppend_104 : decode cX4_receiveAppend 104 = .ok (.aload_n 2, 1) := by decide +kernel
theorem dX4_receiveAppend_105 : decode cX4_receiveAppend 105 = .ok (.getfield 178, 3) := by decide +kernel
theorem dX4_receiveAppend_108 : decode cX4_receiveAppend 108 = .ok (.istore_n 3, 1) := by decide +kernel
theorem dX4_receiveAppend_109 : decode cX4_receiveAppend 109 = .ok (.aload_n 2, 1) := by decide +kernel
theorem dX4_receiveAppend_110 : decode cX4_receiveAppend 110 = .ok (.getfield 193, 3) := by decide +kernel
theorem dX4_receiveAppend_113 : decode cX4_receiveAppend 113 = .ok (.ifCond .eq 44, 3) := by decide +kernel
theorem dX4_receiveAppend_116 : decode cX4_receiveAppend 116 = .ok (.aload_n 1, 1) := by decide +kernel
theorem dX4_receiveAppend_117 : decode cX4_receiveAppend 117 = .ok (.aload_n 2, 1) := by decide +kernel
theorem dX4_receiveAppend_118 : decode cX4_receiveAppend 118 = .ok (.getfield 178, 3) := by decide +kernel
theorem dX4_receiveAppend_121 : decode cX4_receiveAppend 121 = .ok (.iconst 1, 1) := by decide +kernel
theorem dX4_receiveAppend_122 : decode cX4_receiveAppend 122 = .ok (.iadd, 1) := by decide +kernel
theorem dX4_receiveAppend_123 : decode cX4_receiveAppend 123 = .ok (.aload_n 2, 1) := by decide +kernel
theorem dX4_receiveAppend_124 : decode cX4_receiveAppend 124 = .ok (.getfield 195, 3) := by decide +kernel
theorem dX4_receiveAppend_127 : decode cX4_receiveAppend 127 = .ok (.aload_n 2, 1) := by decide +kernel
theorem dX4_receiveAppend_128 : decode cX4_receiveAppend 128 = .ok (.getfield 198, 3) := by decide +kernel
theorem dX4_receiveAppend_131 : decode cX4_receiveAppend 131 = .ok (.invokevirtual 253, 3) := by decide +kernel
theorem dX4_receiveAppend_134 : decode cX4_receiveAppend 134 = .ok (.aload_n 1, 1) := by decide +kernel
theorem dX4_receiveAppend_135 : decode cX4_receiveAppend 135 = .ok (.getfield 72, 3) := by decide +kernel
theorem dX4_receiveAppend_138 : decode cX4_receiveAppend 138 = .ok (.aload_n 2, 1) := by decide +kernel
theorem dX4_receiveAppend_139 : decode cX4_receiveAppend 139 = .ok (.getfield 178, 3) := by decide +kernel
theorem dX4_receiveAppend_142 : decode cX4_receiveAppend 142 = .ok (.iconst 1, 1) := by decide +kernel
theorem dX4_receiveAppend_143 : decode cX4_receiveAppend 143 = .ok (.iadd, 1) := by decide +kernel
theorem dX4_receiveAppend_144 : decode cX4_receiveAppend 144 = .ok (.invokevirtual 190, 3) := by decide +kernel
theorem dX4_receiveAppend_147 : decode cX4_receiveAppend 147 = .ok (.ifCond .eq 10, 3) := by decide +kernel
theorem dX4_receiveAppend_150 : decode cX4_receiveAppend 150 = .ok (.aload_n 2, 1) := by decide +kernel
theorem dX4_receiveAppend_151 : decode cX4_receiveAppend 151 = .ok (.getfield 178, 3) := by decide +kernel
theorem dX4_receiveAppend_154 : decode cX4_receiveAppend 154 = .ok (.iconst 1, 1) := by decide +kernel
theorem dX4_receiveAppend_155 : decode cX4_receiveAppend 155 = .ok (.iadd, 1) := by decide +kernel
theorem dX4_receiveAppend_156 : decode cX4_receiveAppend 156 = .ok (.istore_n 3, 1) := by decide +kernel
theorem dX4_receiveAppend_157 : decode cX4_receiveAppend 157 = .ok (.aload_n 1, 1) := by decide +kernel
theorem dX4_receiveAppend_158 : decode cX4_receiveAppend 158 = .ok (.aload_n 1, 1) := by decide +kernel
theorem dX4_receiveAppend_159 : decode cX4_receiveAppend 159 = .ok (.getfield 101, 3) := by decide +kernel
theorem dX4_receiveAppend_162 : decode cX4_receiveAppend 162 = .ok (.aload_n 2, 1) := by decide +kernel
theorem dX4_receiveAppend_163 : decode cX4_receiveAppend 163 = .ok (.getfield 201, 3) := by decide +kernel
theorem dX4_receiveAppend_166 : decode cX4_receiveAppend 166 = .ok (.iload_n 3, 1) := by decide +kernel
theorem dX4_receiveAppend_167 : decode cX4_receiveAppend 167 = .ok (.invokestatic 162, 3) := by decide +kernel
theorem dX4_receiveAppend_170 : decode cX4_receiveAppend 170 = .ok (.invokestatic 168, 3) := by decide +kernel
theorem dX4_receiveAppend_173 : decode cX4_receiveAppend 173 = .ok (.putfield 101, 3) := by decide +kernel
theorem dX4_receiveAppend_176 : decode cX4_receiveAppend 176 = .ok (.aload_n 0, 1) := by decide +kernel
theorem dX4_receiveAppend_177 : decode cX4_receiveAppend 177 = .ok (.aload_n 1, 1) := by decide +kernel
theorem dX4_receiveAppend_178 : decode cX4_receiveAppend 178 = .ok (.aload_n 2, 1) := by decide +kernel
theorem dX4_receiveAppend_179 : decode cX4_receiveAppend 179 = .ok (.getfield 158, 3) := by decide +kernel
theorem dX4_receiveAppend_182 : decode cX4_receiveAppend 182 = .ok (.iconst 1, 1) := by decide +kernel
theorem dX4_receiveAppend_183 : decode cX4_receiveAppend 183 = .ok (.iload_n 3, 1) := by decide +kernel
theorem dX4_receiveAppend_184 : decode cX4_receiveAppend 184 = .ok (.invokevirtual 249, 3) := by decide +kernel
theorem dX4_receiveAppend_187 : decode cX4_receiveAppend 187 = .ok (.return_, 1) := by decide +kernel
theorem dX4_receiveAppended_0 : decode cX4_receiveAppended 0 = .ok (.aload_n 1, 1) := by decide +kernel
theorem dX4_receiveAppended_1 : decode cX4_receiveAppended 1 = .ok (.getfield 49, 3) := by decide +kernel
theorem dX4_receiveAppended_4 : decode cX4_receiveAppended 4 = .ok (.iconst 2, 1) := by decide +kernel
theorem dX4_receiveAppended_5 : decode cX4_receiveAppended 5 = .ok (.if_icmp .ne 14, 3) := by decide +kernel
theorem dX4_receiveAppended_8 : decode cX4_receiveAppended 8 = .ok (.aload_n 2, 1) := by decide +kernel
theorem dX4_receiveAppended_9 : decode cX4_receiveAppended 9 = .ok (.getfield 161, 3) := by decide +kernel
theorem dX4_receiveAppended_12 : decode cX4_receiveAppended 12 = .ok (.aload_n 1, 1) := by decide +kernel
theorem dX4_receiveAppended_13 : decode cX4_receiveAppended 13 = .ok (.getfield 91, 3) := by decide +kernel
theorem dX4_receiveAppended_16 : decode cX4_receiveAppended 16 = .ok (.if_icmp .eq 4, 3) := by decide +kernel
theorem dX4_receiveAppended_19 : decode cX4_receiveAppended 19 = .ok (.return_, 1) := by decide +kernel
theorem dX4_receiveAppended_20 : decode cX4_receiveAppended 20 = .ok (.aload_n 2, 1) := by decide +kernel
theorem dX4_receiveAppended_21 : decode cX4_receiveAppended 21 = .ok (.getfield 187, 3) := by decide +kernel
theorem dX4_receiveAppended_24 : decode cX4_receiveAppended 24 = .ok (.ifCond .ne 28, 3) := by decide +kernel
theorem dX4_receiveAppended_27 : decode cX4_receiveAppended 27 = .ok (.aload_n 1, 1) := by decide +kernel
theorem dX4_receiveAppended_28 : decode cX4_receiveAppended 28 = .ok (.getfield 68, 3) := by decide +kernel
theorem dX4_receiveAppended_31 : decode cX4_receiveAppended 31 = .ok (.aload_n 2, 1) := by decide +kernel
theorem dX4_receiveAppended_32 : decode cX4_receiveAppended 32 = .ok (.getfield 158, 3) := by decide +kernel
theorem dX4_receiveAppended_35 : decode cX4_receiveAppended 35 = .ok (.iconst 1, 1) := by decide +kernel
theorem dX4_receiveAppended_36 : decode cX4_receiveAppended 36 = .ok (.aload_n 1, 1) := by decide +kernel
theorem dX4_receiveAppended_37 : decode cX4_receiveAppended 37 = .ok (.getfield 68, 3) := by decide +kernel
theorem dX4_receiveAppended_40 : decode cX4_receiveAppended 40 = .ok (.aload_n 2, 1) := by decide +kernel
theorem dX4_receiveAppended_41 : decode cX4_receiveAppended 41 = .ok (.getfield 158, 3) := by decide +kernel
theorem dX4_receiveAppended_44 : decode cX4_receiveAppended 44 = .ok (.iaload, 1) := by decide +kernel
theorem dX4_receiveAppended_45 : decode cX4_receiveAppended 45 = .ok (.iconst 1, 1) := by decide +kernel
theorem dX4_receiveAppended_46 : decode cX4_receiveAppended 46 = .ok (.isub, 1) := by decide +kernel
theorem dX4_receiveAppended_47 : decode cX4_receiveAppended 47 = .ok (.invokestatic 168, 3) := by decide +kernel
theorem dX4_receiveAppended_50 : decode cX4_receiveAppended 50 = .ok (.iastore, 1) := by decide +kernel
theorem dX4_receiveAppended_51 : decode cX4_receiveAppended 51 = .ok (.return_, 1) := by decide +kernel
theorem dX4_receiveAppended_52 : decode cX4_receiveAppended 52 = .ok (.aload_n 1, 1) := by decide +kernel
theorem dX4_receiveAppended_53 : decode cX4_receiveAppended 53 = .ok (.getfield 151, 3) := by decide +kernel
theorem dX4_receiveAppended_56 : decode cX4_receiveAppended 56 = .ok (.aload_n 2, 1) := by decide +kernel
theorem dX4_receiveAppended_57 : decode cX4_receiveAppended 57 = .ok (.getfield 158, 3) := by decide +kernel
theorem dX4_receiveAppended_60 : decode cX4_receiveAppended 60 = .ok (.aload_n 1, 1) := by decide +kernel
theorem dX4_receiveAppended_61 : decode cX4_receiveAppended 61 = .ok (.getfield 151, 3) := by decide +kernel
theorem dX4_receiveAppended_64 : decode cX4_receiveAppended 64 = .ok (.aload_n 2, 1) := by decide +kernel
theorem dX4_receiveAppended_65 : decode cX4_receiveAppended 65 = .ok (.getfield 158, 3) := by decide +kernel
theorem dX4_receiveAppended_68 : decode cX4_receiveAppended 68 = .ok (.iaload, 1) := by decide +kernel
theorem dX4_receiveAppended_69 : decode cX4_receiveAppended 69 = .ok (.aload_n 2, 1) := by decide +kernel
theorem dX4_receiveAppended_70 : decode cX4_receiveAppended 70 = .ok (.getfield 178, 3) := by decide +kernel
theorem dX4_receiveAppended_73 : decode cX4_receiveAppended 73 = .ok (.invokestatic 168, 3) := by decide +kernel
theorem dX4_receiveAppended_76 : decode cX4_receiveAppended 76 = .ok (.iastore, 1) := by decide +kernel
theorem dX4_receiveAppended_77 : decode cX4_receiveAppended 77 = .ok (.aload_n 1, 1) := by decide +kernel
theorem dX4_receiveAppended_78 : decode cX4_receiveAppended 78 = .ok (.getfield 68, 3) := by decide +kernel
theorem dX4_receiveAppended_81 : decode cX4_receiveAppended 81 = .ok (.aload_n 2, 1) := by decide +kernel
theorem dX4_receiveAppended_82 : decode cX4_receiveAppended 82 = .ok (.getfield 158, 3) := by decide +kernel
theorem dX4_receiveAppended_85 : decode cX4_receiveAppended 85 = .ok (.aload_n 1, 1) := by decide +kernel
theorem dX4_receiveAppended_86 : decode cX4_receiveAppended 86 = .ok (.getfield 151, 3) := by decide +kernel
theorem dX4_receiveAppended_89 : decode cX4_receiveAppended 89 = .ok (.aload_n 2, 1) := by decide +kernel
theorem dX4_receiveAppended_90 : decode cX4_receiveAppended 90 = .ok (.getfield 158, 3) := by decide +kernel
theorem dX4_receiveAppended_93 : decode cX4_receiveAppended 93 = .ok (.iaload, 1) := by decide +kernel
theorem dX4_receiveAppended_94 : decode cX4_receiveAppended 94 = .ok (.iconst 1, 1) := by decide +kernel
theorem dX4_receiveAppended_95 : decode cX4_receiveAppended 95 = .ok (.iadd, 1) := by decide +kernel
theorem dX4_receiveAppended_96 : decode cX4_receiveAppended 96 = .ok (.iastore, 1) := by decide +kernel
theorem dX4_receiveAppended_97 : decode cX4_receiveAppended 97 = .ok (.aload_n 0, 1) := by decide +kernel
theorem dX4_receiveAppended_98 : decode cX4_receiveAppended 98 = .ok (.aload_n 1, 1) := by decide +kernel
theorem dX4_receiveAppended_99 : decode cX4_receiveAppended 99 = .ok (.invokevirtual 256, 3) := by decide +kernel
theorem dX4_receiveAppended_102 : decode cX4_receiveAppended 102 = .ok (.return_, 1) := by decide +kernel
theorem dX4_receiveSnapshot_0 : decode cX4_receiveSnapshot 0 = .ok (.aload_n 2, 1) := by decide +kernel
theorem dX4_receiveSnapshot_1 : decode cX4_receiveSnapshot 1 = .ok (.getfield 161, 3) := by decide +kernel
theorem dX4_receiveSnapshot_4 : decode cX4_receiveSnapshot 4 = .ok (.aload_n 1, 1) := by decide +kernel
theorem dX4_receiveSnapshot_5 : decode cX4_receiveSnapshot 5 = .ok (.getfield 91, 3) := by decide +kernel
theorem dX4_receiveSnapshot_8 : decode cX4_receiveSnapshot 8 = .ok (.if_icmp .ge 15, 3) := by decide +kernel
theorem dX4_receiveSnapshot_11 : decode cX4_receiveSnapshot 11 = .ok (.aload_n 0, 1) := by decide +kernel
theorem dX4_receiveSnapshot_12 : decode cX4_receiveSnapshot 12 = .ok (.aload_n 1, 1) := by decide +kernel
theorem dX4_receiveSnapshot_13 : decode cX4_receiveSnapshot 13 = .ok (.aload_n 2, 1) := by decide +kernel
theorem dX4_receiveSnapshot_14 : decode cX4_receiveSnapshot 14 = .ok (.getfield 158, 3) := by decide +kernel
theorem dX4_receiveSnapshot_17 : decode cX4_receiveSnapshot 17 = .ok (.iconst 0, 1) := by decide +kernel
theorem dX4_receiveSnapshot_18 : decode cX4_receiveSnapshot 18 = .ok (.iconst 0, 1) := by decide +kernel
theorem dX4_receiveSnapshot_19 : decode cX4_receiveSnapshot 19 = .ok (.invokevirtual 249, 3) := by decide +kernel
theorem dX4_receiveSnapshot_22 : decode cX4_receiveSnapshot 22 = .ok (.return_, 1) := by decide +kernel
theorem dX4_receiveSnapshot_23 : decode cX4_receiveSnapshot 23 = .ok (.aload_n 1, 1) := by decide +kernel
theorem dX4_receiveSnapshot_24 : decode cX4_receiveSnapshot 24 = .ok (.iconst 0, 1) := by decide +kernel
theorem dX4_receiveSnapshot_25 : decode cX4_receiveSnapshot 25 = .ok (.putfield 49, 3) := by decide +kernel
theorem dX4_receiveSnapshot_28 : decode cX4_receiveSnapshot 28 = .ok (.aload_n 2, 1) := by decide +kernel
theorem dX4_receiveSnapshot_29 : decode cX4_receiveSnapshot 29 = .ok (.getfield 178, 3) := by decide +kernel
theorem dX4_receiveSnapshot_32 : decode cX4_receiveSnapshot 32 = .ok (.aload_n 1, 1) := by decide +kernel
theorem dX4_receiveSnapshot_33 : decode cX4_receiveSnapshot 33 = .ok (.getfield 101, 3) := by decide +kernel
theorem dX4_receiveSnapshot_36 : decode cX4_receiveSnapshot 36 = .ok (.if_icmp .gt 18, 3) := by decide +kernel
theorem dX4_receiveSnapshot_39 : decode cX4_receiveSnapshot 39 = .ok (.aload_n 0, 1) := by decide +kernel
theorem dX4_receiveSnapshot_40 : decode cX4_receiveSnapshot 40 = .ok (.aload_n 1, 1) := by decide +kernel
theorem dX4_receiveSnapshot_41 : decode cX4_receiveSnapshot 41 = .ok (.aload_n 2, 1) := by decide +kernel
theorem dX4_receiveSnapshot_42 : decode cX4_receiveSnapshot 42 = .ok (.getfield 158, 3) := by decide +kernel
theorem dX4_receiveSnapshot_45 : decode cX4_receiveSnapshot 45 = .ok (.iconst 1, 1) := by decide +kernel
theorem dX4_receiveSnapshot_46 : decode cX4_receiveSnapshot 46 = .ok (.aload_n 1, 1) := by decide +kernel
theorem dX4_receiveSnapshot_47 : decode cX4_receiveSnapshot 47 = .ok (.getfield 101, 3) := by decide +kernel
theorem dX4_receiveSnapshot_50 : decode cX4_receiveSnapshot 50 = .ok (.invokevirtual 249, 3) := by decide +kernel
theorem dX4_receiveSnapshot_53 : decode cX4_receiveSnapshot 53 = .ok (.return_, 1) := by decide +kernel
theorem dX4_receiveSnapshot_54 : decode cX4_receiveSnapshot 54 = .ok (.aload_n 1, 1) := by decide +kernel
theorem dX4_receiveSnapshot_55 : decode cX4_receiveSnapshot 55 = .ok (.getfield 72, 3) := by decide +kernel
theorem dX4_receiveSnapshot_58 : decode cX4_receiveSnapshot 58 = .ok (.aload_n 2, 1) := by decide +kernel
theorem dX4_receiveSnapshot_59 : decode cX4_receiveSnapshot 59 = .ok (.getfield 178, 3) := by decide +kernel
theorem dX4_receiveSnapshot_62 : decode cX4_receiveSnapshot 62 = .ok (.invokevirtual 104, 3) := by decide +kernel
theorem dX4_receiveSnapshot_65 : decode cX4_receiveSnapshot 65 = .ok (.aload_n 2, 1) := by decide +kernel
theorem dX4_receiveSnapshot_66 : decode cX4_receiveSnapshot 66 = .ok (.getfield 184, 3) := by decide +kernel
theorem dX4_receiveSnapshot_69 : decode cX4_receiveSnapshot 69 = .ok (.if_icmp .eq 19, 3) := by decide +kernel
theorem dX4_receiveSnapshot_72 : decode cX4_receiveSnapshot 72 = .ok (.aload_n 1, 1) := by decide +kernel
theorem dX4_receiveSnapshot_73 : decode cX4_receiveSnapshot 73 = .ok (.getfield 72, 3) := by decide +kernel
theorem dX4_receiveSnapshot_76 : decode cX4_receiveSnapshot 76 = .ok (.aload_n 1, 1) := by decide +kernel
theorem dX4_receiveSnapshot_77 : decode cX4_receiveSnapshot 77 = .ok (.getfield 72, 3) := by decide +kernel
theorem dX4_receiveSnapshot_80 : decode cX4_receiveSnapshot 80 = .ok (.getfield 76, 3) := by decide +kernel
theorem dX4_receiveSnapshot_83 : decode cX4_receiveSnapshot 83 = .ok (.iconst 1, 1) := by decide +kernel
theorem dX4_receiveSnapshot_84 : decode cX4_receiveSnapshot 84 = .ok (.iadd, 1) := by decide +kernel
theorem dX4_receiveSnapshot_85 : decode cX4_receiveSnapshot 85 = .ok (.invokevirtual 260, 3) := by decide +kernel
theorem dX4_receiveSnapshot_88 : decode cX4_receiveSnapshot 88 = .ok (.aload_n 1, 1) := by decide +kernel
theorem dX4_receiveSnapshot_89 : decode cX4_receiveSnapshot 89 = .ok (.getfield 72, 3) := by decide +kernel
theorem dX4_receiveSnapshot_92 : decode cX4_receiveSnapshot 92 = .ok (.aload_n 2, 1) := by decide +kernel
theorem dX4_receiveSnapshot_93 : decode cX4_receiveSnapshot 93 = .ok (.getfield 178, 3) := by decide +kernel
theorem dX4_receiveSnapshot_96 : decode cX4_receiveSnapshot 96 = .ok (.aload_n 2, 1) := by decide +kernel
theorem dX4_receiveSnapshot_97 : decode cX4_receiveSnapshot 97 = .ok (.getfield 184, 3) := by decide +kernel
theorem dX4_receiveSnapshot_100 : decode cX4_receiveSnapshot 100 = .ok (.aload_n 2, 1) := by decide +kernel
theorem dX4_receiveSnapshot_101 : decode cX4_receiveSnapshot 101 = .ok (.getfield 208, 3) := by decide +kernel
theorem dX4_receiveSnapshot_104 : decode cX4_receiveSnapshot 104 = .ok (.invokevirtual 111, 3) := by decide +kernel
theorem dX4_receiveSnapshot_107 : decode cX4_receiveSnapshot 107 = .ok (.aload_n 1, 1) := by decide +kernel
theorem dX4_receiveSnapshot_108 : decode cX4_receiveSnapshot 108 = .ok (.aload_n 2, 1) := by decide +kernel
theorem dX4_receiveSnapshot_109 : decode cX4_receiveSnapshot 109 = .ok (.getfield 178, 3) := by decide +kernel
theorem dX4_receiveSnapshot_112 : decode cX4_receiveSnapshot 112 = .ok (.putfield 101, 3) := by decide +kernel
theorem dX4_receiveSnapshot_115 : decode cX4_receiveSnapshot 115 = .ok (.aload_n 0, 1) := by decide +kernel
theorem dX4_receiveSnapshot_116 : decode cX4_receiveSnapshot 116 = .ok (.aload_n 1, 1) := by decide +kernel
theorem dX4_receiveSnapshot_117 : decode cX4_receiveSnapshot 117 = .ok (.aload_n 2, 1) := by decide +kernel
theorem dX4_receiveSnapshot_118 : decode cX4_receiveSnapshot 118 = .ok (.getfield 158, 3) := by decide +kernel
theorem dX4_receiveSnapshot_121 : decode cX4_receiveSnapshot 121 = .ok (.iconst 1, 1) := by decide +kernel
theorem dX4_receiveSnapshot_122 : decode cX4_receiveSnapshot 122 = .ok (.aload_n 2, 1) := by decide +kernel
theorem dX4_receiveSnapshot_123 : decode cX4_receiveSnapshot 123 = .ok (.getfield 178, 3) := by decide +kernel
theorem dX4_receiveSnapshot_126 : decode cX4_receiveSnapshot 126 = .ok (.invokevirtual 249, 3) := by decide +kernel
theorem dX4_receiveSnapshot_129 : decode cX4_receiveSnapshot 129 = .ok (.return_, 1) := by decide +kernel
theorem dX4_advanceCommit_0 : decode cX4_advanceCommit 0 = .ok (.aload_n 1, 1) := by decide +kernel
theorem dX4_advanceCommit_1 : decode cX4_advanceCommit 1 = .ok (.getfield 72, 3) := by decide +kernel
theorem dX4_advanceCommit_4 : decode cX4_advanceCommit 4 = .ok (.invokevirtual 98, 3) := by decide +kernel
theorem dX4_advanceCommit_7 : decode cX4_advanceCommit 7 = .ok (.istore_n 2, 1) := by decide +kernel
theorem dX4_advanceCommit_8 : decode cX4_advanceCommit 8 = .ok (.iload_n 2, 1) := by decide +kernel
theorem dX4_advanceCommit_9 : decode cX4_advanceCommit 9 = .ok (.aload_n 1, 1) := by decide +kernel
theorem dX4_advanceCommit_10 : decode cX4_advanceCommit 10 = .ok (.getfield 101, 3) := by decide +kernel
theorem dX4_advanceCommit_13 : decode cX4_advanceCommit 13 = .ok (.if_icmp .le 42, 3) := by decide +kernel
theorem dX4_advanceCommit_16 : decode cX4_advanceCommit 16 = .ok (.aload_n 1, 1) := by decide +kernel
theorem dX4_advanceCommit_17 : decode cX4_advanceCommit 17 = .ok (.getfield 72, 3) := by decide +kernel
theorem dX4_advanceCommit_20 : decode cX4_advanceCommit 20 = .ok (.iload_n 2, 1) := by decide +kernel
theorem dX4_advanceCommit_21 : decode cX4_advanceCommit 21 = .ok (.invokevirtual 104, 3) := by decide +kernel
theorem dX4_advanceCommit_24 : decode cX4_advanceCommit 24 = .ok (.aload_n 1, 1) := by decide +kernel
theorem dX4_advanceCommit_25 : decode cX4_advanceCommit 25 = .ok (.getfield 91, 3) := by decide +kernel
theorem dX4_advanceCommit_28 : decode cX4_advanceCommit 28 = .ok (.if_icmp .ne 21, 3) := by decide +kernel
theorem dX4_advanceCommit_31 : decode cX4_advanceCommit 31 = .ok (.aload_n 0, 1) := by decide +kernel
theorem dX4_advanceCommit_32 : decode cX4_advanceCommit 32 = .ok (.aload_n 1, 1) := by decide +kernel
theorem dX4_advanceCommit_33 : decode cX4_advanceCommit 33 = .ok (.iload_n 2, 1) := by decide +kernel
theorem dX4_advanceCommit_34 : decode cX4_advanceCommit 34 = .ok (.invokevirtual 263, 3) := by decide +kernel
theorem dX4_advanceCommit_37 : decode cX4_advanceCommit 37 = .ok (.invokevirtual 243, 3) := by decide +kernel
theorem dX4_advanceCommit_40 : decode cX4_advanceCommit 40 = .ok (.ifCond .eq 9, 3) := by decide +kernel
theorem dX4_advanceCommit_43 : decode cX4_advanceCommit 43 = .ok (.aload_n 1, 1) := by decide +kernel
theorem dX4_advanceCommit_44 : decode cX4_advanceCommit 44 = .ok (.iload_n 2, 1) := by decide +kernel
theorem dX4_advanceCommit_45 : decode cX4_advanceCommit 45 = .ok (.putfield 101, 3) := by decide +kernel
theorem dX4_advanceCommit_48 : decode cX4_advanceCommit 48 = .ok (.return_, 1) := by decide +kernel
theorem dX4_advanceCommit_49 : decode cX4_advanceCommit 49 = .ok (.iinc 2 (-1), 3) := by decide +kernel
theorem dX4_advanceCommit_52 : decode cX4_advanceCommit 52 = .ok (.goto (-44), 3) := by decide +kernel
theorem dX4_advanceCommit_55 : decode cX4_advanceCommit 55 = .ok (.return_, 1) := by decide +kernel
theorem dX0_init_0 : decode cX0_init 0 = .ok (.aload_n 0, 1) := by decide +kernel
theorem dX0_init_1 : decode cX0_init 1 = .ok (.invokespecial 3, 3) := by decide +kernel
theorem dX0_init_4 : decode cX0_init 4 = .ok (.aload_n 0, 1) := by decide +kernel
theorem dX0_init_5 : decode cX0_init 5 = .ok (.iload_n 1, 1) := by decide +kernel
theorem dX0_init_6 : decode cX0_init 6 = .ok (.newarray .int, 2) := by decide +kernel
theorem dX0_init_8 : decode cX0_init 8 = .ok (.putfield 9, 3) := by decide +kernel
theorem dX0_init_11 : decode cX0_init 11 = .ok (.aload_n 0, 1) := by decide +kernel
theorem dX0_init_12 : decode cX0_init 12 = .ok (.iload_n 1, 1) := by decide +kernel
theorem dX0_init_13 : decode cX0_init 13 = .ok (.newarray .int, 2) := by decide +kernel
theorem dX0_init_15 : decode cX0_init 15 = .ok (.putfield 15, 3) := by decide +kernel
theorem dX0_init_18 : decode cX0_init 18 = .ok (.return_, 1) := by decide +kernel
theorem dX0_lastNumber_0 : decode cX0_lastNumber 0 = .ok (.aload_n 0, 1) := by decide +kernel
theorem dX0_lastNumber_1 : decode cX0_lastNumber 1 = .ok (.getfield 18, 3) := by decide +kernel
theorem dX0_lastNumber_4 : decode cX0_lastNumber 4 = .ok (.aload_n 0, 1) := by decide +kernel
theorem dX0_lastNumber_5 : decode cX0_lastNumber 5 = .ok (.getfield 22, 3) := by decide +kernel
theorem dX0_lastNumber_8 : decode cX0_lastNumber 8 = .ok (.iadd, 1) := by decide +kernel
theorem dX0_lastNumber_9 : decode cX0_lastNumber 9 = .ok (.ireturn, 1) := by decide +kernel
theorem dX0_lastTerm_0 : decode cX0_lastTerm 0 = .ok (.aload_n 0, 1) := by decide +kernel
theorem dX0_lastTerm_1 : decode cX0_lastTerm 1 = .ok (.getfield 22, 3) := by decide +kernel
theorem dX0_lastTerm_4 : decode cX0_lastTerm 4 = .ok (.ifCond .le 17, 3) := by decide +kernel
theorem dX0_lastTerm_7 : decode cX0_lastTerm 7 = .ok (.aload_n 0, 1) := by decide +kernel
theorem dX0_lastTerm_8 : decode cX0_lastTerm 8 = .ok (.getfield 9, 3) := by decide +kernel
theorem dX0_lastTerm_11 : decode cX0_lastTerm 11 = .ok (.aload_n 0, 1) := by decide +kernel
theorem dX0_lastTerm_12 : decode cX0_lastTerm 12 = .ok (.getfield 22, 3) := by decide +kernel
theorem dX0_lastTerm_15 : decode cX0_lastTerm 15 = .ok (.iconst 1, 1) := by decide +kernel
theorem dX0_lastTerm_16 : decode cX0_lastTerm 16 = .ok (.isub, 1) := by decide +kernel
theorem dX0_lastTerm_17 : decode cX0_lastTerm 17 = .ok (.iaload, 1) := by decide +kernel
theorem dX0_lastTerm_18 : decode cX0_lastTerm 18 = .ok (.goto 7, 3) := by decide +kernel
theorem dX0_lastTerm_21 : decode cX0_lastTerm 21 = .ok (.aload_n 0, 1) := by decide +kernel
theorem dX0_lastTerm_22 : decode cX0_lastTerm 22 = .ok (.getfield 25, 3) := by decide +kernel
theorem dX0_lastTerm_25 : decode cX0_lastTerm 25 = .ok (.ireturn, 1) := by decide +kernel
theorem dX0_isFull_0 : decode cX0_isFull 0 = .ok (.aload_n 0, 1) := by decide +kernel
theorem dX0_isFull_1 : decode cX0_isFull 1 = .ok (.getfield 22, 3) := by decide +kernel
theorem dX0_isFull_4 : decode cX0_isFull 4 = .ok (.aload_n 0, 1) := by decide +kernel
theorem dX0_isFull_5 : decode cX0_isFull 5 = .ok (.getfield 9, 3) := by decide +kernel
theorem dX0_isFull_8 : decode cX0_isFull 8 = .ok (.arraylength, 1) := by decide +kernel
theorem dX0_isFull_9 : decode cX0_isFull 9 = .ok (.if_icmp .lt 7, 3) := by decide +kernel
theorem dX0_isFull_12 : decode cX0_isFull 12 = .ok (.iconst 1, 1) := by decide +kernel
theorem dX0_isFull_13 : decode cX0_isFull 13 = .ok (.goto 4, 3) := by decide +kernel
theorem dX0_isFull_16 : decode cX0_isFull 16 = .ok (.iconst 0, 1) := by decide +kernel
theorem dX0_isFull_17 : decode cX0_isFull 17 = .ok (.ireturn, 1) := by decide +kernel
theorem dX0_hasEntry_0 : decode cX0_hasEntry 0 = .ok (.iload_n 1, 1) := by decide +kernel
theorem dX0_hasEntry_1 : decode cX0_hasEntry 1 = .ok (.aload_n 0, 1) := by decide +kernel
theorem dX0_hasEntry_2 : decode cX0_hasEntry 2 = .ok (.getfield 18, 3) := by decide +kernel
theorem dX0_hasEntry_5 : decode cX0_hasEntry 5 = .ok (.if_icmp .le 20, 3) := by decide +kernel
theorem dX0_hasEntry_8 : decode cX0_hasEntry 8 = .ok (.iload_n 1, 1) := by decide +kernel
theorem dX0_hasEntry_9 : decode cX0_hasEntry 9 = .ok (.aload_n 0, 1) := by decide +kernel
theorem dX0_hasEntry_10 : decode cX0_hasEntry 10 = .ok (.getfield 18, 3) := by decide +kernel
theorem dX0_hasEntry_13 : decode cX0_hasEntry 13 = .ok (.aload_n 0, 1) := by decide +kernel
theorem dX0_hasEntry_14 : decode cX0_hasEntry 14 = .ok (.getfield 22, 3) := by decide +kernel
theorem dX0_hasEntry_17 : decode cX0_hasEntry 17 = .ok (.iadd, 1) := by decide +kernel
theorem dX0_hasEntry_18 : decode cX0_hasEntry 18 = .ok (.if_icmp .gt 7, 3) := by decide +kernel
theorem dX0_hasEntry_21 : decode cX0_hasEntry 21 = .ok (.iconst 1, 1) := by decide +kernel
theorem dX0_hasEntry_22 : decode cX0_hasEntry 22 = .ok (.goto 4, 3) := by decide +kernel
theorem dX0_hasEntry_25 : decode cX0_hasEntry 25 = .ok (.iconst 0, 1) := by decide +kernel
theorem dX0_hasEntry_26 : decode cX0_hasEntry 26 = .ok (.ireturn, 1) := by decide +kernel
theorem dX0_termOf_0 : decode cX0_termOf 0 = .ok (.aload_n 0, 1) := by decide +kernel
theorem dX0_termOf_1 : decode cX0_termOf 1 = .ok (.iload_n 1, 1) := by decide +kernel
theorem dX0_termOf_2 : decode cX0_termOf 2 = .ok (.invokevirtual 28, 3) := by decide +kernel
theorem dX0_termOf_5 : decode cX0_termOf 5 = .ok (.ifCond .eq 17, 3) := by decide +kernel
theorem dX0_termOf_8 : decode cX0_termOf 8 = .ok (.aload_n 0, 1) := by decide +kernel
theorem dX0_termOf_9 : decode cX0_termOf 9 = .ok (.getfield 9, 3) := by decide +kernel
theorem dX0_termOf_12 : decode cX0_termOf 12 = .ok (.iload_n 1, 1) := by decide +kernel
theorem dX0_termOf_13 : decode cX0_termOf 13 = .ok (.aload_n 0, 1) := by decide +kernel
theorem dX0_termOf_14 : decode cX0_termOf 14 = .ok (.getfield 18, 3) := by decide +kernel
theorem dX0_termOf_17 : decode cX0_termOf 17 = .ok (.isub, 1) := by decide +kernel
theorem dX0_termOf_18 : decode cX0_termOf 18 = .ok (.iconst 1, 1) := by decide +kernel
theorem dX0_termOf_19 : decode cX0_termOf 19 = .ok (.isub, 1) := by decide +kernel
theorem dX0_termOf_20 : decode cX0_termOf 20 = .ok (.iaload, 1) := by decide +kernel
theorem dX0_termOf_21 : decode cX0_termOf 21 = .ok (.ireturn, 1) := by decide +kernel
theorem dX0_termOf_22 : decode cX0_termOf 22 = .ok (.iload_n 1, 1) := by decide +kernel
theorem dX0_termOf_23 : decode cX0_termOf 23 = .ok (.aload_n 0, 1) := by decide +kernel
theorem dX0_termOf_24 : decode cX0_termOf 24 = .ok (.getfield 18, 3) := by decide +kernel
theorem dX0_termOf_27 : decode cX0_termOf 27 = .ok (.if_icmp .ne 10, 3) := by decide +kernel
theorem dX0_termOf_30 : decode cX0_termOf 30 = .ok (.aload_n 0, 1) := by decide +kernel
theorem dX0_termOf_31 : decode cX0_termOf 31 = .ok (.getfield 25, 3) := by decide +kernel
theorem dX0_termOf_34 : decode cX0_termOf 34 = .ok (.goto 4, 3) := by decide +kernel
theorem dX0_termOf_37 : decode cX0_termOf 37 = .ok (.iconst (-1), 1) := by decide +kernel
theorem dX0_termOf_38 : decode cX0_termOf 38 = .ok (.ireturn, 1) := by decide +kernel
theorem dX0_commandOf_0 : decode cX0_commandOf 0 = .ok (.aload_n 0, 1) := by decide +kernel
theorem dX0_commandOf_1 : decode cX0_commandOf 1 = .ok (.iload_n 1, 1) := by decide +kernel
theorem dX0_commandOf_2 : decode cX0_commandOf 2 = .ok (.invokevirtual 28, 3) := by decide +kernel
theorem dX0_commandOf_5 : decode cX0_commandOf 5 = .ok (.ifCond .eq 19, 3) := by decide +kernel
theorem dX0_commandOf_8 : decode cX0_commandOf 8 = .ok (.aload_n 0, 1) := by decide +kernel
theorem dX0_commandOf_9 : decode cX0_commandOf 9 = .ok (.getfield 15, 3) := by decide +kernel
theorem dX0_commandOf_12 : decode cX0_commandOf 12 = .ok (.iload_n 1, 1) := by decide +kernel
theorem dX0_commandOf_13 : decode cX0_commandOf 13 = .ok (.aload_n 0, 1) := by decide +kernel
theorem dX0_commandOf_14 : decode cX0_commandOf 14 = .ok (.getfield 18, 3) := by decide +kernel
theorem dX0_commandOf_17 : decode cX0_commandOf 17 = .ok (.isub, 1) := by decide +kernel
theorem dX0_commandOf_18 : decode cX0_commandOf 18 = .ok (.iconst 1, 1) := by decide +kernel
theorem dX0_commandOf_19 : decode cX0_commandOf 19 = .ok (.isub, 1) := by decide +kernel
theorem dX0_commandOf_20 : decode cX0_commandOf 20 = .ok (.iaload, 1) := by decide +kernel
theorem dX0_commandOf_21 : decode cX0_commandOf 21 = .ok (.goto 4, 3) := by decide +kernel
theorem dX0_commandOf_24 : decode cX0_commandOf 24 = .ok (.iconst 0, 1) := by decide +kernel
theorem dX0_commandOf_25 : decode cX0_commandOf 25 = .ok (.ireturn, 1) := by decide +kernel
theorem dX0_stateUpTo_0 : decode cX0_stateUpTo 0 = .ok (.aload_n 0, 1) := by decide +kernel
theorem dX0_stateUpTo_1 : decode cX0_stateUpTo 1 = .ok (.getfield 32, 3) := by decide +kernel
theorem dX0_stateUpTo_4 : decode cX0_stateUpTo 4 = .ok (.istore_n 2, 1) := by decide +kernel
theorem dX0_stateUpTo_5 : decode cX0_stateUpTo 5 = .ok (.iconst 0, 1) := by decide +kernel
theorem dX0_stateUpTo_6 : decode cX0_stateUpTo 6 = .ok (.istore_n 3, 1) := by decide +kernel
theorem dX0_stateUpTo_7 : decode cX0_stateUpTo 7 = .ok (.iload_n 3, 1) := by decide +kernel
theorem dX0_stateUpTo_8 : decode cX0_stateUpTo 8 = .ok (.aload_n 0, 1) := by decide +kernel
theorem dX0_stateUpTo_9 : decode cX0_stateUpTo 9 = .ok (.getfield 22, 3) := by decide +kernel
theorem dX0_stateUpTo_12 : decode cX0_stateUpTo 12 = .ok (.if_icmp .ge 31, 3) := by decide +kernel
theorem dX0_stateUpTo_15 : decode cX0_stateUpTo 15 = .ok (.aload_n 0, 1) := by decide +kernel
theorem dX0_stateUpTo_16 : decode cX0_stateUpTo 16 = .ok (.getfield 18, 3) := by decide +kernel
theorem dX0_stateUpTo_19 : decode cX0_stateUpTo 19 = .ok (.iload_n 3, 1) := by decide +kernel
theorem dX0_stateUpTo_20 : decode cX0_stateUpTo 20 = .ok (.iadd, 1) := by decide +kernel
theorem dX0_stateUpTo_21 : decode cX0_stateUpTo 21 = .ok (.iload_n 1, 1) := by decide +kernel
theorem dX0_stateUpTo_22 : decode cX0_stateUpTo 22 = .ok (.if_icmp .ge 21, 3) := by decide +kernel
theorem dX0_stateUpTo_25 : decode cX0_stateUpTo 25 = .ok (.bipush 31, 2) := by decide +kernel
theorem dX0_stateUpTo_27 : decode cX0_stateUpTo 27 = .ok (.iload_n 2, 1) := by decide +kernel
theorem dX0_stateUpTo_28 : decode cX0_stateUpTo 28 = .ok (.imul, 1) := by decide +kernel
theorem dX0_stateUpTo_29 : decode cX0_stateUpTo 29 = .ok (.aload_n 0, 1) := by decide +kernel
theorem dX0_stateUpTo_30 : decode cX0_stateUpTo 30 = .ok (.getfield 15, 3) := by decide +kernel
theorem dX0_stateUpTo_33 : decode cX0_stateUpTo 33 = .ok (.iload_n 3, 1) := by decide +kernel
theorem dX0_stateUpTo_34 : decode cX0_stateUpTo 34 = .ok (.iaload, 1) := by decide +kernel
theorem dX0_stateUpTo_35 : decode cX0_stateUpTo 35 = .ok (.iadd, 1) := by decide +kernel
theorem dX0_stateUpTo_36 : decode cX0_stateUpTo 36 = .ok (.istore_n 2, 1) := by decide +kernel
theorem dX0_stateUpTo_37 : decode cX0_stateUpTo 37 = .ok (.iinc 3 1, 3) := by decide +kernel
theorem dX0_stateUpTo_40 : decode cX0_stateUpTo 40 = .ok (.goto (-33), 3) := by decide +kernel
theorem dX0_stateUpTo_43 : decode cX0_stateUpTo 43 = .ok (.iload_n 2, 1) := by decide +kernel
theorem dX0_stateUpTo_44 : decode cX0_stateUpTo 44 = .ok (.ireturn, 1) := by decide +kernel
theorem dX0_isNotAheadOf_0 : decode cX0_isNotAheadOf 0 = .ok (.iload_n 2, 1) := by decide +kernel
theorem dX0_isNotAheadOf_1 : decode cX0_isNotAheadOf 1 = .ok (.aload_n 0, 1) := by decide +kernel
theorem dX0_isNotAheadOf_2 : decode cX0_isNotAheadOf 2 = .ok (.invokevirtual 35, 3) := by decide +kernel
theorem dX0_isNotAheadOf_5 : decode cX0_isNotAheadOf 5 = .ok (.if_icmp .gt 19, 3) := by decide +kernel
theorem dX0_isNotAheadOf_8 : decode cX0_isNotAheadOf 8 = .ok (.iload_n 2, 1) := by decide +kernel
theorem dX0_isNotAheadOf_9 : decode cX0_isNotAheadOf 9 = .ok (.aload_n 0, 1) := by decide +kernel
theorem dX0_isNotAheadOf_10 : decode cX0_isNotAheadOf 10 = .ok (.invokevirtual 35, 3) := by decide +kernel
theorem dX0_isNotAheadOf_13 : decode cX0_isNotAheadOf 13 = .ok (.if_icmp .ne 15, 3) := by decide +kernel
theorem dX0_isNotAheadOf_16 : decode cX0_isNotAheadOf 16 = .ok (.iload_n 1, 1) := by decide +kernel
theorem dX0_isNotAheadOf_17 : decode cX0_isNotAheadOf 17 = .ok (.aload_n 0, 1) := by decide +kernel
theorem dX0_isNotAheadOf_18 : decode cX0_isNotAheadOf 18 = .ok (.invokevirtual 39, 3) := by decide +kernel
theorem dX0_isNotAheadOf_21 : decode cX0_isNotAheadOf 21 = .ok (.if_icmp .lt 7, 3) := by decide +kernel
theorem dX0_isNotAheadOf_24 : decode cX0_isNotAheadOf 24 = .ok (.iconst 1, 1) := by decide +kernel
theorem dX0_isNotAheadOf_25 : decode cX0_isNotAheadOf 25 = .ok (.goto 4, 3) := by decide +kernel
theorem dX0_isNotAheadOf_28 : decode cX0_isNotAheadOf 28 = .ok (.iconst 0, 1) := by decide +kernel
theorem dX0_isNotAheadOf_29 : decode cX0_isNotAheadOf 29 = .ok (.ireturn, 1) := by decide +kernel
theorem dX0_add_0 : decode cX0_add 0 = .ok (.aload_n 0, 1) := by decide +kernel
theorem dX0_add_1 : decode cX0_add 1 = .ok (.invokevirtual 42, 3) := by decide +kernel
theorem dX0_add_4 : decode cX0_add 4 = .ok (.ifCond .ne 33, 3) := by decide +kernel
theorem dX0_add_7 : decode cX0_add 7 = .ok (.aload_n 0, 1) := by decide +kernel
theorem dX0_add_8 : decode cX0_add 8 = .ok (.getfield 9, 3) := by decide +kernel
theorem dX0_add_11 : decode cX0_add 11 = .ok (.aload_n 0, 1) := by decide +kernel
theorem dX0_add_12 : decode cX0_add 12 = .ok (.getfield 22, 3) := by decide +kernel
theorem dX0_add_15 : decode cX0_add 15 = .ok (.iload_n 1, 1) := by decide +kernel
theorem dX0_add_16 : decode cX0_add 16 = .ok (.iastore, 1) := by decide +kernel
theorem dX0_add_17 : decode cX0_add 17 = .ok (.aload_n 0, 1) := by decide +kernel
theorem dX0_add_18 : decode cX0_add 18 = .ok (.getfield 15, 3) := by decide +kernel
theorem dX0_add_21 : decode cX0_add 21 = .ok (.aload_n 0, 1) := by decide +kernel
theorem dX0_add_22 : decode cX0_add 22 = .ok (.getfield 22, 3) := by decide +kernel
theorem dX0_add_25 : decode cX0_add 25 = .ok (.iload_n 2, 1) := by decide +kernel
theorem dX0_add_26 : decode cX0_add 26 = .ok (.iastore, 1) := by decide +kernel
theorem dX0_add_27 : decode cX0_add 27 = .ok (.aload_n 0, 1) := by decide +kernel
theorem dX0_add_28 : decode cX0_add 28 = .ok (.dup, 1) := by decide +kernel
theorem dX0_add_29 : decode cX0_add 29 = .ok (.getfield 22, 3) := by decide +kernel
theorem dX0_add_32 : decode cX0_add 32 = .ok (.iconst 1, 1) := by decide +kernel
theorem dX0_add_33 : decode cX0_add 33 = .ok (.iadd, 1) := by decide +kernel
theorem dX0_add_34 : decode cX0_add 34 = .ok (.putfield 22, 3) := by decide +kernel
theorem dX0_add_37 : decode cX0_add 37 = .ok (.return_, 1) := by decide +kernel
theorem dX0_cutFrom_0 : decode cX0_cutFrom 0 = .ok (.aload_n 0, 1) := by decide +kernel
theorem dX0_cutFrom_1 : decode cX0_cutFrom 1 = .ok (.iload_n 1, 1) := by decide +kernel
theorem dX0_cutFrom_2 : decode cX0_cutFrom 2 = .ok (.invokevirtual 28, 3) := by decide +kernel
theorem dX0_cutFrom_5 : decode cX0_cutFrom 5 = .ok (.ifCond .eq 15, 3) := by decide +kernel
theorem dX0_cutFrom_8 : decode cX0_cutFrom 8 = .ok (.aload_n 0, 1) := by decide +kernel
theorem dX0_cutFrom_9 : decode cX0_cutFrom 9 = .ok (.iload_n 1, 1) := by decide +kernel
theorem dX0_cutFrom_10 : decode cX0_cutFrom 10 = .ok (.aload_n 0, 1) := by decide +kernel
theorem dX0_cutFrom_11 : decode cX0_cutFrom 11 = .ok (.getfield 18, 3) := by decide +kernel
theorem dX0_cutFrom_14 : decode cX0_cutFrom 14 = .ok (.isub, 1) := by decide +kernel
theorem dX0_cutFrom_15 : decode cX0_cutFrom 15 = .ok (.iconst 1, 1) := by decide +kernel
theorem dX0_cutFrom_16 : decode cX0_cutFrom 16 = .ok (.isub, 1) := by decide +kernel
theorem dX0_cutFrom_17 : decode cX0_cutFrom 17 = .ok (.putfield 22, 3) := by decide +kernel
theorem dX0_cutFrom_20 : decode cX0_cutFrom 20 = .ok (.return_, 1) := by decide +kernel
theorem dX0_rebase_0 : decode cX0_rebase 0 = .ok (.aload_n 0, 1) := by decide +kernel
theorem dX0_rebase_1 : decode cX0_rebase 1 = .ok (.getfield 22, 3) := by decide +kernel
theorem dX0_rebase_4 : decode cX0_rebase 4 = .ok (.iconst 0, 1) := by decide +kernel
theorem dX0_rebase_5 : decode cX0_rebase 5 = .ok (.iload_n 1, 1) := by decide +kernel
theorem dX0_rebase_6 : decode cX0_rebase 6 = .ok (.aload_n 0, 1) := by decide +kernel
theorem dX0_rebase_7 : decode cX0_rebase 7 = .ok (.getfield 18, 3) := by decide +kernel
theorem dX0_rebase_10 : decode cX0_rebase 10 = .ok (.isub, 1) := by decide +kernel
theorem dX0_rebase_11 : decode cX0_rebase 11 = .ok (.invokestatic 46, 3) := by decide +kernel
theorem dX0_rebase_14 : decode cX0_rebase 14 = .ok (.invokestatic 52, 3) := by decide +kernel
theorem dX0_rebase_17 : decode cX0_rebase 17 = .ok (.istore 4, 2) := by decide +kernel
theorem dX0_rebase_19 : decode cX0_rebase 19 = .ok (.iload 4, 2) := by decide +kernel
theorem dX0_rebase_21 : decode cX0_rebase 21 = .ok (.istore 5, 2) := by decide +kernel
theorem dX0_rebase_23 : decode cX0_rebase 23 = .ok (.iload 5, 2) := by decide +kernel
theorem dX0_rebase_25 : decode cX0_rebase 25 = .ok (.aload_n 0, 1) := by decide +kernel
theorem dX0_rebase_26 : decode cX0_rebase 26 = .ok (.getfield 22, 3) := by decide +kernel
theorem dX0_rebase_29 : decode cX0_rebase 29 = .ok (.if_icmp .ge 43, 3) := by decide +kernel
theorem dX0_rebase_32 : decode cX0_rebase 32 = .ok (.aload_n 0, 1) := by decide +kernel
theorem dX0_rebase_33 : decode cX0_rebase 33 = .ok (.getfield 9, 3) := by decide +kernel
theorem dX0_rebase_36 : decode cX0_rebase 36 = .ok (.iload 5, 2) := by decide +kernel
theorem dX0_rebase_38 : decode cX0_rebase 38 = .ok (.iload 4, 2) := by decide +kernel
theorem dX0_rebase_40 : decode cX0_rebase 40 = .ok (.isub, 1) := by decide +kernel
theorem dX0_rebase_41 : decode cX0_rebase 41 = .ok (.aload_n 0, 1) := by decide +kernel
theorem dX0_rebase_42 : decode cX0_rebase 42 = .ok (.getfield 9, 3) := by decide +kernel
theorem dX0_rebase_45 : decode cX0_rebase 45 = .ok (.iload 5, 2) := by decide +kernel
theorem dX0_rebase_47 : decode cX0_rebase 47 = .ok (.iaload, 1) := by decide +kernel
theorem dX0_rebase_48 : decode cX0_rebase 48 = .ok (.iastore, 1) := by decide +kernel
theorem dX0_rebase_49 : decode cX0_rebase 49 = .ok (.aload_n 0, 1) := by decide +kernel
theorem dX0_rebase_50 : decode cX0_rebase 50 = .ok (.getfield 15, 3) := by decide +kernel
theorem dX0_rebase_53 : decode cX0_rebase 53 = .ok (.iload 5, 2) := by decide +kernel
theorem dX0_rebase_55 : decode cX0_rebase 55 = .ok (.iload 4, 2) := by decide +kernel
theorem dX0_rebase_57 : decode cX0_rebase 57 = .ok (.isub, 1) := by decide +kernel
theorem dX0_rebase_58 : decode cX0_rebase 58 = .ok (.aload_n 0, 1) := by decide +kernel
theorem dX0_rebase_59 : decode cX0_rebase 59 = .ok (.getfield 15, 3) := by decide +kernel
theorem dX0_rebase_62 : decode cX0_rebase 62 = .ok (.iload 5, 2) := by decide +kernel
theorem dX0_rebase_64 : decode cX0_rebase 64 = .ok (.iaload, 1) := by decide +kernel
theorem dX0_rebase_65 : decode cX0_rebase 65 = .ok (.iastore, 1) := by decide +kernel
theorem dX0_rebase_66 : decode cX0_rebase 66 = .ok (.iinc 5 1, 3) := by decide +kernel
theorem dX0_rebase_69 : decode cX0_rebase 69 = .ok (.goto (-46), 3) := by decide +kernel
theorem dX0_rebase_72 : decode cX0_rebase 72 = .ok (.aload_n 0, 1) := by decide +kernel
theorem dX0_rebase_73 : decode cX0_rebase 73 = .ok (.dup, 1) := by decide +kernel
theorem dX0_rebase_74 : decode cX0_rebase 74 = .ok (.getfield 22, 3) := by decide +kernel
theorem dX0_rebase_77 : decode cX0_rebase 77 = .ok (.iload 4, 2) := by decide +kernel
theorem dX0_rebase_79 : decode cX0_rebase 79 = .ok (.isub, 1) := by decide +kernel
theorem dX0_rebase_80 : decode cX0_rebase 80 = .ok (.putfield 22, 3) := by decide +kernel
theorem dX0_rebase_83 : decode cX0_rebase 83 = .ok (.aload_n 0, 1) := by decide +kernel
theorem dX0_rebase_84 : decode cX0_rebase 84 = .ok (.iload_n 1, 1) := by decide +kernel
theorem dX0_rebase_85 : decode cX0_rebase 85 = .ok (.putfield 18, 3) := by decide +kernel
theorem dX0_rebase_88 : decode cX0_rebase 88 = .ok (.aload_n 0, 1) := by decide +kernel
theorem dX0_rebase_89 : decode cX0_rebase 89 = .ok (.iload_n 2, 1) := by decide +kernel
theorem dX0_rebase_90 : decode cX0_rebase 90 = .ok (.putfield 25, 3) := by decide +kernel
theorem dX0_rebase_93 : decode cX0_rebase 93 = .ok (.aload_n 0, 1) := by decide +kernel
theorem dX0_rebase_94 : decode cX0_rebase 94 = .ok (.iload_n 3, 1) := by decide +kernel
theorem dX0_rebase_95 : decode cX0_rebase 95 = .ok (.putfield 32, 3) := by decide +kernel
theorem dX0_rebase_98 : decode cX0_rebase 98 = .ok (.return_, 1) := by decide +kernel
theorem dX1_init_0 : decode cX1_init 0 = .ok (.aload_n 0, 1) := by decide +kernel
theorem dX1_init_1 : decode cX1_init 1 = .ok (.invokespecial 1, 3) := by decide +kernel
theorem dX1_init_4 : decode cX1_init 4 = .ok (.return_, 1) := by decide +kernel
theorem dX1_begin_0 : decode cX1_begin 0 = .ok (.aload_n 0, 1) := by decide +kernel
theorem dX1_begin_1 : decode cX1_begin 1 = .ok (.iload_n 1, 1) := by decide +kernel
theorem dX1_begin_2 : decode cX1_begin 2 = .ok (.putfield 7, 3) := by decide +kernel
theorem dX1_begin_5 : decode cX1_begin 5 = .ok (.aload_n 0, 1) := by decide +kernel
theorem dX1_begin_6 : decode cX1_begin 6 = .ok (.iload_n 2, 1) := by decide +kernel
theorem dX1_begin_7 : decode cX1_begin 7 = .ok (.putfield 13, 3) := by decide +kernel
theorem dX1_begin_10 : decode cX1_begin 10 = .ok (.aload_n 0, 1) := by decide +kernel
theorem dX1_begin_11 : decode cX1_begin 11 = .ok (.iload_n 3, 1) := by decide +kernel
theorem dX1_begin_12 : decode cX1_begin 12 = .ok (.putfield 16, 3) := by decide +kernel
theorem dX1_begin_15 : decode cX1_begin 15 = .ok (.aload_n 0, 1) := by decide +kernel
theorem dX1_begin_16 : decode cX1_begin 16 = .ok (.iload 4, 2) := by decide +kernel
theorem dX1_begin_18 : decode cX1_begin 18 = .ok (.putfield 19, 3) := by decide +kernel
theorem dX1_begin_21 : decode cX1_begin 21 = .ok (.return_, 1) := by decide +kernel
theorem dX1_copy_0 : decode cX1_copy 0 = .ok (.aload_n 0, 1) := by decide +kernel
theorem dX1_copy_1 : decode cX1_copy 1 = .ok (.aload_n 1, 1) := by decide +kernel
theorem dX1_copy_2 : decode cX1_copy 2 = .ok (.getfield 7, 3) := by decide +kernel
theorem dX1_copy_5 : decode cX1_copy 5 = .ok (.putfield 7, 3) := by decide +kernel
theorem dX1_copy_8 : decode cX1_copy 8 = .ok (.aload_n 0, 1) := by decide +kernel
theorem dX1_copy_9 : decode cX1_copy 9 = .ok (.aload_n 1, 1) := by decide +kernel
theorem dX1_copy_10 : decode cX1_copy 10 = .ok (.getfield 13, 3) := by decide +kernel
theorem dX1_copy_13 : decode cX1_copy 13 = .ok (.putfield 13, 3) := by decide +kernel
theorem dX1_copy_16 : decode cX1_copy 16 = .ok (.aload_n 0, 1) := by decide +kernel
theorem dX1_copy_17 : decode cX1_copy 17 = .ok (.aload_n 1, 1) := by decide +kernel
theorem dX1_copy_18 : decode cX1_copy 18 = .ok (.getfield 16, 3) := by decide +kernel
theorem dX1_copy_21 : decode cX1_copy 21 = .ok (.putfield 16, 3) := by decide +kernel
theorem dX1_copy_24 : decode cX1_copy 24 = .ok (.aload_n 0, 1) := by decide +kernel
theorem dX1_copy_25 : decode cX1_copy 25 = .ok (.aload_n 1, 1) := by decide +kernel
theorem dX1_copy_26 : decode cX1_copy 26 = .ok (.getfield 19, 3) := by decide +kernel
theorem dX1_copy_29 : decode cX1_copy 29 = .ok (.putfield 19, 3) := by decide +kernel
theorem dX1_copy_32 : decode cX1_copy 32 = .ok (.aload_n 0, 1) := by decide +kernel
theorem dX1_copy_33 : decode cX1_copy 33 = .ok (.aload_n 1, 1) := by decide +kernel
theorem dX1_copy_34 : decode cX1_copy 34 = .ok (.getfield 22, 3) := by decide +kernel
theorem dX1_copy_37 : decode cX1_copy 37 = .ok (.putfield 22, 3) := by decide +kernel
theorem dX1_copy_40 : decode cX1_copy 40 = .ok (.aload_n 0, 1) := by decide +kernel
theorem dX1_copy_41 : decode cX1_copy 41 = .ok (.aload_n 1, 1) := by decide +kernel
theorem dX1_copy_42 : decode cX1_copy 42 = .ok (.getfield 25, 3) := by decide +kernel
theorem dX1_copy_45 : decode cX1_copy 45 = .ok (.putfield 25, 3) := by decide +kernel
theorem dX1_copy_48 : decode cX1_copy 48 = .ok (.aload_n 0, 1) := by decide +kernel
theorem dX1_copy_49 : decode cX1_copy 49 = .ok (.aload_n 1, 1) := by decide +kernel
theorem dX1_copy_50 : decode cX1_copy 50 = .ok (.getfield 28, 3) := by decide +kernel
theorem dX1_copy_53 : decode cX1_copy 53 = .ok (.putfield 28, 3) := by decide +kernel
theorem dX1_copy_56 : decode cX1_copy 56 = .ok (.aload_n 0, 1) := by decide +kernel
theorem dX1_copy_57 : decode cX1_copy 57 = .ok (.aload_n 1, 1) := by decide +kernel
theorem dX1_copy_58 : decode cX1_copy 58 = .ok (.getfield 32, 3) := by decide +kernel
theorem dX1_copy_61 : decode cX1_copy 61 = .ok (.putfield 32, 3) := by decide +kernel
theorem dX1_copy_64 : decode cX1_copy 64 = .ok (.aload_n 0, 1) := by decide +kernel
theorem dX1_copy_65 : decode cX1_copy 65 = .ok (.aload_n 1, 1) := by decide +kernel
theorem dX1_copy_66 : decode cX1_copy 66 = .ok (.getfield 35, 3) := by decide +kernel
theorem dX1_copy_69 : decode cX1_copy 69 = .ok (.putfield 35, 3) := by decide +kernel
theorem dX1_copy_72 : decode cX1_copy 72 = .ok (.aload_n 0, 1) := by decide +kernel
theorem dX1_copy_73 : decode cX1_copy 73 = .ok (.aload_n 1, 1) := by decide +kernel
theorem dX1_copy_74 : decode cX1_copy 74 = .ok (.getfield 38, 3) := by decide +kernel
theorem dX1_copy_77 : decode cX1_copy 77 = .ok (.putfield 38, 3) := by decide +kernel
theorem dX1_copy_80 : decode cX1_copy 80 = .ok (.aload_n 0, 1) := by decide +kernel
theorem dX1_copy_81 : decode cX1_copy 81 = .ok (.aload_n 1, 1) := by decide +kernel
theorem dX1_copy_82 : decode cX1_copy 82 = .ok (.getfield 41, 3) := by decide +kernel
theorem dX1_copy_85 : decode cX1_copy 85 = .ok (.putfield 41, 3) := by decide +kernel
theorem dX1_copy_88 : decode cX1_copy 88 = .ok (.aload_n 0, 1) := by decide +kernel
theorem dX1_copy_89 : decode cX1_copy 89 = .ok (.aload_n 1, 1) := by decide +kernel
theorem dX1_copy_90 : decode cX1_copy 90 = .ok (.getfield 44, 3) := by decide +kernel
theorem dX1_copy_93 : decode cX1_copy 93 = .ok (.putfield 44, 3) := by decide +kernel
theorem dX1_copy_96 : decode cX1_copy 96 = .ok (.return_, 1) := by decide +kernel
theorem dX2_init_0 : decode cX2_init 0 = .ok (.aload_n 0, 1) := by decide +kernel
theorem dX2_init_1 : decode cX2_init 1 = .ok (.invokespecial 3, 3) := by decide +kernel
theorem dX2_init_4 : decode cX2_init 4 = .ok (.aload_n 0, 1) := by decide +kernel
theorem dX2_init_5 : decode cX2_init 5 = .ok (.iload_n 1, 1) := by decide +kernel
theorem dX2_init_6 : decode cX2_init 6 = .ok (.anewarray 9, 3) := by decide +kernel
theorem dX2_init_9 : decode cX2_init 9 = .ok (.putfield 11, 3) := by decide +kernel
theorem dX2_init_12 : decode cX2_init 12 = .ok (.iconst 0, 1) := by decide +kernel
theorem dX2_init_13 : decode cX2_init 13 = .ok (.istore_n 2, 1) := by decide +kernel
theorem dX2_init_14 : decode cX2_init 14 = .ok (.iload_n 2, 1) := by decide +kernel
theorem dX2_init_15 : decode cX2_init 15 = .ok (.iload_n 1, 1) := by decide +kernel
theorem dX2_init_16 : decode cX2_init 16 = .ok (.if_icmp .ge 22, 3) := by decide +kernel
theorem dX2_init_19 : decode cX2_init 19 = .ok (.aload_n 0, 1) := by decide +kernel
theorem dX2_init_20 : decode cX2_init 20 = .ok (.getfield 11, 3) := by decide +kernel
theorem dX2_init_23 : decode cX2_init 23 = .ok (.iload_n 2, 1) := by decide +kernel
theorem dX2_init_24 : decode cX2_init 24 = .ok (.new 9, 3) := by decide +kernel
theorem dX2_init_27 : decode cX2_init 27 = .ok (.dup, 1) := by decide +kernel
theorem dX2_init_28 : decode cX2_init 28 = .ok (.invokespecial 17, 3) := by decide +kernel
theorem dX2_init_31 : decode cX2_init 31 = .ok (.aastore, 1) := by decide +kernel
theorem dX2_init_32 : decode cX2_init 32 = .ok (.iinc 2 1, 3) := by decide +kernel
theorem dX2_init_35 : decode cX2_init 35 = .ok (.goto (-21), 3) := by decide +kernel
theorem dX2_init_38 : decode cX2_init 38 = .ok (.return_, 1) := by decide +kernel
theorem dX2_isSlot_0 : decode cX2_isSlot 0 = .ok (.iload_n 1, 1) := by decide +kernel
theorem dX2_isSlot_1 : decode cX2_isSlot 1 = .ok (.ifCond .lt 16, 3) := by decide +kernel
theorem dX2_isSlot_4 : decode cX2_isSlot 4 = .ok (.iload_n 1, 1) := by decide +kernel
theorem dX2_isSlot_5 : decode cX2_isSlot 5 = .ok (.aload_n 0, 1) := by decide +kernel
theorem dX2_isSlot_6 : decode cX2_isSlot 6 = .ok (.getfield 11, 3) := by decide +kernel
theorem dX2_isSlot_9 : decode cX2_isSlot 9 = .ok (.arraylength, 1) := by decide +kernel
theorem dX2_isSlot_10 : decode cX2_isSlot 10 = .ok (.if_icmp .ge 7, 3) := by decide +kernel
theorem dX2_isSlot_13 : decode cX2_isSlot 13 = .ok (.iconst 1, 1) := by decide +kernel
theorem dX2_isSlot_14 : decode cX2_isSlot 14 = .ok (.goto 4, 3) := by decide +kernel
theorem dX2_isSlot_17 : decode cX2_isSlot 17 = .ok (.iconst 0, 1) := by decide +kernel
theorem dX2_isSlot_18 : decode cX2_isSlot 18 = .ok (.ireturn, 1) := by decide +kernel
theorem dX2_isFree_0 : decode cX2_isFree 0 = .ok (.aload_n 0, 1) := by decide +kernel
theorem dX2_isFree_1 : decode cX2_isFree 1 = .ok (.getfield 11, 3) := by decide +kernel
theorem dX2_isFree_4 : decode cX2_isFree 4 = .ok (.iload_n 1, 1) := by decide +kernel
theorem dX2_isFree_5 : decode cX2_isFree 5 = .ok (.aaload, 1) := by decide +kernel
theorem dX2_isFree_6 : decode cX2_isFree 6 = .ok (.getfield 18, 3) := by decide +kernel
theorem dX2_isFree_9 : decode cX2_isFree 9 = .ok (.ifCond .ne 7, 3) := by decide +kernel
theorem dX2_isFree_12 : decode cX2_isFree 12 = .ok (.iconst 1, 1) := by decide +kernel
theorem dX2_isFree_13 : decode cX2_isFree 13 = .ok (.goto 4, 3) := by decide +kernel
theorem dX2_isFree_16 : decode cX2_isFree 16 = .ok (.iconst 0, 1) := by decide +kernel
theorem dX2_isFree_17 : decode cX2_isFree 17 = .ok (.ireturn, 1) := by decide +kernel
theorem dX2_countFree_0 : decode cX2_countFree 0 = .ok (.aload_n 0, 1) := by decide +kernel
theorem dX2_countFree_1 : decode cX2_countFree 1 = .ok (.getfield 11, 3) := by decide +kernel
theorem dX2_countFree_4 : decode cX2_countFree 4 = .ok (.arraylength, 1) := by decide +kernel
theorem dX2_countFree_5 : decode cX2_countFree 5 = .ok (.aload_n 0, 1) := by decide +kernel
theorem dX2_countFree_6 : decode cX2_countFree 6 = .ok (.getfield 22, 3) := by decide +kernel
theorem dX2_countFree_9 : decode cX2_countFree 9 = .ok (.isub, 1) := by decide +kernel
theorem dX2_countFree_10 : decode cX2_countFree 10 = .ok (.ireturn, 1) := by decide +kernel
theorem dX2_put_0 : decode cX2_put 0 = .ok (.iconst 0, 1) := by decide +kernel
theorem dX2_put_1 : decode cX2_put 1 = .ok (.istore_n 2, 1) := by decide +kernel
theorem dX2_put_2 : decode cX2_put 2 = .ok (.iload_n 2, 1) := by decide +kernel
theorem dX2_put_3 : decode cX2_put 3 = .ok (.aload_n 0, 1) := by decide +kernel
theorem dX2_put_4 : decode cX2_put 4 = .ok (.getfield 11, 3) := by decide +kernel
theorem dX2_put_7 : decode cX2_put 7 = .ok (.arraylength, 1) := by decide +kernel
theorem dX2_put_8 : decode cX2_put 8 = .ok (.if_icmp .ge 39, 3) := by decide +kernel
theorem dX2_put_11 : decode cX2_put 11 = .ok (.aload_n 0, 1) := by decide +kernel
theorem dX2_put_12 : decode cX2_put 12 = .ok (.iload_n 2, 1) := by decide +kernel
theorem dX2_put_13 : decode cX2_put 13 = .ok (.invokevirtual 25, 3) := by decide +kernel
theorem dX2_put_16 : decode cX2_put 16 = .ok (.ifCond .eq 25, 3) := by decide +kernel
theorem dX2_put_19 : decode cX2_put 19 = .ok (.aload_n 0, 1) := by decide +kernel
theorem dX2_put_20 : decode cX2_put 20 = .ok (.getfield 11, 3) := by decide +kernel
theorem dX2_put_23 : decode cX2_put 23 = .ok (.iload_n 2, 1) := by decide +kernel
theorem dX2_put_24 : decode cX2_put 24 = .ok (.aaload, 1) := by decide +kernel
theorem dX2_put_25 : decode cX2_put 25 = .ok (.aload_n 1, 1) := by decide +kernel
theorem dX2_put_26 : decode cX2_put 26 = .ok (.invokevirtual 29, 3) := by decide +kernel
theorem dX2_put_29 : decode cX2_put 29 = .ok (.aload_n 0, 1) := by decide +kernel
theorem dX2_put_30 : decode cX2_put 30 = .ok (.dup, 1) := by decide +kernel
theorem dX2_put_31 : decode cX2_put 31 = .ok (.getfield 22, 3) := by decide +kernel
theorem dX2_put_34 : decode cX2_put 34 = .ok (.iconst 1, 1) := by decide +kernel
theorem dX2_put_35 : decode cX2_put 35 = .ok (.iadd, 1) := by decide +kernel
theorem dX2_put_36 : decode cX2_put 36 = .ok (.putfield 22, 3) := by decide +kernel
theorem dX2_put_39 : decode cX2_put 39 = .ok (.iload_n 2, 1) := by decide +kernel
theorem dX2_put_40 : decode cX2_put 40 = .ok (.ireturn, 1) := by decide +kernel
theorem dX2_put_41 : decode cX2_put 41 = .ok (.iinc 2 1, 3) := by decide +kernel
theorem dX2_put_44 : decode cX2_put 44 = .ok (.goto (-42), 3) := by decide +kernel
theorem dX2_put_47 : decode cX2_put 47 = .ok (.bipush (-4), 2) := by decide +kernel
theorem dX2_put_49 : decode cX2_put 49 = .ok (.ireturn, 1) := by decide +kernel
theorem dX2_clear_0 : decode cX2_clear 0 = .ok (.aload_n 0, 1) := by decide +kernel
theorem dX2_clear_1 : decode cX2_clear 1 = .ok (.getfield 11, 3) := by decide +kernel
theorem dX2_clear_4 : decode cX2_clear 4 = .ok (.iload_n 1, 1) := by decide +kernel
theorem dX2_clear_5 : decode cX2_clear 5 = .ok (.aaload, 1) := by decide +kernel
theorem dX2_clear_6 : decode cX2_clear 6 = .ok (.iconst 0, 1) := by decide +kernel
theorem dX2_clear_7 : decode cX2_clear 7 = .ok (.putfield 18, 3) := by decide +kernel
theorem dX2_clear_10 : decode cX2_clear 10 = .ok (.aload_n 0, 1) := by decide +kernel
theorem dX2_clear_11 : decode cX2_clear 11 = .ok (.dup, 1) := by decide +kernel
theorem dX2_clear_12 : decode cX2_clear 12 = .ok (.getfield 22, 3) := by decide +kernel
theorem dX2_clear_15 : decode cX2_clear 15 = .ok (.iconst 1, 1) := by decide +kernel
theorem dX2_clear_16 : decode cX2_clear 16 = .ok (.isub, 1) := by decide +kernel
theorem dX2_clear_17 : decode cX2_clear 17 = .ok (.putfield 22, 3) := by decide +kernel
theorem dX2_clear_20 : decode cX2_clear 20 = .ok (.return_, 1) := by decide +kernel
theorem dX3_init_0 : decode cX3_init 0 = .ok (.aload_n 0, 1) := by decide +kernel
theorem dX3_init_1 : decode cX3_init 1 = .ok (.invokespecial 3, 3) := by decide +kernel
theorem dX3_init_4 : decode cX3_init 4 = .ok (.aload_n 0, 1) := by decide +kernel
theorem dX3_init_5 : decode cX3_init 5 = .ok (.iconst 1, 1) := by decide +kernel
theorem dX3_init_6 : decode cX3_init 6 = .ok (.putfield 9, 3) := by decide +kernel
theorem dX3_init_9 : decode cX3_init 9 = .ok (.aload_n 0, 1) := by decide +kernel
theorem dX3_init_10 : decode cX3_init 10 = .ok (.iconst 0, 1) := by decide +kernel
theorem dX3_init_11 : decode cX3_init 11 = .ok (.putfield 15, 3) := by decide +kernel
theorem dX3_init_14 : decode cX3_init 14 = .ok (.aload_n 0, 1) := by decide +kernel
theorem dX3_init_15 : decode cX3_init 15 = .ok (.iconst (-1), 1) := by decide +kernel
theorem dX3_init_16 : decode cX3_init 16 = .ok (.putfield 19, 3) := by decide +kernel
theorem dX3_init_19 : decode cX3_init 19 = .ok (.aload_n 0, 1) := by decide +kernel
theorem dX3_init_20 : decode cX3_init 20 = .ok (.iload_n 1, 1) := by decide +kernel
theorem dX3_init_21 : decode cX3_init 21 = .ok (.putfield 22, 3) := by decide +kernel
theorem dX3_init_24 : decode cX3_init 24 = .ok (.aload_n 0, 1) := by decide +kernel
theorem dX3_init_25 : decode cX3_init 25 = .ok (.new 25, 3) := by decide +kernel
theorem dX3_init_28 : decode cX3_init 28 = .ok (.dup, 1) := by decide +kernel
theorem dX3_init_29 : decode cX3_init 29 = .ok (.iload_n 3, 1) := by decide +kernel
theorem dX3_init_30 : decode cX3_init 30 = .ok (.invokespecial 27, 3) := by decide +kernel
theorem dX3_init_33 : decode cX3_init 33 = .ok (.putfield 30, 3) := by decide +kernel
theorem dX3_init_36 : decode cX3_init 36 = .ok (.aload_n 0, 1) := by decide +kernel
theorem dX3_init_37 : decode cX3_init 37 = .ok (.iload_n 2, 1) := by decide +kernel
theorem dX3_init_38 : decode cX3_init 38 = .ok (.newarray .boolean, 2) := by decide +kernel
theorem dX3_init_40 : decode cX3_init 40 = .ok (.putfield 34, 3) := by decide +kernel
theorem dX3_init_43 : decode cX3_init 43 = .ok (.aload_n 0, 1) := by decide +kernel
theorem dX3_init_44 : decode cX3_init 44 = .ok (.iload_n 2, 1) := by decide +kernel
theorem dX3_init_45 : decode cX3_init 45 = .ok (.newarray .int, 2) := by decide +kernel
theorem dX3_init_47 : decode cX3_init 47 = .ok (.putfield 38, 3) := by decide +kernel
theorem dX3_init_50 : decode cX3_init 50 = .ok (.aload_n 0, 1) := by decide +kernel
theorem dX3_init_51 : decode cX3_init 51 = .ok (.iload_n 2, 1) := by decide +kernel
theorem dX3_init_52 : decode cX3_init 52 = .ok (.newarray .int, 2) := by decide +kernel
theorem dX3_init_54 : decode cX3_init 54 = .ok (.putfield 42, 3) := by decide +kernel
theorem dX3_init_57 : decode cX3_init 57 = .ok (.return_, 1) := by decide +kernel
theorem dX3_enterTerm_0 : decode cX3_enterTerm 0 = .ok (.aload_n 0, 1) := by decide +kernel
theorem dX3_enterTerm_1 : decode cX3_enterTerm 1 = .ok (.iload_n 1, 1) := by decide +kernel
theorem dX3_enterTerm_2 : decode cX3_enterTerm 2 = .ok (.putfield 45, 3) := by decide +kernel
theorem dX3_enterTerm_5 : decode cX3_enterTerm 5 = .ok (.aload_n 0, 1) := by decide +kernel
theorem dX3_enterTerm_6 : decode cX3_enterTerm 6 = .ok (.iconst 0, 1) := by decide +kernel
theorem dX3_enterTerm_7 : decode cX3_enterTerm 7 = .ok (.putfield 15, 3) := by decide +kernel
theorem dX3_enterTerm_10 : decode cX3_enterTerm 10 = .ok (.aload_n 0, 1) := by decide +kernel
theorem dX3_enterTerm_11 : decode cX3_enterTerm 11 = .ok (.iconst (-1), 1) := by decide +kernel
theorem dX3_enterTerm_12 : decode cX3_enterTerm 12 = .ok (.putfield 19, 3) := by decide +kernel
theorem dX3_enterTerm_15 : decode cX3_enterTerm 15 = .ok (.return_, 1) := by decide +kernel
theorem dX3_stand_0 : decode cX3_stand 0 = .ok (.aload_n 0, 1) := by decide +kernel
theorem dX3_stand_1 : decode cX3_stand 1 = .ok (.aload_n 0, 1) := by decide +kernel
theorem dX3_stand_2 : decode cX3_stand 2 = .ok (.getfield 45, 3) := by decide +kernel
theorem dX3_stand_5 : decode cX3_stand 5 = .ok (.iconst 1, 1) := by decide +kernel
theorem dX3_stand_6 : decode cX3_stand 6 = .ok (.iadd, 1) := by decide +kernel
theorem dX3_stand_7 : decode cX3_stand 7 = .ok (.invokevirtual 48, 3) := by decide +kernel
theorem dX3_stand_10 : decode cX3_stand 10 = .ok (.aload_n 0, 1) := by decide +kernel
theorem dX3_stand_11 : decode cX3_stand 11 = .ok (.iconst 1, 1) := by decide +kernel
theorem dX3_stand_12 : decode cX3_stand 12 = .ok (.putfield 15, 3) := by decide +kernel
theorem dX3_stand_15 : decode cX3_stand 15 = .ok (.aload_n 0, 1) := by decide +kernel
theorem dX3_stand_16 : decode cX3_stand 16 = .ok (.aload_n 0, 1) := by decide +kernel
theorem dX3_stand_17 : decode cX3_stand 17 = .ok (.getfield 22, 3) := by decide +kernel
theorem dX3_stand_20 : decode cX3_stand 20 = .ok (.putfield 19, 3) := by decide +kernel
theorem dX3_stand_23 : decode cX3_stand 23 = .ok (.iconst 0, 1) := by decide +kernel
theorem dX3_stand_24 : decode cX3_stand 24 = .ok (.istore_n 1, 1) := by decide +kernel
theorem dX3_stand_25 : decode cX3_stand 25 = .ok (.iload_n 1, 1) := by decide +kernel
theorem dX3_stand_26 : decode cX3_stand 26 = .ok (.aload_n 0, 1) := by decide +kernel
theorem dX3_stand_27 : decode cX3_stand 27 = .ok (.getfield 34, 3) := by decide +kernel
theorem dX3_stand_30 : decode cX3_stand 30 = .ok (.arraylength, 1) := by decide +kernel
theorem dX3_stand_31 : decode cX3_stand 31 = .ok (.if_icmp .ge 28, 3) := by decide +kernel
theorem dX3_stand_34 : decode cX3_stand 34 = .ok (.aload_n 0, 1) := by decide +kernel
theorem dX3_stand_35 : decode cX3_stand 35 = .ok (.getfield 34, 3) := by decide +kernel
theorem dX3_stand_38 : decode cX3_stand 38 = .ok (.iload_n 1, 1) := by decide +kernel
theorem dX3_stand_39 : decode cX3_stand 39 = .ok (.iload_n 1, 1) := by decide +kernel
theorem dX3_stand_40 : decode cX3_stand 40 = .ok (.aload_n 0, 1) := by decide +kernel
theorem dX3_stand_41 : decode cX3_stand 41 = .ok (.getfield 22, 3) := by decide +kernel
theorem dX3_stand_44 : decode cX3_stand 44 = .ok (.if_icmp .ne 7, 3) := by decide +kernel
theorem dX3_stand_47 : decode cX3_stand 47 = .ok (.iconst 1, 1) := by decide +kernel
theorem dX3_stand_48 : decode cX3_stand 48 = .ok (.goto 4, 3) := by decide +kernel
theorem dX3_stand_51 : decode cX3_stand 51 = .ok (.iconst 0, 1) := by decide +kernel
theorem dX3_stand_52 : decode cX3_stand 52 = .ok (.bastore, 1) := by decide +kernel
theorem dX3_stand_53 : decode cX3_stand 53 = .ok (.iinc 1 1, 3) := by decide +kernel
theorem dX3_stand_56 : decode cX3_stand 56 = .ok (.goto (-31), 3) := by decide +kernel
theorem dX3_stand_59 : decode cX3_stand 59 = .ok (.return_, 1) := by decide +kernel
theorem dX3_lead_0 : decode cX3_lead 0 = .ok (.aload_n 0, 1) := by decide +kernel
theorem dX3_lead_1 : decode cX3_lead 1 = .ok (.iconst 2, 1) := by decide +kernel
theorem dX3_lead_2 : decode cX3_lead 2 = .ok (.putfield 15, 3) := by decide +kernel
theorem dX3_lead_5 : decode cX3_lead 5 = .ok (.iconst 0, 1) := by decide +kernel
theorem dX3_lead_6 : decode cX3_lead 6 = .ok (.istore_n 1, 1) := by decide +kernel
theorem dX3_lead_7 : decode cX3_lead 7 = .ok (.iload_n 1, 1) := by decide +kernel
theorem dX3_lead_8 : decode cX3_lead 8 = .ok (.aload_n 0, 1) := by decide +kernel
theorem dX3_lead_9 : decode cX3_lead 9 = .ok (.getfield 38, 3) := by decide +kernel
theorem dX3_lead_12 : decode cX3_lead 12 = .ok (.arraylength, 1) := by decide +kernel
theorem dX3_lead_13 : decode cX3_lead 13 = .ok (.if_icmp .ge 31, 3) := by decide +kernel
theorem dX3_lead_16 : decode cX3_lead 16 = .ok (.aload_n 0, 1) := by decide +kernel
theorem dX3_lead_17 : decode cX3_lead 17 = .ok (.getfield 38, 3) := by decide +kernel
theorem dX3_lead_20 : decode cX3_lead 20 = .ok (.iload_n 1, 1) := by decide +kernel
theorem dX3_lead_21 : decode cX3_lead 21 = .ok (.aload_n 0, 1) := by decide +kernel
theorem dX3_lead_22 : decode cX3_lead 22 = .ok (.getfield 30, 3) := by decide +kernel
theorem dX3_lead_25 : decode cX3_lead 25 = .ok (.invokevirtual 51, 3) := by decide +kernel
theorem dX3_lead_28 : decode cX3_lead 28 = .ok (.iconst 1, 1) := by decide +kernel
theorem dX3_lead_29 : decode cX3_lead 29 = .ok (.iadd, 1) := by decide +kernel
theorem dX3_lead_30 : decode cX3_lead 30 = .ok (.iastore, 1) := by decide +kernel
theorem dX3_lead_31 : decode cX3_lead 31 = .ok (.aload_n 0, 1) := by decide +kernel
theorem dX3_lead_32 : decode cX3_lead 32 = .ok (.getfield 42, 3) := by decide +kernel
theorem dX3_lead_35 : decode cX3_lead 35 = .ok (.iload_n 1, 1) := by decide +kernel
theorem dX3_lead_36 : decode cX3_lead 36 = .ok (.iconst 0, 1) := by decide +kernel
theorem dX3_lead_37 : decode cX3_lead 37 = .ok (.iastore, 1) := by decide +kernel
theorem dX3_lead_38 : decode cX3_lead 38 = .ok (.iinc 1 1, 3) := by decide +kernel
theorem dX3_lead_41 : decode cX3_lead 41 = .ok (.goto (-34), 3) := by decide +kernel
theorem dX3_lead_44 : decode cX3_lead 44 = .ok (.return_, 1) := by decide +kernel
theorem dX3_takeEntry_0 : decode cX3_takeEntry 0 = .ok (.aload_n 0, 1) := by decide +kernel
theorem dX3_takeEntry_1 : decode cX3_takeEntry 1 = .ok (.getfield 30, 3) := by decide +kernel
theorem dX3_takeEntry_4 : decode cX3_takeEntry 4 = .ok (.iload_n 1, 1) := by decide +kernel
theorem dX3_takeEntry_5 : decode cX3_takeEntry 5 = .ok (.invokevirtual 55, 3) := by decide +kernel
theorem dX3_takeEntry_8 : decode cX3_takeEntry 8 = .ok (.ifCond .eq 41, 3) := by decide +kernel
theorem dX3_takeEntry_11 : decode cX3_takeEntry 11 = .ok (.aload_n 0, 1) := by decide +kernel
theorem dX3_takeEntry_12 : decode cX3_takeEntry 12 = .ok (.getfield 30, 3) := by decide +kernel
theorem dX3_takeEntry_15 : decode cX3_takeEntry 15 = .ok (.iload_n 1, 1) := by decide +kernel
theorem dX3_takeEntry_16 : decode cX3_takeEntry 16 = .ok (.invokevirtual 59, 3) := by decide +kernel
theorem dX3_takeEntry_19 : decode cX3_takeEntry 19 = .ok (.iload_n 2, 1) := by decide +kernel
theorem dX3_takeEntry_20 : decode cX3_takeEntry 20 = .ok (.if_icmp .eq 29, 3) := by decide +kernel
theorem dX3_takeEntry_23 : decode cX3_takeEntry 23 = .ok (.aload_n 0, 1) := by decide +kernel
theorem dX3_takeEntry_24 : decode cX3_takeEntry 24 = .ok (.getfield 30, 3) := by decide +kernel
theorem dX3_takeEntry_27 : decode cX3_takeEntry 27 = .ok (.iload_n 1, 1) := by decide +kernel
theorem dX3_takeEntry_28 : decode cX3_takeEntry 28 = .ok (.invokevirtual 63, 3) := by decide +kernel
theorem dX3_takeEntry_31 : decode cX3_takeEntry 31 = .ok (.aload_n 0, 1) := by decide +kernel
theorem dX3_takeEntry_32 : decode cX3_takeEntry 32 = .ok (.aload_n 0, 1) := by decide +kernel
theorem dX3_takeEntry_33 : decode cX3_takeEntry 33 = .ok (.getfield 66, 3) := by decide +kernel
theorem dX3_takeEntry_36 : decode cX3_takeEntry 36 = .ok (.aload_n 0, 1) := by decide +kernel
theorem dX3_takeEntry_37 : decode cX3_takeEntry 37 = .ok (.getfield 30, 3) := by decide +kernel
theorem dX3_takeEntry_40 : decode cX3_takeEntry 40 = .ok (.invokevirtual 51, 3) := by decide +kernel
theorem dX3_takeEntry_43 : decode cX3_takeEntry 43 = .ok (.invokestatic 69, 3) := by decide +kernel
theorem dX3_takeEntry_46 : decode cX3_takeEntry 46 = .ok (.putfield 66, 3) := by decide +kernel
theorem dX3_takeEntry_49 : decode cX3_takeEntry 49 = .ok (.aload_n 0, 1) := by decide +kernel
theorem dX3_takeEntry_50 : decode cX3_takeEntry 50 = .ok (.getfield 30, 3) := by decide +kernel
theorem dX3_takeEntry_53 : decode cX3_takeEntry 53 = .ok (.iload_n 1, 1) := by decide +kernel
theorem dX3_takeEntry_54 : decode cX3_takeEntry 54 = .ok (.invokevirtual 55, 3) := by decide +kernel
theorem dX3_takeEntry_57 : decode cX3_takeEntry 57 = .ok (.ifCond .ne 12, 3) := by decide +kernel
theorem dX3_takeEntry_60 : decode cX3_takeEntry 60 = .ok (.aload_n 0, 1) := by decide +kernel
theorem dX3_takeEntry_61 : decode cX3_takeEntry 61 = .ok (.getfield 30, 3) := by decide +kernel
theorem dX3_takeEntry_64 : decode cX3_takeEntry 64 = .ok (.iload_n 2, 1) := by decide +kernel
theorem dX3_takeEntry_65 : decode cX3_takeEntry 65 = .ok (.iload_n 3, 1) := by decide +kernel
theorem dX3_takeEntry_66 : decode cX3_takeEntry 66 = .ok (.invokevirtual 75, 3) := by decide +kernel
theorem dX3_takeEntry_69 : decode cX3_takeEntry 69 = .ok (.return_, 1) := by decide +kernel
theorem dX3_countVoters_0 : decode cX3_countVoters 0 = .ok (.iconst 0, 1) := by decide +kernel
theorem dX3_countVoters_1 : decode cX3_countVoters 1 = .ok (.istore_n 1, 1) := by decide +kernel
theorem dX3_countVoters_2 : decode cX3_countVoters 2 = .ok (.iconst 0, 1) := by decide +kernel
theorem dX3_countVoters_3 : decode cX3_countVoters 3 = .ok (.istore_n 2, 1) := by decide +kernel
theorem dX3_countVoters_4 : decode cX3_countVoters 4 = .ok (.iload_n 2, 1) := by decide +kernel
theorem dX3_countVoters_5 : decode cX3_countVoters 5 = .ok (.aload_n 0, 1) := by decide +kernel
theorem dX3_countVoters_6 : decode cX3_countVoters 6 = .ok (.getfield 34, 3) := by decide +kernel
theorem dX3_countVoters_9 : decode cX3_countVoters 9 = .ok (.arraylength, 1) := by decide +kernel
theorem dX3_countVoters_10 : decode cX3_countVoters 10 = .ok (.if_icmp .ge 21, 3) := by decide +kernel
theorem dX3_countVoters_13 : decode cX3_countVoters 13 = .ok (.aload_n 0, 1) := by decide +kernel
theorem dX3_countVoters_14 : decode cX3_countVoters 14 = .ok (.getfield 34, 3) := by decide +kernel
theorem dX3_countVoters_17 : decode cX3_countVoters 17 = .ok (.iload_n 2, 1) := by decide +kernel
theorem dX3_countVoters_18 : decode cX3_countVoters 18 = .ok (.baload, 1) := by decide +kernel
theorem dX3_countVoters_19 : decode cX3_countVoters 19 = .ok (.ifCond .eq 6, 3) := by decide +kernel
theorem dX3_countVoters_22 : decode cX3_countVoters 22 = .ok (.iinc 1 1, 3) := by decide +kernel
theorem dX3_countVoters_25 : decode cX3_countVoters 25 = .ok (.iinc 2 1, 3) := by decide +kernel
theorem dX3_countVoters_28 : decode cX3_countVoters 28 = .ok (.goto (-24), 3) := by decide +kernel
theorem dX3_countVoters_31 : decode cX3_countVoters 31 = .ok (.iload_n 1, 1) := by decide +kernel
theorem dX3_countVoters_32 : decode cX3_countVoters 32 = .ok (.ireturn, 1) := by decide +kernel
theorem dX3_countHolders_0 : decode cX3_countHolders 0 = .ok (.iconst 0, 1) := by decide +kernel
theorem dX3_countHolders_1 : decode cX3_countHolders 1 = .ok (.istore_n 2, 1) := by decide +kernel
theorem dX3_countHolders_2 : decode cX3_countHolders 2 = .ok (.iconst 0, 1) := by decide +kernel
theorem dX3_countHolders_3 : decode cX3_countHolders 3 = .ok (.istore_n 3, 1) := by decide +kernel
theorem dX3_countHolders_4 : decode cX3_countHolders 4 = .ok (.iload_n 3, 1) := by decide +kernel
theorem dX3_countHolders_5 : decode cX3_countHolders 5 = .ok (.aload_n 0, 1) := by decide +kernel
theorem dX3_countHolders_6 : decode cX3_countHolders 6 = .ok (.getfield 42, 3) := by decide +kernel
theorem dX3_countHolders_9 : decode cX3_countHolders 9 = .ok (.arraylength, 1) := by decide +kernel
theorem dX3_countHolders_10 : decode cX3_countHolders 10 = .ok (.if_icmp .ge 30, 3) := by decide +kernel
theorem dX3_countHolders_13 : decode cX3_countHolders 13 = .ok (.iload_n 3, 1) := by decide +kernel
theorem dX3_countHolders_14 : decode cX3_countHolders 14 = .ok (.aload_n 0, 1) := by decide +kernel
theorem dX3_countHolders_15 : decode cX3_countHolders 15 = .ok (.getfield 22, 3) := by decide +kernel
theorem dX3_countHolders_18 : decode cX3_countHolders 18 = .ok (.if_icmp .eq 13, 3) := by decide +kernel
theorem dX3_countHolders_21 : decode cX3_countHolders 21 = .ok (.aload_n 0, 1) := by decide +kernel
theorem dX3_countHolders_22 : decode cX3_countHolders 22 = .ok (.getfield 42, 3) := by decide +kernel
theorem dX3_countHolders_25 : decode cX3_countHolders 25 = .ok (.iload_n 3, 1) := by decide +kernel
theorem dX3_countHolders_26 : decode cX3_countHolders 26 = .ok (.iaload, 1) := by decide +kernel
theorem dX3_countHolders_27 : decode cX3_countHolders 27 = .ok (.iload_n 1, 1) := by decide +kernel
theorem dX3_countHolders_28 : decode cX3_countHolders 28 = .ok (.if_icmp .lt 6, 3) := by decide +kernel
theorem dX3_countHolders_31 : decode cX3_countHolders 31 = .ok (.iinc 2 1, 3) := by decide +kernel
theorem dX3_countHolders_34 : decode cX3_countHolders 34 = .ok (.iinc 3 1, 3) := by decide +kernel
theorem dX3_countHolders_37 : decode cX3_countHolders 37 = .ok (.goto (-33), 3) := by decide +kernel
theorem dX3_countHolders_40 : decode cX3_countHolders 40 = .ok (.iload_n 2, 1) := by decide +kernel
theorem dX3_countHolders_41 : decode cX3_countHolders 41 = .ok (.ireturn, 1) := by decide +kernel
