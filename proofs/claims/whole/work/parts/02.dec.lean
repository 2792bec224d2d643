theorem dX0_init_0 : decode cX0_init 0 = .ok (.aload_n 0, 1) := by decide +kernel
theorem dX0_init_1 : decode cX0_init 1 = .ok (.invokespecial 3, 3) := by decide +kernel
theorem dX0_init_4 : decode cX0_init 4 = .ok (.aload_n 0, 1) := by decide +kernel
theorem dX0_init_5 : decode cX0_init 5 = .ok (.bipush 6, 2) := by decide +kernel
theorem dX0_init_7 : decode cX0_init 7 = .ok (.newarray .int, 2) := by decide +kernel
theorem dX0_init_9 : decode cX0_init 9 = .ok (.putfield 9, 3) := by decide +kernel
theorem dX0_init_12 : decode cX0_init 12 = .ok (.aload_n 0, 1) := by decide +kernel
theorem dX0_init_13 : decode cX0_init 13 = .ok (.sipush 256, 3) := by decide +kernel
theorem dX0_init_16 : decode cX0_init 16 = .ok (.newarray .int, 2) := by decide +kernel
theorem dX0_init_18 : decode cX0_init 18 = .ok (.putfield 15, 3) := by decide +kernel
theorem dX0_init_21 : decode cX0_init 21 = .ok (.aload_n 0, 1) := by decide +kernel
theorem dX0_init_22 : decode cX0_init 22 = .ok (.bipush 32, 2) := by decide +kernel
theorem dX0_init_24 : decode cX0_init 24 = .ok (.newarray .int, 2) := by decide +kernel
theorem dX0_init_26 : decode cX0_init 26 = .ok (.putfield 18, 3) := by decide +kernel
theorem dX0_init_29 : decode cX0_init 29 = .ok (.return_, 1) := by decide +kernel
theorem dX0_findFitting_0 : decode cX0_findFitting 0 = .ok (.iconst 0, 1) := by decide +kernel
theorem dX0_findFitting_1 : decode cX0_findFitting 1 = .ok (.istore_n 3, 1) := by decide +kernel
theorem dX0_findFitting_2 : decode cX0_findFitting 2 = .ok (.iload_n 3, 1) := by decide +kernel
theorem dX0_findFitting_3 : decode cX0_findFitting 3 = .ok (.aload_n 1, 1) := by decide +kernel
theorem dX0_findFitting_4 : decode cX0_findFitting 4 = .ok (.getfield 21, 3) := by decide +kernel
theorem dX0_findFitting_7 : decode cX0_findFitting 7 = .ok (.if_icmp .ge 64, 3) := by decide +kernel
theorem dX0_findFitting_10 : decode cX0_findFitting 10 = .ok (.iconst 0, 1) := by decide +kernel
theorem dX0_findFitting_11 : decode cX0_findFitting 11 = .ok (.istore 4, 2) := by decide +kernel
theorem dX0_findFitting_13 : decode cX0_findFitting 13 = .ok (.iconst 0, 1) := by decide +kernel
theorem dX0_findFitting_14 : decode cX0_findFitting 14 = .ok (.istore 5, 2) := by decide +kernel
theorem dX0_findFitting_16 : decode cX0_findFitting 16 = .ok (.iload 5, 2) := by decide +kernel
theorem dX0_findFitting_18 : decode cX0_findFitting 18 = .ok (.aload_n 1, 1) := by decide +kernel
theorem dX0_findFitting_19 : decode cX0_findFitting 19 = .ok (.getfield 27, 3) := by decide +kernel
theorem dX0_findFitting_22 : decode cX0_findFitting 22 = .ok (.if_icmp .ge 33, 3) := by decide +kernel
theorem dX0_findFitting_25 : decode cX0_findFitting 25 = .ok (.iload 4, 2) := by decide +kernel
theorem dX0_findFitting_27 : decode cX0_findFitting 27 = .ok (.aload_n 1, 1) := by decide +kernel
theorem dX0_findFitting_28 : decode cX0_findFitting 28 = .ok (.iload_n 2, 1) := by decide +kernel
theorem dX0_findFitting_29 : decode cX0_findFitting 29 = .ok (.iload 5, 2) := by decide +kernel
theorem dX0_findFitting_31 : decode cX0_findFitting 31 = .ok (.iload_n 3, 1) := by decide +kernel
theorem dX0_findFitting_32 : decode cX0_findFitting 32 = .ok (.invokevirtual 30, 3) := by decide +kernel
theorem dX0_findFitting_35 : decode cX0_findFitting 35 = .ok (.ifCond .eq 10, 3) := by decide +kernel
theorem dX0_findFitting_38 : decode cX0_findFitting 38 = .ok (.iconst 1, 1) := by decide +kernel
theorem dX0_findFitting_39 : decode cX0_findFitting 39 = .ok (.iload 5, 2) := by decide +kernel
theorem dX0_findFitting_41 : decode cX0_findFitting 41 = .ok (.ishl, 1) := by decide +kernel
theorem dX0_findFitting_42 : decode cX0_findFitting 42 = .ok (.goto 4, 3) := by decide +kernel
theorem dX0_findFitting_45 : decode cX0_findFitting 45 = .ok (.iconst 0, 1) := by decide +kernel
theorem dX0_findFitting_46 : decode cX0_findFitting 46 = .ok (.ior, 1) := by decide +kernel
theorem dX0_findFitting_47 : decode cX0_findFitting 47 = .ok (.istore 4, 2) := by decide +kernel
theorem dX0_findFitting_49 : decode cX0_findFitting 49 = .ok (.iinc 5 1, 3) := by decide +kernel
theorem dX0_findFitting_52 : decode cX0_findFitting 52 = .ok (.goto (-36), 3) := by decide +kernel
theorem dX0_findFitting_55 : decode cX0_findFitting 55 = .ok (.aload_n 0, 1) := by decide +kernel
theorem dX0_findFitting_56 : decode cX0_findFitting 56 = .ok (.getfield 9, 3) := by decide +kernel
theorem dX0_findFitting_59 : decode cX0_findFitting 59 = .ok (.iload_n 3, 1) := by decide +kernel
theorem dX0_findFitting_60 : decode cX0_findFitting 60 = .ok (.iload 4, 2) := by decide +kernel
theorem dX0_findFitting_62 : decode cX0_findFitting 62 = .ok (.invokestatic 34, 3) := by decide +kernel
theorem dX0_findFitting_65 : decode cX0_findFitting 65 = .ok (.iinc 3 1, 3) := by decide +kernel
theorem dX0_findFitting_68 : decode cX0_findFitting 68 = .ok (.goto (-66), 3) := by decide +kernel
theorem dX0_findFitting_71 : decode cX0_findFitting 71 = .ok (.return_, 1) := by decide +kernel
theorem dX0_keepStanding_0 : decode cX0_keepStanding 0 = .ok (.iconst 0, 1) := by decide +kernel
theorem dX0_keepStanding_1 : decode cX0_keepStanding 1 = .ok (.istore_n 2, 1) := by decide +kernel
theorem dX0_keepStanding_2 : decode cX0_keepStanding 2 = .ok (.iload_n 2, 1) := by decide +kernel
theorem dX0_keepStanding_3 : decode cX0_keepStanding 3 = .ok (.aload_n 1, 1) := by decide +kernel
theorem dX0_keepStanding_4 : decode cX0_keepStanding 4 = .ok (.getfield 21, 3) := by decide +kernel
theorem dX0_keepStanding_7 : decode cX0_keepStanding 7 = .ok (.if_icmp .ge 40, 3) := by decide +kernel
theorem dX0_keepStanding_10 : decode cX0_keepStanding 10 = .ok (.aload_n 1, 1) := by decide +kernel
theorem dX0_keepStanding_11 : decode cX0_keepStanding 11 = .ok (.iload_n 2, 1) := by decide +kernel
theorem dX0_keepStanding_12 : decode cX0_keepStanding 12 = .ok (.invokevirtual 38, 3) := by decide +kernel
theorem dX0_keepStanding_15 : decode cX0_keepStanding 15 = .ok (.istore_n 3, 1) := by decide +kernel
theorem dX0_keepStanding_16 : decode cX0_keepStanding 16 = .ok (.iload_n 3, 1) := by decide +kernel
theorem dX0_keepStanding_17 : decode cX0_keepStanding 17 = .ok (.iconst (-1), 1) := by decide +kernel
theorem dX0_keepStanding_18 : decode cX0_keepStanding 18 = .ok (.if_icmp .eq 23, 3) := by decide +kernel
theorem dX0_keepStanding_21 : decode cX0_keepStanding 21 = .ok (.aload_n 0, 1) := by decide +kernel
theorem dX0_keepStanding_22 : decode cX0_keepStanding 22 = .ok (.getfield 9, 3) := by decide +kernel
theorem dX0_keepStanding_25 : decode cX0_keepStanding 25 = .ok (.iload_n 2, 1) := by decide +kernel
theorem dX0_keepStanding_26 : decode cX0_keepStanding 26 = .ok (.aload_n 0, 1) := by decide +kernel
theorem dX0_keepStanding_27 : decode cX0_keepStanding 27 = .ok (.getfield 9, 3) := by decide +kernel
theorem dX0_keepStanding_30 : decode cX0_keepStanding 30 = .ok (.iload_n 2, 1) := by decide +kernel
theorem dX0_keepStanding_31 : decode cX0_keepStanding 31 = .ok (.invokestatic 42, 3) := by decide +kernel
theorem dX0_keepStanding_34 : decode cX0_keepStanding 34 = .ok (.iconst 1, 1) := by decide +kernel
theorem dX0_keepStanding_35 : decode cX0_keepStanding 35 = .ok (.iload_n 3, 1) := by decide +kernel
theorem dX0_keepStanding_36 : decode cX0_keepStanding 36 = .ok (.ishl, 1) := by decide +kernel
theorem dX0_keepStanding_37 : decode cX0_keepStanding 37 = .ok (.iand, 1) := by decide +kernel
theorem dX0_keepStanding_38 : decode cX0_keepStanding 38 = .ok (.invokestatic 34, 3) := by decide +kernel
theorem dX0_keepStanding_41 : decode cX0_keepStanding 41 = .ok (.iinc 2 1, 3) := by decide +kernel
theorem dX0_keepStanding_44 : decode cX0_keepStanding 44 = .ok (.goto (-42), 3) := by decide +kernel
theorem dX0_keepStanding_47 : decode cX0_keepStanding 47 = .ok (.return_, 1) := by decide +kernel
theorem dX0_leaveOut_0 : decode cX0_leaveOut 0 = .ok (.iconst 0, 1) := by decide +kernel
theorem dX0_leaveOut_1 : decode cX0_leaveOut 1 = .ok (.istore_n 2, 1) := by decide +kernel
theorem dX0_leaveOut_2 : decode cX0_leaveOut 2 = .ok (.iload_n 2, 1) := by decide +kernel
theorem dX0_leaveOut_3 : decode cX0_leaveOut 3 = .ok (.bipush 6, 2) := by decide +kernel
theorem dX0_leaveOut_5 : decode cX0_leaveOut 5 = .ok (.if_icmp .ge 31, 3) := by decide +kernel
theorem dX0_leaveOut_8 : decode cX0_leaveOut 8 = .ok (.aload_n 0, 1) := by decide +kernel
theorem dX0_leaveOut_9 : decode cX0_leaveOut 9 = .ok (.getfield 9, 3) := by decide +kernel
theorem dX0_leaveOut_12 : decode cX0_leaveOut 12 = .ok (.iload_n 2, 1) := by decide +kernel
theorem dX0_leaveOut_13 : decode cX0_leaveOut 13 = .ok (.aload_n 0, 1) := by decide +kernel
theorem dX0_leaveOut_14 : decode cX0_leaveOut 14 = .ok (.getfield 9, 3) := by decide +kernel
theorem dX0_leaveOut_17 : decode cX0_leaveOut 17 = .ok (.iload_n 2, 1) := by decide +kernel
theorem dX0_leaveOut_18 : decode cX0_leaveOut 18 = .ok (.invokestatic 42, 3) := by decide +kernel
theorem dX0_leaveOut_21 : decode cX0_leaveOut 21 = .ok (.iconst 1, 1) := by decide +kernel
theorem dX0_leaveOut_22 : decode cX0_leaveOut 22 = .ok (.iload_n 1, 1) := by decide +kernel
theorem dX0_leaveOut_23 : decode cX0_leaveOut 23 = .ok (.ishl, 1) := by decide +kernel
theorem dX0_leaveOut_24 : decode cX0_leaveOut 24 = .ok (.iconst (-1), 1) := by decide +kernel
theorem dX0_leaveOut_25 : decode cX0_leaveOut 25 = .ok (.ixor, 1) := by decide +kernel
theorem dX0_leaveOut_26 : decode cX0_leaveOut 26 = .ok (.iand, 1) := by decide +kernel
theorem dX0_leaveOut_27 : decode cX0_leaveOut 27 = .ok (.invokestatic 34, 3) := by decide +kernel
theorem dX0_leaveOut_30 : decode cX0_leaveOut 30 = .ok (.iinc 2 1, 3) := by decide +kernel
theorem dX0_leaveOut_33 : decode cX0_leaveOut 33 = .ok (.goto (-31), 3) := by decide +kernel
theorem dX0_leaveOut_36 : decode cX0_leaveOut 36 = .ok (.return_, 1) := by decide +kernel
theorem dX0_countWays_0 : decode cX0_countWays 0 = .ok (.iconst 1, 1) := by decide +kernel
theorem dX0_countWays_1 : decode cX0_countWays 1 = .ok (.aload_n 1, 1) := by decide +kernel
theorem dX0_countWays_2 : decode cX0_countWays 2 = .ok (.getfield 27, 3) := by decide +kernel
theorem dX0_countWays_5 : decode cX0_countWays 5 = .ok (.ishl, 1) := by decide +kernel
theorem dX0_countWays_6 : decode cX0_countWays 6 = .ok (.iconst 1, 1) := by decide +kernel
theorem dX0_countWays_7 : decode cX0_countWays 7 = .ok (.isub, 1) := by decide +kernel
theorem dX0_countWays_8 : decode cX0_countWays 8 = .ok (.istore_n 2, 1) := by decide +kernel
theorem dX0_countWays_9 : decode cX0_countWays 9 = .ok (.iload_n 2, 1) := by decide +kernel
theorem dX0_countWays_10 : decode cX0_countWays 10 = .ok (.ifCond .lt 116, 3) := by decide +kernel
theorem dX0_countWays_13 : decode cX0_countWays 13 = .ok (.iload_n 2, 1) := by decide +kernel
theorem dX0_countWays_14 : decode cX0_countWays 14 = .ok (.invokestatic 46, 3) := by decide +kernel
theorem dX0_countWays_17 : decode cX0_countWays 17 = .ok (.istore_n 3, 1) := by decide +kernel
theorem dX0_countWays_18 : decode cX0_countWays 18 = .ok (.iload_n 3, 1) := by decide +kernel
theorem dX0_countWays_19 : decode cX0_countWays 19 = .ok (.aload_n 1, 1) := by decide +kernel
theorem dX0_countWays_20 : decode cX0_countWays 20 = .ok (.getfield 21, 3) := by decide +kernel
theorem dX0_countWays_23 : decode cX0_countWays 23 = .ok (.if_icmp .ne 7, 3) := by decide +kernel
theorem dX0_countWays_26 : decode cX0_countWays 26 = .ok (.iconst 1, 1) := by decide +kernel
theorem dX0_countWays_27 : decode cX0_countWays 27 = .ok (.goto 4, 3) := by decide +kernel
theorem dX0_countWays_30 : decode cX0_countWays 30 = .ok (.iconst 0, 1) := by decide +kernel
theorem dX0_countWays_31 : decode cX0_countWays 31 = .ok (.istore 4, 2) := by decide +kernel
theorem dX0_countWays_33 : decode cX0_countWays 33 = .ok (.iload_n 3, 1) := by decide +kernel
theorem dX0_countWays_34 : decode cX0_countWays 34 = .ok (.aload_n 1, 1) := by decide +kernel
theorem dX0_countWays_35 : decode cX0_countWays 35 = .ok (.getfield 21, 3) := by decide +kernel
theorem dX0_countWays_38 : decode cX0_countWays 38 = .ok (.if_icmp .ge 18, 3) := by decide +kernel
theorem dX0_countWays_41 : decode cX0_countWays 41 = .ok (.aload_n 0, 1) := by decide +kernel
theorem dX0_countWays_42 : decode cX0_countWays 42 = .ok (.getfield 9, 3) := by decide +kernel
theorem dX0_countWays_45 : decode cX0_countWays 45 = .ok (.iload_n 3, 1) := by decide +kernel
theorem dX0_countWays_46 : decode cX0_countWays 46 = .ok (.invokestatic 42, 3) := by decide +kernel
theorem dX0_countWays_49 : decode cX0_countWays 49 = .ok (.iload_n 2, 1) := by decide +kernel
theorem dX0_countWays_50 : decode cX0_countWays 50 = .ok (.iconst (-1), 1) := by decide +kernel
theorem dX0_countWays_51 : decode cX0_countWays 51 = .ok (.ixor, 1) := by decide +kernel
theorem dX0_countWays_52 : decode cX0_countWays 52 = .ok (.iand, 1) := by decide +kernel
theorem dX0_countWays_53 : decode cX0_countWays 53 = .ok (.goto 4, 3) := by decide +kernel
theorem dX0_countWays_56 : decode cX0_countWays 56 = .ok (.iconst 0, 1) := by decide +kernel
theorem dX0_countWays_57 : decode cX0_countWays 57 = .ok (.istore 5, 2) := by decide +kernel
theorem dX0_countWays_59 : decode cX0_countWays 59 = .ok (.iconst 0, 1) := by decide +kernel
theorem dX0_countWays_60 : decode cX0_countWays 60 = .ok (.istore 6, 2) := by decide +kernel
theorem dX0_countWays_62 : decode cX0_countWays 62 = .ok (.iload 6, 2) := by decide +kernel
theorem dX0_countWays_64 : decode cX0_countWays 64 = .ok (.aload_n 1, 1) := by decide +kernel
theorem dX0_countWays_65 : decode cX0_countWays 65 = .ok (.getfield 27, 3) := by decide +kernel
theorem dX0_countWays_68 : decode cX0_countWays 68 = .ok (.if_icmp .ge 42, 3) := by decide +kernel
theorem dX0_countWays_71 : decode cX0_countWays 71 = .ok (.iload 5, 2) := by decide +kernel
theorem dX0_countWays_73 : decode cX0_countWays 73 = .ok (.ifCond .eq 37, 3) := by decide +kernel
theorem dX0_countWays_76 : decode cX0_countWays 76 = .ok (.iload 5, 2) := by decide +kernel
theorem dX0_countWays_78 : decode cX0_countWays 78 = .ok (.iload 6, 2) := by decide +kernel
theorem dX0_countWays_80 : decode cX0_countWays 80 = .ok (.invokestatic 51, 3) := by decide +kernel
theorem dX0_countWays_83 : decode cX0_countWays 83 = .ok (.ifCond .eq 21, 3) := by decide +kernel
theorem dX0_countWays_86 : decode cX0_countWays 86 = .ok (.iload 4, 2) := by decide +kernel
theorem dX0_countWays_88 : decode cX0_countWays 88 = .ok (.aload_n 0, 1) := by decide +kernel
theorem dX0_countWays_89 : decode cX0_countWays 89 = .ok (.getfield 15, 3) := by decide +kernel
theorem dX0_countWays_92 : decode cX0_countWays 92 = .ok (.iload_n 2, 1) := by decide +kernel
theorem dX0_countWays_93 : decode cX0_countWays 93 = .ok (.iconst 1, 1) := by decide +kernel
theorem dX0_countWays_94 : decode cX0_countWays 94 = .ok (.iload 6, 2) := by decide +kernel
theorem dX0_countWays_96 : decode cX0_countWays 96 = .ok (.ishl, 1) := by decide +kernel
theorem dX0_countWays_97 : decode cX0_countWays 97 = .ok (.ior, 1) := by decide +kernel
theorem dX0_countWays_98 : decode cX0_countWays 98 = .ok (.invokestatic 42, 3) := by decide +kernel
theorem dX0_countWays_101 : decode cX0_countWays 101 = .ok (.iadd, 1) := by decide +kernel
theorem dX0_countWays_102 : decode cX0_countWays 102 = .ok (.istore 4, 2) := by decide +kernel
theorem dX0_countWays_104 : decode cX0_countWays 104 = .ok (.iinc 6 1, 3) := by decide +kernel
theorem dX0_countWays_107 : decode cX0_countWays 107 = .ok (.goto (-45), 3) := by decide +kernel
theorem dX0_countWays_110 : decode cX0_countWays 110 = .ok (.aload_n 0, 1) := by decide +kernel
theorem dX0_countWays_111 : decode cX0_countWays 111 = .ok (.getfield 15, 3) := by decide +kernel
theorem dX0_countWays_114 : decode cX0_countWays 114 = .ok (.iload_n 2, 1) := by decide +kernel
theorem dX0_countWays_115 : decode cX0_countWays 115 = .ok (.iload 4, 2) := by decide +kernel
theorem dX0_countWays_117 : decode cX0_countWays 117 = .ok (.invokestatic 34, 3) := by decide +kernel
theorem dX0_countWays_120 : decode cX0_countWays 120 = .ok (.iinc 2 (-1), 3) := by decide +kernel
theorem dX0_countWays_123 : decode cX0_countWays 123 = .ok (.goto (-114), 3) := by decide +kernel
theorem dX0_countWays_126 : decode cX0_countWays 126 = .ok (.aload_n 0, 1) := by decide +kernel
theorem dX0_countWays_127 : decode cX0_countWays 127 = .ok (.getfield 15, 3) := by decide +kernel
theorem dX0_countWays_130 : decode cX0_countWays 130 = .ok (.iconst 0, 1) := by decide +kernel
theorem dX0_countWays_131 : decode cX0_countWays 131 = .ok (.invokestatic 42, 3) := by decide +kernel
theorem dX0_countWays_134 : decode cX0_countWays 134 = .ok (.ireturn, 1) := by decide +kernel
theorem dX0_leastCost_0 : decode cX0_leastCost 0 = .ok (.iconst 1, 1) := by decide +kernel
theorem dX0_leastCost_1 : decode cX0_leastCost 1 = .ok (.aload_n 1, 1) := by decide +kernel
theorem dX0_leastCost_2 : decode cX0_leastCost 2 = .ok (.getfield 27, 3) := by decide +kernel
theorem dX0_leastCost_5 : decode cX0_leastCost 5 = .ok (.ishl, 1) := by decide +kernel
theorem dX0_leastCost_6 : decode cX0_leastCost 6 = .ok (.iconst 1, 1) := by decide +kernel
theorem dX0_leastCost_7 : decode cX0_leastCost 7 = .ok (.isub, 1) := by decide +kernel
theorem dX0_leastCost_8 : decode cX0_leastCost 8 = .ok (.istore_n 3, 1) := by decide +kernel
theorem dX0_leastCost_9 : decode cX0_leastCost 9 = .ok (.iload_n 3, 1) := by decide +kernel
theorem dX0_leastCost_10 : decode cX0_leastCost 10 = .ok (.ifCond .lt 119, 3) := by decide +kernel
theorem dX0_leastCost_13 : decode cX0_leastCost 13 = .ok (.iload_n 3, 1) := by decide +kernel
theorem dX0_leastCost_14 : decode cX0_leastCost 14 = .ok (.invokestatic 46, 3) := by decide +kernel
theorem dX0_leastCost_17 : decode cX0_leastCost 17 = .ok (.istore 4, 2) := by decide +kernel
theorem dX0_leastCost_19 : decode cX0_leastCost 19 = .ok (.iload 4, 2) := by decide +kernel
theorem dX0_leastCost_21 : decode cX0_leastCost 21 = .ok (.aload_n 1, 1) := by decide +kernel
theorem dX0_leastCost_22 : decode cX0_leastCost 22 = .ok (.getfield 21, 3) := by decide +kernel
theorem dX0_leastCost_25 : decode cX0_leastCost 25 = .ok (.if_icmp .ne 7, 3) := by decide +kernel
theorem dX0_leastCost_28 : decode cX0_leastCost 28 = .ok (.iconst 0, 1) := by decide +kernel
theorem dX0_leastCost_29 : decode cX0_leastCost 29 = .ok (.goto 5, 3) := by decide +kernel
theorem dX0_leastCost_32 : decode cX0_leastCost 32 = .ok (.ldc 55, 2) := by decide +kernel
theorem dX0_leastCost_34 : decode cX0_leastCost 34 = .ok (.istore 5, 2) := by decide +kernel
theorem dX0_leastCost_36 : decode cX0_leastCost 36 = .ok (.iload 4, 2) := by decide +kernel
theorem dX0_leastCost_38 : decode cX0_leastCost 38 = .ok (.aload_n 1, 1) := by decide +kernel
theorem dX0_leastCost_39 : decode cX0_leastCost 39 = .ok (.getfield 21, 3) := by decide +kernel
theorem dX0_leastCost_42 : decode cX0_leastCost 42 = .ok (.if_icmp .ge 19, 3) := by decide +kernel
theorem dX0_leastCost_45 : decode cX0_leastCost 45 = .ok (.aload_n 0, 1) := by decide +kernel
theorem dX0_leastCost_46 : decode cX0_leastCost 46 = .ok (.getfield 9, 3) := by decide +kernel
theorem dX0_leastCost_49 : decode cX0_leastCost 49 = .ok (.iload 4, 2) := by decide +kernel
theorem dX0_leastCost_51 : decode cX0_leastCost 51 = .ok (.invokestatic 42, 3) := by decide +kernel
theorem dX0_leastCost_54 : decode cX0_leastCost 54 = .ok (.iload_n 3, 1) := by decide +kernel
theorem dX0_leastCost_55 : decode cX0_leastCost 55 = .ok (.iconst (-1), 1) := by decide +kernel
theorem dX0_leastCost_56 : decode cX0_leastCost 56 = .ok (.ixor, 1) := by decide +kernel
theorem dX0_leastCost_57 : decode cX0_leastCost 57 = .ok (.iand, 1) := by decide +kernel
theorem dX0_leastCost_58 : decode cX0_leastCost 58 = .ok (.goto 4, 3) := by decide +kernel
theorem dX0_leastCost_61 : decode cX0_leastCost 61 = .ok (.iconst 0, 1) := by decide +kernel
theorem dX0_leastCost_62 : decode cX0_leastCost 62 = .ok (.istore 6, 2) := by decide +kernel
theorem dX0_leastCost_64 : decode cX0_leastCost 64 = .ok (.iconst 0, 1) := by decide +kernel
theorem dX0_leastCost_65 : decode cX0_leastCost 65 = .ok (.istore 7, 2) := by decide +kernel
theorem dX0_leastCost_67 : decode cX0_leastCost 67 = .ok (.iload 7, 2) := by decide +kernel
theorem dX0_leastCost_69 : decode cX0_leastCost 69 = .ok (.aload_n 1, 1) := by decide +kernel
theorem dX0_leastCost_70 : decode cX0_leastCost 70 = .ok (.getfield 27, 3) := by decide +kernel
theorem dX0_leastCost_73 : decode cX0_leastCost 73 = .ok (.if_icmp .ge 40, 3) := by decide +kernel
theorem dX0_leastCost_76 : decode cX0_leastCost 76 = .ok (.iload 6, 2) := by decide +kernel
theorem dX0_leastCost_78 : decode cX0_leastCost 78 = .ok (.ifCond .eq 35, 3) := by decide +kernel
theorem dX0_leastCost_81 : decode cX0_leastCost 81 = .ok (.iload 6, 2) := by decide +kernel
theorem dX0_leastCost_83 : decode cX0_leastCost 83 = .ok (.iload 7, 2) := by decide +kernel
theorem dX0_leastCost_85 : decode cX0_leastCost 85 = .ok (.invokestatic 51, 3) := by decide +kernel
theorem dX0_leastCost_88 : decode cX0_leastCost 88 = .ok (.ifCond .eq 19, 3) := by decide +kernel
theorem dX0_leastCost_91 : decode cX0_leastCost 91 = .ok (.iload 5, 2) := by decide +kernel
theorem dX0_leastCost_93 : decode cX0_leastCost 93 = .ok (.aload_n 0, 1) := by decide +kernel
theorem dX0_leastCost_94 : decode cX0_leastCost 94 = .ok (.aload_n 1, 1) := by decide +kernel
theorem dX0_leastCost_95 : decode cX0_leastCost 95 = .ok (.iload_n 2, 1) := by decide +kernel
theorem dX0_leastCost_96 : decode cX0_leastCost 96 = .ok (.iload_n 3, 1) := by decide +kernel
theorem dX0_leastCost_97 : decode cX0_leastCost 97 = .ok (.iload 7, 2) := by decide +kernel
theorem dX0_leastCost_99 : decode cX0_leastCost 99 = .ok (.invokevirtual 56, 3) := by decide +kernel
theorem dX0_leastCost_102 : decode cX0_leastCost 102 = .ok (.invokestatic 60, 3) := by decide +kernel
theorem dX0_leastCost_105 : decode cX0_leastCost 105 = .ok (.istore 5, 2) := by decide +kernel
theorem dX0_leastCost_107 : decode cX0_leastCost 107 = .ok (.iinc 7 1, 3) := by decide +kernel
theorem dX0_leastCost_110 : decode cX0_leastCost 110 = .ok (.goto (-43), 3) := by decide +kernel
theorem dX0_leastCost_113 : decode cX0_leastCost 113 = .ok (.aload_n 0, 1) := by decide +kernel
theorem dX0_leastCost_114 : decode cX0_leastCost 114 = .ok (.getfield 15, 3) := by decide +kernel
theorem dX0_leastCost_117 : decode cX0_leastCost 117 = .ok (.iload_n 3, 1) := by decide +kernel
theorem dX0_leastCost_118 : decode cX0_leastCost 118 = .ok (.iload 5, 2) := by decide +kernel
theorem dX0_leastCost_120 : decode cX0_leastCost 120 = .ok (.invokestatic 34, 3) := by decide +kernel
theorem dX0_leastCost_123 : decode cX0_leastCost 123 = .ok (.iinc 3 (-1), 3) := by decide +kernel
theorem dX0_leastCost_126 : decode cX0_leastCost 126 = .ok (.goto (-117), 3) := by decide +kernel
theorem dX0_leastCost_129 : decode cX0_leastCost 129 = .ok (.aload_n 0, 1) := by decide +kernel
theorem dX0_leastCost_130 : decode cX0_leastCost 130 = .ok (.getfield 15, 3) := by decide +kernel
theorem dX0_leastCost_133 : decode cX0_leastCost 133 = .ok (.iconst 0, 1) := by decide +kernel
theorem dX0_leastCost_134 : decode cX0_leastCost 134 = .ok (.invokestatic 42, 3) := by decide +kernel
theorem dX0_leastCost_137 : decode cX0_leastCost 137 = .ok (.ldc 55, 2) := by decide +kernel
theorem dX0_leastCost_139 : decode cX0_leastCost 139 = .ok (.if_icmp .lt 8, 3) := by decide +kernel
theorem dX0_leastCost_142 : decode cX0_leastCost 142 = .ok (.bipush (-6), 2) := by decide +kernel
theorem dX0_leastCost_144 : decode cX0_leastCost 144 = .ok (.goto 11, 3) := by decide +kernel
theorem dX0_leastCost_147 : decode cX0_leastCost 147 = .ok (.aload_n 0, 1) := by decide +kernel
theorem dX0_leastCost_148 : decode cX0_leastCost 148 = .ok (.getfield 15, 3) := by decide +kernel
theorem dX0_leastCost_151 : decode cX0_leastCost 151 = .ok (.iconst 0, 1) := by decide +kernel
theorem dX0_leastCost_152 : decode cX0_leastCost 152 = .ok (.invokestatic 42, 3) := by decide +kernel
theorem dX0_leastCost_155 : decode cX0_leastCost 155 = .ok (.ireturn, 1) := by decide +kernel
theorem dX0_costWith_0 : decode cX0_costWith 0 = .ok (.iload_n 2, 1) := by decide +kernel
theorem dX0_costWith_1 : decode cX0_costWith 1 = .ok (.ifCond .eq 16, 3) := by decide +kernel
theorem dX0_costWith_4 : decode cX0_costWith 4 = .ok (.aload_n 1, 1) := by decide +kernel
theorem dX0_costWith_5 : decode cX0_costWith 5 = .ok (.iload 4, 2) := by decide +kernel
theorem dX0_costWith_7 : decode cX0_costWith 7 = .ok (.iload_n 3, 1) := by decide +kernel
theorem dX0_costWith_8 : decode cX0_costWith 8 = .ok (.invokestatic 46, 3) := by decide +kernel
theorem dX0_costWith_11 : decode cX0_costWith 11 = .ok (.invokevirtual 66, 3) := by decide +kernel
theorem dX0_costWith_14 : decode cX0_costWith 14 = .ok (.goto 4, 3) := by decide +kernel
theorem dX0_costWith_17 : decode cX0_costWith 17 = .ok (.iconst 0, 1) := by decide +kernel
theorem dX0_costWith_18 : decode cX0_costWith 18 = .ok (.istore 5, 2) := by decide +kernel
theorem dX0_costWith_20 : decode cX0_costWith 20 = .ok (.iload 5, 2) := by decide +kernel
theorem dX0_costWith_22 : decode cX0_costWith 22 = .ok (.aload_n 0, 1) := by decide +kernel
theorem dX0_costWith_23 : decode cX0_costWith 23 = .ok (.getfield 15, 3) := by decide +kernel
theorem dX0_costWith_26 : decode cX0_costWith 26 = .ok (.iload_n 3, 1) := by decide +kernel
theorem dX0_costWith_27 : decode cX0_costWith 27 = .ok (.iconst 1, 1) := by decide +kernel
theorem dX0_costWith_28 : decode cX0_costWith 28 = .ok (.iload 4, 2) := by decide +kernel
theorem dX0_costWith_30 : decode cX0_costWith 30 = .ok (.ishl, 1) := by decide +kernel
theorem dX0_costWith_31 : decode cX0_costWith 31 = .ok (.ior, 1) := by decide +kernel
theorem dX0_costWith_32 : decode cX0_costWith 32 = .ok (.invokestatic 42, 3) := by decide +kernel
theorem dX0_costWith_35 : decode cX0_costWith 35 = .ok (.iadd, 1) := by decide +kernel
theorem dX0_costWith_36 : decode cX0_costWith 36 = .ok (.ireturn, 1) := by decide +kernel
theorem dX0_wordOfLeast_0 : decode cX0_wordOfLeast 0 = .ok (.iconst 0, 1) := by decide +kernel
theorem dX0_wordOfLeast_1 : decode cX0_wordOfLeast 1 = .ok (.istore 4, 2) := by decide +kernel
theorem dX0_wordOfLeast_3 : decode cX0_wordOfLeast 3 = .ok (.iconst (-1), 1) := by decide +kernel
theorem dX0_wordOfLeast_4 : decode cX0_wordOfLeast 4 = .ok (.istore 5, 2) := by decide +kernel
theorem dX0_wordOfLeast_6 : decode cX0_wordOfLeast 6 = .ok (.iconst 0, 1) := by decide +kernel
theorem dX0_wordOfLeast_7 : decode cX0_wordOfLeast 7 = .ok (.istore 6, 2) := by decide +kernel
theorem dX0_wordOfLeast_9 : decode cX0_wordOfLeast 9 = .ok (.iload 6, 2) := by decide +kernel
theorem dX0_wordOfLeast_11 : decode cX0_wordOfLeast 11 = .ok (.iload_n 3, 1) := by decide +kernel
theorem dX0_wordOfLeast_12 : decode cX0_wordOfLeast 12 = .ok (.if_icmp .gt 36, 3) := by decide +kernel
theorem dX0_wordOfLeast_15 : decode cX0_wordOfLeast 15 = .ok (.aload_n 0, 1) := by decide +kernel
theorem dX0_wordOfLeast_16 : decode cX0_wordOfLeast 16 = .ok (.aload_n 1, 1) := by decide +kernel
theorem dX0_wordOfLeast_17 : decode cX0_wordOfLeast 17 = .ok (.iload_n 2, 1) := by decide +kernel
theorem dX0_wordOfLeast_18 : decode cX0_wordOfLeast 18 = .ok (.iload 4, 2) := by decide +kernel
theorem dX0_wordOfLeast_20 : decode cX0_wordOfLeast 20 = .ok (.invokevirtual 69, 3) := by decide +kernel
theorem dX0_wordOfLeast_23 : decode cX0_wordOfLeast 23 = .ok (.istore 5, 2) := by decide +kernel
theorem dX0_wordOfLeast_25 : decode cX0_wordOfLeast 25 = .ok (.iload 5, 2) := by decide +kernel
theorem dX0_wordOfLeast_27 : decode cX0_wordOfLeast 27 = .ok (.iconst (-1), 1) := by decide +kernel
theorem dX0_wordOfLeast_28 : decode cX0_wordOfLeast 28 = .ok (.if_icmp .ne 5, 3) := by decide +kernel
theorem dX0_wordOfLeast_31 : decode cX0_wordOfLeast 31 = .ok (.iconst (-1), 1) := by decide +kernel
theorem dX0_wordOfLeast_32 : decode cX0_wordOfLeast 32 = .ok (.ireturn, 1) := by decide +kernel
theorem dX0_wordOfLeast_33 : decode cX0_wordOfLeast 33 = .ok (.iload 4, 2) := by decide +kernel
theorem dX0_wordOfLeast_35 : decode cX0_wordOfLeast 35 = .ok (.iconst 1, 1) := by decide +kernel
theorem dX0_wordOfLeast_36 : decode cX0_wordOfLeast 36 = .ok (.iload 5, 2) := by decide +kernel
theorem dX0_wordOfLeast_38 : decode cX0_wordOfLeast 38 = .ok (.ishl, 1) := by decide +kernel
theorem dX0_wordOfLeast_39 : decode cX0_wordOfLeast 39 = .ok (.ior, 1) := by decide +kernel
theorem dX0_wordOfLeast_40 : decode cX0_wordOfLeast 40 = .ok (.istore 4, 2) := by decide +kernel
theorem dX0_wordOfLeast_42 : decode cX0_wordOfLeast 42 = .ok (.iinc 6 1, 3) := by decide +kernel
theorem dX0_wordOfLeast_45 : decode cX0_wordOfLeast 45 = .ok (.goto (-36), 3) := by decide +kernel
theorem dX0_wordOfLeast_48 : decode cX0_wordOfLeast 48 = .ok (.iload 5, 2) := by decide +kernel
theorem dX0_wordOfLeast_50 : decode cX0_wordOfLeast 50 = .ok (.ireturn, 1) := by decide +kernel
theorem dX0_nextOfLeast_0 : decode cX0_nextOfLeast 0 = .ok (.aload_n 0, 1) := by decide +kernel
theorem dX0_nextOfLeast_1 : decode cX0_nextOfLeast 1 = .ok (.getfield 9, 3) := by decide +kernel
theorem dX0_nextOfLeast_4 : decode cX0_nextOfLeast 4 = .ok (.iload_n 3, 1) := by decide +kernel
theorem dX0_nextOfLeast_5 : decode cX0_nextOfLeast 5 = .ok (.invokestatic 46, 3) := by decide +kernel
theorem dX0_nextOfLeast_8 : decode cX0_nextOfLeast 8 = .ok (.invokestatic 42, 3) := by decide +kernel
theorem dX0_nextOfLeast_11 : decode cX0_nextOfLeast 11 = .ok (.iload_n 3, 1) := by decide +kernel
theorem dX0_nextOfLeast_12 : decode cX0_nextOfLeast 12 = .ok (.iconst (-1), 1) := by decide +kernel
theorem dX0_nextOfLeast_13 : decode cX0_nextOfLeast 13 = .ok (.ixor, 1) := by decide +kernel
theorem dX0_nextOfLeast_14 : decode cX0_nextOfLeast 14 = .ok (.iand, 1) := by decide +kernel
theorem dX0_nextOfLeast_15 : decode cX0_nextOfLeast 15 = .ok (.istore 4, 2) := by decide +kernel
theorem dX0_nextOfLeast_17 : decode cX0_nextOfLeast 17 = .ok (.iconst 0, 1) := by decide +kernel
theorem dX0_nextOfLeast_18 : decode cX0_nextOfLeast 18 = .ok (.istore 5, 2) := by decide +kernel
theorem dX0_nextOfLeast_20 : decode cX0_nextOfLeast 20 = .ok (.iload 5, 2) := by decide +kernel
theorem dX0_nextOfLeast_22 : decode cX0_nextOfLeast 22 = .ok (.aload_n 1, 1) := by decide +kernel
theorem dX0_nextOfLeast_23 : decode cX0_nextOfLeast 23 = .ok (.getfield 27, 3) := by decide +kernel
theorem dX0_nextOfLeast_26 : decode cX0_nextOfLeast 26 = .ok (.if_icmp .ge 42, 3) := by decide +kernel
theorem dX0_nextOfLeast_29 : decode cX0_nextOfLeast 29 = .ok (.iload 4, 2) := by decide +kernel
theorem dX0_nextOfLeast_31 : decode cX0_nextOfLeast 31 = .ok (.iload 5, 2) := by decide +kernel
theorem dX0_nextOfLeast_33 : decode cX0_nextOfLeast 33 = .ok (.invokestatic 51, 3) := by decide +kernel
theorem dX0_nextOfLeast_36 : decode cX0_nextOfLeast 36 = .ok (.ifCond .eq 26, 3) := by decide +kernel
theorem dX0_nextOfLeast_39 : decode cX0_nextOfLeast 39 = .ok (.aload_n 0, 1) := by decide +kernel
theorem dX0_nextOfLeast_40 : decode cX0_nextOfLeast 40 = .ok (.aload_n 1, 1) := by decide +kernel
theorem dX0_nextOfLeast_41 : decode cX0_nextOfLeast 41 = .ok (.iload_n 2, 1) := by decide +kernel
theorem dX0_nextOfLeast_42 : decode cX0_nextOfLeast 42 = .ok (.iload_n 3, 1) := by decide +kernel
theorem dX0_nextOfLeast_43 : decode cX0_nextOfLeast 43 = .ok (.iload 5, 2) := by decide +kernel
theorem dX0_nextOfLeast_45 : decode cX0_nextOfLeast 45 = .ok (.invokevirtual 56, 3) := by decide +kernel
theorem dX0_nextOfLeast_48 : decode cX0_nextOfLeast 48 = .ok (.aload_n 0, 1) := by decide +kernel
theorem dX0_nextOfLeast_49 : decode cX0_nextOfLeast 49 = .ok (.getfield 15, 3) := by decide +kernel
theorem dX0_nextOfLeast_52 : decode cX0_nextOfLeast 52 = .ok (.iload_n 3, 1) := by decide +kernel
theorem dX0_nextOfLeast_53 : decode cX0_nextOfLeast 53 = .ok (.invokestatic 42, 3) := by decide +kernel
theorem dX0_nextOfLeast_56 : decode cX0_nextOfLeast 56 = .ok (.if_icmp .ne 6, 3) := by decide +kernel
theorem dX0_nextOfLeast_59 : decode cX0_nextOfLeast 59 = .ok (.iload 5, 2) := by decide +kernel
theorem dX0_nextOfLeast_61 : decode cX0_nextOfLeast 61 = .ok (.ireturn, 1) := by decide +kernel
theorem dX0_nextOfLeast_62 : decode cX0_nextOfLeast 62 = .ok (.iinc 5 1, 3) := by decide +kernel
theorem dX0_nextOfLeast_65 : decode cX0_nextOfLeast 65 = .ok (.goto (-45), 3) := by decide +kernel
theorem dX0_nextOfLeast_68 : decode cX0_nextOfLeast 68 = .ok (.iconst (-1), 1) := by decide +kernel
theorem dX0_nextOfLeast_69 : decode cX0_nextOfLeast 69 = .ok (.ireturn, 1) := by decide +kernel
theorem dX0_mostLines_0 : decode cX0_mostLines 0 = .ok (.aload_n 0, 1) := by decide +kernel
theorem dX0_mostLines_1 : decode cX0_mostLines 1 = .ok (.getfield 15, 3) := by decide +kernel
theorem dX0_mostLines_4 : decode cX0_mostLines 4 = .ok (.iconst 0, 1) := by decide +kernel
theorem dX0_mostLines_5 : decode cX0_mostLines 5 = .ok (.invokestatic 73, 3) := by decide +kernel
theorem dX0_mostLines_8 : decode cX0_mostLines 8 = .ok (.aload_n 0, 1) := by decide +kernel
theorem dX0_mostLines_9 : decode cX0_mostLines 9 = .ok (.getfield 15, 3) := by decide +kernel
theorem dX0_mostLines_12 : decode cX0_mostLines 12 = .ok (.iconst 0, 1) := by decide +kernel
theorem dX0_mostLines_13 : decode cX0_mostLines 13 = .ok (.iconst 1, 1) := by decide +kernel
theorem dX0_mostLines_14 : decode cX0_mostLines 14 = .ok (.invokestatic 34, 3) := by decide +kernel
theorem dX0_mostLines_17 : decode cX0_mostLines 17 = .ok (.iconst 0, 1) := by decide +kernel
theorem dX0_mostLines_18 : decode cX0_mostLines 18 = .ok (.istore_n 2, 1) := by decide +kernel
theorem dX0_mostLines_19 : decode cX0_mostLines 19 = .ok (.iconst 0, 1) := by decide +kernel
theorem dX0_mostLines_20 : decode cX0_mostLines 20 = .ok (.istore_n 3, 1) := by decide +kernel
theorem dX0_mostLines_21 : decode cX0_mostLines 21 = .ok (.iload_n 3, 1) := by decide +kernel
theorem dX0_mostLines_22 : decode cX0_mostLines 22 = .ok (.aload_n 1, 1) := by decide +kernel
theorem dX0_mostLines_23 : decode cX0_mostLines 23 = .ok (.getfield 21, 3) := by decide +kernel
theorem dX0_mostLines_26 : decode cX0_mostLines 26 = .ok (.if_icmp .ge 73, 3) := by decide +kernel
theorem dX0_mostLines_29 : decode cX0_mostLines 29 = .ok (.iconst 1, 1) := by decide +kernel
theorem dX0_mostLines_30 : decode cX0_mostLines 30 = .ok (.aload_n 1, 1) := by decide +kernel
theorem dX0_mostLines_31 : decode cX0_mostLines 31 = .ok (.getfield 27, 3) := by decide +kernel
theorem dX0_mostLines_34 : decode cX0_mostLines 34 = .ok (.ishl, 1) := by decide +kernel
theorem dX0_mostLines_35 : decode cX0_mostLines 35 = .ok (.iconst 1, 1) := by decide +kernel
theorem dX0_mostLines_36 : decode cX0_mostLines 36 = .ok (.isub, 1) := by decide +kernel
theorem dX0_mostLines_37 : decode cX0_mostLines 37 = .ok (.istore 4, 2) := by decide +kernel
theorem dX0_mostLines_39 : decode cX0_mostLines 39 = .ok (.iload 4, 2) := by decide +kernel
theorem dX0_mostLines_41 : decode cX0_mostLines 41 = .ok (.ifCond .le 52, 3) := by decide +kernel
theorem dX0_mostLines_44 : decode cX0_mostLines 44 = .ok (.aload_n 0, 1) := by decide +kernel
theorem dX0_mostLines_45 : decode cX0_mostLines 45 = .ok (.getfield 15, 3) := by decide +kernel
theorem dX0_mostLines_48 : decode cX0_mostLines 48 = .ok (.iload 4, 2) := by decide +kernel
theorem dX0_mostLines_50 : decode cX0_mostLines 50 = .ok (.invokestatic 42, 3) := by decide +kernel
theorem dX0_mostLines_53 : decode cX0_mostLines 53 = .ok (.ifCond .ne 34, 3) := by decide +kernel
theorem dX0_mostLines_56 : decode cX0_mostLines 56 = .ok (.aload_n 0, 1) := by decide +kernel
theorem dX0_mostLines_57 : decode cX0_mostLines 57 = .ok (.aload_n 1, 1) := by decide +kernel
theorem dX0_mostLines_58 : decode cX0_mostLines 58 = .ok (.iload 4, 2) := by decide +kernel
theorem dX0_mostLines_60 : decode cX0_mostLines 60 = .ok (.iload_n 3, 1) := by decide +kernel
theorem dX0_mostLines_61 : decode cX0_mostLines 61 = .ok (.invokevirtual 79, 3) := by decide +kernel
theorem dX0_mostLines_64 : decode cX0_mostLines 64 = .ok (.ifCond .eq 23, 3) := by decide +kernel
theorem dX0_mostLines_67 : decode cX0_mostLines 67 = .ok (.aload_n 0, 1) := by decide +kernel
theorem dX0_mostLines_68 : decode cX0_mostLines 68 = .ok (.getfield 15, 3) := by decide +kernel
theorem dX0_mostLines_71 : decode cX0_mostLines 71 = .ok (.iload 4, 2) := by decide +kernel
theorem dX0_mostLines_73 : decode cX0_mostLines 73 = .ok (.iconst 1, 1) := by decide +kernel
theorem dX0_mostLines_74 : decode cX0_mostLines 74 = .ok (.invokestatic 34, 3) := by decide +kernel
theorem dX0_mostLines_77 : decode cX0_mostLines 77 = .ok (.iload_n 2, 1) := by decide +kernel
theorem dX0_mostLines_78 : decode cX0_mostLines 78 = .ok (.iload 4, 2) := by decide +kernel
theorem dX0_mostLines_80 : decode cX0_mostLines 80 = .ok (.invokestatic 46, 3) := by decide +kernel
theorem dX0_mostLines_83 : decode cX0_mostLines 83 = .ok (.invokestatic 83, 3) := by decide +kernel
theorem dX0_mostLines_86 : decode cX0_mostLines 86 = .ok (.istore_n 2, 1) := by decide +kernel
theorem dX0_mostLines_87 : decode cX0_mostLines 87 = .ok (.iinc 4 (-1), 3) := by decide +kernel
theorem dX0_mostLines_90 : decode cX0_mostLines 90 = .ok (.goto (-51), 3) := by decide +kernel
theorem dX0_mostLines_93 : decode cX0_mostLines 93 = .ok (.iinc 3 1, 3) := by decide +kernel
theorem dX0_mostLines_96 : decode cX0_mostLines 96 = .ok (.goto (-75), 3) := by decide +kernel
theorem dX0_mostLines_99 : decode cX0_mostLines 99 = .ok (.iload_n 2, 1) := by decide +kernel
theorem dX0_mostLines_100 : decode cX0_mostLines 100 = .ok (.ireturn, 1) := by decide +kernel
theorem dX0_canEndWith_0 : decode cX0_canEndWith 0 = .ok (.iload_n 2, 1) := by decide +kernel
theorem dX0_canEndWith_1 : decode cX0_canEndWith 1 = .ok (.aload_n 0, 1) := by decide +kernel
theorem dX0_canEndWith_2 : decode cX0_canEndWith 2 = .ok (.getfield 9, 3) := by decide +kernel
theorem dX0_canEndWith_5 : decode cX0_canEndWith 5 = .ok (.iload_n 3, 1) := by decide +kernel
theorem dX0_canEndWith_6 : decode cX0_canEndWith 6 = .ok (.invokestatic 42, 3) := by decide +kernel
theorem dX0_canEndWith_9 : decode cX0_canEndWith 9 = .ok (.iand, 1) := by decide +kernel
theorem dX0_canEndWith_10 : decode cX0_canEndWith 10 = .ok (.istore 4, 2) := by decide +kernel
theorem dX0_canEndWith_12 : decode cX0_canEndWith 12 = .ok (.iconst 0, 1) := by decide +kernel
theorem dX0_canEndWith_13 : decode cX0_canEndWith 13 = .ok (.istore 5, 2) := by decide +kernel
theorem dX0_canEndWith_15 : decode cX0_canEndWith 15 = .ok (.iload 5, 2) := by decide +kernel
theorem dX0_canEndWith_17 : decode cX0_canEndWith 17 = .ok (.aload_n 1, 1) := by decide +kernel
theorem dX0_canEndWith_18 : decode cX0_canEndWith 18 = .ok (.getfield 27, 3) := by decide +kernel
theorem dX0_canEndWith_21 : decode cX0_canEndWith 21 = .ok (.if_icmp .ge 45, 3) := by decide +kernel
theorem dX0_canEndWith_24 : decode cX0_canEndWith 24 = .ok (.iload 4, 2) := by decide +kernel
theorem dX0_canEndWith_26 : decode cX0_canEndWith 26 = .ok (.ifCond .eq 40, 3) := by decide +kernel
theorem dX0_canEndWith_29 : decode cX0_canEndWith 29 = .ok (.iload 4, 2) := by decide +kernel
theorem dX0_canEndWith_31 : decode cX0_canEndWith 31 = .ok (.iload 5, 2) := by decide +kernel
theorem dX0_canEndWith_33 : decode cX0_canEndWith 33 = .ok (.invokestatic 51, 3) := by decide +kernel
theorem dX0_canEndWith_36 : decode cX0_canEndWith 36 = .ok (.ifCond .eq 24, 3) := by decide +kernel
theorem dX0_canEndWith_39 : decode cX0_canEndWith 39 = .ok (.aload_n 0, 1) := by decide +kernel
theorem dX0_canEndWith_40 : decode cX0_canEndWith 40 = .ok (.getfield 15, 3) := by decide +kernel
theorem dX0_canEndWith_43 : decode cX0_canEndWith 43 = .ok (.iload_n 2, 1) := by decide +kernel
theorem dX0_canEndWith_44 : decode cX0_canEndWith 44 = .ok (.iconst 1, 1) := by decide +kernel
theorem dX0_canEndWith_45 : decode cX0_canEndWith 45 = .ok (.iload 5, 2) := by decide +kernel
theorem dX0_canEndWith_47 : decode cX0_canEndWith 47 = .ok (.ishl, 1) := by decide +kernel
theorem dX0_canEndWith_48 : decode cX0_canEndWith 48 = .ok (.iconst (-1), 1) := by decide +kernel
theorem dX0_canEndWith_49 : decode cX0_canEndWith 49 = .ok (.ixor, 1) := by decide +kernel
theorem dX0_canEndWith_50 : decode cX0_canEndWith 50 = .ok (.iand, 1) := by decide +kernel
theorem dX0_canEndWith_51 : decode cX0_canEndWith 51 = .ok (.invokestatic 42, 3) := by decide +kernel
theorem dX0_canEndWith_54 : decode cX0_canEndWith 54 = .ok (.iconst 1, 1) := by decide +kernel
theorem dX0_canEndWith_55 : decode cX0_canEndWith 55 = .ok (.if_icmp .ne 5, 3) := by decide +kernel
theorem dX0_canEndWith_58 : decode cX0_canEndWith 58 = .ok (.iconst 1, 1) := by decide +kernel
theorem dX0_canEndWith_59 : decode cX0_canEndWith 59 = .ok (.ireturn, 1) := by decide +kernel
theorem dX0_canEndWith_60 : decode cX0_canEndWith 60 = .ok (.iinc 5 1, 3) := by decide +kernel
theorem dX0_canEndWith_63 : decode cX0_canEndWith 63 = .ok (.goto (-48), 3) := by decide +kernel
theorem dX0_canEndWith_66 : decode cX0_canEndWith 66 = .ok (.iconst 0, 1) := by decide +kernel
theorem dX0_canEndWith_67 : decode cX0_canEndWith 67 = .ok (.ireturn, 1) := by decide +kernel
theorem dX0_spellRows_0 : decode cX0_spellRows 0 = .ok (.aload_n 0, 1) := by decide +kernel
theorem dX0_spellRows_1 : decode cX0_spellRows 1 = .ok (.getfield 18, 3) := by decide +kernel
theorem dX0_spellRows_4 : decode cX0_spellRows 4 = .ok (.iconst 0, 1) := by decide +kernel
theorem dX0_spellRows_5 : decode cX0_spellRows 5 = .ok (.invokestatic 73, 3) := by decide +kernel
theorem dX0_spellRows_8 : decode cX0_spellRows 8 = .ok (.aload_n 0, 1) := by decide +kernel
theorem dX0_spellRows_9 : decode cX0_spellRows 9 = .ok (.iconst 0, 1) := by decide +kernel
theorem dX0_spellRows_10 : decode cX0_spellRows 10 = .ok (.putfield 86, 3) := by decide +kernel
theorem dX0_spellRows_13 : decode cX0_spellRows 13 = .ok (.aload_n 0, 1) := by decide +kernel
theorem dX0_spellRows_14 : decode cX0_spellRows 14 = .ok (.iconst (-1), 1) := by decide +kernel
theorem dX0_spellRows_15 : decode cX0_spellRows 15 = .ok (.putfield 89, 3) := by decide +kernel
theorem dX0_spellRows_18 : decode cX0_spellRows 18 = .ok (.iconst 1, 1) := by decide +kernel
theorem dX0_spellRows_19 : decode cX0_spellRows 19 = .ok (.iconst 3, 1) := by decide +kernel
theorem dX0_spellRows_20 : decode cX0_spellRows 20 = .ok (.iconst 0, 1) := by decide +kernel
theorem dX0_spellRows_21 : decode cX0_spellRows 21 = .ok (.iload_n 2, 1) := by decide +kernel
theorem dX0_spellRows_22 : decode cX0_spellRows 22 = .ok (.iconst 3, 1) := by decide +kernel
theorem dX0_spellRows_23 : decode cX0_spellRows 23 = .ok (.invokestatic 60, 3) := by decide +kernel
theorem dX0_spellRows_26 : decode cX0_spellRows 26 = .ok (.invokestatic 83, 3) := by decide +kernel
theorem dX0_spellRows_29 : decode cX0_spellRows 29 = .ok (.imul, 1) := by decide +kernel
theorem dX0_spellRows_30 : decode cX0_spellRows 30 = .ok (.ishl, 1) := by decide +kernel
theorem dX0_spellRows_31 : decode cX0_spellRows 31 = .ok (.istore_n 3, 1) := by decide +kernel
theorem dX0_spellRows_32 : decode cX0_spellRows 32 = .ok (.iconst 0, 1) := by decide +kernel
theorem dX0_spellRows_33 : decode cX0_spellRows 33 = .ok (.istore 4, 2) := by decide +kernel
theorem dX0_spellRows_35 : decode cX0_spellRows 35 = .ok (.iload 4, 2) := by decide +kernel
theorem dX0_spellRows_37 : decode cX0_spellRows 37 = .ok (.iload_n 3, 1) := by decide +kernel
theorem dX0_spellRows_38 : decode cX0_spellRows 38 = .ok (.if_icmp .ge 17, 3) := by decide +kernel
theorem dX0_spellRows_41 : decode cX0_spellRows 41 = .ok (.aload_n 0, 1) := by decide +kernel
theorem dX0_spellRows_42 : decode cX0_spellRows 42 = .ok (.aload_n 1, 1) := by decide +kernel
theorem dX0_spellRows_43 : decode cX0_spellRows 43 = .ok (.iload_n 2, 1) := by decide +kernel
theorem dX0_spellRows_44 : decode cX0_spellRows 44 = .ok (.iload 4, 2) := by decide +kernel
theorem dX0_spellRows_46 : decode cX0_spellRows 46 = .ok (.invokevirtual 92, 3) := by decide +kernel
theorem dX0_spellRows_49 : decode cX0_spellRows 49 = .ok (.iinc 4 1, 3) := by decide +kernel
theorem dX0_spellRows_52 : decode cX0_spellRows 52 = .ok (.goto (-17), 3) := by decide +kernel
theorem dX0_spellRows_55 : decode cX0_spellRows 55 = .ok (.return_, 1) := by decide +kernel
theorem dX0_spellRow_0 : decode cX0_spellRow 0 = .ok (.iconst 0, 1) := by decide +kernel
theorem dX0_spellRow_1 : decode cX0_spellRow 1 = .ok (.istore 4, 2) := by decide +kernel
theorem dX0_spellRow_3 : decode cX0_spellRow 3 = .ok (.iconst 0, 1) := by decide +kernel
theorem dX0_spellRow_4 : decode cX0_spellRow 4 = .ok (.istore 5, 2) := by decide +kernel
theorem dX0_spellRow_6 : decode cX0_spellRow 6 = .ok (.iconst 0, 1) := by decide +kernel
theorem dX0_spellRow_7 : decode cX0_spellRow 7 = .ok (.istore 6, 2) := by decide +kernel
theorem dX0_spellRow_9 : decode cX0_spellRow 9 = .ok (.iload 6, 2) := by decide +kernel
theorem dX0_spellRow_11 : decode cX0_spellRow 11 = .ok (.iload_n 2, 1) := by decide +kernel
theorem dX0_spellRow_12 : decode cX0_spellRow 12 = .ok (.if_icmp .ge 69, 3) := by decide +kernel
theorem dX0_spellRow_15 : decode cX0_spellRow 15 = .ok (.iload_n 3, 1) := by decide +kernel
theorem dX0_spellRow_16 : decode cX0_spellRow 16 = .ok (.iconst 3, 1) := by decide +kernel
theorem dX0_spellRow_17 : decode cX0_spellRow 17 = .ok (.iload 6, 2) := by decide +kernel
theorem dX0_spellRow_19 : decode cX0_spellRow 19 = .ok (.imul, 1) := by decide +kernel
theorem dX0_spellRow_20 : decode cX0_spellRow 20 = .ok (.ishr, 1) := by decide +kernel
theorem dX0_spellRow_21 : decode cX0_spellRow 21 = .ok (.bipush 7, 2) := by decide +kernel
theorem dX0_spellRow_23 : decode cX0_spellRow 23 = .ok (.iand, 1) := by decide +kernel
theorem dX0_spellRow_24 : decode cX0_spellRow 24 = .ok (.istore 7, 2) := by decide +kernel
theorem dX0_spellRow_26 : decode cX0_spellRow 26 = .ok (.aload_n 1, 1) := by decide +kernel
theorem dX0_spellRow_27 : decode cX0_spellRow 27 = .ok (.iload 7, 2) := by decide +kernel
theorem dX0_spellRow_29 : decode cX0_spellRow 29 = .ok (.invokevirtual 96, 3) := by decide +kernel
theorem dX0_spellRow_32 : decode cX0_spellRow 32 = .ok (.ifCond .eq 13, 3) := by decide +kernel
theorem dX0_spellRow_35 : decode cX0_spellRow 35 = .ok (.iload 4, 2) := by decide +kernel
theorem dX0_spellRow_37 : decode cX0_spellRow 37 = .ok (.iload 7, 2) := by decide +kernel
theorem dX0_spellRow_39 : decode cX0_spellRow 39 = .ok (.invokestatic 51, 3) := by decide +kernel
theorem dX0_spellRow_42 : decode cX0_spellRow 42 = .ok (.ifCond .eq 4, 3) := by decide +kernel
theorem dX0_spellRow_45 : decode cX0_spellRow 45 = .ok (.return_, 1) := by decide +kernel
theorem dX0_spellRow_46 : decode cX0_spellRow 46 = .ok (.iload 4, 2) := by decide +kernel
theorem dX0_spellRow_48 : decode cX0_spellRow 48 = .ok (.iconst 1, 1) := by decide +kernel
theorem dX0_spellRow_49 : decode cX0_spellRow 49 = .ok (.iload 7, 2) := by decide +kernel
theorem dX0_spellRow_51 : decode cX0_spellRow 51 = .ok (.ishl, 1) := by decide +kernel
theorem dX0_spellRow_52 : decode cX0_spellRow 52 = .ok (.ior, 1) := by decide +kernel
theorem dX0_spellRow_53 : decode cX0_spellRow 53 = .ok (.istore 4, 2) := by decide +kernel
theorem dX0_spellRow_55 : decode cX0_spellRow 55 = .ok (.bipush 10, 2) := by decide +kernel
theorem dX0_spellRow_57 : decode cX0_spellRow 57 = .ok (.iload 5, 2) := by decide +kernel
theorem dX0_spellRow_59 : decode cX0_spellRow 59 = .ok (.imul, 1) := by decide +kernel
theorem dX0_spellRow_60 : decode cX0_spellRow 60 = .ok (.aload_n 1, 1) := by decide +kernel
theorem dX0_spellRow_61 : decode cX0_spellRow 61 = .ok (.aload_n 1, 1) := by decide +kernel
theorem dX0_spellRow_62 : decode cX0_spellRow 62 = .ok (.getfield 100, 3) := by decide +kernel
theorem dX0_spellRow_65 : decode cX0_spellRow 65 = .ok (.iload 7, 2) := by decide +kernel
theorem dX0_spellRow_67 : decode cX0_spellRow 67 = .ok (.iload 6, 2) := by decide +kernel
theorem dX0_spellRow_69 : decode cX0_spellRow 69 = .ok (.invokevirtual 103, 3) := by decide +kernel
theorem dX0_spellRow_72 : decode cX0_spellRow 72 = .ok (.iadd, 1) := by decide +kernel
theorem dX0_spellRow_73 : decode cX0_spellRow 73 = .ok (.istore 5, 2) := by decide +kernel
theorem dX0_spellRow_75 : decode cX0_spellRow 75 = .ok (.iinc 6 1, 3) := by decide +kernel
theorem dX0_spellRow_78 : decode cX0_spellRow 78 = .ok (.goto (-69), 3) := by decide +kernel
theorem dX0_spellRow_81 : decode cX0_spellRow 81 = .ok (.aload_n 0, 1) := by decide +kernel
theorem dX0_spellRow_82 : decode cX0_spellRow 82 = .ok (.iload 5, 2) := by decide +kernel
theorem dX0_spellRow_84 : decode cX0_spellRow 84 = .ok (.invokevirtual 107, 3) := by decide +kernel
theorem dX0_spellRow_87 : decode cX0_spellRow 87 = .ok (.return_, 1) := by decide +kernel
theorem dX0_seeRow_0 : decode cX0_seeRow 0 = .ok (.iload_n 1, 1) := by decide +kernel
theorem dX0_seeRow_1 : decode cX0_seeRow 1 = .ok (.bipush 32, 2) := by decide +kernel
theorem dX0_seeRow_3 : decode cX0_seeRow 3 = .ok (.idiv, 1) := by decide +kernel
theorem dX0_seeRow_4 : decode cX0_seeRow 4 = .ok (.istore_n 2, 1) := by decide +kernel
theorem dX0_seeRow_5 : decode cX0_seeRow 5 = .ok (.iconst 1, 1) := by decide +kernel
theorem dX0_seeRow_6 : decode cX0_seeRow 6 = .ok (.iload_n 1, 1) := by decide +kernel
theorem dX0_seeRow_7 : decode cX0_seeRow 7 = .ok (.bipush 32, 2) := by decide +kernel
theorem dX0_seeRow_9 : decode cX0_seeRow 9 = .ok (.irem, 1) := by decide +kernel
theorem dX0_seeRow_10 : decode cX0_seeRow 10 = .ok (.ishl, 1) := by decide +kernel
theorem dX0_seeRow_11 : decode cX0_seeRow 11 = .ok (.istore_n 3, 1) := by decide +kernel
theorem dX0_seeRow_12 : decode cX0_seeRow 12 = .ok (.aload_n 0, 1) := by decide +kernel
theorem dX0_seeRow_13 : decode cX0_seeRow 13 = .ok (.getfield 18, 3) := by decide +kernel
theorem dX0_seeRow_16 : decode cX0_seeRow 16 = .ok (.iload_n 2, 1) := by decide +kernel
theorem dX0_seeRow_17 : decode cX0_seeRow 17 = .ok (.invokestatic 42, 3) := by decide +kernel
theorem dX0_seeRow_20 : decode cX0_seeRow 20 = .ok (.iload_n 3, 1) := by decide +kernel
theorem dX0_seeRow_21 : decode cX0_seeRow 21 = .ok (.iand, 1) := by decide +kernel
theorem dX0_seeRow_22 : decode cX0_seeRow 22 = .ok (.ifCond .ne 43, 3) := by decide +kernel
theorem dX0_seeRow_25 : decode cX0_seeRow 25 = .ok (.aload_n 0, 1) := by decide +kernel
theorem dX0_seeRow_26 : decode cX0_seeRow 26 = .ok (.getfield 18, 3) := by decide +kernel
theorem dX0_seeRow_29 : decode cX0_seeRow 29 = .ok (.iload_n 2, 1) := by decide +kernel
theorem dX0_seeRow_30 : decode cX0_seeRow 30 = .ok (.aload_n 0, 1) := by decide +kernel
theorem dX0_seeRow_31 : decode cX0_seeRow 31 = .ok (.getfield 18, 3) := by decide +kernel
theorem dX0_seeRow_34 : decode cX0_seeRow 34 = .ok (.iload_n 2, 1) := by decide +kernel
theorem dX0_seeRow_35 : decode cX0_seeRow 35 = .ok (.invokestatic 42, 3) := by decide +kernel
theorem dX0_seeRow_38 : decode cX0_seeRow 38 = .ok (.iload_n 3, 1) := by decide +kernel
theorem dX0_seeRow_39 : decode cX0_seeRow 39 = .ok (.ior, 1) := by decide +kernel
theorem dX0_seeRow_40 : decode cX0_seeRow 40 = .ok (.invokestatic 34, 3) := by decide +kernel
theorem dX0_seeRow_43 : decode cX0_seeRow 43 = .ok (.aload_n 0, 1) := by decide +kernel
theorem dX0_seeRow_44 : decode cX0_seeRow 44 = .ok (.dup, 1) := by decide +kernel
theorem dX0_seeRow_45 : decode cX0_seeRow 45 = .ok (.getfield 86, 3) := by decide +kernel
theorem dX0_seeRow_48 : decode cX0_seeRow 48 = .ok (.iconst 1, 1) := by decide +kernel
theorem dX0_seeRow_49 : decode cX0_seeRow 49 = .ok (.iadd, 1) := by decide +kernel
theorem dX0_seeRow_50 : decode cX0_seeRow 50 = .ok (.putfield 86, 3) := by decide +kernel
theorem dX0_seeRow_53 : decode cX0_seeRow 53 = .ok (.aload_n 0, 1) := by decide +kernel
theorem dX0_seeRow_54 : decode cX0_seeRow 54 = .ok (.aload_n 0, 1) := by decide +kernel
theorem dX0_seeRow_55 : decode cX0_seeRow 55 = .ok (.getfield 89, 3) := by decide +kernel
theorem dX0_seeRow_58 : decode cX0_seeRow 58 = .ok (.iload_n 1, 1) := by decide +kernel
theorem dX0_seeRow_59 : decode cX0_seeRow 59 = .ok (.invokestatic 83, 3) := by decide +kernel
theorem dX0_seeRow_62 : decode cX0_seeRow 62 = .ok (.putfield 89, 3) := by decide +kernel
theorem dX0_seeRow_65 : decode cX0_seeRow 65 = .ok (.return_, 1) := by decide +kernel
theorem dX1_init_0 : decode cX1_init 0 = .ok (.aload_n 0, 1) := by decide +kernel
theorem dX1_init_1 : decode cX1_init 1 = .ok (.invokespecial 3, 3) := by decide +kernel
theorem dX1_init_4 : decode cX1_init 4 = .ok (.aload_n 0, 1) := by decide +kernel
theorem dX1_init_5 : decode cX1_init 5 = .ok (.sipush 150, 3) := by decide +kernel
theorem dX1_init_8 : decode cX1_init 8 = .ok (.newarray .int, 2) := by decide +kernel
theorem dX1_init_10 : decode cX1_init 10 = .ok (.putfield 9, 3) := by decide +kernel
theorem dX1_init_13 : decode cX1_init 13 = .ok (.return_, 1) := by decide +kernel
theorem dX1_append_0 : decode cX1_append 0 = .ok (.aload_n 0, 1) := by decide +kernel
theorem dX1_append_1 : decode cX1_append 1 = .ok (.getfield 9, 3) := by decide +kernel
theorem dX1_append_4 : decode cX1_append 4 = .ok (.aload_n 0, 1) := by decide +kernel
theorem dX1_append_5 : decode cX1_append 5 = .ok (.getfield 15, 3) := by decide +kernel
theorem dX1_append_8 : decode cX1_append 8 = .ok (.iload_n 1, 1) := by decide +kernel
theorem dX1_append_9 : decode cX1_append 9 = .ok (.invokestatic 19, 3) := by decide +kernel
theorem dX1_append_12 : decode cX1_append 12 = .ok (.aload_n 0, 1) := by decide +kernel
theorem dX1_append_13 : decode cX1_append 13 = .ok (.dup, 1) := by decide +kernel
theorem dX1_append_14 : decode cX1_append 14 = .ok (.getfield 15, 3) := by decide +kernel
theorem dX1_append_17 : decode cX1_append 17 = .ok (.iconst 1, 1) := by decide +kernel
theorem dX1_append_18 : decode cX1_append 18 = .ok (.iadd, 1) := by decide +kernel
theorem dX1_append_19 : decode cX1_append 19 = .ok (.putfield 15, 3) := by decide +kernel
theorem dX1_append_22 : decode cX1_append 22 = .ok (.return_, 1) := by decide +kernel
theorem dX1_readInto_0 : decode cX1_readInto 0 = .ok (.aload_n 0, 1) := by decide +kernel
theorem dX1_readInto_1 : decode cX1_readInto 1 = .ok (.iconst 0, 1) := by decide +kernel
theorem dX1_readInto_2 : decode cX1_readInto 2 = .ok (.putfield 23, 3) := by decide +kernel
theorem dX1_readInto_5 : decode cX1_readInto 5 = .ok (.aload_n 0, 1) := by decide +kernel
theorem dX1_readInto_6 : decode cX1_readInto 6 = .ok (.iconst 0, 1) := by decide +kernel
theorem dX1_readInto_7 : decode cX1_readInto 7 = .ok (.putfield 26, 3) := by decide +kernel
theorem dX1_readInto_10 : decode cX1_readInto 10 = .ok (.aload_n 0, 1) := by decide +kernel
theorem dX1_readInto_11 : decode cX1_readInto 11 = .ok (.invokevirtual 29, 3) := by decide +kernel
theorem dX1_readInto_14 : decode cX1_readInto 14 = .ok (.aload_n 0, 1) := by decide +kernel
theorem dX1_readInto_15 : decode cX1_readInto 15 = .ok (.aload_n 1, 1) := by decide +kernel
theorem dX1_readInto_16 : decode cX1_readInto 16 = .ok (.invokevirtual 32, 3) := by decide +kernel
theorem dX1_readInto_19 : decode cX1_readInto 19 = .ok (.istore_n 2, 1) := by decide +kernel
theorem dX1_readInto_20 : decode cX1_readInto 20 = .ok (.iconst 0, 1) := by decide +kernel
theorem dX1_readInto_21 : decode cX1_readInto 21 = .ok (.istore_n 3, 1) := by decide +kernel
theorem dX1_readInto_22 : decode cX1_readInto 22 = .ok (.iload_n 3, 1) := by decide +kernel
theorem dX1_readInto_23 : decode cX1_readInto 23 = .ok (.sipush 150, 3) := by decide +kernel
theorem dX1_readInto_26 : decode cX1_readInto 26 = .ok (.if_icmp .ge 95, 3) := by decide +kernel
theorem dX1_readInto_29 : decode cX1_readInto 29 = .ok (.iload_n 2, 1) := by decide +kernel
theorem dX1_readInto_30 : decode cX1_readInto 30 = .ok (.ifCond .eq 91, 3) := by decide +kernel
theorem dX1_readInto_33 : decode cX1_readInto 33 = .ok (.aload_n 0, 1) := by decide +kernel
theorem dX1_readInto_34 : decode cX1_readInto 34 = .ok (.dup, 1) := by decide +kernel
theorem dX1_readInto_35 : decode cX1_readInto 35 = .ok (.getfield 26, 3) := by decide +kernel
theorem dX1_readInto_38 : decode cX1_readInto 38 = .ok (.iconst 1, 1) := by decide +kernel
theorem dX1_readInto_39 : decode cX1_readInto 39 = .ok (.iadd, 1) := by decide +kernel
theorem dX1_readInto_40 : decode cX1_readInto 40 = .ok (.putfield 26, 3) := by decide +kernel
theorem dX1_readInto_43 : decode cX1_readInto 43 = .ok (.aload_n 0, 1) := by decide +kernel
theorem dX1_readInto_44 : decode cX1_readInto 44 = .ok (.invokevirtual 29, 3) := by decide +kernel
theorem dX1_readInto_47 : decode cX1_readInto 47 = .ok (.aload_n 0, 1) := by decide +kernel
theorem dX1_readInto_48 : decode cX1_readInto 48 = .ok (.getfield 36, 3) := by decide +kernel
theorem dX1_readInto_51 : decode cX1_readInto 51 = .ok (.ifCond .ne 5, 3) := by decide +kernel
theorem dX1_readInto_54 : decode cX1_readInto 54 = .ok (.iconst 1, 1) := by decide +kernel
theorem dX1_readInto_55 : decode cX1_readInto 55 = .ok (.ireturn, 1) := by decide +kernel
theorem dX1_readInto_56 : decode cX1_readInto 56 = .ok (.aload_n 0, 1) := by decide +kernel
theorem dX1_readInto_57 : decode cX1_readInto 57 = .ok (.ldc 39, 2) := by decide +kernel
theorem dX1_readInto_59 : decode cX1_readInto 59 = .ok (.invokevirtual 41, 3) := by decide +kernel
theorem dX1_readInto_62 : decode cX1_readInto 62 = .ok (.ifCond .eq 12, 3) := by decide +kernel
theorem dX1_readInto_65 : decode cX1_readInto 65 = .ok (.aload_n 0, 1) := by decide +kernel
theorem dX1_readInto_66 : decode cX1_readInto 66 = .ok (.aload_n 1, 1) := by decide +kernel
theorem dX1_readInto_67 : decode cX1_readInto 67 = .ok (.invokevirtual 45, 3) := by decide +kernel
theorem dX1_readInto_70 : decode cX1_readInto 70 = .ok (.istore_n 2, 1) := by decide +kernel
theorem dX1_readInto_71 : decode cX1_readInto 71 = .ok (.goto 44, 3) := by decide +kernel
theorem dX1_readInto_74 : decode cX1_readInto 74 = .ok (.aload_n 0, 1) := by decide +kernel
theorem dX1_readInto_75 : decode cX1_readInto 75 = .ok (.ldc 48, 2) := by decide +kernel
theorem dX1_readInto_77 : decode cX1_readInto 77 = .ok (.invokevirtual 41, 3) := by decide +kernel
theorem dX1_readInto_80 : decode cX1_readInto 80 = .ok (.ifCond .eq 12, 3) := by decide +kernel
theorem dX1_readInto_83 : decode cX1_readInto 83 = .ok (.aload_n 0, 1) := by decide +kernel
theorem dX1_readInto_84 : decode cX1_readInto 84 = .ok (.aload_n 1, 1) := by decide +kernel
theorem dX1_readInto_85 : decode cX1_readInto 85 = .ok (.invokevirtual 50, 3) := by decide +kernel
theorem dX1_readInto_88 : decode cX1_readInto 88 = .ok (.istore_n 2, 1) := by decide +kernel
theorem dX1_readInto_89 : decode cX1_readInto 89 = .ok (.goto 26, 3) := by decide +kernel
theorem dX1_readInto_92 : decode cX1_readInto 92 = .ok (.aload_n 0, 1) := by decide +kernel
theorem dX1_readInto_93 : decode cX1_readInto 93 = .ok (.ldc 53, 2) := by decide +kernel
theorem dX1_readInto_95 : decode cX1_readInto 95 = .ok (.invokevirtual 41, 3) := by decide +kernel
theorem dX1_readInto_98 : decode cX1_readInto 98 = .ok (.ifCond .eq 15, 3) := by decide +kernel
theorem dX1_readInto_101 : decode cX1_readInto 101 = .ok (.aload_n 0, 1) := by decide +kernel
theorem dX1_readInto_102 : decode cX1_readInto 102 = .ok (.aload_n 1, 1) := by decide +kernel
theorem dX1_readInto_103 : decode cX1_readInto 103 = .ok (.invokevirtual 55, 3) := by decide +kernel
theorem dX1_readInto_106 : decode cX1_readInto 106 = .ok (.ifCond .eq 7, 3) := by decide +kernel
theorem dX1_readInto_109 : decode cX1_readInto 109 = .ok (.iconst 1, 1) := by decide +kernel
theorem dX1_readInto_110 : decode cX1_readInto 110 = .ok (.goto 4, 3) := by decide +kernel
theorem dX1_readInto_113 : decode cX1_readInto 113 = .ok (.iconst 0, 1) := by decide +kernel
theorem dX1_readInto_114 : decode cX1_readInto 114 = .ok (.istore_n 2, 1) := by decide +kernel
theorem dX1_readInto_115 : decode cX1_readInto 115 = .ok (.iinc 3 1, 3) := by decide +kernel
theorem dX1_readInto_118 : decode cX1_readInto 118 = .ok (.goto (-96), 3) := by decide +kernel
theorem dX1_readInto_121 : decode cX1_readInto 121 = .ok (.iconst 0, 1) := by decide +kernel
theorem dX1_readInto_122 : decode cX1_readInto 122 = .ok (.ireturn, 1) := by decide +kernel
theorem dX1_readVerse_0 : decode cX1_readVerse 0 = .ok (.aload_n 0, 1) := by decide +kernel
theorem dX1_readVerse_1 : decode cX1_readVerse 1 = .ok (.ldc 58, 2) := by decide +kernel
theorem dX1_readVerse_3 : decode cX1_readVerse 3 = .ok (.invokevirtual 41, 3) := by decide +kernel
theorem dX1_readVerse_6 : decode cX1_readVerse 6 = .ok (.ifCond .eq 12, 3) := by decide +kernel
theorem dX1_readVerse_9 : decode cX1_readVerse 9 = .ok (.aload_n 0, 1) := by decide +kernel
theorem dX1_readVerse_10 : decode cX1_readVerse 10 = .ok (.bipush 6, 2) := by decide +kernel
theorem dX1_readVerse_12 : decode cX1_readVerse 12 = .ok (.invokevirtual 60, 3) := by decide +kernel
theorem dX1_readVerse_15 : decode cX1_readVerse 15 = .ok (.ifCond .ne 5, 3) := by decide +kernel
theorem dX1_readVerse_18 : decode cX1_readVerse 18 = .ok (.iconst 0, 1) := by decide +kernel
theorem dX1_readVerse_19 : decode cX1_readVerse 19 = .ok (.ireturn, 1) := by decide +kernel
theorem dX1_readVerse_20 : decode cX1_readVerse 20 = .ok (.aload_n 0, 1) := by decide +kernel
theorem dX1_readVerse_21 : decode cX1_readVerse 21 = .ok (.getfield 64, 3) := by decide +kernel
theorem dX1_readVerse_24 : decode cX1_readVerse 24 = .ok (.istore_n 2, 1) := by decide +kernel
theorem dX1_readVerse_25 : decode cX1_readVerse 25 = .ok (.aload_n 0, 1) := by decide +kernel
theorem dX1_readVerse_26 : decode cX1_readVerse 26 = .ok (.iconst 1, 1) := by decide +kernel
theorem dX1_readVerse_27 : decode cX1_readVerse 27 = .ok (.bipush 6, 2) := by decide +kernel
theorem dX1_readVerse_29 : decode cX1_readVerse 29 = .ok (.invokevirtual 67, 3) := by decide +kernel
theorem dX1_readVerse_32 : decode cX1_readVerse 32 = .ok (.ifCond .ne 5, 3) := by decide +kernel
theorem dX1_readVerse_35 : decode cX1_readVerse 35 = .ok (.iconst 0, 1) := by decide +kernel
theorem dX1_readVerse_36 : decode cX1_readVerse 36 = .ok (.ireturn, 1) := by decide +kernel
theorem dX1_readVerse_37 : decode cX1_readVerse 37 = .ok (.aload_n 1, 1) := by decide +kernel
theorem dX1_readVerse_38 : decode cX1_readVerse 38 = .ok (.iload_n 2, 1) := by decide +kernel
theorem dX1_readVerse_39 : decode cX1_readVerse 39 = .ok (.aload_n 0, 1) := by decide +kernel
theorem dX1_readVerse_40 : decode cX1_readVerse 40 = .ok (.getfield 71, 3) := by decide +kernel
theorem dX1_readVerse_43 : decode cX1_readVerse 43 = .ok (.aload_n 0, 1) := by decide +kernel
theorem dX1_readVerse_44 : decode cX1_readVerse 44 = .ok (.getfield 74, 3) := by decide +kernel
theorem dX1_readVerse_47 : decode cX1_readVerse 47 = .ok (.invokevirtual 77, 3) := by decide +kernel
theorem dX1_readVerse_50 : decode cX1_readVerse 50 = .ok (.iconst 1, 1) := by decide +kernel
theorem dX1_readVerse_51 : decode cX1_readVerse 51 = .ok (.ireturn, 1) := by decide +kernel
theorem dX1_readWord_0 : decode cX1_readWord 0 = .ok (.aload_n 1, 1) := by decide +kernel
theorem dX1_readWord_1 : decode cX1_readWord 1 = .ok (.getfield 83, 3) := by decide +kernel
theorem dX1_readWord_4 : decode cX1_readWord 4 = .ok (.bipush 8, 2) := by decide +kernel
theorem dX1_readWord_6 : decode cX1_readWord 6 = .ok (.if_icmp .ge 12, 3) := by decide +kernel
theorem dX1_readWord_9 : decode cX1_readWord 9 = .ok (.aload_n 0, 1) := by decide +kernel
theorem dX1_readWord_10 : decode cX1_readWord 10 = .ok (.bipush 6, 2) := by decide +kernel
theorem dX1_readWord_12 : decode cX1_readWord 12 = .ok (.invokevirtual 60, 3) := by decide +kernel
theorem dX1_readWord_15 : decode cX1_readWord 15 = .ok (.ifCond .ne 5, 3) := by decide +kernel
theorem dX1_readWord_18 : decode cX1_readWord 18 = .ok (.iconst 0, 1) := by decide +kernel
theorem dX1_readWord_19 : decode cX1_readWord 19 = .ok (.ireturn, 1) := by decide +kernel
theorem dX1_readWord_20 : decode cX1_readWord 20 = .ok (.aload_n 0, 1) := by decide +kernel
theorem dX1_readWord_21 : decode cX1_readWord 21 = .ok (.getfield 64, 3) := by decide +kernel
theorem dX1_readWord_24 : decode cX1_readWord 24 = .ok (.istore_n 2, 1) := by decide +kernel
theorem dX1_readWord_25 : decode cX1_readWord 25 = .ok (.aload_n 0, 1) := by decide +kernel
theorem dX1_readWord_26 : decode cX1_readWord 26 = .ok (.iconst 3, 1) := by decide +kernel
theorem dX1_readWord_27 : decode cX1_readWord 27 = .ok (.bipush 6, 2) := by decide +kernel
theorem dX1_readWord_29 : decode cX1_readWord 29 = .ok (.invokevirtual 67, 3) := by decide +kernel
theorem dX1_readWord_32 : decode cX1_readWord 32 = .ok (.ifCond .eq 18, 3) := by decide +kernel
theorem dX1_readWord_35 : decode cX1_readWord 35 = .ok (.aload_n 1, 1) := by decide +kernel
theorem dX1_readWord_36 : decode cX1_readWord 36 = .ok (.aload_n 0, 1) := by decide +kernel
theorem dX1_readWord_37 : decode cX1_readWord 37 = .ok (.getfield 71, 3) := by decide +kernel
theorem dX1_readWord_40 : decode cX1_readWord 40 = .ok (.aload_n 0, 1) := by decide +kernel
theorem dX1_readWord_41 : decode cX1_readWord 41 = .ok (.getfield 74, 3) := by decide +kernel
theorem dX1_readWord_44 : decode cX1_readWord 44 = .ok (.invokevirtual 86, 3) := by decide +kernel
theorem dX1_readWord_47 : decode cX1_readWord 47 = .ok (.ifCond .eq 5, 3) := by decide +kernel
theorem dX1_readWord_50 : decode cX1_readWord 50 = .ok (.iconst 0, 1) := by decide +kernel
theorem dX1_readWord_51 : decode cX1_readWord 51 = .ok (.ireturn, 1) := by decide +kernel
theorem dX1_readWord_52 : decode cX1_readWord 52 = .ok (.aload_n 1, 1) := by decide +kernel
theorem dX1_readWord_53 : decode cX1_readWord 53 = .ok (.iload_n 2, 1) := by decide +kernel
theorem dX1_readWord_54 : decode cX1_readWord 54 = .ok (.aload_n 0, 1) := by decide +kernel
theorem dX1_readWord_55 : decode cX1_readWord 55 = .ok (.getfield 71, 3) := by decide +kernel
theorem dX1_readWord_58 : decode cX1_readWord 58 = .ok (.aload_n 0, 1) := by decide +kernel
theorem dX1_readWord_59 : decode cX1_readWord 59 = .ok (.getfield 74, 3) := by decide +kernel
theorem dX1_readWord_62 : decode cX1_readWord 62 = .ok (.invokevirtual 89, 3) := by decide +kernel
theorem dX1_readWord_65 : decode cX1_readWord 65 = .ok (.iconst 1, 1) := by decide +kernel
theorem dX1_readWord_66 : decode cX1_readWord 66 = .ok (.ireturn, 1) := by decide +kernel
theorem dX1_readPut_0 : decode cX1_readPut 0 = .ok (.aload_n 0, 1) := by decide +kernel
theorem dX1_readPut_1 : decode cX1_readPut 1 = .ok (.aload_n 1, 1) := by decide +kernel
theorem dX1_readPut_2 : decode cX1_readPut 2 = .ok (.getfield 92, 3) := by decide +kernel
theorem dX1_readPut_5 : decode cX1_readPut 5 = .ok (.invokevirtual 60, 3) := by decide +kernel
theorem dX1_readPut_8 : decode cX1_readPut 8 = .ok (.ifCond .eq 15, 3) := by decide +kernel
theorem dX1_readPut_11 : decode cX1_readPut 11 = .ok (.aload_n 1, 1) := by decide +kernel
theorem dX1_readPut_12 : decode cX1_readPut 12 = .ok (.aload_n 0, 1) := by decide +kernel
theorem dX1_readPut_13 : decode cX1_readPut 13 = .ok (.getfield 64, 3) := by decide +kernel
theorem dX1_readPut_16 : decode cX1_readPut 16 = .ok (.invokevirtual 95, 3) := by decide +kernel
theorem dX1_readPut_19 : decode cX1_readPut 19 = .ok (.iconst (-1), 1) := by decide +kernel
theorem dX1_readPut_20 : decode cX1_readPut 20 = .ok (.if_icmp .eq 5, 3) := by decide +kernel
theorem dX1_readPut_23 : decode cX1_readPut 23 = .ok (.iconst 0, 1) := by decide +kernel
theorem dX1_readPut_24 : decode cX1_readPut 24 = .ok (.ireturn, 1) := by decide +kernel
theorem dX1_readPut_25 : decode cX1_readPut 25 = .ok (.aload_n 0, 1) := by decide +kernel
theorem dX1_readPut_26 : decode cX1_readPut 26 = .ok (.getfield 64, 3) := by decide +kernel
theorem dX1_readPut_29 : decode cX1_readPut 29 = .ok (.istore_n 2, 1) := by decide +kernel
theorem dX1_readPut_30 : decode cX1_readPut 30 = .ok (.aload_n 0, 1) := by decide +kernel
theorem dX1_readPut_31 : decode cX1_readPut 31 = .ok (.aload_n 1, 1) := by decide +kernel
theorem dX1_readPut_32 : decode cX1_readPut 32 = .ok (.getfield 83, 3) := by decide +kernel
theorem dX1_readPut_35 : decode cX1_readPut 35 = .ok (.invokevirtual 60, 3) := by decide +kernel
theorem dX1_readPut_38 : decode cX1_readPut 38 = .ok (.ifCond .eq 15, 3) := by decide +kernel
theorem dX1_readPut_41 : decode cX1_readPut 41 = .ok (.aload_n 1, 1) := by decide +kernel
theorem dX1_readPut_42 : decode cX1_readPut 42 = .ok (.aload_n 0, 1) := by decide +kernel
theorem dX1_readPut_43 : decode cX1_readPut 43 = .ok (.getfield 64, 3) := by decide +kernel
theorem dX1_readPut_46 : decode cX1_readPut 46 = .ok (.invokevirtual 99, 3) := by decide +kernel
theorem dX1_readPut_49 : decode cX1_readPut 49 = .ok (.iconst (-1), 1) := by decide +kernel
theorem dX1_readPut_50 : decode cX1_readPut 50 = .ok (.if_icmp .eq 5, 3) := by decide +kernel
theorem dX1_readPut_53 : decode cX1_readPut 53 = .ok (.iconst 0, 1) := by decide +kernel
theorem dX1_readPut_54 : decode cX1_readPut 54 = .ok (.ireturn, 1) := by decide +kernel
theorem dX1_readPut_55 : decode cX1_readPut 55 = .ok (.aload_n 0, 1) := by decide +kernel
theorem dX1_readPut_56 : decode cX1_readPut 56 = .ok (.getfield 64, 3) := by decide +kernel
theorem dX1_readPut_59 : decode cX1_readPut 59 = .ok (.istore_n 3, 1) := by decide +kernel
theorem dX1_readPut_60 : decode cX1_readPut 60 = .ok (.aload_n 0, 1) := by decide +kernel
theorem dX1_readPut_61 : decode cX1_readPut 61 = .ok (.invokevirtual 29, 3) := by decide +kernel
theorem dX1_readPut_64 : decode cX1_readPut 64 = .ok (.aload_n 1, 1) := by decide +kernel
theorem dX1_readPut_65 : decode cX1_readPut 65 = .ok (.getfield 102, 3) := by decide +kernel
theorem dX1_readPut_68 : decode cX1_readPut 68 = .ok (.iload_n 2, 1) := by decide +kernel
theorem dX1_readPut_69 : decode cX1_readPut 69 = .ok (.iload_n 3, 1) := by decide +kernel
theorem dX1_readPut_70 : decode cX1_readPut 70 = .ok (.invokestatic 19, 3) := by decide +kernel
theorem dX1_readPut_73 : decode cX1_readPut 73 = .ok (.aload_n 0, 1) := by decide +kernel
theorem dX1_readPut_74 : decode cX1_readPut 74 = .ok (.getfield 36, 3) := by decide +kernel
theorem dX1_readPut_77 : decode cX1_readPut 77 = .ok (.iconst 3, 1) := by decide +kernel
theorem dX1_readPut_78 : decode cX1_readPut 78 = .ok (.if_icmp .ne 7, 3) := by decide +kernel
theorem dX1_readPut_81 : decode cX1_readPut 81 = .ok (.iconst 1, 1) := by decide +kernel
theorem dX1_readPut_82 : decode cX1_readPut 82 = .ok (.goto 4, 3) := by decide +kernel
theorem dX1_readPut_85 : decode cX1_readPut 85 = .ok (.iconst 0, 1) := by decide +kernel
theorem dX1_readPut_86 : decode cX1_readPut 86 = .ok (.ireturn, 1) := by decide +kernel
theorem dX1_readTake_0 : decode cX1_readTake 0 = .ok (.aload_n 0, 1) := by decide +kernel
theorem dX1_readTake_1 : decode cX1_readTake 1 = .ok (.aload_n 1, 1) := by decide +kernel
theorem dX1_readTake_2 : decode cX1_readTake 2 = .ok (.getfield 92, 3) := by decide +kernel
theorem dX1_readTake_5 : decode cX1_readTake 5 = .ok (.invokevirtual 60, 3) := by decide +kernel
theorem dX1_readTake_8 : decode cX1_readTake 8 = .ok (.ifCond .eq 15, 3) := by decide +kernel
theorem dX1_readTake_11 : decode cX1_readTake 11 = .ok (.aload_n 1, 1) := by decide +kernel
theorem dX1_readTake_12 : decode cX1_readTake 12 = .ok (.aload_n 0, 1) := by decide +kernel
theorem dX1_readTake_13 : decode cX1_readTake 13 = .ok (.getfield 64, 3) := by decide +kernel
theorem dX1_readTake_16 : decode cX1_readTake 16 = .ok (.invokevirtual 95, 3) := by decide +kernel
theorem dX1_readTake_19 : decode cX1_readTake 19 = .ok (.iconst (-1), 1) := by decide +kernel
theorem dX1_readTake_20 : decode cX1_readTake 20 = .ok (.if_icmp .ne 5, 3) := by decide +kernel
theorem dX1_readTake_23 : decode cX1_readTake 23 = .ok (.iconst 0, 1) := by decide +kernel
theorem dX1_readTake_24 : decode cX1_readTake 24 = .ok (.ireturn, 1) := by decide +kernel
theorem dX1_readTake_25 : decode cX1_readTake 25 = .ok (.aload_n 1, 1) := by decide +kernel
theorem dX1_readTake_26 : decode cX1_readTake 26 = .ok (.getfield 102, 3) := by decide +kernel
theorem dX1_readTake_29 : decode cX1_readTake 29 = .ok (.aload_n 0, 1) := by decide +kernel
theorem dX1_readTake_30 : decode cX1_readTake 30 = .ok (.getfield 64, 3) := by decide +kernel
theorem dX1_readTake_33 : decode cX1_readTake 33 = .ok (.iconst (-1), 1) := by decide +kernel
theorem dX1_readTake_34 : decode cX1_readTake 34 = .ok (.invokestatic 19, 3) := by decide +kernel
theorem dX1_readTake_37 : decode cX1_readTake 37 = .ok (.aload_n 0, 1) := by decide +kernel
theorem dX1_readTake_38 : decode cX1_readTake 38 = .ok (.invokevirtual 29, 3) := by decide +kernel
theorem dX1_readTake_41 : decode cX1_readTake 41 = .ok (.aload_n 0, 1) := by decide +kernel
theorem dX1_readTake_42 : decode cX1_readTake 42 = .ok (.getfield 36, 3) := by decide +kernel
theorem dX1_readTake_45 : decode cX1_readTake 45 = .ok (.iconst 3, 1) := by decide +kernel
theorem dX1_readTake_46 : decode cX1_readTake 46 = .ok (.if_icmp .ne 7, 3) := by decide +kernel
theorem dX1_readTake_49 : decode cX1_readTake 49 = .ok (.iconst 1, 1) := by decide +kernel
theorem dX1_readTake_50 : decode cX1_readTake 50 = .ok (.goto 4, 3) := by decide +kernel
theorem dX1_readTake_53 : decode cX1_readTake 53 = .ok (.iconst 0, 1) := by decide +kernel
theorem dX1_readTake_54 : decode cX1_readTake 54 = .ok (.ireturn, 1) := by decide +kernel
theorem dX1_readLetters_0 : decode cX1_readLetters 0 = .ok (.aload_n 0, 1) := by decide +kernel
theorem dX1_readLetters_1 : decode cX1_readLetters 1 = .ok (.iconst 0, 1) := by decide +kernel
theorem dX1_readLetters_2 : decode cX1_readLetters 2 = .ok (.putfield 71, 3) := by decide +kernel
theorem dX1_readLetters_5 : decode cX1_readLetters 5 = .ok (.aload_n 0, 1) := by decide +kernel
theorem dX1_readLetters_6 : decode cX1_readLetters 6 = .ok (.iconst 0, 1) := by decide +kernel
theorem dX1_readLetters_7 : decode cX1_readLetters 7 = .ok (.putfield 74, 3) := by decide +kernel
theorem dX1_readLetters_10 : decode cX1_readLetters 10 = .ok (.aload_n 0, 1) := by decide +kernel
theorem dX1_readLetters_11 : decode cX1_readLetters 11 = .ok (.invokevirtual 29, 3) := by decide +kernel
theorem dX1_readLetters_14 : decode cX1_readLetters 14 = .ok (.iconst 0, 1) := by decide +kernel
theorem dX1_readLetters_15 : decode cX1_readLetters 15 = .ok (.istore_n 3, 1) := by decide +kernel
theorem dX1_readLetters_16 : decode cX1_readLetters 16 = .ok (.iload_n 3, 1) := by decide +kernel
theorem dX1_readLetters_17 : decode cX1_readLetters 17 = .ok (.iload_n 2, 1) := by decide +kernel
theorem dX1_readLetters_18 : decode cX1_readLetters 18 = .ok (.if_icmp .ge 56, 3) := by decide +kernel
theorem dX1_readLetters_21 : decode cX1_readLetters 21 = .ok (.aload_n 0, 1) := by decide +kernel
theorem dX1_readLetters_22 : decode cX1_readLetters 22 = .ok (.getfield 36, 3) := by decide +kernel
theorem dX1_readLetters_25 : decode cX1_readLetters 25 = .ok (.iconst 2, 1) := by decide +kernel
theorem dX1_readLetters_26 : decode cX1_readLetters 26 = .ok (.if_icmp .ne 48, 3) := by decide +kernel
theorem dX1_readLetters_29 : decode cX1_readLetters 29 = .ok (.aload_n 0, 1) := by decide +kernel
theorem dX1_readLetters_30 : decode cX1_readLetters 30 = .ok (.getfield 64, 3) := by decide +kernel
theorem dX1_readLetters_33 : decode cX1_readLetters 33 = .ok (.bipush 9, 2) := by decide +kernel
theorem dX1_readLetters_35 : decode cX1_readLetters 35 = .ok (.if_icmp .gt 39, 3) := by decide +kernel
theorem dX1_readLetters_38 : decode cX1_readLetters 38 = .ok (.aload_n 0, 1) := by decide +kernel
theorem dX1_readLetters_39 : decode cX1_readLetters 39 = .ok (.bipush 10, 2) := by decide +kernel
theorem dX1_readLetters_41 : decode cX1_readLetters 41 = .ok (.aload_n 0, 1) := by decide +kernel
theorem dX1_readLetters_42 : decode cX1_readLetters 42 = .ok (.getfield 74, 3) := by decide +kernel
theorem dX1_readLetters_45 : decode cX1_readLetters 45 = .ok (.imul, 1) := by decide +kernel
theorem dX1_readLetters_46 : decode cX1_readLetters 46 = .ok (.aload_n 0, 1) := by decide +kernel
theorem dX1_readLetters_47 : decode cX1_readLetters 47 = .ok (.getfield 64, 3) := by decide +kernel
theorem dX1_readLetters_50 : decode cX1_readLetters 50 = .ok (.iadd, 1) := by decide +kernel
theorem dX1_readLetters_51 : decode cX1_readLetters 51 = .ok (.putfield 74, 3) := by decide +kernel
theorem dX1_readLetters_54 : decode cX1_readLetters 54 = .ok (.aload_n 0, 1) := by decide +kernel
theorem dX1_readLetters_55 : decode cX1_readLetters 55 = .ok (.dup, 1) := by decide +kernel
theorem dX1_readLetters_56 : decode cX1_readLetters 56 = .ok (.getfield 71, 3) := by decide +kernel
theorem dX1_readLetters_59 : decode cX1_readLetters 59 = .ok (.iconst 1, 1) := by decide +kernel
theorem dX1_readLetters_60 : decode cX1_readLetters 60 = .ok (.iadd, 1) := by decide +kernel
theorem dX1_readLetters_61 : decode cX1_readLetters 61 = .ok (.putfield 71, 3) := by decide +kernel
theorem dX1_readLetters_64 : decode cX1_readLetters 64 = .ok (.aload_n 0, 1) := by decide +kernel
theorem dX1_readLetters_65 : decode cX1_readLetters 65 = .ok (.invokevirtual 29, 3) := by decide +kernel
theorem dX1_readLetters_68 : decode cX1_readLetters 68 = .ok (.iinc 3 1, 3) := by decide +kernel
theorem dX1_readLetters_71 : decode cX1_readLetters 71 = .ok (.goto (-55), 3) := by decide +kernel
theorem dX1_readLetters_74 : decode cX1_readLetters 74 = .ok (.aload_n 0, 1) := by decide +kernel
theorem dX1_readLetters_75 : decode cX1_readLetters 75 = .ok (.getfield 36, 3) := by decide +kernel
theorem dX1_readLetters_78 : decode cX1_readLetters 78 = .ok (.iconst 3, 1) := by decide +kernel
theorem dX1_readLetters_79 : decode cX1_readLetters 79 = .ok (.if_icmp .ne 15, 3) := by decide +kernel
theorem dX1_readLetters_82 : decode cX1_readLetters 82 = .ok (.aload_n 0, 1) := by decide +kernel
theorem dX1_readLetters_83 : decode cX1_readLetters 83 = .ok (.getfield 71, 3) := by decide +kernel
theorem dX1_readLetters_86 : decode cX1_readLetters 86 = .ok (.iload_n 1, 1) := by decide +kernel
theorem dX1_readLetters_87 : decode cX1_readLetters 87 = .ok (.if_icmp .lt 7, 3) := by decide +kernel
theorem dX1_readLetters_90 : decode cX1_readLetters 90 = .ok (.iconst 1, 1) := by decide +kernel
theorem dX1_readLetters_91 : decode cX1_readLetters 91 = .ok (.goto 4, 3) := by decide +kernel
theorem dX1_readLetters_94 : decode cX1_readLetters 94 = .ok (.iconst 0, 1) := by decide +kernel
theorem dX1_readLetters_95 : decode cX1_readLetters 95 = .ok (.ireturn, 1) := by decide +kernel
theorem dX1_advanceToNumber_0 : decode cX1_advanceToNumber 0 = .ok (.aload_n 0, 1) := by decide +kernel
theorem dX1_advanceToNumber_1 : decode cX1_advanceToNumber 1 = .ok (.invokevirtual 29, 3) := by decide +kernel
theorem dX1_advanceToNumber_4 : decode cX1_advanceToNumber 4 = .ok (.aload_n 0, 1) := by decide +kernel
theorem dX1_advanceToNumber_5 : decode cX1_advanceToNumber 5 = .ok (.getfield 36, 3) := by decide +kernel
theorem dX1_advanceToNumber_8 : decode cX1_advanceToNumber 8 = .ok (.iconst 2, 1) := by decide +kernel
theorem dX1_advanceToNumber_9 : decode cX1_advanceToNumber 9 = .ok (.if_icmp .ne 15, 3) := by decide +kernel
theorem dX1_advanceToNumber_12 : decode cX1_advanceToNumber 12 = .ok (.aload_n 0, 1) := by decide +kernel
theorem dX1_advanceToNumber_13 : decode cX1_advanceToNumber 13 = .ok (.getfield 64, 3) := by decide +kernel
theorem dX1_advanceToNumber_16 : decode cX1_advanceToNumber 16 = .ok (.iload_n 1, 1) := by decide +kernel
theorem dX1_advanceToNumber_17 : decode cX1_advanceToNumber 17 = .ok (.if_icmp .ge 7, 3) := by decide +kernel
theorem dX1_advanceToNumber_20 : decode cX1_advanceToNumber 20 = .ok (.iconst 1, 1) := by decide +kernel
theorem dX1_advanceToNumber_21 : decode cX1_advanceToNumber 21 = .ok (.goto 4, 3) := by decide +kernel
theorem dX1_advanceToNumber_24 : decode cX1_advanceToNumber 24 = .ok (.iconst 0, 1) := by decide +kernel
theorem dX1_advanceToNumber_25 : decode cX1_advanceToNumber 25 = .ok (.ireturn, 1) := by decide +kernel
theorem dX1_isName_0 : decode cX1_isName 0 = .ok (.aload_n 0, 1) := by decide +kernel
theorem dX1_isName_1 : decode cX1_isName 1 = .ok (.getfield 36, 3) := by decide +kernel
theorem dX1_isName_4 : decode cX1_isName 4 = .ok (.iconst 1, 1) := by decide +kernel
theorem dX1_isName_5 : decode cX1_isName 5 = .ok (.if_icmp .ne 19, 3) := by decide +kernel
theorem dX1_isName_8 : decode cX1_isName 8 = .ok (.aload_n 0, 1) := by decide +kernel
theorem dX1_isName_9 : decode cX1_isName 9 = .ok (.getfield 23, 3) := by decide +kernel
theorem dX1_isName_12 : decode cX1_isName 12 = .ok (.aload_n 0, 1) := by decide +kernel
theorem dX1_isName_13 : decode cX1_isName 13 = .ok (.getfield 105, 3) := by decide +kernel
theorem dX1_isName_16 : decode cX1_isName 16 = .ok (.isub, 1) := by decide +kernel
theorem dX1_isName_17 : decode cX1_isName 17 = .ok (.aload_n 1, 1) := by decide +kernel
theorem dX1_isName_18 : decode cX1_isName 18 = .ok (.invokevirtual 108, 3) := by decide +kernel
theorem dX1_isName_21 : decode cX1_isName 21 = .ok (.if_icmp .eq 5, 3) := by decide +kernel
theorem dX1_isName_24 : decode cX1_isName 24 = .ok (.iconst 0, 1) := by decide +kernel
theorem dX1_isName_25 : decode cX1_isName 25 = .ok (.ireturn, 1) := by decide +kernel
theorem dX1_isName_26 : decode cX1_isName 26 = .ok (.iconst 0, 1) := by decide +kernel
theorem dX1_isName_27 : decode cX1_isName 27 = .ok (.istore_n 2, 1) := by decide +kernel
theorem dX1_isName_28 : decode cX1_isName 28 = .ok (.iload_n 2, 1) := by decide +kernel
theorem dX1_isName_29 : decode cX1_isName 29 = .ok (.aload_n 1, 1) := by decide +kernel
theorem dX1_isName_30 : decode cX1_isName 30 = .ok (.invokevirtual 108, 3) := by decide +kernel
theorem dX1_isName_33 : decode cX1_isName 33 = .ok (.if_icmp .ge 32, 3) := by decide +kernel
theorem dX1_isName_36 : decode cX1_isName 36 = .ok (.aload_n 0, 1) := by decide +kernel
theorem dX1_isName_37 : decode cX1_isName 37 = .ok (.getfield 9, 3) := by decide +kernel
theorem dX1_isName_40 : decode cX1_isName 40 = .ok (.aload_n 0, 1) := by decide +kernel
theorem dX1_isName_41 : decode cX1_isName 41 = .ok (.getfield 105, 3) := by decide +kernel
theorem dX1_isName_44 : decode cX1_isName 44 = .ok (.iload_n 2, 1) := by decide +kernel
theorem dX1_isName_45 : decode cX1_isName 45 = .ok (.iadd, 1) := by decide +kernel
theorem dX1_isName_46 : decode cX1_isName 46 = .ok (.invokestatic 113, 3) := by decide +kernel
theorem dX1_isName_49 : decode cX1_isName 49 = .ok (.aload_n 1, 1) := by decide +kernel
theorem dX1_isName_50 : decode cX1_isName 50 = .ok (.iload_n 2, 1) := by decide +kernel
theorem dX1_isName_51 : decode cX1_isName 51 = .ok (.invokevirtual 117, 3) := by decide +kernel
theorem dX1_isName_54 : decode cX1_isName 54 = .ok (.if_icmp .eq 5, 3) := by decide +kernel
theorem dX1_isName_57 : decode cX1_isName 57 = .ok (.iconst 0, 1) := by decide +kernel
theorem dX1_isName_58 : decode cX1_isName 58 = .ok (.ireturn, 1) := by decide +kernel
theorem dX1_isName_59 : decode cX1_isName 59 = .ok (.iinc 2 1, 3) := by decide +kernel
theorem dX1_isName_62 : decode cX1_isName 62 = .ok (.goto (-34), 3) := by decide +kernel
theorem dX1_isName_65 : decode cX1_isName 65 = .ok (.iconst 1, 1) := by decide +kernel
theorem dX1_isName_66 : decode cX1_isName 66 = .ok (.ireturn, 1) := by decide +kernel
theorem dX1_advance_0 : decode cX1_advance 0 = .ok (.aload_n 0, 1) := by decide +kernel
theorem dX1_advance_1 : decode cX1_advance 1 = .ok (.getfield 23, 3) := by decide +kernel
theorem dX1_advance_4 : decode cX1_advance 4 = .ok (.aload_n 0, 1) := by decide +kernel
theorem dX1_advance_5 : decode cX1_advance 5 = .ok (.getfield 15, 3) := by decide +kernel
theorem dX1_advance_8 : decode cX1_advance 8 = .ok (.if_icmp .ge 32, 3) := by decide +kernel
theorem dX1_advance_11 : decode cX1_advance 11 = .ok (.aload_n 0, 1) := by decide +kernel
theorem dX1_advance_12 : decode cX1_advance 12 = .ok (.getfield 9, 3) := by decide +kernel
theorem dX1_advance_15 : decode cX1_advance 15 = .ok (.aload_n 0, 1) := by decide +kernel
theorem dX1_advance_16 : decode cX1_advance 16 = .ok (.getfield 23, 3) := by decide +kernel
theorem dX1_advance_19 : decode cX1_advance 19 = .ok (.invokestatic 113, 3) := by decide +kernel
theorem dX1_advance_22 : decode cX1_advance 22 = .ok (.bipush 32, 2) := by decide +kernel
theorem dX1_advance_24 : decode cX1_advance 24 = .ok (.if_icmp .ne 16, 3) := by decide +kernel
theorem dX1_advance_27 : decode cX1_advance 27 = .ok (.aload_n 0, 1) := by decide +kernel
theorem dX1_advance_28 : decode cX1_advance 28 = .ok (.dup, 1) := by decide +kernel
theorem dX1_advance_29 : decode cX1_advance 29 = .ok (.getfield 23, 3) := by decide +kernel
theorem dX1_advance_32 : decode cX1_advance 32 = .ok (.iconst 1, 1) := by decide +kernel
theorem dX1_advance_33 : decode cX1_advance 33 = .ok (.iadd, 1) := by decide +kernel
theorem dX1_advance_34 : decode cX1_advance 34 = .ok (.putfield 23, 3) := by decide +kernel
theorem dX1_advance_37 : decode cX1_advance 37 = .ok (.goto (-37), 3) := by decide +kernel
theorem dX1_advance_40 : decode cX1_advance 40 = .ok (.aload_n 0, 1) := by decide +kernel
theorem dX1_advance_41 : decode cX1_advance 41 = .ok (.aload_n 0, 1) := by decide +kernel
theorem dX1_advance_42 : decode cX1_advance 42 = .ok (.getfield 23, 3) := by decide +kernel
theorem dX1_advance_45 : decode cX1_advance 45 = .ok (.putfield 105, 3) := by decide +kernel
theorem dX1_advance_48 : decode cX1_advance 48 = .ok (.aload_n 0, 1) := by decide +kernel
theorem dX1_advance_49 : decode cX1_advance 49 = .ok (.iconst 0, 1) := by decide +kernel
theorem dX1_advance_50 : decode cX1_advance 50 = .ok (.putfield 64, 3) := by decide +kernel
theorem dX1_advance_53 : decode cX1_advance 53 = .ok (.aload_n 0, 1) := by decide +kernel
theorem dX1_advance_54 : decode cX1_advance 54 = .ok (.getfield 105, 3) := by decide +kernel
theorem dX1_advance_57 : decode cX1_advance 57 = .ok (.aload_n 0, 1) := by decide +kernel
theorem dX1_advance_58 : decode cX1_advance 58 = .ok (.getfield 15, 3) := by decide +kernel
theorem dX1_advance_61 : decode cX1_advance 61 = .ok (.if_icmp .lt 9, 3) := by decide +kernel
theorem dX1_advance_64 : decode cX1_advance 64 = .ok (.aload_n 0, 1) := by decide +kernel
theorem dX1_advance_65 : decode cX1_advance 65 = .ok (.iconst 0, 1) := by decide +kernel
theorem dX1_advance_66 : decode cX1_advance 66 = .ok (.putfield 36, 3) := by decide +kernel
theorem dX1_advance_69 : decode cX1_advance 69 = .ok (.return_, 1) := by decide +kernel
theorem dX1_advance_70 : decode cX1_advance 70 = .ok (.aload_n 0, 1) := by decide +kernel
theorem dX1_advance_71 : decode cX1_advance 71 = .ok (.getfield 9, 3) := by decide +kernel
theorem dX1_advance_74 : decode cX1_advance 74 = .ok (.aload_n 0, 1) := by decide +kernel
theorem dX1_advance_75 : decode cX1_advance 75 = .ok (.getfield 105, 3) := by decide +kernel
theorem dX1_advance_78 : decode cX1_advance 78 = .ok (.invokestatic 113, 3) := by decide +kernel
theorem dX1_advance_81 : decode cX1_advance 81 = .ok (.istore_n 1, 1) := by decide +kernel
theorem dX1_advance_82 : decode cX1_advance 82 = .ok (.iload_n 1, 1) := by decide +kernel
theorem dX1_advance_83 : decode cX1_advance 83 = .ok (.invokestatic 121, 3) := by decide +kernel
theorem dX1_advance_86 : decode cX1_advance 86 = .ok (.ifCond .eq 15, 3) := by decide +kernel
theorem dX1_advance_89 : decode cX1_advance 89 = .ok (.aload_n 0, 1) := by decide +kernel
theorem dX1_advance_90 : decode cX1_advance 90 = .ok (.iconst 1, 1) := by decide +kernel
theorem dX1_advance_91 : decode cX1_advance 91 = .ok (.putfield 36, 3) := by decide +kernel
theorem dX1_advance_94 : decode cX1_advance 94 = .ok (.aload_n 0, 1) := by decide +kernel
theorem dX1_advance_95 : decode cX1_advance 95 = .ok (.invokevirtual 124, 3) := by decide +kernel
theorem dX1_advance_98 : decode cX1_advance 98 = .ok (.goto 47, 3) := by decide +kernel
theorem dX1_advance_101 : decode cX1_advance 101 = .ok (.iload_n 1, 1) := by decide +kernel
theorem dX1_advance_102 : decode cX1_advance 102 = .ok (.invokestatic 127, 3) := by decide +kernel
theorem dX1_advance_105 : decode cX1_advance 105 = .ok (.ifCond .eq 15, 3) := by decide +kernel
theorem dX1_advance_108 : decode cX1_advance 108 = .ok (.aload_n 0, 1) := by decide +kernel
theorem dX1_advance_109 : decode cX1_advance 109 = .ok (.iconst 2, 1) := by decide +kernel
theorem dX1_advance_110 : decode cX1_advance 110 = .ok (.putfield 36, 3) := by decide +kernel
theorem dX1_advance_113 : decode cX1_advance 113 = .ok (.aload_n 0, 1) := by decide +kernel
theorem dX1_advance_114 : decode cX1_advance 114 = .ok (.invokevirtual 130, 3) := by decide +kernel
theorem dX1_advance_117 : decode cX1_advance 117 = .ok (.goto 28, 3) := by decide +kernel
theorem dX1_advance_120 : decode cX1_advance 120 = .ok (.aload_n 0, 1) := by decide +kernel
theorem dX1_advance_121 : decode cX1_advance 121 = .ok (.iload_n 1, 1) := by decide +kernel
theorem dX1_advance_122 : decode cX1_advance 122 = .ok (.bipush 59, 2) := by decide +kernel
theorem dX1_advance_124 : decode cX1_advance 124 = .ok (.if_icmp .ne 7, 3) := by decide +kernel
theorem dX1_advance_127 : decode cX1_advance 127 = .ok (.iconst 3, 1) := by decide +kernel
theorem dX1_advance_128 : decode cX1_advance 128 = .ok (.goto 4, 3) := by decide +kernel
theorem dX1_advance_131 : decode cX1_advance 131 = .ok (.iconst 4, 1) := by decide +kernel
theorem dX1_advance_132 : decode cX1_advance 132 = .ok (.putfield 36, 3) := by decide +kernel
theorem dX1_advance_135 : decode cX1_advance 135 = .ok (.aload_n 0, 1) := by decide +kernel
theorem dX1_advance_136 : decode cX1_advance 136 = .ok (.dup, 1) := by decide +kernel
theorem dX1_advance_137 : decode cX1_advance 137 = .ok (.getfield 23, 3) := by decide +kernel
theorem dX1_advance_140 : decode cX1_advance 140 = .ok (.iconst 1, 1) := by decide +kernel
theorem dX1_advance_141 : decode cX1_advance 141 = .ok (.iadd, 1) := by decide +kernel
theorem dX1_advance_142 : decode cX1_advance 142 = .ok (.putfield 23, 3) := by decide +kernel
theorem dX1_advance_145 : decode cX1_advance 145 = .ok (.return_, 1) := by decide +kernel
theorem dX1_passLetters_0 : decode cX1_passLetters 0 = .ok (.aload_n 0, 1) := by decide +kernel
theorem dX1_passLetters_1 : decode cX1_passLetters 1 = .ok (.getfield 23, 3) := by decide +kernel
theorem dX1_passLetters_4 : decode cX1_passLetters 4 = .ok (.aload_n 0, 1) := by decide +kernel
theorem dX1_passLetters_5 : decode cX1_passLetters 5 = .ok (.getfield 15, 3) := by decide +kernel
theorem dX1_passLetters_8 : decode cX1_passLetters 8 = .ok (.if_icmp .ge 33, 3) := by decide +kernel
theorem dX1_passLetters_11 : decode cX1_passLetters 11 = .ok (.aload_n 0, 1) := by decide +kernel
theorem dX1_passLetters_12 : decode cX1_passLetters 12 = .ok (.getfield 9, 3) := by decide +kernel
theorem dX1_passLetters_15 : decode cX1_passLetters 15 = .ok (.aload_n 0, 1) := by decide +kernel
theorem dX1_passLetters_16 : decode cX1_passLetters 16 = .ok (.getfield 23, 3) := by decide +kernel
theorem dX1_passLetters_19 : decode cX1_passLetters 19 = .ok (.invokestatic 113, 3) := by decide +kernel
theorem dX1_passLetters_22 : decode cX1_passLetters 22 = .ok (.invokestatic 121, 3) := by decide +kernel
theorem dX1_passLetters_25 : decode cX1_passLetters 25 = .ok (.ifCond .eq 16, 3) := by decide +kernel
theorem dX1_passLetters_28 : decode cX1_passLetters 28 = .ok (.aload_n 0, 1) := by decide +kernel
theorem dX1_passLetters_29 : decode cX1_passLetters 29 = .ok (.dup, 1) := by decide +kernel
theorem dX1_passLetters_30 : decode cX1_passLetters 30 = .ok (.getfield 23, 3) := by decide +kernel
theorem dX1_passLetters_33 : decode cX1_passLetters 33 = .ok (.iconst 1, 1) := by decide +kernel
theorem dX1_passLetters_34 : decode cX1_passLetters 34 = .ok (.iadd, 1) := by decide +kernel
theorem dX1_passLetters_35 : decode cX1_passLetters 35 = .ok (.putfield 23, 3) := by decide +kernel
theorem dX1_passLetters_38 : decode cX1_passLetters 38 = .ok (.goto (-38), 3) := by decide +kernel
theorem dX1_passLetters_41 : decode cX1_passLetters 41 = .ok (.return_, 1) := by decide +kernel
theorem dX1_passFigures_0 : decode cX1_passFigures 0 = .ok (.aload_n 0, 1) := by decide +kernel
theorem dX1_passFigures_1 : decode cX1_passFigures 1 = .ok (.getfield 23, 3) := by decide +kernel
theorem dX1_passFigures_4 : decode cX1_passFigures 4 = .ok (.aload_n 0, 1) := by decide +kernel
theorem dX1_passFigures_5 : decode cX1_passFigures 5 = .ok (.getfield 15, 3) := by decide +kernel
theorem dX1_passFigures_8 : decode cX1_passFigures 8 = .ok (.if_icmp .ge 72, 3) := by decide +kernel
theorem dX1_passFigures_11 : decode cX1_passFigures 11 = .ok (.aload_n 0, 1) := by decide +kernel
theorem dX1_passFigures_12 : decode cX1_passFigures 12 = .ok (.getfield 9, 3) := by decide +kernel
theorem dX1_passFigures_15 : decode cX1_passFigures 15 = .ok (.aload_n 0, 1) := by decide +kernel
theorem dX1_passFigures_16 : decode cX1_passFigures 16 = .ok (.getfield 23, 3) := by decide +kernel
theorem dX1_passFigures_19 : decode cX1_passFigures 19 = .ok (.invokestatic 113, 3) := by decide +kernel
theorem dX1_passFigures_22 : decode cX1_passFigures 22 = .ok (.invokestatic 127, 3) := by decide +kernel
theorem dX1_passFigures_25 : decode cX1_passFigures 25 = .ok (.ifCond .eq 55, 3) := by decide +kernel
theorem dX1_passFigures_28 : decode cX1_passFigures 28 = .ok (.aload_n 0, 1) := by decide +kernel
theorem dX1_passFigures_29 : decode cX1_passFigures 29 = .ok (.getfield 23, 3) := by decide +kernel
theorem dX1_passFigures_32 : decode cX1_passFigures 32 = .ok (.aload_n 0, 1) := by decide +kernel
theorem dX1_passFigures_33 : decode cX1_passFigures 33 = .ok (.getfield 105, 3) := by decide +kernel
theorem dX1_passFigures_36 : decode cX1_passFigures 36 = .ok (.isub, 1) := by decide +kernel
theorem dX1_passFigures_37 : decode cX1_passFigures 37 = .ok (.iconst 2, 1) := by decide +kernel
theorem dX1_passFigures_38 : decode cX1_passFigures 38 = .ok (.if_icmp .ge 29, 3) := by decide +kernel
theorem dX1_passFigures_41 : decode cX1_passFigures 41 = .ok (.aload_n 0, 1) := by decide +kernel
theorem dX1_passFigures_42 : decode cX1_passFigures 42 = .ok (.bipush 10, 2) := by decide +kernel
theorem dX1_passFigures_44 : decode cX1_passFigures 44 = .ok (.aload_n 0, 1) := by decide +kernel
theorem dX1_passFigures_45 : decode cX1_passFigures 45 = .ok (.getfield 64, 3) := by decide +kernel
theorem dX1_passFigures_48 : decode cX1_passFigures 48 = .ok (.imul, 1) := by decide +kernel
theorem dX1_passFigures_49 : decode cX1_passFigures 49 = .ok (.aload_n 0, 1) := by decide +kernel
theorem dX1_passFigures_50 : decode cX1_passFigures 50 = .ok (.getfield 9, 3) := by decide +kernel
theorem dX1_passFigures_53 : decode cX1_passFigures 53 = .ok (.aload_n 0, 1) := by decide +kernel
theorem dX1_passFigures_54 : decode cX1_passFigures 54 = .ok (.getfield 23, 3) := by decide +kernel
theorem dX1_passFigures_57 : decode cX1_passFigures 57 = .ok (.invokestatic 113, 3) := by decide +kernel
theorem dX1_passFigures_60 : decode cX1_passFigures 60 = .ok (.iadd, 1) := by decide +kernel
theorem dX1_passFigures_61 : decode cX1_passFigures 61 = .ok (.bipush 48, 2) := by decide +kernel
theorem dX1_passFigures_63 : decode cX1_passFigures 63 = .ok (.isub, 1) := by decide +kernel
theorem dX1_passFigures_64 : decode cX1_passFigures 64 = .ok (.putfield 64, 3) := by decide +kernel
theorem dX1_passFigures_67 : decode cX1_passFigures 67 = .ok (.aload_n 0, 1) := by decide +kernel
theorem dX1_passFigures_68 : decode cX1_passFigures 68 = .ok (.dup, 1) := by decide +kernel
theorem dX1_passFigures_69 : decode cX1_passFigures 69 = .ok (.getfield 23, 3) := by decide +kernel
theorem dX1_passFigures_72 : decode cX1_passFigures 72 = .ok (.iconst 1, 1) := by decide +kernel
theorem dX1_passFigures_73 : decode cX1_passFigures 73 = .ok (.iadd, 1) := by decide +kernel
theorem dX1_passFigures_74 : decode cX1_passFigures 74 = .ok (.putfield 23, 3) := by decide +kernel
theorem dX1_passFigures_77 : decode cX1_passFigures 77 = .ok (.goto (-77), 3) := by decide +kernel
theorem dX1_passFigures_80 : decode cX1_passFigures 80 = .ok (.aload_n 0, 1) := by decide +kernel
theorem dX1_passFigures_81 : decode cX1_passFigures 81 = .ok (.getfield 23, 3) := by decide +kernel
theorem dX1_passFigures_84 : decode cX1_passFigures 84 = .ok (.aload_n 0, 1) := by decide +kernel
theorem dX1_passFigures_85 : decode cX1_passFigures 85 = .ok (.getfield 105, 3) := by decide +kernel
theorem dX1_passFigures_88 : decode cX1_passFigures 88 = .ok (.isub, 1) := by decide +kernel
theorem dX1_passFigures_89 : decode cX1_passFigures 89 = .ok (.iconst 2, 1) := by decide +kernel
theorem dX1_passFigures_90 : decode cX1_passFigures 90 = .ok (.if_icmp .le 8, 3) := by decide +kernel
theorem dX1_passFigures_93 : decode cX1_passFigures 93 = .ok (.aload_n 0, 1) := by decide +kernel
theorem dX1_passFigures_94 : decode cX1_passFigures 94 = .ok (.iconst 4, 1) := by decide +kernel
theorem dX1_passFigures_95 : decode cX1_passFigures 95 = .ok (.putfield 36, 3) := by decide +kernel
theorem dX1_passFigures_98 : decode cX1_passFigures 98 = .ok (.return_, 1) := by decide +kernel
theorem dX1_isLetter_0 : decode cX1_isLetter 0 = .ok (.iload_n 0, 1) := by decide +kernel
theorem dX1_isLetter_1 : decode cX1_isLetter 1 = .ok (.bipush 97, 2) := by decide +kernel
theorem dX1_isLetter_3 : decode cX1_isLetter 3 = .ok (.if_icmp .lt 13, 3) := by decide +kernel
theorem dX1_isLetter_6 : decode cX1_isLetter 6 = .ok (.iload_n 0, 1) := by decide +kernel
theorem dX1_isLetter_7 : decode cX1_isLetter 7 = .ok (.bipush 122, 2) := by decide +kernel
theorem dX1_isLetter_9 : decode cX1_isLetter 9 = .ok (.if_icmp .gt 7, 3) := by decide +kernel
theorem dX1_isLetter_12 : decode cX1_isLetter 12 = .ok (.iconst 1, 1) := by decide +kernel
theorem dX1_isLetter_13 : decode cX1_isLetter 13 = .ok (.goto 4, 3) := by decide +kernel
theorem dX1_isLetter_16 : decode cX1_isLetter 16 = .ok (.iconst 0, 1) := by decide +kernel
theorem dX1_isLetter_17 : decode cX1_isLetter 17 = .ok (.ireturn, 1) := by decide +kernel
theorem dX1_isFigure_0 : decode cX1_isFigure 0 = .ok (.iload_n 0, 1) := by decide +kernel
theorem dX1_isFigure_1 : decode cX1_isFigure 1 = .ok (.bipush 48, 2) := by decide +kernel
theorem dX1_isFigure_3 : decode cX1_isFigure 3 = .ok (.if_icmp .lt 13, 3) := by decide +kernel
theorem dX1_isFigure_6 : decode cX1_isFigure 6 = .ok (.iload_n 0, 1) := by decide +kernel
theorem dX1_isFigure_7 : decode cX1_isFigure 7 = .ok (.bipush 57, 2) := by decide +kernel
theorem dX1_isFigure_9 : decode cX1_isFigure 9 = .ok (.if_icmp .gt 7, 3) := by decide +kernel
theorem dX1_isFigure_12 : decode cX1_isFigure 12 = .ok (.iconst 1, 1) := by decide +kernel
theorem dX1_isFigure_13 : decode cX1_isFigure 13 = .ok (.goto 4, 3) := by decide +kernel
theorem dX1_isFigure_16 : decode cX1_isFigure 16 = .ok (.iconst 0, 1) := by decide +kernel
theorem dX1_isFigure_17 : decode cX1_isFigure 17 = .ok (.ireturn, 1) := by decide +kernel
theorem dX2_init_0 : decode cX2_init 0 = .ok (.aload_n 0, 1) := by decide +kernel
theorem dX2_init_1 : decode cX2_init 1 = .ok (.invokespecial 3, 3) := by decide +kernel
theorem dX2_init_4 : decode cX2_init 4 = .ok (.aload_n 0, 1) := by decide +kernel
theorem dX2_init_5 : decode cX2_init 5 = .ok (.iconst 3, 1) := by decide +kernel
theorem dX2_init_6 : decode cX2_init 6 = .ok (.putfield 9, 3) := by decide +kernel
theorem dX2_init_9 : decode cX2_init 9 = .ok (.aload_n 0, 1) := by decide +kernel
theorem dX2_init_10 : decode cX2_init 10 = .ok (.bipush 8, 2) := by decide +kernel
theorem dX2_init_12 : decode cX2_init 12 = .ok (.newarray .int, 2) := by decide +kernel
theorem dX2_init_14 : decode cX2_init 14 = .ok (.putfield 15, 3) := by decide +kernel
theorem dX2_init_17 : decode cX2_init 17 = .ok (.aload_n 0, 1) := by decide +kernel
theorem dX2_init_18 : decode cX2_init 18 = .ok (.bipush 8, 2) := by decide +kernel
theorem dX2_init_20 : decode cX2_init 20 = .ok (.newarray .int, 2) := by decide +kernel
theorem dX2_init_22 : decode cX2_init 22 = .ok (.putfield 19, 3) := by decide +kernel
theorem dX2_init_25 : decode cX2_init 25 = .ok (.aload_n 0, 1) := by decide +kernel
theorem dX2_init_26 : decode cX2_init 26 = .ok (.bipush 8, 2) := by decide +kernel
theorem dX2_init_28 : decode cX2_init 28 = .ok (.newarray .int, 2) := by decide +kernel
theorem dX2_init_30 : decode cX2_init 30 = .ok (.putfield 22, 3) := by decide +kernel
theorem dX2_init_33 : decode cX2_init 33 = .ok (.aload_n 0, 1) := by decide +kernel
theorem dX2_init_34 : decode cX2_init 34 = .ok (.bipush 6, 2) := by decide +kernel
theorem dX2_init_36 : decode cX2_init 36 = .ok (.newarray .int, 2) := by decide +kernel
theorem dX2_init_38 : decode cX2_init 38 = .ok (.putfield 25, 3) := by decide +kernel
theorem dX2_init_41 : decode cX2_init 41 = .ok (.aload_n 0, 1) := by decide +kernel
theorem dX2_init_42 : decode cX2_init 42 = .ok (.bipush 18, 2) := by decide +kernel
theorem dX2_init_44 : decode cX2_init 44 = .ok (.newarray .int, 2) := by decide +kernel
theorem dX2_init_46 : decode cX2_init 46 = .ok (.putfield 28, 3) := by decide +kernel
theorem dX2_init_49 : decode cX2_init 49 = .ok (.aload_n 0, 1) := by decide +kernel
theorem dX2_init_50 : decode cX2_init 50 = .ok (.bipush 24, 2) := by decide +kernel
theorem dX2_init_52 : decode cX2_init 52 = .ok (.newarray .int, 2) := by decide +kernel
theorem dX2_init_54 : decode cX2_init 54 = .ok (.putfield 31, 3) := by decide +kernel
theorem dX2_init_57 : decode cX2_init 57 = .ok (.aload_n 0, 1) := by decide +kernel
theorem dX2_init_58 : decode cX2_init 58 = .ok (.bipush 48, 2) := by decide +kernel
theorem dX2_init_60 : decode cX2_init 60 = .ok (.newarray .int, 2) := by decide +kernel
theorem dX2_init_62 : decode cX2_init 62 = .ok (.putfield 34, 3) := by decide +kernel
theorem dX2_init_65 : decode cX2_init 65 = .ok (.aload_n 0, 1) := by decide +kernel
theorem dX2_init_66 : decode cX2_init 66 = .ok (.getfield 25, 3) := by decide +kernel
theorem dX2_init_69 : decode cX2_init 69 = .ok (.iconst (-1), 1) := by decide +kernel
theorem dX2_init_70 : decode cX2_init 70 = .ok (.invokestatic 37, 3) := by decide +kernel
theorem dX2_init_73 : decode cX2_init 73 = .ok (.return_, 1) := by decide +kernel
theorem dX2_begin_0 : decode cX2_begin 0 = .ok (.aload_n 0, 1) := by decide +kernel
theorem dX2_begin_1 : decode cX2_begin 1 = .ok (.iload_n 1, 1) := by decide +kernel
theorem dX2_begin_2 : decode cX2_begin 2 = .ok (.putfield 43, 3) := by decide +kernel
theorem dX2_begin_5 : decode cX2_begin 5 = .ok (.aload_n 0, 1) := by decide +kernel
theorem dX2_begin_6 : decode cX2_begin 6 = .ok (.iload_n 2, 1) := by decide +kernel
theorem dX2_begin_7 : decode cX2_begin 7 = .ok (.putfield 9, 3) := by decide +kernel
theorem dX2_begin_10 : decode cX2_begin 10 = .ok (.aload_n 0, 1) := by decide +kernel
theorem dX2_begin_11 : decode cX2_begin 11 = .ok (.iload_n 3, 1) := by decide +kernel
theorem dX2_begin_12 : decode cX2_begin 12 = .ok (.putfield 46, 3) := by decide +kernel
theorem dX2_begin_15 : decode cX2_begin 15 = .ok (.aload_n 0, 1) := by decide +kernel
theorem dX2_begin_16 : decode cX2_begin 16 = .ok (.iconst 0, 1) := by decide +kernel
theorem dX2_begin_17 : decode cX2_begin 17 = .ok (.putfield 49, 3) := by decide +kernel
theorem dX2_begin_20 : decode cX2_begin 20 = .ok (.aload_n 0, 1) := by decide +kernel
theorem dX2_begin_21 : decode cX2_begin 21 = .ok (.iconst 0, 1) := by decide +kernel
theorem dX2_begin_22 : decode cX2_begin 22 = .ok (.putfield 52, 3) := by decide +kernel
theorem dX2_begin_25 : decode cX2_begin 25 = .ok (.aload_n 0, 1) := by decide +kernel
theorem dX2_begin_26 : decode cX2_begin 26 = .ok (.iconst 0, 1) := by decide +kernel
theorem dX2_begin_27 : decode cX2_begin 27 = .ok (.putfield 55, 3) := by decide +kernel
theorem dX2_begin_30 : decode cX2_begin 30 = .ok (.aload_n 0, 1) := by decide +kernel
theorem dX2_begin_31 : decode cX2_begin 31 = .ok (.iconst 0, 1) := by decide +kernel
theorem dX2_begin_32 : decode cX2_begin 32 = .ok (.putfield 58, 3) := by decide +kernel
theorem dX2_begin_35 : decode cX2_begin 35 = .ok (.aload_n 0, 1) := by decide +kernel
theorem dX2_begin_36 : decode cX2_begin 36 = .ok (.getfield 25, 3) := by decide +kernel
theorem dX2_begin_39 : decode cX2_begin 39 = .ok (.iconst (-1), 1) := by decide +kernel
theorem dX2_begin_40 : decode cX2_begin 40 = .ok (.invokestatic 37, 3) := by decide +kernel
theorem dX2_begin_43 : decode cX2_begin 43 = .ok (.return_, 1) := by decide +kernel
theorem dX2_copyFrom_0 : decode cX2_copyFrom 0 = .ok (.aload_n 0, 1) := by decide +kernel
theorem dX2_copyFrom_1 : decode cX2_copyFrom 1 = .ok (.aload_n 1, 1) := by decide +kernel
theorem dX2_copyFrom_2 : decode cX2_copyFrom 2 = .ok (.getfield 43, 3) := by decide +kernel
theorem dX2_copyFrom_5 : decode cX2_copyFrom 5 = .ok (.putfield 43, 3) := by decide +kernel
theorem dX2_copyFrom_8 : decode cX2_copyFrom 8 = .ok (.aload_n 0, 1) := by decide +kernel
theorem dX2_copyFrom_9 : decode cX2_copyFrom 9 = .ok (.aload_n 1, 1) := by decide +kernel
theorem dX2_copyFrom_10 : decode cX2_copyFrom 10 = .ok (.getfield 9, 3) := by decide +kernel
theorem dX2_copyFrom_13 : decode cX2_copyFrom 13 = .ok (.putfield 9, 3) := by decide +kernel
theorem dX2_copyFrom_16 : decode cX2_copyFrom 16 = .ok (.aload_n 0, 1) := by decide +kernel
theorem dX2_copyFrom_17 : decode cX2_copyFrom 17 = .ok (.aload_n 1, 1) := by decide +kernel
theorem dX2_copyFrom_18 : decode cX2_copyFrom 18 = .ok (.getfield 46, 3) := by decide +kernel
theorem dX2_copyFrom_21 : decode cX2_copyFrom 21 = .ok (.putfield 46, 3) := by decide +kernel
theorem dX2_copyFrom_24 : decode cX2_copyFrom 24 = .ok (.aload_n 0, 1) := by decide +kernel
theorem dX2_copyFrom_25 : decode cX2_copyFrom 25 = .ok (.aload_n 1, 1) := by decide +kernel
theorem dX2_copyFrom_26 : decode cX2_copyFrom 26 = .ok (.getfield 49, 3) := by decide +kernel
theorem dX2_copyFrom_29 : decode cX2_copyFrom 29 = .ok (.putfield 49, 3) := by decide +kernel
theorem dX2_copyFrom_32 : decode cX2_copyFrom 32 = .ok (.aload_n 0, 1) := by decide +kernel
theorem dX2_copyFrom_33 : decode cX2_copyFrom 33 = .ok (.aload_n 1, 1) := by decide +kernel
theorem dX2_copyFrom_34 : decode cX2_copyFrom 34 = .ok (.getfield 52, 3) := by decide +kernel
theorem dX2_copyFrom_37 : decode cX2_copyFrom 37 = .ok (.putfield 52, 3) := by decide +kernel
theorem dX2_copyFrom_40 : decode cX2_copyFrom 40 = .ok (.aload_n 0, 1) := by decide +kernel
theorem dX2_copyFrom_41 : decode cX2_copyFrom 41 = .ok (.aload_n 1, 1) := by decide +kernel
theorem dX2_copyFrom_42 : decode cX2_copyFrom 42 = .ok (.getfield 55, 3) := by decide +kernel
theorem dX2_copyFrom_45 : decode cX2_copyFrom 45 = .ok (.putfield 55, 3) := by decide +kernel
theorem dX2_copyFrom_48 : decode cX2_copyFrom 48 = .ok (.aload_n 0, 1) := by decide +kernel
theorem dX2_copyFrom_49 : decode cX2_copyFrom 49 = .ok (.aload_n 1, 1) := by decide +kernel
theorem dX2_copyFrom_50 : decode cX2_copyFrom 50 = .ok (.getfield 58, 3) := by decide +kernel
theorem dX2_copyFrom_53 : decode cX2_copyFrom 53 = .ok (.putfield 58, 3) := by decide +kernel
theorem dX2_copyFrom_56 : decode cX2_copyFrom 56 = .ok (.aload_n 1, 1) := by decide +kernel
theorem dX2_copyFrom_57 : decode cX2_copyFrom 57 = .ok (.getfield 15, 3) := by decide +kernel
theorem dX2_copyFrom_60 : decode cX2_copyFrom 60 = .ok (.aload_n 0, 1) := by decide +kernel
theorem dX2_copyFrom_61 : decode cX2_copyFrom 61 = .ok (.getfield 15, 3) := by decide +kernel
theorem dX2_copyFrom_64 : decode cX2_copyFrom 64 = .ok (.invokestatic 61, 3) := by decide +kernel
theorem dX2_copyFrom_67 : decode cX2_copyFrom 67 = .ok (.aload_n 1, 1) := by decide +kernel
theorem dX2_copyFrom_68 : decode cX2_copyFrom 68 = .ok (.getfield 19, 3) := by decide +kernel
theorem dX2_copyFrom_71 : decode cX2_copyFrom 71 = .ok (.aload_n 0, 1) := by decide +kernel
theorem dX2_copyFrom_72 : decode cX2_copyFrom 72 = .ok (.getfield 19, 3) := by decide +kernel
theorem dX2_copyFrom_75 : decode cX2_copyFrom 75 = .ok (.invokestatic 61, 3) := by decide +kernel
theorem dX2_copyFrom_78 : decode cX2_copyFrom 78 = .ok (.aload_n 1, 1) := by decide +kernel
theorem dX2_copyFrom_79 : decode cX2_copyFrom 79 = .ok (.getfield 22, 3) := by decide +kernel
theorem dX2_copyFrom_82 : decode cX2_copyFrom 82 = .ok (.aload_n 0, 1) := by decide +kernel
theorem dX2_copyFrom_83 : decode cX2_copyFrom 83 = .ok (.getfield 22, 3) := by decide +kernel
theorem dX2_copyFrom_86 : decode cX2_copyFrom 86 = .ok (.invokestatic 61, 3) := by decide +kernel
theorem dX2_copyFrom_89 : decode cX2_copyFrom 89 = .ok (.aload_n 1, 1) := by decide +kernel
theorem dX2_copyFrom_90 : decode cX2_copyFrom 90 = .ok (.getfield 25, 3) := by decide +kernel
theorem dX2_copyFrom_93 : decode cX2_copyFrom 93 = .ok (.aload_n 0, 1) := by decide +kernel
theorem dX2_copyFrom_94 : decode cX2_copyFrom 94 = .ok (.getfield 25, 3) := by decide +kernel
theorem dX2_copyFrom_97 : decode cX2_copyFrom 97 = .ok (.invokestatic 61, 3) := by decide +kernel
theorem dX2_copyFrom_100 : decode cX2_copyFrom 100 = .ok (.aload_n 1, 1) := by decide +kernel
theorem dX2_copyFrom_101 : decode cX2_copyFrom 101 = .ok (.getfield 28, 3) := by decide +kernel
theorem dX2_copyFrom_104 : decode cX2_copyFrom 104 = .ok (.aload_n 0, 1) := by decide +kernel
theorem dX2_copyFrom_105 : decode cX2_copyFrom 105 = .ok (.getfield 28, 3) := by decide +kernel
theorem dX2_copyFrom_108 : decode cX2_copyFrom 108 = .ok (.invokestatic 61, 3) := by decide +kernel
theorem dX2_copyFrom_111 : decode cX2_copyFrom 111 = .ok (.aload_n 1, 1) := by decide +kernel
theorem dX2_copyFrom_112 : decode cX2_copyFrom 112 = .ok (.getfield 31, 3) := by decide +kernel
theorem dX2_copyFrom_115 : decode cX2_copyFrom 115 = .ok (.aload_n 0, 1) := by decide +kernel
theorem dX2_copyFrom_116 : decode cX2_copyFrom 116 = .ok (.getfield 31, 3) := by decide +kernel
theorem dX2_copyFrom_119 : decode cX2_copyFrom 119 = .ok (.invokestatic 61, 3) := by decide +kernel
theorem dX2_copyFrom_122 : decode cX2_copyFrom 122 = .ok (.aload_n 1, 1) := by decide +kernel
theorem dX2_copyFrom_123 : decode cX2_copyFrom 123 = .ok (.getfield 34, 3) := by decide +kernel
theorem dX2_copyFrom_126 : decode cX2_copyFrom 126 = .ok (.aload_n 0, 1) := by decide +kernel
theorem dX2_copyFrom_127 : decode cX2_copyFrom 127 = .ok (.getfield 34, 3) := by decide +kernel
theorem dX2_copyFrom_130 : decode cX2_copyFrom 130 = .ok (.invokestatic 61, 3) := by decide +kernel
theorem dX2_copyFrom_133 : decode cX2_copyFrom 133 = .ok (.return_, 1) := by decide +kernel
theorem dX2_hasWord_0 : decode cX2_hasWord 0 = .ok (.iload_n 1, 1) := by decide +kernel
theorem dX2_hasWord_1 : decode cX2_hasWord 1 = .ok (.ifCond .lt 15, 3) := by decide +kernel
theorem dX2_hasWord_4 : decode cX2_hasWord 4 = .ok (.iload_n 1, 1) := by decide +kernel
theorem dX2_hasWord_5 : decode cX2_hasWord 5 = .ok (.aload_n 0, 1) := by decide +kernel
theorem dX2_hasWord_6 : decode cX2_hasWord 6 = .ok (.getfield 49, 3) := by decide +kernel
theorem dX2_hasWord_9 : decode cX2_hasWord 9 = .ok (.if_icmp .ge 7, 3) := by decide +kernel
theorem dX2_hasWord_12 : decode cX2_hasWord 12 = .ok (.iconst 1, 1) := by decide +kernel
theorem dX2_hasWord_13 : decode cX2_hasWord 13 = .ok (.goto 4, 3) := by decide +kernel
theorem dX2_hasWord_16 : decode cX2_hasWord 16 = .ok (.iconst 0, 1) := by decide +kernel
theorem dX2_hasWord_17 : decode cX2_hasWord 17 = .ok (.ireturn, 1) := by decide +kernel
theorem dX2_hasLine_0 : decode cX2_hasLine 0 = .ok (.iload_n 1, 1) := by decide +kernel
theorem dX2_hasLine_1 : decode cX2_hasLine 1 = .ok (.ifCond .lt 15, 3) := by decide +kernel
theorem dX2_hasLine_4 : decode cX2_hasLine 4 = .ok (.iload_n 1, 1) := by decide +kernel
theorem dX2_hasLine_5 : decode cX2_hasLine 5 = .ok (.aload_n 0, 1) := by decide +kernel
theorem dX2_hasLine_6 : decode cX2_hasLine 6 = .ok (.getfield 9, 3) := by decide +kernel
theorem dX2_hasLine_9 : decode cX2_hasLine 9 = .ok (.if_icmp .ge 7, 3) := by decide +kernel
theorem dX2_hasLine_12 : decode cX2_hasLine 12 = .ok (.iconst 1, 1) := by decide +kernel
theorem dX2_hasLine_13 : decode cX2_hasLine 13 = .ok (.goto 4, 3) := by decide +kernel
theorem dX2_hasLine_16 : decode cX2_hasLine 16 = .ok (.iconst 0, 1) := by decide +kernel
theorem dX2_hasLine_17 : decode cX2_hasLine 17 = .ok (.ireturn, 1) := by decide +kernel
theorem dX2_kindOf_0 : decode cX2_kindOf 0 = .ok (.aload_n 0, 1) := by decide +kernel
theorem dX2_kindOf_1 : decode cX2_kindOf 1 = .ok (.getfield 15, 3) := by decide +kernel
theorem dX2_kindOf_4 : decode cX2_kindOf 4 = .ok (.iload_n 1, 1) := by decide +kernel
theorem dX2_kindOf_5 : decode cX2_kindOf 5 = .ok (.invokestatic 65, 3) := by decide +kernel
theorem dX2_kindOf_8 : decode cX2_kindOf 8 = .ok (.ireturn, 1) := by decide +kernel
theorem dX2_lengthOf_0 : decode cX2_lengthOf 0 = .ok (.aload_n 0, 1) := by decide +kernel
theorem dX2_lengthOf_1 : decode cX2_lengthOf 1 = .ok (.getfield 19, 3) := by decide +kernel
theorem dX2_lengthOf_4 : decode cX2_lengthOf 4 = .ok (.iload_n 1, 1) := by decide +kernel
theorem dX2_lengthOf_5 : decode cX2_lengthOf 5 = .ok (.invokestatic 65, 3) := by decide +kernel
theorem dX2_lengthOf_8 : decode cX2_lengthOf 8 = .ok (.ireturn, 1) := by decide +kernel
theorem dX2_codeOf_0 : decode cX2_codeOf 0 = .ok (.aload_n 0, 1) := by decide +kernel
theorem dX2_codeOf_1 : decode cX2_codeOf 1 = .ok (.getfield 22, 3) := by decide +kernel
theorem dX2_codeOf_4 : decode cX2_codeOf 4 = .ok (.iload_n 1, 1) := by decide +kernel
theorem dX2_codeOf_5 : decode cX2_codeOf 5 = .ok (.invokestatic 65, 3) := by decide +kernel
theorem dX2_codeOf_8 : decode cX2_codeOf 8 = .ok (.ireturn, 1) := by decide +kernel
theorem dX2_wordOn_0 : decode cX2_wordOn 0 = .ok (.aload_n 0, 1) := by decide +kernel
theorem dX2_wordOn_1 : decode cX2_wordOn 1 = .ok (.iload_n 1, 1) := by decide +kernel
theorem dX2_wordOn_2 : decode cX2_wordOn 2 = .ok (.invokevirtual 69, 3) := by decide +kernel
theorem dX2_wordOn_5 : decode cX2_wordOn 5 = .ok (.ifCond .eq 14, 3) := by decide +kernel
theorem dX2_wordOn_8 : decode cX2_wordOn 8 = .ok (.aload_n 0, 1) := by decide +kernel
theorem dX2_wordOn_9 : decode cX2_wordOn 9 = .ok (.getfield 25, 3) := by decide +kernel
theorem dX2_wordOn_12 : decode cX2_wordOn 12 = .ok (.iload_n 1, 1) := by decide +kernel
theorem dX2_wordOn_13 : decode cX2_wordOn 13 = .ok (.invokestatic 65, 3) := by decide +kernel
theorem dX2_wordOn_16 : decode cX2_wordOn 16 = .ok (.goto 4, 3) := by decide +kernel
theorem dX2_wordOn_19 : decode cX2_wordOn 19 = .ok (.iconst (-1), 1) := by decide +kernel
theorem dX2_wordOn_20 : decode cX2_wordOn 20 = .ok (.ireturn, 1) := by decide +kernel
theorem dX2_lineOf_0 : decode cX2_lineOf 0 = .ok (.iconst 0, 1) := by decide +kernel
theorem dX2_lineOf_1 : decode cX2_lineOf 1 = .ok (.istore_n 2, 1) := by decide +kernel
theorem dX2_lineOf_2 : decode cX2_lineOf 2 = .ok (.iload_n 2, 1) := by decide +kernel
theorem dX2_lineOf_3 : decode cX2_lineOf 3 = .ok (.aload_n 0, 1) := by decide +kernel
theorem dX2_lineOf_4 : decode cX2_lineOf 4 = .ok (.getfield 9, 3) := by decide +kernel
theorem dX2_lineOf_7 : decode cX2_lineOf 7 = .ok (.if_icmp .ge 20, 3) := by decide +kernel
theorem dX2_lineOf_10 : decode cX2_lineOf 10 = .ok (.aload_n 0, 1) := by decide +kernel
theorem dX2_lineOf_11 : decode cX2_lineOf 11 = .ok (.iload_n 2, 1) := by decide +kernel
theorem dX2_lineOf_12 : decode cX2_lineOf 12 = .ok (.invokevirtual 73, 3) := by decide +kernel
theorem dX2_lineOf_15 : decode cX2_lineOf 15 = .ok (.iload_n 1, 1) := by decide +kernel
theorem dX2_lineOf_16 : decode cX2_lineOf 16 = .ok (.if_icmp .ne 5, 3) := by decide +kernel
theorem dX2_lineOf_19 : decode cX2_lineOf 19 = .ok (.iload_n 2, 1) := by decide +kernel
theorem dX2_lineOf_20 : decode cX2_lineOf 20 = .ok (.ireturn, 1) := by decide +kernel
theorem dX2_lineOf_21 : decode cX2_lineOf 21 = .ok (.iinc 2 1, 3) := by decide +kernel
theorem dX2_lineOf_24 : decode cX2_lineOf 24 = .ok (.goto (-22), 3) := by decide +kernel
theorem dX2_lineOf_27 : decode cX2_lineOf 27 = .ok (.iconst (-1), 1) := by decide +kernel
theorem dX2_lineOf_28 : decode cX2_lineOf 28 = .ok (.ireturn, 1) := by decide +kernel
theorem dX2_knows_0 : decode cX2_knows 0 = .ok (.iconst 0, 1) := by decide +kernel
theorem dX2_knows_1 : decode cX2_knows 1 = .ok (.istore_n 3, 1) := by decide +kernel
theorem dX2_knows_2 : decode cX2_knows 2 = .ok (.iload_n 3, 1) := by decide +kernel
theorem dX2_knows_3 : decode cX2_knows 3 = .ok (.aload_n 0, 1) := by decide +kernel
theorem dX2_knows_4 : decode cX2_knows 4 = .ok (.getfield 49, 3) := by decide +kernel
theorem dX2_knows_7 : decode cX2_knows 7 = .ok (.if_icmp .ge 29, 3) := by decide +kernel
theorem dX2_knows_10 : decode cX2_knows 10 = .ok (.aload_n 0, 1) := by decide +kernel
theorem dX2_knows_11 : decode cX2_knows 11 = .ok (.iload_n 3, 1) := by decide +kernel
theorem dX2_knows_12 : decode cX2_knows 12 = .ok (.invokevirtual 77, 3) := by decide +kernel
theorem dX2_knows_15 : decode cX2_knows 15 = .ok (.iload_n 1, 1) := by decide +kernel
theorem dX2_knows_16 : decode cX2_knows 16 = .ok (.if_icmp .ne 14, 3) := by decide +kernel
theorem dX2_knows_19 : decode cX2_knows 19 = .ok (.aload_n 0, 1) := by decide +kernel
theorem dX2_knows_20 : decode cX2_knows 20 = .ok (.iload_n 3, 1) := by decide +kernel
theorem dX2_knows_21 : decode cX2_knows 21 = .ok (.invokevirtual 80, 3) := by decide +kernel
theorem dX2_knows_24 : decode cX2_knows 24 = .ok (.iload_n 2, 1) := by decide +kernel
theorem dX2_knows_25 : decode cX2_knows 25 = .ok (.if_icmp .ne 5, 3) := by decide +kernel
theorem dX2_knows_28 : decode cX2_knows 28 = .ok (.iconst 1, 1) := by decide +kernel
theorem dX2_knows_29 : decode cX2_knows 29 = .ok (.ireturn, 1) := by decide +kernel
theorem dX2_knows_30 : decode cX2_knows 30 = .ok (.iinc 3 1, 3) := by decide +kernel
theorem dX2_knows_33 : decode cX2_knows 33 = .ok (.goto (-31), 3) := by decide +kernel
theorem dX2_knows_36 : decode cX2_knows 36 = .ok (.iconst 0, 1) := by decide +kernel
theorem dX2_knows_37 : decode cX2_knows 37 = .ok (.ireturn, 1) := by decide +kernel
theorem dX2_addWord_0 : decode cX2_addWord 0 = .ok (.aload_n 0, 1) := by decide +kernel
theorem dX2_addWord_1 : decode cX2_addWord 1 = .ok (.getfield 15, 3) := by decide +kernel
theorem dX2_addWord_4 : decode cX2_addWord 4 = .ok (.aload_n 0, 1) := by decide +kernel
theorem dX2_addWord_5 : decode cX2_addWord 5 = .ok (.getfield 49, 3) := by decide +kernel
theorem dX2_addWord_8 : decode cX2_addWord 8 = .ok (.iload_n 1, 1) := by decide +kernel
theorem dX2_addWord_9 : decode cX2_addWord 9 = .ok (.invokestatic 83, 3) := by decide +kernel
theorem dX2_addWord_12 : decode cX2_addWord 12 = .ok (.aload_n 0, 1) := by decide +kernel
theorem dX2_addWord_13 : decode cX2_addWord 13 = .ok (.getfield 19, 3) := by decide +kernel
theorem dX2_addWord_16 : decode cX2_addWord 16 = .ok (.aload_n 0, 1) := by decide +kernel
theorem dX2_addWord_17 : decode cX2_addWord 17 = .ok (.getfield 49, 3) := by decide +kernel
theorem dX2_addWord_20 : decode cX2_addWord 20 = .ok (.iload_n 2, 1) := by decide +kernel
theorem dX2_addWord_21 : decode cX2_addWord 21 = .ok (.invokestatic 83, 3) := by decide +kernel
theorem dX2_addWord_24 : decode cX2_addWord 24 = .ok (.aload_n 0, 1) := by decide +kernel
theorem dX2_addWord_25 : decode cX2_addWord 25 = .ok (.getfield 22, 3) := by decide +kernel
theorem dX2_addWord_28 : decode cX2_addWord 28 = .ok (.aload_n 0, 1) := by decide +kernel
theorem dX2_addWord_29 : decode cX2_addWord 29 = .ok (.getfield 49, 3) := by decide +kernel
theorem dX2_addWord_32 : decode cX2_addWord 32 = .ok (.iload_n 3, 1) := by decide +kernel
theorem dX2_addWord_33 : decode cX2_addWord 33 = .ok (.invokestatic 83, 3) := by decide +kernel
theorem dX2_addWord_36 : decode cX2_addWord 36 = .ok (.aload_n 0, 1) := by decide +kernel
theorem dX2_addWord_37 : decode cX2_addWord 37 = .ok (.dup, 1) := by decide +kernel
theorem dX2_addWord_38 : decode cX2_addWord 38 = .ok (.getfield 49, 3) := by decide +kernel
theorem dX2_addWord_41 : decode cX2_addWord 41 = .ok (.iconst 1, 1) := by decide +kernel
theorem dX2_addWord_42 : decode cX2_addWord 42 = .ok (.iadd, 1) := by decide +kernel
theorem dX2_addWord_43 : decode cX2_addWord 43 = .ok (.putfield 49, 3) := by decide +kernel
theorem dX2_addWord_46 : decode cX2_addWord 46 = .ok (.return_, 1) := by decide +kernel
theorem dX2_targetLetter_0 : decode cX2_targetLetter 0 = .ok (.aload_n 0, 1) := by decide +kernel
theorem dX2_targetLetter_1 : decode cX2_targetLetter 1 = .ok (.getfield 46, 3) := by decide +kernel
theorem dX2_targetLetter_4 : decode cX2_targetLetter 4 = .ok (.aload_n 0, 1) := by decide +kernel
theorem dX2_targetLetter_5 : decode cX2_targetLetter 5 = .ok (.getfield 9, 3) := by decide +kernel
theorem dX2_targetLetter_8 : decode cX2_targetLetter 8 = .ok (.iload_n 1, 1) := by decide +kernel
theorem dX2_targetLetter_9 : decode cX2_targetLetter 9 = .ok (.invokestatic 87, 3) := by decide +kernel
theorem dX2_targetLetter_12 : decode cX2_targetLetter 12 = .ok (.ireturn, 1) := by decide +kernel
theorem dX2_letterBy_0 : decode cX2_letterBy 0 = .ok (.aload_n 0, 1) := by decide +kernel
theorem dX2_letterBy_1 : decode cX2_letterBy 1 = .ok (.getfield 19, 3) := by decide +kernel
theorem dX2_letterBy_4 : decode cX2_letterBy 4 = .ok (.iload_n 2, 1) := by decide +kernel
theorem dX2_letterBy_5 : decode cX2_letterBy 5 = .ok (.invokestatic 65, 3) := by decide +kernel
theorem dX2_letterBy_8 : decode cX2_letterBy 8 = .ok (.istore 4, 2) := by decide +kernel
theorem dX2_letterBy_10 : decode cX2_letterBy 10 = .ok (.aload_n 0, 1) := by decide +kernel
theorem dX2_letterBy_11 : decode cX2_letterBy 11 = .ok (.getfield 22, 3) := by decide +kernel
theorem dX2_letterBy_14 : decode cX2_letterBy 14 = .ok (.iload_n 2, 1) := by decide +kernel
theorem dX2_letterBy_15 : decode cX2_letterBy 15 = .ok (.invokestatic 65, 3) := by decide +kernel
theorem dX2_letterBy_18 : decode cX2_letterBy 18 = .ok (.iload 4, 2) := by decide +kernel
theorem dX2_letterBy_20 : decode cX2_letterBy 20 = .ok (.iload_n 1, 1) := by decide +kernel
theorem dX2_letterBy_21 : decode cX2_letterBy 21 = .ok (.iload 4, 2) := by decide +kernel
theorem dX2_letterBy_23 : decode cX2_letterBy 23 = .ok (.iload_n 3, 1) := by decide +kernel
theorem dX2_letterBy_24 : decode cX2_letterBy 24 = .ok (.invokestatic 91, 3) := by decide +kernel
theorem dX2_letterBy_27 : decode cX2_letterBy 27 = .ok (.invokestatic 87, 3) := by decide +kernel
theorem dX2_letterBy_30 : decode cX2_letterBy 30 = .ok (.ireturn, 1) := by decide +kernel
theorem dX2_fitsBy_0 : decode cX2_fitsBy 0 = .ok (.aload_n 0, 1) := by decide +kernel
theorem dX2_fitsBy_1 : decode cX2_fitsBy 1 = .ok (.iload_n 1, 1) := by decide +kernel
theorem dX2_fitsBy_2 : decode cX2_fitsBy 2 = .ok (.iload_n 2, 1) := by decide +kernel
theorem dX2_fitsBy_3 : decode cX2_fitsBy 3 = .ok (.iload_n 3, 1) := by decide +kernel
theorem dX2_fitsBy_4 : decode cX2_fitsBy 4 = .ok (.invokevirtual 94, 3) := by decide +kernel
theorem dX2_fitsBy_7 : decode cX2_fitsBy 7 = .ok (.aload_n 0, 1) := by decide +kernel
theorem dX2_fitsBy_8 : decode cX2_fitsBy 8 = .ok (.iload_n 3, 1) := by decide +kernel
theorem dX2_fitsBy_9 : decode cX2_fitsBy 9 = .ok (.invokevirtual 97, 3) := by decide +kernel
theorem dX2_fitsBy_12 : decode cX2_fitsBy 12 = .ok (.if_icmp .ne 7, 3) := by decide +kernel
theorem dX2_fitsBy_15 : decode cX2_fitsBy 15 = .ok (.iconst 1, 1) := by decide +kernel
theorem dX2_fitsBy_16 : decode cX2_fitsBy 16 = .ok (.goto 4, 3) := by decide +kernel
theorem dX2_fitsBy_19 : decode cX2_fitsBy 19 = .ok (.iconst 0, 1) := by decide +kernel
theorem dX2_fitsBy_20 : decode cX2_fitsBy 20 = .ok (.ireturn, 1) := by decide +kernel
theorem dX2_costBy_0 : decode cX2_costBy 0 = .ok (.aload_n 0, 1) := by decide +kernel
theorem dX2_costBy_1 : decode cX2_costBy 1 = .ok (.iload_n 1, 1) := by decide +kernel
theorem dX2_costBy_2 : decode cX2_costBy 2 = .ok (.invokevirtual 100, 3) := by decide +kernel
theorem dX2_costBy_5 : decode cX2_costBy 5 = .ok (.aload_n 0, 1) := by decide +kernel
theorem dX2_costBy_6 : decode cX2_costBy 6 = .ok (.iload_n 1, 1) := by decide +kernel
theorem dX2_costBy_7 : decode cX2_costBy 7 = .ok (.invokevirtual 77, 3) := by decide +kernel
theorem dX2_costBy_10 : decode cX2_costBy 10 = .ok (.iload_n 2, 1) := by decide +kernel
theorem dX2_costBy_11 : decode cX2_costBy 11 = .ok (.invokestatic 103, 3) := by decide +kernel
theorem dX2_costBy_14 : decode cX2_costBy 14 = .ok (.ireturn, 1) := by decide +kernel
theorem dX2_costOnLine_0 : decode cX2_costOnLine 0 = .ok (.aload_n 0, 1) := by decide +kernel
theorem dX2_costOnLine_1 : decode cX2_costOnLine 1 = .ok (.iload_n 1, 1) := by decide +kernel
theorem dX2_costOnLine_2 : decode cX2_costOnLine 2 = .ok (.invokevirtual 73, 3) := by decide +kernel
theorem dX2_costOnLine_5 : decode cX2_costOnLine 5 = .ok (.istore_n 2, 1) := by decide +kernel
theorem dX2_costOnLine_6 : decode cX2_costOnLine 6 = .ok (.iload_n 2, 1) := by decide +kernel
theorem dX2_costOnLine_7 : decode cX2_costOnLine 7 = .ok (.iconst (-1), 1) := by decide +kernel
theorem dX2_costOnLine_8 : decode cX2_costOnLine 8 = .ok (.if_icmp .ne 7, 3) := by decide +kernel
theorem dX2_costOnLine_11 : decode cX2_costOnLine 11 = .ok (.iconst 0, 1) := by decide +kernel
theorem dX2_costOnLine_12 : decode cX2_costOnLine 12 = .ok (.goto 9, 3) := by decide +kernel
theorem dX2_costOnLine_15 : decode cX2_costOnLine 15 = .ok (.aload_n 0, 1) := by decide +kernel
theorem dX2_costOnLine_16 : decode cX2_costOnLine 16 = .ok (.iload_n 2, 1) := by decide +kernel
theorem dX2_costOnLine_17 : decode cX2_costOnLine 17 = .ok (.iload_n 1, 1) := by decide +kernel
theorem dX2_costOnLine_18 : decode cX2_costOnLine 18 = .ok (.invokevirtual 106, 3) := by decide +kernel
theorem dX2_costOnLine_21 : decode cX2_costOnLine 21 = .ok (.ireturn, 1) := by decide +kernel
theorem dX2_isRight_0 : decode cX2_isRight 0 = .ok (.aload_n 0, 1) := by decide +kernel
theorem dX2_isRight_1 : decode cX2_isRight 1 = .ok (.iload_n 1, 1) := by decide +kernel
theorem dX2_isRight_2 : decode cX2_isRight 2 = .ok (.invokevirtual 73, 3) := by decide +kernel
theorem dX2_isRight_5 : decode cX2_isRight 5 = .ok (.istore_n 2, 1) := by decide +kernel
theorem dX2_isRight_6 : decode cX2_isRight 6 = .ok (.iload_n 2, 1) := by decide +kernel
theorem dX2_isRight_7 : decode cX2_isRight 7 = .ok (.iconst (-1), 1) := by decide +kernel
theorem dX2_isRight_8 : decode cX2_isRight 8 = .ok (.if_icmp .eq 20, 3) := by decide +kernel
theorem dX2_isRight_11 : decode cX2_isRight 11 = .ok (.aload_n 0, 1) := by decide +kernel
theorem dX2_isRight_12 : decode cX2_isRight 12 = .ok (.aload_n 0, 1) := by decide +kernel
theorem dX2_isRight_13 : decode cX2_isRight 13 = .ok (.getfield 43, 3) := by decide +kernel
theorem dX2_isRight_16 : decode cX2_isRight 16 = .ok (.iload_n 2, 1) := by decide +kernel
theorem dX2_isRight_17 : decode cX2_isRight 17 = .ok (.iload_n 1, 1) := by decide +kernel
theorem dX2_isRight_18 : decode cX2_isRight 18 = .ok (.invokevirtual 110, 3) := by decide +kernel
theorem dX2_isRight_21 : decode cX2_isRight 21 = .ok (.ifCond .eq 7, 3) := by decide +kernel
theorem dX2_isRight_24 : decode cX2_isRight 24 = .ok (.iconst 1, 1) := by decide +kernel
theorem dX2_isRight_25 : decode cX2_isRight 25 = .ok (.goto 4, 3) := by decide +kernel
theorem dX2_isRight_28 : decode cX2_isRight 28 = .ok (.iconst 0, 1) := by decide +kernel
theorem dX2_isRight_29 : decode cX2_isRight 29 = .ok (.ireturn, 1) := by decide +kernel
theorem dX2_filledLines_0 : decode cX2_filledLines 0 = .ok (.iconst 0, 1) := by decide +kernel
theorem dX2_filledLines_1 : decode cX2_filledLines 1 = .ok (.istore_n 1, 1) := by decide +kernel
theorem dX2_filledLines_2 : decode cX2_filledLines 2 = .ok (.iconst 0, 1) := by decide +kernel
theorem dX2_filledLines_3 : decode cX2_filledLines 3 = .ok (.istore_n 2, 1) := by decide +kernel
theorem dX2_filledLines_4 : decode cX2_filledLines 4 = .ok (.iload_n 2, 1) := by decide +kernel
theorem dX2_filledLines_5 : decode cX2_filledLines 5 = .ok (.aload_n 0, 1) := by decide +kernel
theorem dX2_filledLines_6 : decode cX2_filledLines 6 = .ok (.getfield 9, 3) := by decide +kernel
theorem dX2_filledLines_9 : decode cX2_filledLines 9 = .ok (.if_icmp .ge 26, 3) := by decide +kernel
theorem dX2_filledLines_12 : decode cX2_filledLines 12 = .ok (.iload_n 1, 1) := by decide +kernel
theorem dX2_filledLines_13 : decode cX2_filledLines 13 = .ok (.aload_n 0, 1) := by decide +kernel
theorem dX2_filledLines_14 : decode cX2_filledLines 14 = .ok (.iload_n 2, 1) := by decide +kernel
theorem dX2_filledLines_15 : decode cX2_filledLines 15 = .ok (.invokevirtual 73, 3) := by decide +kernel
theorem dX2_filledLines_18 : decode cX2_filledLines 18 = .ok (.iconst (-1), 1) := by decide +kernel
theorem dX2_filledLines_19 : decode cX2_filledLines 19 = .ok (.if_icmp .eq 7, 3) := by decide +kernel
theorem dX2_filledLines_22 : decode cX2_filledLines 22 = .ok (.iconst 1, 1) := by decide +kernel
theorem dX2_filledLines_23 : decode cX2_filledLines 23 = .ok (.goto 4, 3) := by decide +kernel
theorem dX2_filledLines_26 : decode cX2_filledLines 26 = .ok (.iconst 0, 1) := by decide +kernel
theorem dX2_filledLines_27 : decode cX2_filledLines 27 = .ok (.iadd, 1) := by decide +kernel
theorem dX2_filledLines_28 : decode cX2_filledLines 28 = .ok (.istore_n 1, 1) := by decide +kernel
theorem dX2_filledLines_29 : decode cX2_filledLines 29 = .ok (.iinc 2 1, 3) := by decide +kernel
theorem dX2_filledLines_32 : decode cX2_filledLines 32 = .ok (.goto (-28), 3) := by decide +kernel
theorem dX2_filledLines_35 : decode cX2_filledLines 35 = .ok (.iload_n 1, 1) := by decide +kernel
theorem dX2_filledLines_36 : decode cX2_filledLines 36 = .ok (.ireturn, 1) := by decide +kernel
theorem dX2_rightLines_0 : decode cX2_rightLines 0 = .ok (.iconst 0, 1) := by decide +kernel
theorem dX2_rightLines_1 : decode cX2_rightLines 1 = .ok (.istore_n 1, 1) := by decide +kernel
theorem dX2_rightLines_2 : decode cX2_rightLines 2 = .ok (.iconst 0, 1) := by decide +kernel
theorem dX2_rightLines_3 : decode cX2_rightLines 3 = .ok (.istore_n 2, 1) := by decide +kernel
theorem dX2_rightLines_4 : decode cX2_rightLines 4 = .ok (.iload_n 2, 1) := by decide +kernel
theorem dX2_rightLines_5 : decode cX2_rightLines 5 = .ok (.aload_n 0, 1) := by decide +kernel
theorem dX2_rightLines_6 : decode cX2_rightLines 6 = .ok (.getfield 9, 3) := by decide +kernel
theorem dX2_rightLines_9 : decode cX2_rightLines 9 = .ok (.if_icmp .ge 25, 3) := by decide +kernel
theorem dX2_rightLines_12 : decode cX2_rightLines 12 = .ok (.iload_n 1, 1) := by decide +kernel
theorem dX2_rightLines_13 : decode cX2_rightLines 13 = .ok (.aload_n 0, 1) := by decide +kernel
theorem dX2_rightLines_14 : decode cX2_rightLines 14 = .ok (.iload_n 2, 1) := by decide +kernel
theorem dX2_rightLines_15 : decode cX2_rightLines 15 = .ok (.invokevirtual 114, 3) := by decide +kernel
theorem dX2_rightLines_18 : decode cX2_rightLines 18 = .ok (.ifCond .eq 7, 3) := by decide +kernel
theorem dX2_rightLines_21 : decode cX2_rightLines 21 = .ok (.iconst 1, 1) := by decide +kernel
theorem dX2_rightLines_22 : decode cX2_rightLines 22 = .ok (.goto 4, 3) := by decide +kernel
theorem dX2_rightLines_25 : decode cX2_rightLines 25 = .ok (.iconst 0, 1) := by decide +kernel
theorem dX2_rightLines_26 : decode cX2_rightLines 26 = .ok (.iadd, 1) := by decide +kernel
theorem dX2_rightLines_27 : decode cX2_rightLines 27 = .ok (.istore_n 1, 1) := by decide +kernel
theorem dX2_rightLines_28 : decode cX2_rightLines 28 = .ok (.iinc 2 1, 3) := by decide +kernel
theorem dX2_rightLines_31 : decode cX2_rightLines 31 = .ok (.goto (-27), 3) := by decide +kernel
theorem dX2_rightLines_34 : decode cX2_rightLines 34 = .ok (.iload_n 1, 1) := by decide +kernel
theorem dX2_rightLines_35 : decode cX2_rightLines 35 = .ok (.ireturn, 1) := by decide +kernel
theorem dX2_costOfLines_0 : decode cX2_costOfLines 0 = .ok (.iconst 0, 1) := by decide +kernel
theorem dX2_costOfLines_1 : decode cX2_costOfLines 1 = .ok (.istore_n 1, 1) := by decide +kernel
theorem dX2_costOfLines_2 : decode cX2_costOfLines 2 = .ok (.iconst 0, 1) := by decide +kernel
theorem dX2_costOfLines_3 : decode cX2_costOfLines 3 = .ok (.istore_n 2, 1) := by decide +kernel
theorem dX2_costOfLines_4 : decode cX2_costOfLines 4 = .ok (.iload_n 2, 1) := by decide +kernel
theorem dX2_costOfLines_5 : decode cX2_costOfLines 5 = .ok (.aload_n 0, 1) := by decide +kernel
theorem dX2_costOfLines_6 : decode cX2_costOfLines 6 = .ok (.getfield 9, 3) := by decide +kernel
theorem dX2_costOfLines_9 : decode cX2_costOfLines 9 = .ok (.if_icmp .ge 17, 3) := by decide +kernel
theorem dX2_costOfLines_12 : decode cX2_costOfLines 12 = .ok (.iload_n 1, 1) := by decide +kernel
theorem dX2_costOfLines_13 : decode cX2_costOfLines 13 = .ok (.aload_n 0, 1) := by decide +kernel
theorem dX2_costOfLines_14 : decode cX2_costOfLines 14 = .ok (.iload_n 2, 1) := by decide +kernel
theorem dX2_costOfLines_15 : decode cX2_costOfLines 15 = .ok (.invokevirtual 117, 3) := by decide +kernel
theorem dX2_costOfLines_18 : decode cX2_costOfLines 18 = .ok (.iadd, 1) := by decide +kernel
theorem dX2_costOfLines_19 : decode cX2_costOfLines 19 = .ok (.istore_n 1, 1) := by decide +kernel
theorem dX2_costOfLines_20 : decode cX2_costOfLines 20 = .ok (.iinc 2 1, 3) := by decide +kernel
theorem dX2_costOfLines_23 : decode cX2_costOfLines 23 = .ok (.goto (-19), 3) := by decide +kernel
theorem dX2_costOfLines_26 : decode cX2_costOfLines 26 = .ok (.iload_n 1, 1) := by decide +kernel
theorem dX2_costOfLines_27 : decode cX2_costOfLines 27 = .ok (.ireturn, 1) := by decide +kernel
theorem dX2_firstEmptyLine_0 : decode cX2_firstEmptyLine 0 = .ok (.iconst 0, 1) := by decide +kernel
theorem dX2_firstEmptyLine_1 : decode cX2_firstEmptyLine 1 = .ok (.istore_n 1, 1) := by decide +kernel
theorem dX2_firstEmptyLine_2 : decode cX2_firstEmptyLine 2 = .ok (.iload_n 1, 1) := by decide +kernel
theorem dX2_firstEmptyLine_3 : decode cX2_firstEmptyLine 3 = .ok (.aload_n 0, 1) := by decide +kernel
theorem dX2_firstEmptyLine_4 : decode cX2_firstEmptyLine 4 = .ok (.getfield 9, 3) := by decide +kernel
theorem dX2_firstEmptyLine_7 : decode cX2_firstEmptyLine 7 = .ok (.if_icmp .ge 20, 3) := by decide +kernel
theorem dX2_firstEmptyLine_10 : decode cX2_firstEmptyLine 10 = .ok (.aload_n 0, 1) := by decide +kernel
theorem dX2_firstEmptyLine_11 : decode cX2_firstEmptyLine 11 = .ok (.iload_n 1, 1) := by decide +kernel
theorem dX2_firstEmptyLine_12 : decode cX2_firstEmptyLine 12 = .ok (.invokevirtual 73, 3) := by decide +kernel
theorem dX2_firstEmptyLine_15 : decode cX2_firstEmptyLine 15 = .ok (.iconst (-1), 1) := by decide +kernel
theorem dX2_firstEmptyLine_16 : decode cX2_firstEmptyLine 16 = .ok (.if_icmp .ne 5, 3) := by decide +kernel
theorem dX2_firstEmptyLine_19 : decode cX2_firstEmptyLine 19 = .ok (.iload_n 1, 1) := by decide +kernel
theorem dX2_firstEmptyLine_20 : decode cX2_firstEmptyLine 20 = .ok (.ireturn, 1) := by decide +kernel
theorem dX2_firstEmptyLine_21 : decode cX2_firstEmptyLine 21 = .ok (.iinc 1 1, 3) := by decide +kernel
theorem dX2_firstEmptyLine_24 : decode cX2_firstEmptyLine 24 = .ok (.goto (-22), 3) := by decide +kernel
theorem dX2_firstEmptyLine_27 : decode cX2_firstEmptyLine 27 = .ok (.iconst (-1), 1) := by decide +kernel
theorem dX2_firstEmptyLine_28 : decode cX2_firstEmptyLine 28 = .ok (.ireturn, 1) := by decide +kernel
theorem dX2_keepForUndo_0 : decode cX2_keepForUndo 0 = .ok (.aload_n 0, 1) := by decide +kernel
theorem dX2_keepForUndo_1 : decode cX2_keepForUndo 1 = .ok (.getfield 58, 3) := by decide +kernel
theorem dX2_keepForUndo_4 : decode cX2_keepForUndo 4 = .ok (.bipush 8, 2) := by decide +kernel
theorem dX2_keepForUndo_6 : decode cX2_keepForUndo 6 = .ok (.if_icmp .lt 7, 3) := by decide +kernel
theorem dX2_keepForUndo_9 : decode cX2_keepForUndo 9 = .ok (.aload_n 0, 1) := by decide +kernel
theorem dX2_keepForUndo_10 : decode cX2_keepForUndo 10 = .ok (.invokevirtual 120, 3) := by decide +kernel
theorem dX2_keepForUndo_13 : decode cX2_keepForUndo 13 = .ok (.iconst 0, 1) := by decide +kernel
theorem dX2_keepForUndo_14 : decode cX2_keepForUndo 14 = .ok (.istore_n 1, 1) := by decide +kernel
theorem dX2_keepForUndo_15 : decode cX2_keepForUndo 15 = .ok (.iload_n 1, 1) := by decide +kernel
theorem dX2_keepForUndo_16 : decode cX2_keepForUndo 16 = .ok (.bipush 6, 2) := by decide +kernel
theorem dX2_keepForUndo_18 : decode cX2_keepForUndo 18 = .ok (.if_icmp .ge 33, 3) := by decide +kernel
theorem dX2_keepForUndo_21 : decode cX2_keepForUndo 21 = .ok (.aload_n 0, 1) := by decide +kernel
theorem dX2_keepForUndo_22 : decode cX2_keepForUndo 22 = .ok (.getfield 34, 3) := by decide +kernel
theorem dX2_keepForUndo_25 : decode cX2_keepForUndo 25 = .ok (.aload_n 0, 1) := by decide +kernel
theorem dX2_keepForUndo_26 : decode cX2_keepForUndo 26 = .ok (.getfield 58, 3) := by decide +kernel
theorem dX2_keepForUndo_29 : decode cX2_keepForUndo 29 = .ok (.bipush 6, 2) := by decide +kernel
theorem dX2_keepForUndo_31 : decode cX2_keepForUndo 31 = .ok (.imul, 1) := by decide +kernel
theorem dX2_keepForUndo_32 : decode cX2_keepForUndo 32 = .ok (.iload_n 1, 1) := by decide +kernel
theorem dX2_keepForUndo_33 : decode cX2_keepForUndo 33 = .ok (.iadd, 1) := by decide +kernel
theorem dX2_keepForUndo_34 : decode cX2_keepForUndo 34 = .ok (.aload_n 0, 1) := by decide +kernel
theorem dX2_keepForUndo_35 : decode cX2_keepForUndo 35 = .ok (.getfield 25, 3) := by decide +kernel
theorem dX2_keepForUndo_38 : decode cX2_keepForUndo 38 = .ok (.iload_n 1, 1) := by decide +kernel
theorem dX2_keepForUndo_39 : decode cX2_keepForUndo 39 = .ok (.invokestatic 65, 3) := by decide +kernel
theorem dX2_keepForUndo_42 : decode cX2_keepForUndo 42 = .ok (.invokestatic 83, 3) := by decide +kernel
theorem dX2_keepForUndo_45 : decode cX2_keepForUndo 45 = .ok (.iinc 1 1, 3) := by decide +kernel
theorem dX2_keepForUndo_48 : decode cX2_keepForUndo 48 = .ok (.goto (-33), 3) := by decide +kernel
theorem dX2_keepForUndo_51 : decode cX2_keepForUndo 51 = .ok (.aload_n 0, 1) := by decide +kernel
theorem dX2_keepForUndo_52 : decode cX2_keepForUndo 52 = .ok (.dup, 1) := by decide +kernel
theorem dX2_keepForUndo_53 : decode cX2_keepForUndo 53 = .ok (.getfield 58, 3) := by decide +kernel
theorem dX2_keepForUndo_56 : decode cX2_keepForUndo 56 = .ok (.iconst 1, 1) := by decide +kernel
theorem dX2_keepForUndo_57 : decode cX2_keepForUndo 57 = .ok (.iadd, 1) := by decide +kernel
theorem dX2_keepForUndo_58 : decode cX2_keepForUndo 58 = .ok (.putfield 58, 3) := by decide +kernel
theorem dX2_keepForUndo_61 : decode cX2_keepForUndo 61 = .ok (.return_, 1) := by decide +kernel
theorem dX2_dropOldestUndo_0 : decode cX2_dropOldestUndo 0 = .ok (.bipush 6, 2) := by decide +kernel
theorem dX2_dropOldestUndo_2 : decode cX2_dropOldestUndo 2 = .ok (.istore_n 1, 1) := by decide +kernel
theorem dX2_dropOldestUndo_3 : decode cX2_dropOldestUndo 3 = .ok (.iload_n 1, 1) := by decide +kernel
theorem dX2_dropOldestUndo_4 : decode cX2_dropOldestUndo 4 = .ok (.bipush 48, 2) := by decide +kernel
theorem dX2_dropOldestUndo_6 : decode cX2_dropOldestUndo 6 = .ok (.if_icmp .ge 28, 3) := by decide +kernel
theorem dX2_dropOldestUndo_9 : decode cX2_dropOldestUndo 9 = .ok (.aload_n 0, 1) := by decide +kernel
theorem dX2_dropOldestUndo_10 : decode cX2_dropOldestUndo 10 = .ok (.getfield 34, 3) := by decide +kernel
theorem dX2_dropOldestUndo_13 : decode cX2_dropOldestUndo 13 = .ok (.iload_n 1, 1) := by decide +kernel
theorem dX2_dropOldestUndo_14 : decode cX2_dropOldestUndo 14 = .ok (.bipush 6, 2) := by decide +kernel
theorem dX2_dropOldestUndo_16 : decode cX2_dropOldestUndo 16 = .ok (.isub, 1) := by decide +kernel
theorem dX2_dropOldestUndo_17 : decode cX2_dropOldestUndo 17 = .ok (.aload_n 0, 1) := by decide +kernel
theorem dX2_dropOldestUndo_18 : decode cX2_dropOldestUndo 18 = .ok (.getfield 34, 3) := by decide +kernel
theorem dX2_dropOldestUndo_21 : decode cX2_dropOldestUndo 21 = .ok (.iload_n 1, 1) := by decide +kernel
theorem dX2_dropOldestUndo_22 : decode cX2_dropOldestUndo 22 = .ok (.invokestatic 65, 3) := by decide +kernel
theorem dX2_dropOldestUndo_25 : decode cX2_dropOldestUndo 25 = .ok (.invokestatic 83, 3) := by decide +kernel
theorem dX2_dropOldestUndo_28 : decode cX2_dropOldestUndo 28 = .ok (.iinc 1 1, 3) := by decide +kernel
theorem dX2_dropOldestUndo_31 : decode cX2_dropOldestUndo 31 = .ok (.goto (-28), 3) := by decide +kernel
theorem dX2_dropOldestUndo_34 : decode cX2_dropOldestUndo 34 = .ok (.aload_n 0, 1) := by decide +kernel
theorem dX2_dropOldestUndo_35 : decode cX2_dropOldestUndo 35 = .ok (.bipush 7, 2) := by decide +kernel
theorem dX2_dropOldestUndo_37 : decode cX2_dropOldestUndo 37 = .ok (.putfield 58, 3) := by decide +kernel
theorem dX2_dropOldestUndo_40 : decode cX2_dropOldestUndo 40 = .ok (.return_, 1) := by decide +kernel
theorem dX2_undoLast_0 : decode cX2_undoLast 0 = .ok (.aload_n 0, 1) := by decide +kernel
theorem dX2_undoLast_1 : decode cX2_undoLast 1 = .ok (.dup, 1) := by decide +kernel
theorem dX2_undoLast_2 : decode cX2_undoLast 2 = .ok (.getfield 58, 3) := by decide +kernel
theorem dX2_undoLast_5 : decode cX2_undoLast 5 = .ok (.iconst 1, 1) := by decide +kernel
theorem dX2_undoLast_6 : decode cX2_undoLast 6 = .ok (.isub, 1) := by decide +kernel
theorem dX2_undoLast_7 : decode cX2_undoLast 7 = .ok (.putfield 58, 3) := by decide +kernel
theorem dX2_undoLast_10 : decode cX2_undoLast 10 = .ok (.iconst 0, 1) := by decide +kernel
theorem dX2_undoLast_11 : decode cX2_undoLast 11 = .ok (.istore_n 1, 1) := by decide +kernel
theorem dX2_undoLast_12 : decode cX2_undoLast 12 = .ok (.iload_n 1, 1) := by decide +kernel
theorem dX2_undoLast_13 : decode cX2_undoLast 13 = .ok (.bipush 6, 2) := by decide +kernel
theorem dX2_undoLast_15 : decode cX2_undoLast 15 = .ok (.if_icmp .ge 33, 3) := by decide +kernel
theorem dX2_undoLast_18 : decode cX2_undoLast 18 = .ok (.aload_n 0, 1) := by decide +kernel
theorem dX2_undoLast_19 : decode cX2_undoLast 19 = .ok (.getfield 25, 3) := by decide +kernel
theorem dX2_undoLast_22 : decode cX2_undoLast 22 = .ok (.iload_n 1, 1) := by decide +kernel
theorem dX2_undoLast_23 : decode cX2_undoLast 23 = .ok (.aload_n 0, 1) := by decide +kernel
theorem dX2_undoLast_24 : decode cX2_undoLast 24 = .ok (.getfield 34, 3) := by decide +kernel
theorem dX2_undoLast_27 : decode cX2_undoLast 27 = .ok (.aload_n 0, 1) := by decide +kernel
theorem dX2_undoLast_28 : decode cX2_undoLast 28 = .ok (.getfield 58, 3) := by decide +kernel
theorem dX2_undoLast_31 : decode cX2_undoLast 31 = .ok (.bipush 6, 2) := by decide +kernel
theorem dX2_undoLast_33 : decode cX2_undoLast 33 = .ok (.imul, 1) := by decide +kernel
theorem dX2_undoLast_34 : decode cX2_undoLast 34 = .ok (.iload_n 1, 1) := by decide +kernel
theorem dX2_undoLast_35 : decode cX2_undoLast 35 = .ok (.iadd, 1) := by decide +kernel
theorem dX2_undoLast_36 : decode cX2_undoLast 36 = .ok (.invokestatic 65, 3) := by decide +kernel
theorem dX2_undoLast_39 : decode cX2_undoLast 39 = .ok (.invokestatic 83, 3) := by decide +kernel
theorem dX2_undoLast_42 : decode cX2_undoLast 42 = .ok (.iinc 1 1, 3) := by decide +kernel
theorem dX2_undoLast_45 : decode cX2_undoLast 45 = .ok (.goto (-33), 3) := by decide +kernel
theorem dX2_undoLast_48 : decode cX2_undoLast 48 = .ok (.return_, 1) := by decide +kernel
theorem dX2_addNote_0 : decode cX2_addNote 0 = .ok (.aload_n 0, 1) := by decide +kernel
theorem dX2_addNote_1 : decode cX2_addNote 1 = .ok (.getfield 52, 3) := by decide +kernel
theorem dX2_addNote_4 : decode cX2_addNote 4 = .ok (.iconst 3, 1) := by decide +kernel
theorem dX2_addNote_5 : decode cX2_addNote 5 = .ok (.imul, 1) := by decide +kernel
theorem dX2_addNote_6 : decode cX2_addNote 6 = .ok (.istore 4, 2) := by decide +kernel
theorem dX2_addNote_8 : decode cX2_addNote 8 = .ok (.aload_n 0, 1) := by decide +kernel
theorem dX2_addNote_9 : decode cX2_addNote 9 = .ok (.getfield 28, 3) := by decide +kernel
theorem dX2_addNote_12 : decode cX2_addNote 12 = .ok (.iload 4, 2) := by decide +kernel
theorem dX2_addNote_14 : decode cX2_addNote 14 = .ok (.iload_n 1, 1) := by decide +kernel
theorem dX2_addNote_15 : decode cX2_addNote 15 = .ok (.invokestatic 83, 3) := by decide +kernel
theorem dX2_addNote_18 : decode cX2_addNote 18 = .ok (.aload_n 0, 1) := by decide +kernel
theorem dX2_addNote_19 : decode cX2_addNote 19 = .ok (.getfield 28, 3) := by decide +kernel
theorem dX2_addNote_22 : decode cX2_addNote 22 = .ok (.iload 4, 2) := by decide +kernel
theorem dX2_addNote_24 : decode cX2_addNote 24 = .ok (.iconst 1, 1) := by decide +kernel
theorem dX2_addNote_25 : decode cX2_addNote 25 = .ok (.iadd, 1) := by decide +kernel
theorem dX2_addNote_26 : decode cX2_addNote 26 = .ok (.iload_n 2, 1) := by decide +kernel
theorem dX2_addNote_27 : decode cX2_addNote 27 = .ok (.invokestatic 83, 3) := by decide +kernel
theorem dX2_addNote_30 : decode cX2_addNote 30 = .ok (.aload_n 0, 1) := by decide +kernel
theorem dX2_addNote_31 : decode cX2_addNote 31 = .ok (.getfield 28, 3) := by decide +kernel
theorem dX2_addNote_34 : decode cX2_addNote 34 = .ok (.iload 4, 2) := by decide +kernel
theorem dX2_addNote_36 : decode cX2_addNote 36 = .ok (.iconst 2, 1) := by decide +kernel
theorem dX2_addNote_37 : decode cX2_addNote 37 = .ok (.iadd, 1) := by decide +kernel
theorem dX2_addNote_38 : decode cX2_addNote 38 = .ok (.iload_n 3, 1) := by decide +kernel
theorem dX2_addNote_39 : decode cX2_addNote 39 = .ok (.invokestatic 83, 3) := by decide +kernel
theorem dX2_addNote_42 : decode cX2_addNote 42 = .ok (.aload_n 0, 1) := by decide +kernel
theorem dX2_addNote_43 : decode cX2_addNote 43 = .ok (.dup, 1) := by decide +kernel
theorem dX2_addNote_44 : decode cX2_addNote 44 = .ok (.getfield 52, 3) := by decide +kernel
theorem dX2_addNote_47 : decode cX2_addNote 47 = .ok (.iconst 1, 1) := by decide +kernel
theorem dX2_addNote_48 : decode cX2_addNote 48 = .ok (.iadd, 1) := by decide +kernel
theorem dX2_addNote_49 : decode cX2_addNote 49 = .ok (.putfield 52, 3) := by decide +kernel
theorem dX2_addNote_52 : decode cX2_addNote 52 = .ok (.return_, 1) := by decide +kernel
theorem dX2_addMark_0 : decode cX2_addMark 0 = .ok (.aload_n 0, 1) := by decide +kernel
theorem dX2_addMark_1 : decode cX2_addMark 1 = .ok (.getfield 55, 3) := by decide +kernel
theorem dX2_addMark_4 : decode cX2_addMark 4 = .ok (.iconst 4, 1) := by decide +kernel
theorem dX2_addMark_5 : decode cX2_addMark 5 = .ok (.imul, 1) := by decide +kernel
theorem dX2_addMark_6 : decode cX2_addMark 6 = .ok (.istore 5, 2) := by decide +kernel
theorem dX2_addMark_8 : decode cX2_addMark 8 = .ok (.aload_n 0, 1) := by decide +kernel
theorem dX2_addMark_9 : decode cX2_addMark 9 = .ok (.getfield 31, 3) := by decide +kernel
theorem dX2_addMark_12 : decode cX2_addMark 12 = .ok (.iload 5, 2) := by decide +kernel
theorem dX2_addMark_14 : decode cX2_addMark 14 = .ok (.iload_n 1, 1) := by decide +kernel
theorem dX2_addMark_15 : decode cX2_addMark 15 = .ok (.invokestatic 83, 3) := by decide +kernel
theorem dX2_addMark_18 : decode cX2_addMark 18 = .ok (.aload_n 0, 1) := by decide +kernel
theorem dX2_addMark_19 : decode cX2_addMark 19 = .ok (.getfield 31, 3) := by decide +kernel
theorem dX2_addMark_22 : decode cX2_addMark 22 = .ok (.iload 5, 2) := by decide +kernel
theorem dX2_addMark_24 : decode cX2_addMark 24 = .ok (.iconst 1, 1) := by decide +kernel
theorem dX2_addMark_25 : decode cX2_addMark 25 = .ok (.iadd, 1) := by decide +kernel
theorem dX2_addMark_26 : decode cX2_addMark 26 = .ok (.iload_n 2, 1) := by decide +kernel
theorem dX2_addMark_27 : decode cX2_addMark 27 = .ok (.invokestatic 83, 3) := by decide +kernel
theorem dX2_addMark_30 : decode cX2_addMark 30 = .ok (.aload_n 0, 1) := by decide +kernel
theorem dX2_addMark_31 : decode cX2_addMark 31 = .ok (.getfield 31, 3) := by decide +kernel
theorem dX2_addMark_34 : decode cX2_addMark 34 = .ok (.iload 5, 2) := by decide +kernel
theorem dX2_addMark_36 : decode cX2_addMark 36 = .ok (.iconst 2, 1) := by decide +kernel
theorem dX2_addMark_37 : decode cX2_addMark 37 = .ok (.iadd, 1) := by decide +kernel
theorem dX2_addMark_38 : decode cX2_addMark 38 = .ok (.iload_n 3, 1) := by decide +kernel
theorem dX2_addMark_39 : decode cX2_addMark 39 = .ok (.invokestatic 83, 3) := by decide +kernel
theorem dX2_addMark_42 : decode cX2_addMark 42 = .ok (.aload_n 0, 1) := by decide +kernel
theorem dX2_addMark_43 : decode cX2_addMark 43 = .ok (.getfield 31, 3) := by decide +kernel
theorem dX2_addMark_46 : decode cX2_addMark 46 = .ok (.iload 5, 2) := by decide +kernel
theorem dX2_addMark_48 : decode cX2_addMark 48 = .ok (.iconst 3, 1) := by decide +kernel
theorem dX2_addMark_49 : decode cX2_addMark 49 = .ok (.iadd, 1) := by decide +kernel
theorem dX2_addMark_50 : decode cX2_addMark 50 = .ok (.iload 4, 2) := by decide +kernel
theorem dX2_addMark_52 : decode cX2_addMark 52 = .ok (.invokestatic 83, 3) := by decide +kernel
theorem dX2_addMark_55 : decode cX2_addMark 55 = .ok (.aload_n 0, 1) := by decide +kernel
theorem dX2_addMark_56 : decode cX2_addMark 56 = .ok (.dup, 1) := by decide +kernel
theorem dX2_addMark_57 : decode cX2_addMark 57 = .ok (.getfield 55, 3) := by decide +kernel
theorem dX2_addMark_60 : decode cX2_addMark 60 = .ok (.iconst 1, 1) := by decide +kernel
theorem dX2_addMark_61 : decode cX2_addMark 61 = .ok (.iadd, 1) := by decide +kernel
theorem dX2_addMark_62 : decode cX2_addMark 62 = .ok (.putfield 55, 3) := by decide +kernel
theorem dX2_addMark_65 : decode cX2_addMark 65 = .ok (.return_, 1) := by decide +kernel
theorem dX2_formsByNotes_0 : decode cX2_formsByNotes 0 = .ok (.iconst 0, 1) := by decide +kernel
theorem dX2_formsByNotes_1 : decode cX2_formsByNotes 1 = .ok (.istore_n 1, 1) := by decide +kernel
theorem dX2_formsByNotes_2 : decode cX2_formsByNotes 2 = .ok (.iconst 0, 1) := by decide +kernel
theorem dX2_formsByNotes_3 : decode cX2_formsByNotes 3 = .ok (.istore_n 2, 1) := by decide +kernel
theorem dX2_formsByNotes_4 : decode cX2_formsByNotes 4 = .ok (.iload_n 2, 1) := by decide +kernel
theorem dX2_formsByNotes_5 : decode cX2_formsByNotes 5 = .ok (.bipush 6, 2) := by decide +kernel
theorem dX2_formsByNotes_7 : decode cX2_formsByNotes 7 = .ok (.if_icmp .ge 27, 3) := by decide +kernel
theorem dX2_formsByNotes_10 : decode cX2_formsByNotes 10 = .ok (.iload_n 1, 1) := by decide +kernel
theorem dX2_formsByNotes_11 : decode cX2_formsByNotes 11 = .ok (.aload_n 0, 1) := by decide +kernel
theorem dX2_formsByNotes_12 : decode cX2_formsByNotes 12 = .ok (.iload_n 2, 1) := by decide +kernel
theorem dX2_formsByNotes_13 : decode cX2_formsByNotes 13 = .ok (.invokevirtual 123, 3) := by decide +kernel
theorem dX2_formsByNotes_16 : decode cX2_formsByNotes 16 = .ok (.ifCond .eq 9, 3) := by decide +kernel
theorem dX2_formsByNotes_19 : decode cX2_formsByNotes 19 = .ok (.iconst 1, 1) := by decide +kernel
theorem dX2_formsByNotes_20 : decode cX2_formsByNotes 20 = .ok (.iload_n 2, 1) := by decide +kernel
theorem dX2_formsByNotes_21 : decode cX2_formsByNotes 21 = .ok (.ishl, 1) := by decide +kernel
theorem dX2_formsByNotes_22 : decode cX2_formsByNotes 22 = .ok (.goto 4, 3) := by decide +kernel
theorem dX2_formsByNotes_25 : decode cX2_formsByNotes 25 = .ok (.iconst 0, 1) := by decide +kernel
theorem dX2_formsByNotes_26 : decode cX2_formsByNotes 26 = .ok (.ior, 1) := by decide +kernel
theorem dX2_formsByNotes_27 : decode cX2_formsByNotes 27 = .ok (.istore_n 1, 1) := by decide +kernel
theorem dX2_formsByNotes_28 : decode cX2_formsByNotes 28 = .ok (.iinc 2 1, 3) := by decide +kernel
theorem dX2_formsByNotes_31 : decode cX2_formsByNotes 31 = .ok (.goto (-27), 3) := by decide +kernel
theorem dX2_formsByNotes_34 : decode cX2_formsByNotes 34 = .ok (.iload_n 1, 1) := by decide +kernel
theorem dX2_formsByNotes_35 : decode cX2_formsByNotes 35 = .ok (.ireturn, 1) := by decide +kernel
theorem dX2_agreesWithNotes_0 : decode cX2_agreesWithNotes 0 = .ok (.iconst 0, 1) := by decide +kernel
theorem dX2_agreesWithNotes_1 : decode cX2_agreesWithNotes 1 = .ok (.istore_n 2, 1) := by decide +kernel
theorem dX2_agreesWithNotes_2 : decode cX2_agreesWithNotes 2 = .ok (.iload_n 2, 1) := by decide +kernel
theorem dX2_agreesWithNotes_3 : decode cX2_agreesWithNotes 3 = .ok (.aload_n 0, 1) := by decide +kernel
theorem dX2_agreesWithNotes_4 : decode cX2_agreesWithNotes 4 = .ok (.getfield 52, 3) := by decide +kernel
theorem dX2_agreesWithNotes_7 : decode cX2_agreesWithNotes 7 = .ok (.if_icmp .ge 54, 3) := by decide +kernel
theorem dX2_agreesWithNotes_10 : decode cX2_agreesWithNotes 10 = .ok (.iload_n 2, 1) := by decide +kernel
theorem dX2_agreesWithNotes_11 : decode cX2_agreesWithNotes 11 = .ok (.iconst 3, 1) := by decide +kernel
theorem dX2_agreesWithNotes_12 : decode cX2_agreesWithNotes 12 = .ok (.imul, 1) := by decide +kernel
theorem dX2_agreesWithNotes_13 : decode cX2_agreesWithNotes 13 = .ok (.istore_n 3, 1) := by decide +kernel
theorem dX2_agreesWithNotes_14 : decode cX2_agreesWithNotes 14 = .ok (.iload_n 1, 1) := by decide +kernel
theorem dX2_agreesWithNotes_15 : decode cX2_agreesWithNotes 15 = .ok (.aload_n 0, 1) := by decide +kernel
theorem dX2_agreesWithNotes_16 : decode cX2_agreesWithNotes 16 = .ok (.getfield 28, 3) := by decide +kernel
theorem dX2_agreesWithNotes_19 : decode cX2_agreesWithNotes 19 = .ok (.iload_n 3, 1) := by decide +kernel
theorem dX2_agreesWithNotes_20 : decode cX2_agreesWithNotes 20 = .ok (.invokestatic 65, 3) := by decide +kernel
theorem dX2_agreesWithNotes_23 : decode cX2_agreesWithNotes 23 = .ok (.aload_n 0, 1) := by decide +kernel
theorem dX2_agreesWithNotes_24 : decode cX2_agreesWithNotes 24 = .ok (.getfield 28, 3) := by decide +kernel
theorem dX2_agreesWithNotes_27 : decode cX2_agreesWithNotes 27 = .ok (.iload_n 3, 1) := by decide +kernel
theorem dX2_agreesWithNotes_28 : decode cX2_agreesWithNotes 28 = .ok (.iconst 1, 1) := by decide +kernel
theorem dX2_agreesWithNotes_29 : decode cX2_agreesWithNotes 29 = .ok (.iadd, 1) := by decide +kernel
theorem dX2_agreesWithNotes_30 : decode cX2_agreesWithNotes 30 = .ok (.invokestatic 65, 3) := by decide +kernel
theorem dX2_agreesWithNotes_33 : decode cX2_agreesWithNotes 33 = .ok (.invokestatic 91, 3) := by decide +kernel
theorem dX2_agreesWithNotes_36 : decode cX2_agreesWithNotes 36 = .ok (.istore 4, 2) := by decide +kernel
theorem dX2_agreesWithNotes_38 : decode cX2_agreesWithNotes 38 = .ok (.iload 4, 2) := by decide +kernel
theorem dX2_agreesWithNotes_40 : decode cX2_agreesWithNotes 40 = .ok (.aload_n 0, 1) := by decide +kernel
theorem dX2_agreesWithNotes_41 : decode cX2_agreesWithNotes 41 = .ok (.getfield 28, 3) := by decide +kernel
theorem dX2_agreesWithNotes_44 : decode cX2_agreesWithNotes 44 = .ok (.iload_n 3, 1) := by decide +kernel
theorem dX2_agreesWithNotes_45 : decode cX2_agreesWithNotes 45 = .ok (.iconst 2, 1) := by decide +kernel
theorem dX2_agreesWithNotes_46 : decode cX2_agreesWithNotes 46 = .ok (.iadd, 1) := by decide +kernel
theorem dX2_agreesWithNotes_47 : decode cX2_agreesWithNotes 47 = .ok (.invokestatic 65, 3) := by decide +kernel
theorem dX2_agreesWithNotes_50 : decode cX2_agreesWithNotes 50 = .ok (.if_icmp .eq 5, 3) := by decide +kernel
theorem dX2_agreesWithNotes_53 : decode cX2_agreesWithNotes 53 = .ok (.iconst 0, 1) := by decide +kernel
theorem dX2_agreesWithNotes_54 : decode cX2_agreesWithNotes 54 = .ok (.ireturn, 1) := by decide +kernel
theorem dX2_agreesWithNotes_55 : decode cX2_agreesWithNotes 55 = .ok (.iinc 2 1, 3) := by decide +kernel
theorem dX2_agreesWithNotes_58 : decode cX2_agreesWithNotes 58 = .ok (.goto (-56), 3) := by decide +kernel
theorem dX2_agreesWithNotes_61 : decode cX2_agreesWithNotes 61 = .ok (.iconst 1, 1) := by decide +kernel
theorem dX2_agreesWithNotes_62 : decode cX2_agreesWithNotes 62 = .ok (.ireturn, 1) := by decide +kernel
theorem dX2_kindsByMarks_0 : decode cX2_kindsByMarks 0 = .ok (.iconst 0, 1) := by decide +kernel
theorem dX2_kindsByMarks_1 : decode cX2_kindsByMarks 1 = .ok (.istore_n 2, 1) := by decide +kernel
theorem dX2_kindsByMarks_2 : decode cX2_kindsByMarks 2 = .ok (.iconst 0, 1) := by decide +kernel
theorem dX2_kindsByMarks_3 : decode cX2_kindsByMarks 3 = .ok (.istore_n 3, 1) := by decide +kernel
theorem dX2_kindsByMarks_4 : decode cX2_kindsByMarks 4 = .ok (.iload_n 3, 1) := by decide +kernel
theorem dX2_kindsByMarks_5 : decode cX2_kindsByMarks 5 = .ok (.bipush 6, 2) := by decide +kernel
theorem dX2_kindsByMarks_7 : decode cX2_kindsByMarks 7 = .ok (.if_icmp .ge 28, 3) := by decide +kernel
theorem dX2_kindsByMarks_10 : decode cX2_kindsByMarks 10 = .ok (.iload_n 2, 1) := by decide +kernel
theorem dX2_kindsByMarks_11 : decode cX2_kindsByMarks 11 = .ok (.aload_n 0, 1) := by decide +kernel
theorem dX2_kindsByMarks_12 : decode cX2_kindsByMarks 12 = .ok (.iload_n 1, 1) := by decide +kernel
theorem dX2_kindsByMarks_13 : decode cX2_kindsByMarks 13 = .ok (.iload_n 3, 1) := by decide +kernel
theorem dX2_kindsByMarks_14 : decode cX2_kindsByMarks 14 = .ok (.invokevirtual 126, 3) := by decide +kernel
theorem dX2_kindsByMarks_17 : decode cX2_kindsByMarks 17 = .ok (.ifCond .eq 9, 3) := by decide +kernel
theorem dX2_kindsByMarks_20 : decode cX2_kindsByMarks 20 = .ok (.iconst 1, 1) := by decide +kernel
theorem dX2_kindsByMarks_21 : decode cX2_kindsByMarks 21 = .ok (.iload_n 3, 1) := by decide +kernel
theorem dX2_kindsByMarks_22 : decode cX2_kindsByMarks 22 = .ok (.ishl, 1) := by decide +kernel
theorem dX2_kindsByMarks_23 : decode cX2_kindsByMarks 23 = .ok (.goto 4, 3) := by decide +kernel
theorem dX2_kindsByMarks_26 : decode cX2_kindsByMarks 26 = .ok (.iconst 0, 1) := by decide +kernel
theorem dX2_kindsByMarks_27 : decode cX2_kindsByMarks 27 = .ok (.ior, 1) := by decide +kernel
theorem dX2_kindsByMarks_28 : decode cX2_kindsByMarks 28 = .ok (.istore_n 2, 1) := by decide +kernel
theorem dX2_kindsByMarks_29 : decode cX2_kindsByMarks 29 = .ok (.iinc 3 1, 3) := by decide +kernel
theorem dX2_kindsByMarks_32 : decode cX2_kindsByMarks 32 = .ok (.goto (-28), 3) := by decide +kernel
theorem dX2_kindsByMarks_35 : decode cX2_kindsByMarks 35 = .ok (.iload_n 2, 1) := by decide +kernel
theorem dX2_kindsByMarks_36 : decode cX2_kindsByMarks 36 = .ok (.ireturn, 1) := by decide +kernel
theorem dX2_agreesWithMarks_0 : decode cX2_agreesWithMarks 0 = .ok (.iconst 0, 1) := by decide +kernel
theorem dX2_agreesWithMarks_1 : decode cX2_agreesWithMarks 1 = .ok (.istore_n 3, 1) := by decide +kernel
theorem dX2_agreesWithMarks_2 : decode cX2_agreesWithMarks 2 = .ok (.iload_n 3, 1) := by decide +kernel
theorem dX2_agreesWithMarks_3 : decode cX2_agreesWithMarks 3 = .ok (.aload_n 0, 1) := by decide +kernel
theorem dX2_agreesWithMarks_4 : decode cX2_agreesWithMarks 4 = .ok (.getfield 55, 3) := by decide +kernel
theorem dX2_agreesWithMarks_7 : decode cX2_agreesWithMarks 7 = .ok (.if_icmp .ge 73, 3) := by decide +kernel
theorem dX2_agreesWithMarks_10 : decode cX2_agreesWithMarks 10 = .ok (.iload_n 3, 1) := by decide +kernel
theorem dX2_agreesWithMarks_11 : decode cX2_agreesWithMarks 11 = .ok (.iconst 4, 1) := by decide +kernel
theorem dX2_agreesWithMarks_12 : decode cX2_agreesWithMarks 12 = .ok (.imul, 1) := by decide +kernel
theorem dX2_agreesWithMarks_13 : decode cX2_agreesWithMarks 13 = .ok (.istore 4, 2) := by decide +kernel
theorem dX2_agreesWithMarks_15 : decode cX2_agreesWithMarks 15 = .ok (.iload_n 2, 1) := by decide +kernel
theorem dX2_agreesWithMarks_16 : decode cX2_agreesWithMarks 16 = .ok (.aload_n 0, 1) := by decide +kernel
theorem dX2_agreesWithMarks_17 : decode cX2_agreesWithMarks 17 = .ok (.getfield 31, 3) := by decide +kernel
theorem dX2_agreesWithMarks_20 : decode cX2_agreesWithMarks 20 = .ok (.iload 4, 2) := by decide +kernel
theorem dX2_agreesWithMarks_22 : decode cX2_agreesWithMarks 22 = .ok (.iconst 1, 1) := by decide +kernel
theorem dX2_agreesWithMarks_23 : decode cX2_agreesWithMarks 23 = .ok (.iadd, 1) := by decide +kernel
theorem dX2_agreesWithMarks_24 : decode cX2_agreesWithMarks 24 = .ok (.invokestatic 65, 3) := by decide +kernel
theorem dX2_agreesWithMarks_27 : decode cX2_agreesWithMarks 27 = .ok (.aload_n 0, 1) := by decide +kernel
theorem dX2_agreesWithMarks_28 : decode cX2_agreesWithMarks 28 = .ok (.getfield 31, 3) := by decide +kernel
theorem dX2_agreesWithMarks_31 : decode cX2_agreesWithMarks 31 = .ok (.iload 4, 2) := by decide +kernel
theorem dX2_agreesWithMarks_33 : decode cX2_agreesWithMarks 33 = .ok (.iconst 2, 1) := by decide +kernel
theorem dX2_agreesWithMarks_34 : decode cX2_agreesWithMarks 34 = .ok (.iadd, 1) := by decide +kernel
theorem dX2_agreesWithMarks_35 : decode cX2_agreesWithMarks 35 = .ok (.invokestatic 65, 3) := by decide +kernel
theorem dX2_agreesWithMarks_38 : decode cX2_agreesWithMarks 38 = .ok (.invokestatic 103, 3) := by decide +kernel
theorem dX2_agreesWithMarks_41 : decode cX2_agreesWithMarks 41 = .ok (.istore 5, 2) := by decide +kernel
theorem dX2_agreesWithMarks_43 : decode cX2_agreesWithMarks 43 = .ok (.aload_n 0, 1) := by decide +kernel
theorem dX2_agreesWithMarks_44 : decode cX2_agreesWithMarks 44 = .ok (.getfield 31, 3) := by decide +kernel
theorem dX2_agreesWithMarks_47 : decode cX2_agreesWithMarks 47 = .ok (.iload 4, 2) := by decide +kernel
theorem dX2_agreesWithMarks_49 : decode cX2_agreesWithMarks 49 = .ok (.invokestatic 65, 3) := by decide +kernel
theorem dX2_agreesWithMarks_52 : decode cX2_agreesWithMarks 52 = .ok (.iload_n 1, 1) := by decide +kernel
theorem dX2_agreesWithMarks_53 : decode cX2_agreesWithMarks 53 = .ok (.if_icmp .ne 21, 3) := by decide +kernel
theorem dX2_agreesWithMarks_56 : decode cX2_agreesWithMarks 56 = .ok (.iload 5, 2) := by decide +kernel
theorem dX2_agreesWithMarks_58 : decode cX2_agreesWithMarks 58 = .ok (.aload_n 0, 1) := by decide +kernel
theorem dX2_agreesWithMarks_59 : decode cX2_agreesWithMarks 59 = .ok (.getfield 31, 3) := by decide +kernel
theorem dX2_agreesWithMarks_62 : decode cX2_agreesWithMarks 62 = .ok (.iload 4, 2) := by decide +kernel
theorem dX2_agreesWithMarks_64 : decode cX2_agreesWithMarks 64 = .ok (.iconst 3, 1) := by decide +kernel
theorem dX2_agreesWithMarks_65 : decode cX2_agreesWithMarks 65 = .ok (.iadd, 1) := by decide +kernel
theorem dX2_agreesWithMarks_66 : decode cX2_agreesWithMarks 66 = .ok (.invokestatic 65, 3) := by decide +kernel
theorem dX2_agreesWithMarks_69 : decode cX2_agreesWithMarks 69 = .ok (.if_icmp .eq 5, 3) := by decide +kernel
theorem dX2_agreesWithMarks_72 : decode cX2_agreesWithMarks 72 = .ok (.iconst 0, 1) := by decide +kernel
theorem dX2_agreesWithMarks_73 : decode cX2_agreesWithMarks 73 = .ok (.ireturn, 1) := by decide +kernel
theorem dX2_agreesWithMarks_74 : decode cX2_agreesWithMarks 74 = .ok (.iinc 3 1, 3) := by decide +kernel
theorem dX2_agreesWithMarks_77 : decode cX2_agreesWithMarks 77 = .ok (.goto (-75), 3) := by decide +kernel
theorem dX2_agreesWithMarks_80 : decode cX2_agreesWithMarks 80 = .ok (.iconst 1, 1) := by decide +kernel
theorem dX2_agreesWithMarks_81 : decode cX2_agreesWithMarks 81 = .ok (.ireturn, 1) := by decide +kernel
theorem dX3_init_0 : decode cX3_init 0 = .ok (.aload_n 0, 1) := by decide +kernel
theorem dX3_init_1 : decode cX3_init 1 = .ok (.invokespecial 1, 3) := by decide +kernel
theorem dX3_init_4 : decode cX3_init 4 = .ok (.aload_n 0, 1) := by decide +kernel
theorem dX3_init_5 : decode cX3_init 5 = .ok (.new 7, 3) := by decide +kernel
theorem dX3_init_8 : decode cX3_init 8 = .ok (.dup, 1) := by decide +kernel
theorem dX3_init_9 : decode cX3_init 9 = .ok (.invokespecial 9, 3) := by decide +kernel
theorem dX3_init_12 : decode cX3_init 12 = .ok (.putfield 10, 3) := by decide +kernel
theorem dX3_init_15 : decode cX3_init 15 = .ok (.aload_n 0, 1) := by decide +kernel
theorem dX3_init_16 : decode cX3_init 16 = .ok (.new 7, 3) := by decide +kernel
theorem dX3_init_19 : decode cX3_init 19 = .ok (.dup, 1) := by decide +kernel
theorem dX3_init_20 : decode cX3_init 20 = .ok (.invokespecial 9, 3) := by decide +kernel
theorem dX3_init_23 : decode cX3_init 23 = .ok (.putfield 16, 3) := by decide +kernel
theorem dX3_init_26 : decode cX3_init 26 = .ok (.aload_n 0, 1) := by decide +kernel
theorem dX3_init_27 : decode cX3_init 27 = .ok (.new 7, 3) := by decide +kernel
theorem dX3_init_30 : decode cX3_init 30 = .ok (.dup, 1) := by decide +kernel
theorem dX3_init_31 : decode cX3_init 31 = .ok (.invokespecial 9, 3) := by decide +kernel
theorem dX3_init_34 : decode cX3_init 34 = .ok (.putfield 19, 3) := by decide +kernel
theorem dX3_init_37 : decode cX3_init 37 = .ok (.aload_n 0, 1) := by decide +kernel
theorem dX3_init_38 : decode cX3_init 38 = .ok (.new 7, 3) := by decide +kernel
theorem dX3_init_41 : decode cX3_init 41 = .ok (.dup, 1) := by decide +kernel
theorem dX3_init_42 : decode cX3_init 42 = .ok (.invokespecial 9, 3) := by decide +kernel
theorem dX3_init_45 : decode cX3_init 45 = .ok (.putfield 22, 3) := by decide +kernel
theorem dX3_init_48 : decode cX3_init 48 = .ok (.aload_n 0, 1) := by decide +kernel
theorem dX3_init_49 : decode cX3_init 49 = .ok (.new 25, 3) := by decide +kernel
theorem dX3_init_52 : decode cX3_init 52 = .ok (.dup, 1) := by decide +kernel
theorem dX3_init_53 : decode cX3_init 53 = .ok (.invokespecial 27, 3) := by decide +kernel
theorem dX3_init_56 : decode cX3_init 56 = .ok (.putfield 28, 3) := by decide +kernel
theorem dX3_init_59 : decode cX3_init 59 = .ok (.aload_n 0, 1) := by decide +kernel
theorem dX3_init_60 : decode cX3_init 60 = .ok (.new 32, 3) := by decide +kernel
theorem dX3_init_63 : decode cX3_init 63 = .ok (.dup, 1) := by decide +kernel
theorem dX3_init_64 : decode cX3_init 64 = .ok (.invokespecial 34, 3) := by decide +kernel
theorem dX3_init_67 : decode cX3_init 67 = .ok (.putfield 35, 3) := by decide +kernel
theorem dX3_init_70 : decode cX3_init 70 = .ok (.aload_n 0, 1) := by decide +kernel
theorem dX3_init_71 : decode cX3_init 71 = .ok (.lconst 0, 1) := by decide +kernel
theorem dX3_init_72 : decode cX3_init 72 = .ok (.putfield 39, 3) := by decide +kernel
theorem dX3_init_75 : decode cX3_init 75 = .ok (.aload_n 0, 1) := by decide +kernel
theorem dX3_init_76 : decode cX3_init 76 = .ok (.lconst 1, 1) := by decide +kernel
theorem dX3_init_77 : decode cX3_init 77 = .ok (.putfield 43, 3) := by decide +kernel
theorem dX3_init_80 : decode cX3_init 80 = .ok (.return_, 1) := by decide +kernel
theorem dX3_verse_0 : decode cX3_verse 0 = .ok (.iload_n 1, 1) := by decide +kernel
theorem dX3_verse_1 : decode cX3_verse 1 = .ok (.invokestatic 46, 3) := by decide +kernel
theorem dX3_verse_4 : decode cX3_verse 4 = .ok (.ifCond .eq 21, 3) := by decide +kernel
theorem dX3_verse_7 : decode cX3_verse 7 = .ok (.iload_n 2, 1) := by decide +kernel
theorem dX3_verse_8 : decode cX3_verse 8 = .ok (.iconst 1, 1) := by decide +kernel
theorem dX3_verse_9 : decode cX3_verse 9 = .ok (.bipush 6, 2) := by decide +kernel
theorem dX3_verse_11 : decode cX3_verse 11 = .ok (.invokestatic 50, 3) := by decide +kernel
theorem dX3_verse_14 : decode cX3_verse 14 = .ok (.ifCond .eq 11, 3) := by decide +kernel
theorem dX3_verse_17 : decode cX3_verse 17 = .ok (.iload_n 2, 1) := by decide +kernel
theorem dX3_verse_18 : decode cX3_verse 18 = .ok (.iload_n 3, 1) := by decide +kernel
theorem dX3_verse_19 : decode cX3_verse 19 = .ok (.invokestatic 54, 3) := by decide +kernel
theorem dX3_verse_22 : decode cX3_verse 22 = .ok (.ifCond .ne 10, 3) := by decide +kernel
theorem dX3_verse_25 : decode cX3_verse 25 = .ok (.aload_n 0, 1) := by decide +kernel
theorem dX3_verse_26 : decode cX3_verse 26 = .ok (.bipush (-2), 2) := by decide +kernel
theorem dX3_verse_28 : decode cX3_verse 28 = .ok (.invokevirtual 58, 3) := by decide +kernel
theorem dX3_verse_31 : decode cX3_verse 31 = .ok (.ireturn, 1) := by decide +kernel
theorem dX3_verse_32 : decode cX3_verse 32 = .ok (.aload_n 0, 1) := by decide +kernel
theorem dX3_verse_33 : decode cX3_verse 33 = .ok (.getfield 10, 3) := by decide +kernel
theorem dX3_verse_36 : decode cX3_verse 36 = .ok (.getfield 62, 3) := by decide +kernel
theorem dX3_verse_39 : decode cX3_verse 39 = .ok (.istore 4, 2) := by decide +kernel
theorem dX3_verse_41 : decode cX3_verse 41 = .ok (.aload_n 0, 1) := by decide +kernel
theorem dX3_verse_42 : decode cX3_verse 42 = .ok (.getfield 10, 3) := by decide +kernel
theorem dX3_verse_45 : decode cX3_verse 45 = .ok (.iload_n 1, 1) := by decide +kernel
theorem dX3_verse_46 : decode cX3_verse 46 = .ok (.iload_n 2, 1) := by decide +kernel
theorem dX3_verse_47 : decode cX3_verse 47 = .ok (.iload_n 3, 1) := by decide +kernel
theorem dX3_verse_48 : decode cX3_verse 48 = .ok (.invokevirtual 66, 3) := by decide +kernel
theorem dX3_verse_51 : decode cX3_verse 51 = .ok (.iload 4, 2) := by decide +kernel
theorem dX3_verse_53 : decode cX3_verse 53 = .ok (.ireturn, 1) := by decide +kernel
theorem dX3_form_0 : decode cX3_form 0 = .ok (.iload_n 1, 1) := by decide +kernel
theorem dX3_form_1 : decode cX3_form 1 = .ok (.invokestatic 46, 3) := by decide +kernel
theorem dX3_form_4 : decode cX3_form 4 = .ok (.ifCond .ne 10, 3) := by decide +kernel
theorem dX3_form_7 : decode cX3_form 7 = .ok (.aload_n 0, 1) := by decide +kernel
theorem dX3_form_8 : decode cX3_form 8 = .ok (.bipush (-2), 2) := by decide +kernel
theorem dX3_form_10 : decode cX3_form 10 = .ok (.invokevirtual 58, 3) := by decide +kernel
theorem dX3_form_13 : decode cX3_form 13 = .ok (.ireturn, 1) := by decide +kernel
theorem dX3_form_14 : decode cX3_form 14 = .ok (.aload_n 0, 1) := by decide +kernel
theorem dX3_form_15 : decode cX3_form 15 = .ok (.getfield 10, 3) := by decide +kernel
theorem dX3_form_18 : decode cX3_form 18 = .ok (.getfield 70, 3) := by decide +kernel
theorem dX3_form_21 : decode cX3_form 21 = .ok (.istore_n 2, 1) := by decide +kernel
theorem dX3_form_22 : decode cX3_form 22 = .ok (.aload_n 0, 1) := by decide +kernel
theorem dX3_form_23 : decode cX3_form 23 = .ok (.getfield 10, 3) := by decide +kernel
theorem dX3_form_26 : decode cX3_form 26 = .ok (.iload_n 1, 1) := by decide +kernel
theorem dX3_form_27 : decode cX3_form 27 = .ok (.putfield 70, 3) := by decide +kernel
theorem dX3_form_30 : decode cX3_form 30 = .ok (.aload_n 0, 1) := by decide +kernel
theorem dX3_form_31 : decode cX3_form 31 = .ok (.getfield 10, 3) := by decide +kernel
theorem dX3_form_34 : decode cX3_form 34 = .ok (.iconst 0, 1) := by decide +kernel
theorem dX3_form_35 : decode cX3_form 35 = .ok (.putfield 73, 3) := by decide +kernel
theorem dX3_form_38 : decode cX3_form 38 = .ok (.iload_n 2, 1) := by decide +kernel
theorem dX3_form_39 : decode cX3_form 39 = .ok (.ireturn, 1) := by decide +kernel
theorem dX3_word_0 : decode cX3_word 0 = .ok (.iload_n 1, 1) := by decide +kernel
theorem dX3_word_1 : decode cX3_word 1 = .ok (.invokestatic 46, 3) := by decide +kernel
theorem dX3_word_4 : decode cX3_word 4 = .ok (.ifCond .eq 18, 3) := by decide +kernel
theorem dX3_word_7 : decode cX3_word 7 = .ok (.iload_n 2, 1) := by decide +kernel
theorem dX3_word_8 : decode cX3_word 8 = .ok (.invokestatic 76, 3) := by decide +kernel
theorem dX3_word_11 : decode cX3_word 11 = .ok (.ifCond .eq 11, 3) := by decide +kernel
theorem dX3_word_14 : decode cX3_word 14 = .ok (.iload_n 2, 1) := by decide +kernel
theorem dX3_word_15 : decode cX3_word 15 = .ok (.iload_n 3, 1) := by decide +kernel
theorem dX3_word_16 : decode cX3_word 16 = .ok (.invokestatic 54, 3) := by decide +kernel
theorem dX3_word_19 : decode cX3_word 19 = .ok (.ifCond .ne 10, 3) := by decide +kernel
theorem dX3_word_22 : decode cX3_word 22 = .ok (.aload_n 0, 1) := by decide +kernel
theorem dX3_word_23 : decode cX3_word 23 = .ok (.bipush (-2), 2) := by decide +kernel
theorem dX3_word_25 : decode cX3_word 25 = .ok (.invokevirtual 58, 3) := by decide +kernel
theorem dX3_word_28 : decode cX3_word 28 = .ok (.ireturn, 1) := by decide +kernel
theorem dX3_word_29 : decode cX3_word 29 = .ok (.aload_n 0, 1) := by decide +kernel
theorem dX3_word_30 : decode cX3_word 30 = .ok (.getfield 10, 3) := by decide +kernel
theorem dX3_word_33 : decode cX3_word 33 = .ok (.iload_n 2, 1) := by decide +kernel
theorem dX3_word_34 : decode cX3_word 34 = .ok (.iload_n 3, 1) := by decide +kernel
theorem dX3_word_35 : decode cX3_word 35 = .ok (.invokevirtual 79, 3) := by decide +kernel
theorem dX3_word_38 : decode cX3_word 38 = .ok (.ifCond .eq 10, 3) := by decide +kernel
theorem dX3_word_41 : decode cX3_word 41 = .ok (.aload_n 0, 1) := by decide +kernel
theorem dX3_word_42 : decode cX3_word 42 = .ok (.bipush (-3), 2) := by decide +kernel
theorem dX3_word_44 : decode cX3_word 44 = .ok (.invokevirtual 58, 3) := by decide +kernel
theorem dX3_word_47 : decode cX3_word 47 = .ok (.ireturn, 1) := by decide +kernel
theorem dX3_word_48 : decode cX3_word 48 = .ok (.aload_n 0, 1) := by decide +kernel
theorem dX3_word_49 : decode cX3_word 49 = .ok (.getfield 10, 3) := by decide +kernel
theorem dX3_word_52 : decode cX3_word 52 = .ok (.getfield 62, 3) := by decide +kernel
theorem dX3_word_55 : decode cX3_word 55 = .ok (.bipush 8, 2) := by decide +kernel
theorem dX3_word_57 : decode cX3_word 57 = .ok (.if_icmp .lt 10, 3) := by decide +kernel
theorem dX3_word_60 : decode cX3_word 60 = .ok (.aload_n 0, 1) := by decide +kernel
theorem dX3_word_61 : decode cX3_word 61 = .ok (.bipush (-4), 2) := by decide +kernel
theorem dX3_word_63 : decode cX3_word 63 = .ok (.invokevirtual 58, 3) := by decide +kernel
theorem dX3_word_66 : decode cX3_word 66 = .ok (.ireturn, 1) := by decide +kernel
theorem dX3_word_67 : decode cX3_word 67 = .ok (.aload_n 0, 1) := by decide +kernel
theorem dX3_word_68 : decode cX3_word 68 = .ok (.getfield 10, 3) := by decide +kernel
theorem dX3_word_71 : decode cX3_word 71 = .ok (.iload_n 1, 1) := by decide +kernel
theorem dX3_word_72 : decode cX3_word 72 = .ok (.iload_n 2, 1) := by decide +kernel
theorem dX3_word_73 : decode cX3_word 73 = .ok (.iload_n 3, 1) := by decide +kernel
theorem dX3_word_74 : decode cX3_word 74 = .ok (.invokevirtual 82, 3) := by decide +kernel
theorem dX3_word_77 : decode cX3_word 77 = .ok (.aload_n 0, 1) := by decide +kernel
theorem dX3_word_78 : decode cX3_word 78 = .ok (.getfield 10, 3) := by decide +kernel
theorem dX3_word_81 : decode cX3_word 81 = .ok (.iconst 0, 1) := by decide +kernel
theorem dX3_word_82 : decode cX3_word 82 = .ok (.putfield 73, 3) := by decide +kernel
theorem dX3_word_85 : decode cX3_word 85 = .ok (.aload_n 0, 1) := by decide +kernel
theorem dX3_word_86 : decode cX3_word 86 = .ok (.getfield 10, 3) := by decide +kernel
theorem dX3_word_89 : decode cX3_word 89 = .ok (.getfield 62, 3) := by decide +kernel
theorem dX3_word_92 : decode cX3_word 92 = .ok (.iconst 1, 1) := by decide +kernel
theorem dX3_word_93 : decode cX3_word 93 = .ok (.isub, 1) := by decide +kernel
theorem dX3_word_94 : decode cX3_word 94 = .ok (.ireturn, 1) := by decide +kernel
theorem dX3_type_0 : decode cX3_type 0 = .ok (.iload_n 1, 1) := by decide +kernel
theorem dX3_type_1 : decode cX3_type 1 = .ok (.iconst 0, 1) := by decide +kernel
theorem dX3_type_2 : decode cX3_type 2 = .ok (.bipush 127, 2) := by decide +kernel
theorem dX3_type_4 : decode cX3_type 4 = .ok (.invokestatic 50, 3) := by decide +kernel
theorem dX3_type_7 : decode cX3_type 7 = .ok (.ifCond .ne 10, 3) := by decide +kernel
theorem dX3_type_10 : decode cX3_type 10 = .ok (.aload_n 0, 1) := by decide +kernel
theorem dX3_type_11 : decode cX3_type 11 = .ok (.bipush (-2), 2) := by decide +kernel
theorem dX3_type_13 : decode cX3_type 13 = .ok (.invokevirtual 58, 3) := by decide +kernel
theorem dX3_type_16 : decode cX3_type 16 = .ok (.ireturn, 1) := by decide +kernel
theorem dX3_type_17 : decode cX3_type 17 = .ok (.aload_n 0, 1) := by decide +kernel
theorem dX3_type_18 : decode cX3_type 18 = .ok (.getfield 28, 3) := by decide +kernel
theorem dX3_type_21 : decode cX3_type 21 = .ok (.getfield 85, 3) := by decide +kernel
theorem dX3_type_24 : decode cX3_type 24 = .ok (.sipush 150, 3) := by decide +kernel
theorem dX3_type_27 : decode cX3_type 27 = .ok (.if_icmp .lt 10, 3) := by decide +kernel
theorem dX3_type_30 : decode cX3_type 30 = .ok (.aload_n 0, 1) := by decide +kernel
theorem dX3_type_31 : decode cX3_type 31 = .ok (.bipush (-4), 2) := by decide +kernel
theorem dX3_type_33 : decode cX3_type 33 = .ok (.invokevirtual 58, 3) := by decide +kernel
theorem dX3_type_36 : decode cX3_type 36 = .ok (.ireturn, 1) := by decide +kernel
theorem dX3_type_37 : decode cX3_type 37 = .ok (.aload_n 0, 1) := by decide +kernel
theorem dX3_type_38 : decode cX3_type 38 = .ok (.getfield 28, 3) := by decide +kernel
theorem dX3_type_41 : decode cX3_type 41 = .ok (.iload_n 1, 1) := by decide +kernel
theorem dX3_type_42 : decode cX3_type 42 = .ok (.invokevirtual 88, 3) := by decide +kernel
theorem dX3_type_45 : decode cX3_type 45 = .ok (.aload_n 0, 1) := by decide +kernel
theorem dX3_type_46 : decode cX3_type 46 = .ok (.getfield 28, 3) := by decide +kernel
theorem dX3_type_49 : decode cX3_type 49 = .ok (.getfield 85, 3) := by decide +kernel
theorem dX3_type_52 : decode cX3_type 52 = .ok (.ireturn, 1) := by decide +kernel
theorem dX3_clear_0 : decode cX3_clear 0 = .ok (.aload_n 0, 1) := by decide +kernel
theorem dX3_clear_1 : decode cX3_clear 1 = .ok (.getfield 28, 3) := by decide +kernel
theorem dX3_clear_4 : decode cX3_clear 4 = .ok (.getfield 85, 3) := by decide +kernel
theorem dX3_clear_7 : decode cX3_clear 7 = .ok (.istore_n 1, 1) := by decide +kernel
theorem dX3_clear_8 : decode cX3_clear 8 = .ok (.aload_n 0, 1) := by decide +kernel
theorem dX3_clear_9 : decode cX3_clear 9 = .ok (.getfield 28, 3) := by decide +kernel
theorem dX3_clear_12 : decode cX3_clear 12 = .ok (.iconst 0, 1) := by decide +kernel
theorem dX3_clear_13 : decode cX3_clear 13 = .ok (.putfield 85, 3) := by decide +kernel
theorem dX3_clear_16 : decode cX3_clear 16 = .ok (.iload_n 1, 1) := by decide +kernel
theorem dX3_clear_17 : decode cX3_clear 17 = .ok (.ireturn, 1) := by decide +kernel
theorem dX3_read_0 : decode cX3_read 0 = .ok (.aload_n 0, 1) := by decide +kernel
theorem dX3_read_1 : decode cX3_read 1 = .ok (.getfield 28, 3) := by decide +kernel
theorem dX3_read_4 : decode cX3_read 4 = .ok (.aload_n 0, 1) := by decide +kernel
theorem dX3_read_5 : decode cX3_read 5 = .ok (.getfield 16, 3) := by decide +kernel
theorem dX3_read_8 : decode cX3_read 8 = .ok (.invokevirtual 92, 3) := by decide +kernel
theorem dX3_read_11 : decode cX3_read 11 = .ok (.ifCond .ne 14, 3) := by decide +kernel
theorem dX3_read_14 : decode cX3_read 14 = .ok (.bipush (-10), 2) := by decide +kernel
theorem dX3_read_16 : decode cX3_read 16 = .ok (.aload_n 0, 1) := by decide +kernel
theorem dX3_read_17 : decode cX3_read 17 = .ok (.getfield 28, 3) := by decide +kernel
theorem dX3_read_20 : decode cX3_read 20 = .ok (.getfield 96, 3) := by decide +kernel
theorem dX3_read_23 : decode cX3_read 23 = .ok (.isub, 1) := by decide +kernel
theorem dX3_read_24 : decode cX3_read 24 = .ok (.ireturn, 1) := by decide +kernel
theorem dX3_read_25 : decode cX3_read 25 = .ok (.aload_n 0, 1) := by decide +kernel
theorem dX3_read_26 : decode cX3_read 26 = .ok (.getfield 10, 3) := by decide +kernel
theorem dX3_read_29 : decode cX3_read 29 = .ok (.aload_n 0, 1) := by decide +kernel
theorem dX3_read_30 : decode cX3_read 30 = .ok (.getfield 16, 3) := by decide +kernel
theorem dX3_read_33 : decode cX3_read 33 = .ok (.invokevirtual 99, 3) := by decide +kernel
theorem dX3_read_36 : decode cX3_read 36 = .ok (.aload_n 0, 1) := by decide +kernel
theorem dX3_read_37 : decode cX3_read 37 = .ok (.getfield 28, 3) := by decide +kernel
theorem dX3_read_40 : decode cX3_read 40 = .ok (.getfield 103, 3) := by decide +kernel
theorem dX3_read_43 : decode cX3_read 43 = .ok (.ireturn, 1) := by decide +kernel
theorem dX3_puts_0 : decode cX3_puts 0 = .ok (.aload_n 0, 1) := by decide +kernel
theorem dX3_puts_1 : decode cX3_puts 1 = .ok (.getfield 10, 3) := by decide +kernel
theorem dX3_puts_4 : decode cX3_puts 4 = .ok (.iload_n 1, 1) := by decide +kernel
theorem dX3_puts_5 : decode cX3_puts 5 = .ok (.invokevirtual 106, 3) := by decide +kernel
theorem dX3_puts_8 : decode cX3_puts 8 = .ok (.ifCond .eq 14, 3) := by decide +kernel
theorem dX3_puts_11 : decode cX3_puts 11 = .ok (.aload_n 0, 1) := by decide +kernel
theorem dX3_puts_12 : decode cX3_puts 12 = .ok (.getfield 10, 3) := by decide +kernel
theorem dX3_puts_15 : decode cX3_puts 15 = .ok (.iload_n 2, 1) := by decide +kernel
theorem dX3_puts_16 : decode cX3_puts 16 = .ok (.invokevirtual 109, 3) := by decide +kernel
theorem dX3_puts_19 : decode cX3_puts 19 = .ok (.ifCond .ne 10, 3) := by decide +kernel
theorem dX3_puts_22 : decode cX3_puts 22 = .ok (.aload_n 0, 1) := by decide +kernel
theorem dX3_puts_23 : decode cX3_puts 23 = .ok (.bipush (-2), 2) := by decide +kernel
theorem dX3_puts_25 : decode cX3_puts 25 = .ok (.invokevirtual 58, 3) := by decide +kernel
theorem dX3_puts_28 : decode cX3_puts 28 = .ok (.ireturn, 1) := by decide +kernel
theorem dX3_puts_29 : decode cX3_puts 29 = .ok (.aload_n 0, 1) := by decide +kernel
theorem dX3_puts_30 : decode cX3_puts 30 = .ok (.getfield 10, 3) := by decide +kernel
theorem dX3_puts_33 : decode cX3_puts 33 = .ok (.iload_n 1, 1) := by decide +kernel
theorem dX3_puts_34 : decode cX3_puts 34 = .ok (.invokevirtual 112, 3) := by decide +kernel
theorem dX3_puts_37 : decode cX3_puts 37 = .ok (.iconst (-1), 1) := by decide +kernel
theorem dX3_puts_38 : decode cX3_puts 38 = .ok (.if_icmp .ne 15, 3) := by decide +kernel
theorem dX3_puts_41 : decode cX3_puts 41 = .ok (.aload_n 0, 1) := by decide +kernel
theorem dX3_puts_42 : decode cX3_puts 42 = .ok (.getfield 10, 3) := by decide +kernel
theorem dX3_puts_45 : decode cX3_puts 45 = .ok (.iload_n 2, 1) := by decide +kernel
theorem dX3_puts_46 : decode cX3_puts 46 = .ok (.invokevirtual 115, 3) := by decide +kernel
theorem dX3_puts_49 : decode cX3_puts 49 = .ok (.iconst (-1), 1) := by decide +kernel
theorem dX3_puts_50 : decode cX3_puts 50 = .ok (.if_icmp .eq 10, 3) := by decide +kernel
theorem dX3_puts_53 : decode cX3_puts 53 = .ok (.aload_n 0, 1) := by decide +kernel
theorem dX3_puts_54 : decode cX3_puts 54 = .ok (.bipush (-3), 2) := by decide +kernel
theorem dX3_puts_56 : decode cX3_puts 56 = .ok (.invokevirtual 58, 3) := by decide +kernel
theorem dX3_puts_59 : decode cX3_puts 59 = .ok (.ireturn, 1) := by decide +kernel
theorem dX3_puts_60 : decode cX3_puts 60 = .ok (.aload_n 0, 1) := by decide +kernel
theorem dX3_puts_61 : decode cX3_puts 61 = .ok (.getfield 10, 3) := by decide +kernel
theorem dX3_puts_64 : decode cX3_puts 64 = .ok (.invokevirtual 118, 3) := by decide +kernel
theorem dX3_puts_67 : decode cX3_puts 67 = .ok (.aload_n 0, 1) := by decide +kernel
theorem dX3_puts_68 : decode cX3_puts 68 = .ok (.getfield 10, 3) := by decide +kernel
theorem dX3_puts_71 : decode cX3_puts 71 = .ok (.getfield 121, 3) := by decide +kernel
theorem dX3_puts_74 : decode cX3_puts 74 = .ok (.iload_n 1, 1) := by decide +kernel
theorem dX3_puts_75 : decode cX3_puts 75 = .ok (.iload_n 2, 1) := by decide +kernel
theorem dX3_puts_76 : decode cX3_puts 76 = .ok (.invokestatic 125, 3) := by decide +kernel
theorem dX3_puts_79 : decode cX3_puts 79 = .ok (.aload_n 0, 1) := by decide +kernel
theorem dX3_puts_80 : decode cX3_puts 80 = .ok (.getfield 10, 3) := by decide +kernel
theorem dX3_puts_83 : decode cX3_puts 83 = .ok (.iload_n 1, 1) := by decide +kernel
theorem dX3_puts_84 : decode cX3_puts 84 = .ok (.invokevirtual 129, 3) := by decide +kernel
theorem dX3_puts_87 : decode cX3_puts 87 = .ok (.ifCond .eq 7, 3) := by decide +kernel
theorem dX3_puts_90 : decode cX3_puts 90 = .ok (.iconst 1, 1) := by decide +kernel
theorem dX3_puts_91 : decode cX3_puts 91 = .ok (.goto 4, 3) := by decide +kernel
theorem dX3_puts_94 : decode cX3_puts 94 = .ok (.iconst 0, 1) := by decide +kernel
theorem dX3_puts_95 : decode cX3_puts 95 = .ok (.ireturn, 1) := by decide +kernel
theorem dX3_takes_0 : decode cX3_takes 0 = .ok (.aload_n 0, 1) := by decide +kernel
theorem dX3_takes_1 : decode cX3_takes 1 = .ok (.getfield 10, 3) := by decide +kernel
theorem dX3_takes_4 : decode cX3_takes 4 = .ok (.iload_n 1, 1) := by decide +kernel
theorem dX3_takes_5 : decode cX3_takes 5 = .ok (.invokevirtual 106, 3) := by decide +kernel
theorem dX3_takes_8 : decode cX3_takes 8 = .ok (.ifCond .ne 10, 3) := by decide +kernel
theorem dX3_takes_11 : decode cX3_takes 11 = .ok (.aload_n 0, 1) := by decide +kernel
theorem dX3_takes_12 : decode cX3_takes 12 = .ok (.bipush (-2), 2) := by decide +kernel
theorem dX3_takes_14 : decode cX3_takes 14 = .ok (.invokevirtual 58, 3) := by decide +kernel
theorem dX3_takes_17 : decode cX3_takes 17 = .ok (.ireturn, 1) := by decide +kernel
theorem dX3_takes_18 : decode cX3_takes 18 = .ok (.aload_n 0, 1) := by decide +kernel
theorem dX3_takes_19 : decode cX3_takes 19 = .ok (.getfield 10, 3) := by decide +kernel
theorem dX3_takes_22 : decode cX3_takes 22 = .ok (.iload_n 1, 1) := by decide +kernel
theorem dX3_takes_23 : decode cX3_takes 23 = .ok (.invokevirtual 112, 3) := by decide +kernel
theorem dX3_takes_26 : decode cX3_takes 26 = .ok (.istore_n 2, 1) := by decide +kernel
theorem dX3_takes_27 : decode cX3_takes 27 = .ok (.iload_n 2, 1) := by decide +kernel
theorem dX3_takes_28 : decode cX3_takes 28 = .ok (.iconst (-1), 1) := by decide +kernel
theorem dX3_takes_29 : decode cX3_takes 29 = .ok (.if_icmp .ne 10, 3) := by decide +kernel
theorem dX3_takes_32 : decode cX3_takes 32 = .ok (.aload_n 0, 1) := by decide +kernel
theorem dX3_takes_33 : decode cX3_takes 33 = .ok (.bipush (-3), 2) := by decide +kernel
theorem dX3_takes_35 : decode cX3_takes 35 = .ok (.invokevirtual 58, 3) := by decide +kernel
theorem dX3_takes_38 : decode cX3_takes 38 = .ok (.ireturn, 1) := by decide +kernel
theorem dX3_takes_39 : decode cX3_takes 39 = .ok (.aload_n 0, 1) := by decide +kernel
theorem dX3_takes_40 : decode cX3_takes 40 = .ok (.getfield 10, 3) := by decide +kernel
theorem dX3_takes_43 : decode cX3_takes 43 = .ok (.invokevirtual 118, 3) := by decide +kernel
theorem dX3_takes_46 : decode cX3_takes 46 = .ok (.aload_n 0, 1) := by decide +kernel
theorem dX3_takes_47 : decode cX3_takes 47 = .ok (.getfield 10, 3) := by decide +kernel
theorem dX3_takes_50 : decode cX3_takes 50 = .ok (.getfield 121, 3) := by decide +kernel
theorem dX3_takes_53 : decode cX3_takes 53 = .ok (.iload_n 1, 1) := by decide +kernel
theorem dX3_takes_54 : decode cX3_takes 54 = .ok (.iconst (-1), 1) := by decide +kernel
theorem dX3_takes_55 : decode cX3_takes 55 = .ok (.invokestatic 125, 3) := by decide +kernel
theorem dX3_takes_58 : decode cX3_takes 58 = .ok (.iload_n 2, 1) := by decide +kernel
theorem dX3_takes_59 : decode cX3_takes 59 = .ok (.ireturn, 1) := by decide +kernel
theorem dX3_swaps_0 : decode cX3_swaps 0 = .ok (.aload_n 0, 1) := by decide +kernel
theorem dX3_swaps_1 : decode cX3_swaps 1 = .ok (.getfield 10, 3) := by decide +kernel
theorem dX3_swaps_4 : decode cX3_swaps 4 = .ok (.iload_n 1, 1) := by decide +kernel
theorem dX3_swaps_5 : decode cX3_swaps 5 = .ok (.invokevirtual 106, 3) := by decide +kernel
theorem dX3_swaps_8 : decode cX3_swaps 8 = .ok (.ifCond .eq 19, 3) := by decide +kernel
theorem dX3_swaps_11 : decode cX3_swaps 11 = .ok (.aload_n 0, 1) := by decide +kernel
theorem dX3_swaps_12 : decode cX3_swaps 12 = .ok (.getfield 10, 3) := by decide +kernel
theorem dX3_swaps_15 : decode cX3_swaps 15 = .ok (.iload_n 2, 1) := by decide +kernel
theorem dX3_swaps_16 : decode cX3_swaps 16 = .ok (.invokevirtual 106, 3) := by decide +kernel
theorem dX3_swaps_19 : decode cX3_swaps 19 = .ok (.ifCond .eq 8, 3) := by decide +kernel
theorem dX3_swaps_22 : decode cX3_swaps 22 = .ok (.iload_n 1, 1) := by decide +kernel
theorem dX3_swaps_23 : decode cX3_swaps 23 = .ok (.iload_n 2, 1) := by decide +kernel
theorem dX3_swaps_24 : decode cX3_swaps 24 = .ok (.if_icmp .ne 10, 3) := by decide +kernel
theorem dX3_swaps_27 : decode cX3_swaps 27 = .ok (.aload_n 0, 1) := by decide +kernel
theorem dX3_swaps_28 : decode cX3_swaps 28 = .ok (.bipush (-2), 2) := by decide +kernel
theorem dX3_swaps_30 : decode cX3_swaps 30 = .ok (.invokevirtual 58, 3) := by decide +kernel
theorem dX3_swaps_33 : decode cX3_swaps 33 = .ok (.ireturn, 1) := by decide +kernel
theorem dX3_swaps_34 : decode cX3_swaps 34 = .ok (.aload_n 0, 1) := by decide +kernel
theorem dX3_swaps_35 : decode cX3_swaps 35 = .ok (.getfield 10, 3) := by decide +kernel
theorem dX3_swaps_38 : decode cX3_swaps 38 = .ok (.iload_n 1, 1) := by decide +kernel
theorem dX3_swaps_39 : decode cX3_swaps 39 = .ok (.invokevirtual 112, 3) := by decide +kernel
theorem dX3_swaps_42 : decode cX3_swaps 42 = .ok (.istore_n 3, 1) := by decide +kernel
theorem dX3_swaps_43 : decode cX3_swaps 43 = .ok (.aload_n 0, 1) := by decide +kernel
theorem dX3_swaps_44 : decode cX3_swaps 44 = .ok (.getfield 10, 3) := by decide +kernel
theorem dX3_swaps_47 : decode cX3_swaps 47 = .ok (.iload_n 2, 1) := by decide +kernel
theorem dX3_swaps_48 : decode cX3_swaps 48 = .ok (.invokevirtual 112, 3) := by decide +kernel
theorem dX3_swaps_51 : decode cX3_swaps 51 = .ok (.istore 4, 2) := by decide +kernel
theorem dX3_swaps_53 : decode cX3_swaps 53 = .ok (.iload_n 3, 1) := by decide +kernel
theorem dX3_swaps_54 : decode cX3_swaps 54 = .ok (.iconst (-1), 1) := by decide +kernel
theorem dX3_swaps_55 : decode cX3_swaps 55 = .ok (.if_icmp .ne 16, 3) := by decide +kernel
theorem dX3_swaps_58 : decode cX3_swaps 58 = .ok (.iload 4, 2) := by decide +kernel
theorem dX3_swaps_60 : decode cX3_swaps 60 = .ok (.iconst (-1), 1) := by decide +kernel
theorem dX3_swaps_61 : decode cX3_swaps 61 = .ok (.if_icmp .ne 10, 3) := by decide +kernel
theorem dX3_swaps_64 : decode cX3_swaps 64 = .ok (.aload_n 0, 1) := by decide +kernel
theorem dX3_swaps_65 : decode cX3_swaps 65 = .ok (.bipush (-3), 2) := by decide +kernel
theorem dX3_swaps_67 : decode cX3_swaps 67 = .ok (.invokevirtual 58, 3) := by decide +kernel
theorem dX3_swaps_70 : decode cX3_swaps 70 = .ok (.ireturn, 1) := by decide +kernel
theorem dX3_swaps_71 : decode cX3_swaps 71 = .ok (.aload_n 0, 1) := by decide +kernel
theorem dX3_swaps_72 : decode cX3_swaps 72 = .ok (.getfield 10, 3) := by decide +kernel
theorem dX3_swaps_75 : decode cX3_swaps 75 = .ok (.invokevirtual 118, 3) := by decide +kernel
theorem dX3_swaps_78 : decode cX3_swaps 78 = .ok (.aload_n 0, 1) := by decide +kernel
theorem dX3_swaps_79 : decode cX3_swaps 79 = .ok (.getfield 10, 3) := by decide +kernel
theorem dX3_swaps_82 : decode cX3_swaps 82 = .ok (.getfield 121, 3) := by decide +kernel
theorem dX3_swaps_85 : decode cX3_swaps 85 = .ok (.iload_n 1, 1) := by decide +kernel
theorem dX3_swaps_86 : decode cX3_swaps 86 = .ok (.iload 4, 2) := by decide +kernel
theorem dX3_swaps_88 : decode cX3_swaps 88 = .ok (.invokestatic 125, 3) := by decide +kernel
theorem dX3_swaps_91 : decode cX3_swaps 91 = .ok (.aload_n 0, 1) := by decide +kernel
theorem dX3_swaps_92 : decode cX3_swaps 92 = .ok (.getfield 10, 3) := by decide +kernel
theorem dX3_swaps_95 : decode cX3_swaps 95 = .ok (.getfield 121, 3) := by decide +kernel
theorem dX3_swaps_98 : decode cX3_swaps 98 = .ok (.iload_n 2, 1) := by decide +kernel
theorem dX3_swaps_99 : decode cX3_swaps 99 = .ok (.iload_n 3, 1) := by decide +kernel
theorem dX3_swaps_100 : decode cX3_swaps 100 = .ok (.invokestatic 125, 3) := by decide +kernel
theorem dX3_swaps_103 : decode cX3_swaps 103 = .ok (.aload_n 0, 1) := by decide +kernel
theorem dX3_swaps_104 : decode cX3_swaps 104 = .ok (.getfield 10, 3) := by decide +kernel
theorem dX3_swaps_107 : decode cX3_swaps 107 = .ok (.invokevirtual 132, 3) := by decide +kernel
theorem dX3_swaps_110 : decode cX3_swaps 110 = .ok (.ireturn, 1) := by decide +kernel
theorem dX3_undo_0 : decode cX3_undo 0 = .ok (.aload_n 0, 1) := by decide +kernel
theorem dX3_undo_1 : decode cX3_undo 1 = .ok (.getfield 10, 3) := by decide +kernel
theorem dX3_undo_4 : decode cX3_undo 4 = .ok (.getfield 73, 3) := by decide +kernel
theorem dX3_undo_7 : decode cX3_undo 7 = .ok (.ifCond .gt 10, 3) := by decide +kernel
theorem dX3_undo_10 : decode cX3_undo 10 = .ok (.aload_n 0, 1) := by decide +kernel
theorem dX3_undo_11 : decode cX3_undo 11 = .ok (.bipush (-3), 2) := by decide +kernel
theorem dX3_undo_13 : decode cX3_undo 13 = .ok (.invokevirtual 58, 3) := by decide +kernel
theorem dX3_undo_16 : decode cX3_undo 16 = .ok (.ireturn, 1) := by decide +kernel
theorem dX3_undo_17 : decode cX3_undo 17 = .ok (.aload_n 0, 1) := by decide +kernel
theorem dX3_undo_18 : decode cX3_undo 18 = .ok (.getfield 10, 3) := by decide +kernel
theorem dX3_undo_21 : decode cX3_undo 21 = .ok (.invokevirtual 136, 3) := by decide +kernel
theorem dX3_undo_24 : decode cX3_undo 24 = .ok (.aload_n 0, 1) := by decide +kernel
theorem dX3_undo_25 : decode cX3_undo 25 = .ok (.getfield 10, 3) := by decide +kernel
theorem dX3_undo_28 : decode cX3_undo 28 = .ok (.invokevirtual 132, 3) := by decide +kernel
theorem dX3_undo_31 : decode cX3_undo 31 = .ok (.ireturn, 1) := by decide +kernel
theorem dX3_of_0 : decode cX3_of 0 = .ok (.aload_n 0, 1) := by decide +kernel
theorem dX3_of_1 : decode cX3_of 1 = .ok (.getfield 10, 3) := by decide +kernel
theorem dX3_of_4 : decode cX3_of 4 = .ok (.iload_n 1, 1) := by decide +kernel
theorem dX3_of_5 : decode cX3_of 5 = .ok (.invokevirtual 109, 3) := by decide +kernel
theorem dX3_of_8 : decode cX3_of 8 = .ok (.ifCond .eq 12, 3) := by decide +kernel
theorem dX3_of_11 : decode cX3_of 11 = .ok (.iload_n 2, 1) := by decide +kernel
theorem dX3_of_12 : decode cX3_of 12 = .ok (.iconst 0, 1) := by decide +kernel
theorem dX3_of_13 : decode cX3_of 13 = .ok (.iconst 3, 1) := by decide +kernel
theorem dX3_of_14 : decode cX3_of 14 = .ok (.invokestatic 50, 3) := by decide +kernel
theorem dX3_of_17 : decode cX3_of 17 = .ok (.ifCond .ne 10, 3) := by decide +kernel
theorem dX3_of_20 : decode cX3_of 20 = .ok (.aload_n 0, 1) := by decide +kernel
theorem dX3_of_21 : decode cX3_of 21 = .ok (.bipush (-2), 2) := by decide +kernel
theorem dX3_of_23 : decode cX3_of 23 = .ok (.invokevirtual 58, 3) := by decide +kernel
theorem dX3_of_26 : decode cX3_of 26 = .ok (.ireturn, 1) := by decide +kernel
theorem dX3_of_27 : decode cX3_of 27 = .ok (.iload_n 2, 1) := by decide +kernel
theorem dX3_of_28 : decode cX3_of 28 = .ok (.tableswitch 55 0 2 #[28, 37, 46], 28) := by decide +kernel
theorem dX3_of_56 : decode cX3_of 56 = .ok (.aload_n 0, 1) := by decide +kernel
theorem dX3_of_57 : decode cX3_of 57 = .ok (.getfield 10, 3) := by decide +kernel
theorem dX3_of_60 : decode cX3_of 60 = .ok (.iload_n 1, 1) := by decide +kernel
theorem dX3_of_61 : decode cX3_of 61 = .ok (.invokevirtual 139, 3) := by decide +kernel
theorem dX3_of_64 : decode cX3_of 64 = .ok (.ireturn, 1) := by decide +kernel
theorem dX3_of_65 : decode cX3_of 65 = .ok (.aload_n 0, 1) := by decide +kernel
theorem dX3_of_66 : decode cX3_of 66 = .ok (.getfield 10, 3) := by decide +kernel
theorem dX3_of_69 : decode cX3_of 69 = .ok (.iload_n 1, 1) := by decide +kernel
theorem dX3_of_70 : decode cX3_of 70 = .ok (.invokevirtual 142, 3) := by decide +kernel
theorem dX3_of_73 : decode cX3_of 73 = .ok (.ireturn, 1) := by decide +kernel
theorem dX3_of_74 : decode cX3_of 74 = .ok (.aload_n 0, 1) := by decide +kernel
theorem dX3_of_75 : decode cX3_of 75 = .ok (.getfield 10, 3) := by decide +kernel
theorem dX3_of_78 : decode cX3_of 78 = .ok (.iload_n 1, 1) := by decide +kernel
theorem dX3_of_79 : decode cX3_of 79 = .ok (.invokevirtual 145, 3) := by decide +kernel
theorem dX3_of_82 : decode cX3_of 82 = .ok (.ireturn, 1) := by decide +kernel
theorem dX3_of_83 : decode cX3_of 83 = .ok (.aload_n 0, 1) := by decide +kernel
theorem dX3_of_84 : decode cX3_of 84 = .ok (.getfield 10, 3) := by decide +kernel
theorem dX3_of_87 : decode cX3_of 87 = .ok (.iload_n 1, 1) := by decide +kernel
theorem dX3_of_88 : decode cX3_of 88 = .ok (.invokevirtual 115, 3) := by decide +kernel
theorem dX3_of_91 : decode cX3_of 91 = .ok (.ireturn, 1) := by decide +kernel
theorem dX3_about_0 : decode cX3_about 0 = .ok (.aload_n 0, 1) := by decide +kernel
theorem dX3_about_1 : decode cX3_about 1 = .ok (.getfield 10, 3) := by decide +kernel
theorem dX3_about_4 : decode cX3_about 4 = .ok (.iload_n 1, 1) := by decide +kernel
theorem dX3_about_5 : decode cX3_about 5 = .ok (.invokevirtual 106, 3) := by decide +kernel
theorem dX3_about_8 : decode cX3_about 8 = .ok (.ifCond .eq 12, 3) := by decide +kernel
theorem dX3_about_11 : decode cX3_about 11 = .ok (.iload_n 2, 1) := by decide +kernel
theorem dX3_about_12 : decode cX3_about 12 = .ok (.iconst 0, 1) := by decide +kernel
theorem dX3_about_13 : decode cX3_about 13 = .ok (.iconst 4, 1) := by decide +kernel
theorem dX3_about_14 : decode cX3_about 14 = .ok (.invokestatic 50, 3) := by decide +kernel
theorem dX3_about_17 : decode cX3_about 17 = .ok (.ifCond .ne 10, 3) := by decide +kernel
theorem dX3_about_20 : decode cX3_about 20 = .ok (.aload_n 0, 1) := by decide +kernel
theorem dX3_about_21 : decode cX3_about 21 = .ok (.bipush (-2), 2) := by decide +kernel
theorem dX3_about_23 : decode cX3_about 23 = .ok (.invokevirtual 58, 3) := by decide +kernel
theorem dX3_about_26 : decode cX3_about 26 = .ok (.ireturn, 1) := by decide +kernel
theorem dX3_about_27 : decode cX3_about 27 = .ok (.aload_n 0, 1) := by decide +kernel
theorem dX3_about_28 : decode cX3_about 28 = .ok (.getfield 10, 3) := by decide +kernel
theorem dX3_about_31 : decode cX3_about 31 = .ok (.iload_n 1, 1) := by decide +kernel
theorem dX3_about_32 : decode cX3_about 32 = .ok (.invokevirtual 112, 3) := by decide +kernel
theorem dX3_about_35 : decode cX3_about 35 = .ok (.istore_n 3, 1) := by decide +kernel
theorem dX3_about_36 : decode cX3_about 36 = .ok (.iload_n 2, 1) := by decide +kernel
theorem dX3_about_37 : decode cX3_about 37 = .ok (.tableswitch 85 0 3 #[31, 33, 59, 68], 31) := by decide +kernel
theorem dX3_about_68 : decode cX3_about 68 = .ok (.iload_n 3, 1) := by decide +kernel
theorem dX3_about_69 : decode cX3_about 69 = .ok (.ireturn, 1) := by decide +kernel
theorem dX3_about_70 : decode cX3_about 70 = .ok (.iload_n 3, 1) := by decide +kernel
theorem dX3_about_71 : decode cX3_about 71 = .ok (.iconst (-1), 1) := by decide +kernel
theorem dX3_about_72 : decode cX3_about 72 = .ok (.if_icmp .ne 7, 3) := by decide +kernel
theorem dX3_about_75 : decode cX3_about 75 = .ok (.iconst (-1), 1) := by decide +kernel
theorem dX3_about_76 : decode cX3_about 76 = .ok (.goto 19, 3) := by decide +kernel
theorem dX3_about_79 : decode cX3_about 79 = .ok (.aload_n 0, 1) := by decide +kernel
theorem dX3_about_80 : decode cX3_about 80 = .ok (.getfield 10, 3) := by decide +kernel
theorem dX3_about_83 : decode cX3_about 83 = .ok (.aload_n 0, 1) := by decide +kernel
theorem dX3_about_84 : decode cX3_about 84 = .ok (.getfield 10, 3) := by decide +kernel
theorem dX3_about_87 : decode cX3_about 87 = .ok (.getfield 70, 3) := by decide +kernel
theorem dX3_about_90 : decode cX3_about 90 = .ok (.iload_n 3, 1) := by decide +kernel
theorem dX3_about_91 : decode cX3_about 91 = .ok (.iload_n 1, 1) := by decide +kernel
theorem dX3_about_92 : decode cX3_about 92 = .ok (.invokevirtual 148, 3) := by decide +kernel
theorem dX3_about_95 : decode cX3_about 95 = .ok (.ireturn, 1) := by decide +kernel
theorem dX3_about_96 : decode cX3_about 96 = .ok (.aload_n 0, 1) := by decide +kernel
theorem dX3_about_97 : decode cX3_about 97 = .ok (.getfield 10, 3) := by decide +kernel
theorem dX3_about_100 : decode cX3_about 100 = .ok (.iload_n 1, 1) := by decide +kernel
theorem dX3_about_101 : decode cX3_about 101 = .ok (.invokevirtual 152, 3) := by decide +kernel
theorem dX3_about_104 : decode cX3_about 104 = .ok (.ireturn, 1) := by decide +kernel
theorem dX3_about_105 : decode cX3_about 105 = .ok (.aload_n 0, 1) := by decide +kernel
theorem dX3_about_106 : decode cX3_about 106 = .ok (.getfield 10, 3) := by decide +kernel
theorem dX3_about_109 : decode cX3_about 109 = .ok (.iload_n 1, 1) := by decide +kernel
theorem dX3_about_110 : decode cX3_about 110 = .ok (.invokevirtual 129, 3) := by decide +kernel
theorem dX3_about_113 : decode cX3_about 113 = .ok (.ifCond .eq 7, 3) := by decide +kernel
theorem dX3_about_116 : decode cX3_about 116 = .ok (.iconst 1, 1) := by decide +kernel
theorem dX3_about_117 : decode cX3_about 117 = .ok (.goto 4, 3) := by decide +kernel
theorem dX3_about_120 : decode cX3_about 120 = .ok (.iconst 0, 1) := by decide +kernel
theorem dX3_about_121 : decode cX3_about 121 = .ok (.ireturn, 1) := by decide +kernel
theorem dX3_about_122 : decode cX3_about 122 = .ok (.aload_n 0, 1) := by decide +kernel
theorem dX3_about_123 : decode cX3_about 123 = .ok (.getfield 10, 3) := by decide +kernel
theorem dX3_about_126 : decode cX3_about 126 = .ok (.iload_n 1, 1) := by decide +kernel
theorem dX3_about_127 : decode cX3_about 127 = .ok (.invokevirtual 155, 3) := by decide +kernel
theorem dX3_about_130 : decode cX3_about 130 = .ok (.ireturn, 1) := by decide +kernel
theorem dX3_fits_0 : decode cX3_fits 0 = .ok (.aload_n 0, 1) := by decide +kernel
theorem dX3_fits_1 : decode cX3_fits 1 = .ok (.getfield 10, 3) := by decide +kernel
theorem dX3_fits_4 : decode cX3_fits 4 = .ok (.iload_n 1, 1) := by decide +kernel
theorem dX3_fits_5 : decode cX3_fits 5 = .ok (.invokevirtual 109, 3) := by decide +kernel
theorem dX3_fits_8 : decode cX3_fits 8 = .ok (.ifCond .eq 14, 3) := by decide +kernel
theorem dX3_fits_11 : decode cX3_fits 11 = .ok (.aload_n 0, 1) := by decide +kernel
theorem dX3_fits_12 : decode cX3_fits 12 = .ok (.getfield 10, 3) := by decide +kernel
theorem dX3_fits_15 : decode cX3_fits 15 = .ok (.iload_n 2, 1) := by decide +kernel
theorem dX3_fits_16 : decode cX3_fits 16 = .ok (.invokevirtual 106, 3) := by decide +kernel
theorem dX3_fits_19 : decode cX3_fits 19 = .ok (.ifCond .ne 10, 3) := by decide +kernel
theorem dX3_fits_22 : decode cX3_fits 22 = .ok (.aload_n 0, 1) := by decide +kernel
theorem dX3_fits_23 : decode cX3_fits 23 = .ok (.bipush (-2), 2) := by decide +kernel
theorem dX3_fits_25 : decode cX3_fits 25 = .ok (.invokevirtual 58, 3) := by decide +kernel
theorem dX3_fits_28 : decode cX3_fits 28 = .ok (.ireturn, 1) := by decide +kernel
theorem dX3_fits_29 : decode cX3_fits 29 = .ok (.aload_n 0, 1) := by decide +kernel
theorem dX3_fits_30 : decode cX3_fits 30 = .ok (.getfield 10, 3) := by decide +kernel
theorem dX3_fits_33 : decode cX3_fits 33 = .ok (.aload_n 0, 1) := by decide +kernel
theorem dX3_fits_34 : decode cX3_fits 34 = .ok (.getfield 10, 3) := by decide +kernel
theorem dX3_fits_37 : decode cX3_fits 37 = .ok (.getfield 70, 3) := by decide +kernel
theorem dX3_fits_40 : decode cX3_fits 40 = .ok (.iload_n 1, 1) := by decide +kernel
theorem dX3_fits_41 : decode cX3_fits 41 = .ok (.iload_n 2, 1) := by decide +kernel
theorem dX3_fits_42 : decode cX3_fits 42 = .ok (.invokevirtual 158, 3) := by decide +kernel
theorem dX3_fits_45 : decode cX3_fits 45 = .ok (.ifCond .eq 7, 3) := by decide +kernel
theorem dX3_fits_48 : decode cX3_fits 48 = .ok (.iconst 1, 1) := by decide +kernel
theorem dX3_fits_49 : decode cX3_fits 49 = .ok (.goto 4, 3) := by decide +kernel
theorem dX3_fits_52 : decode cX3_fits 52 = .ok (.iconst 0, 1) := by decide +kernel
theorem dX3_fits_53 : decode cX3_fits 53 = .ok (.ireturn, 1) := by decide +kernel
theorem dX3_ways_0 : decode cX3_ways 0 = .ok (.aload_n 0, 1) := by decide +kernel
theorem dX3_ways_1 : decode cX3_ways 1 = .ok (.getfield 35, 3) := by decide +kernel
theorem dX3_ways_4 : decode cX3_ways 4 = .ok (.aload_n 0, 1) := by decide +kernel
theorem dX3_ways_5 : decode cX3_ways 5 = .ok (.getfield 10, 3) := by decide +kernel
theorem dX3_ways_8 : decode cX3_ways 8 = .ok (.aload_n 0, 1) := by decide +kernel
theorem dX3_ways_9 : decode cX3_ways 9 = .ok (.getfield 10, 3) := by decide +kernel
theorem dX3_ways_12 : decode cX3_ways 12 = .ok (.getfield 70, 3) := by decide +kernel
theorem dX3_ways_15 : decode cX3_ways 15 = .ok (.invokevirtual 161, 3) := by decide +kernel
theorem dX3_ways_18 : decode cX3_ways 18 = .ok (.aload_n 0, 1) := by decide +kernel
theorem dX3_ways_19 : decode cX3_ways 19 = .ok (.getfield 35, 3) := by decide +kernel
theorem dX3_ways_22 : decode cX3_ways 22 = .ok (.aload_n 0, 1) := by decide +kernel
theorem dX3_ways_23 : decode cX3_ways 23 = .ok (.getfield 10, 3) := by decide +kernel
theorem dX3_ways_26 : decode cX3_ways 26 = .ok (.invokevirtual 165, 3) := by decide +kernel
theorem dX3_ways_29 : decode cX3_ways 29 = .ok (.ireturn, 1) := by decide +kernel
theorem dX3_first_0 : decode cX3_first 0 = .ok (.aload_n 0, 1) := by decide +kernel
theorem dX3_first_1 : decode cX3_first 1 = .ok (.getfield 10, 3) := by decide +kernel
theorem dX3_first_4 : decode cX3_first 4 = .ok (.iload_n 1, 1) := by decide +kernel
theorem dX3_first_5 : decode cX3_first 5 = .ok (.invokevirtual 106, 3) := by decide +kernel
theorem dX3_first_8 : decode cX3_first 8 = .ok (.ifCond .ne 10, 3) := by decide +kernel
theorem dX3_first_11 : decode cX3_first 11 = .ok (.aload_n 0, 1) := by decide +kernel
theorem dX3_first_12 : decode cX3_first 12 = .ok (.bipush (-2), 2) := by decide +kernel
theorem dX3_first_14 : decode cX3_first 14 = .ok (.invokevirtual 58, 3) := by decide +kernel
theorem dX3_first_17 : decode cX3_first 17 = .ok (.ireturn, 1) := by decide +kernel
theorem dX3_first_18 : decode cX3_first 18 = .ok (.aload_n 0, 1) := by decide +kernel
theorem dX3_first_19 : decode cX3_first 19 = .ok (.getfield 35, 3) := by decide +kernel
theorem dX3_first_22 : decode cX3_first 22 = .ok (.aload_n 0, 1) := by decide +kernel
theorem dX3_first_23 : decode cX3_first 23 = .ok (.getfield 10, 3) := by decide +kernel
theorem dX3_first_26 : decode cX3_first 26 = .ok (.aload_n 0, 1) := by decide +kernel
theorem dX3_first_27 : decode cX3_first 27 = .ok (.getfield 10, 3) := by decide +kernel
theorem dX3_first_30 : decode cX3_first 30 = .ok (.getfield 70, 3) := by decide +kernel
theorem dX3_first_33 : decode cX3_first 33 = .ok (.invokevirtual 161, 3) := by decide +kernel
theorem dX3_first_36 : decode cX3_first 36 = .ok (.aload_n 0, 1) := by decide +kernel
theorem dX3_first_37 : decode cX3_first 37 = .ok (.getfield 35, 3) := by decide +kernel
theorem dX3_first_40 : decode cX3_first 40 = .ok (.aload_n 0, 1) := by decide +kernel
theorem dX3_first_41 : decode cX3_first 41 = .ok (.getfield 10, 3) := by decide +kernel
theorem dX3_first_44 : decode cX3_first 44 = .ok (.iconst 0, 1) := by decide +kernel
theorem dX3_first_45 : decode cX3_first 45 = .ok (.invokevirtual 169, 3) := by decide +kernel
theorem dX3_first_48 : decode cX3_first 48 = .ok (.bipush (-6), 2) := by decide +kernel
theorem dX3_first_50 : decode cX3_first 50 = .ok (.if_icmp .ne 7, 3) := by decide +kernel
theorem dX3_first_53 : decode cX3_first 53 = .ok (.iconst (-1), 1) := by decide +kernel
theorem dX3_first_54 : decode cX3_first 54 = .ok (.goto 16, 3) := by decide +kernel
theorem dX3_first_57 : decode cX3_first 57 = .ok (.aload_n 0, 1) := by decide +kernel
theorem dX3_first_58 : decode cX3_first 58 = .ok (.getfield 35, 3) := by decide +kernel
theorem dX3_first_61 : decode cX3_first 61 = .ok (.aload_n 0, 1) := by decide +kernel
theorem dX3_first_62 : decode cX3_first 62 = .ok (.getfield 10, 3) := by decide +kernel
theorem dX3_first_65 : decode cX3_first 65 = .ok (.iconst 0, 1) := by decide +kernel
theorem dX3_first_66 : decode cX3_first 66 = .ok (.iload_n 1, 1) := by decide +kernel
theorem dX3_first_67 : decode cX3_first 67 = .ok (.invokevirtual 173, 3) := by decide +kernel
theorem dX3_first_70 : decode cX3_first 70 = .ok (.ireturn, 1) := by decide +kernel
theorem dX3_cheap_0 : decode cX3_cheap 0 = .ok (.iload_n 1, 1) := by decide +kernel
theorem dX3_cheap_1 : decode cX3_cheap 1 = .ok (.iconst (-1), 1) := by decide +kernel
theorem dX3_cheap_2 : decode cX3_cheap 2 = .ok (.if_icmp .eq 24, 3) := by decide +kernel
theorem dX3_cheap_5 : decode cX3_cheap 5 = .ok (.aload_n 0, 1) := by decide +kernel
theorem dX3_cheap_6 : decode cX3_cheap 6 = .ok (.getfield 10, 3) := by decide +kernel
theorem dX3_cheap_9 : decode cX3_cheap 9 = .ok (.iload_n 1, 1) := by decide +kernel
theorem dX3_cheap_10 : decode cX3_cheap 10 = .ok (.invokevirtual 106, 3) := by decide +kernel
theorem dX3_cheap_13 : decode cX3_cheap 13 = .ok (.ifCond .ne 13, 3) := by decide +kernel
theorem dX3_cheap_16 : decode cX3_cheap 16 = .ok (.aload_n 0, 1) := by decide +kernel
theorem dX3_cheap_17 : decode cX3_cheap 17 = .ok (.bipush (-2), 2) := by decide +kernel
theorem dX3_cheap_19 : decode cX3_cheap 19 = .ok (.invokevirtual 58, 3) := by decide +kernel
theorem dX3_cheap_22 : decode cX3_cheap 22 = .ok (.pop, 1) := by decide +kernel
theorem dX3_cheap_23 : decode cX3_cheap 23 = .ok (.bipush (-10), 2) := by decide +kernel
theorem dX3_cheap_25 : decode cX3_cheap 25 = .ok (.ireturn, 1) := by decide +kernel
theorem dX3_cheap_26 : decode cX3_cheap 26 = .ok (.aload_n 0, 1) := by decide +kernel
theorem dX3_cheap_27 : decode cX3_cheap 27 = .ok (.getfield 35, 3) := by decide +kernel
theorem dX3_cheap_30 : decode cX3_cheap 30 = .ok (.aload_n 0, 1) := by decide +kernel
theorem dX3_cheap_31 : decode cX3_cheap 31 = .ok (.getfield 10, 3) := by decide +kernel
theorem dX3_cheap_34 : decode cX3_cheap 34 = .ok (.aload_n 0, 1) := by decide +kernel
theorem dX3_cheap_35 : decode cX3_cheap 35 = .ok (.getfield 10, 3) := by decide +kernel
theorem dX3_cheap_38 : decode cX3_cheap 38 = .ok (.getfield 70, 3) := by decide +kernel
theorem dX3_cheap_41 : decode cX3_cheap 41 = .ok (.invokevirtual 161, 3) := by decide +kernel
theorem dX3_cheap_44 : decode cX3_cheap 44 = .ok (.aload_n 0, 1) := by decide +kernel
theorem dX3_cheap_45 : decode cX3_cheap 45 = .ok (.getfield 35, 3) := by decide +kernel
theorem dX3_cheap_48 : decode cX3_cheap 48 = .ok (.aload_n 0, 1) := by decide +kernel
theorem dX3_cheap_49 : decode cX3_cheap 49 = .ok (.getfield 10, 3) := by decide +kernel
theorem dX3_cheap_52 : decode cX3_cheap 52 = .ok (.iconst 1, 1) := by decide +kernel
theorem dX3_cheap_53 : decode cX3_cheap 53 = .ok (.invokevirtual 169, 3) := by decide +kernel
theorem dX3_cheap_56 : decode cX3_cheap 56 = .ok (.istore_n 2, 1) := by decide +kernel
theorem dX3_cheap_57 : decode cX3_cheap 57 = .ok (.iload_n 2, 1) := by decide +kernel
theorem dX3_cheap_58 : decode cX3_cheap 58 = .ok (.bipush (-6), 2) := by decide +kernel
theorem dX3_cheap_60 : decode cX3_cheap 60 = .ok (.if_icmp .eq 8, 3) := by decide +kernel
theorem dX3_cheap_63 : decode cX3_cheap 63 = .ok (.iload_n 1, 1) := by decide +kernel
theorem dX3_cheap_64 : decode cX3_cheap 64 = .ok (.iconst (-1), 1) := by decide +kernel
theorem dX3_cheap_65 : decode cX3_cheap 65 = .ok (.if_icmp .ne 5, 3) := by decide +kernel
theorem dX3_cheap_68 : decode cX3_cheap 68 = .ok (.iload_n 2, 1) := by decide +kernel
theorem dX3_cheap_69 : decode cX3_cheap 69 = .ok (.ireturn, 1) := by decide +kernel
theorem dX3_cheap_70 : decode cX3_cheap 70 = .ok (.aload_n 0, 1) := by decide +kernel
theorem dX3_cheap_71 : decode cX3_cheap 71 = .ok (.getfield 35, 3) := by decide +kernel
theorem dX3_cheap_74 : decode cX3_cheap 74 = .ok (.aload_n 0, 1) := by decide +kernel
theorem dX3_cheap_75 : decode cX3_cheap 75 = .ok (.getfield 10, 3) := by decide +kernel
theorem dX3_cheap_78 : decode cX3_cheap 78 = .ok (.iconst 1, 1) := by decide +kernel
theorem dX3_cheap_79 : decode cX3_cheap 79 = .ok (.iload_n 1, 1) := by decide +kernel
theorem dX3_cheap_80 : decode cX3_cheap 80 = .ok (.invokevirtual 173, 3) := by decide +kernel
theorem dX3_cheap_83 : decode cX3_cheap 83 = .ok (.ireturn, 1) := by decide +kernel
theorem dX3_more_0 : decode cX3_more 0 = .ok (.aload_n 0, 1) := by decide +kernel
theorem dX3_more_1 : decode cX3_more 1 = .ok (.getfield 35, 3) := by decide +kernel
theorem dX3_more_4 : decode cX3_more 4 = .ok (.aload_n 0, 1) := by decide +kernel
theorem dX3_more_5 : decode cX3_more 5 = .ok (.getfield 10, 3) := by decide +kernel
theorem dX3_more_8 : decode cX3_more 8 = .ok (.aload_n 0, 1) := by decide +kernel
theorem dX3_more_9 : decode cX3_more 9 = .ok (.getfield 10, 3) := by decide +kernel
theorem dX3_more_12 : decode cX3_more 12 = .ok (.getfield 70, 3) := by decide +kernel
theorem dX3_more_15 : decode cX3_more 15 = .ok (.invokevirtual 161, 3) := by decide +kernel
theorem dX3_more_18 : decode cX3_more 18 = .ok (.aload_n 0, 1) := by decide +kernel
theorem dX3_more_19 : decode cX3_more 19 = .ok (.getfield 35, 3) := by decide +kernel
theorem dX3_more_22 : decode cX3_more 22 = .ok (.aload_n 0, 1) := by decide +kernel
theorem dX3_more_23 : decode cX3_more 23 = .ok (.getfield 10, 3) := by decide +kernel
theorem dX3_more_26 : decode cX3_more 26 = .ok (.invokevirtual 177, 3) := by decide +kernel
theorem dX3_more_29 : decode cX3_more 29 = .ok (.aload_n 0, 1) := by decide +kernel
theorem dX3_more_30 : decode cX3_more 30 = .ok (.getfield 35, 3) := by decide +kernel
theorem dX3_more_33 : decode cX3_more 33 = .ok (.aload_n 0, 1) := by decide +kernel
theorem dX3_more_34 : decode cX3_more 34 = .ok (.getfield 10, 3) := by decide +kernel
theorem dX3_more_37 : decode cX3_more 37 = .ok (.invokevirtual 165, 3) := by decide +kernel
theorem dX3_more_40 : decode cX3_more 40 = .ok (.ireturn, 1) := by decide +kernel
theorem dX3_needs_0 : decode cX3_needs 0 = .ok (.iload_n 1, 1) := by decide +kernel
theorem dX3_needs_1 : decode cX3_needs 1 = .ok (.iconst 0, 1) := by decide +kernel
theorem dX3_needs_2 : decode cX3_needs 2 = .ok (.iconst 1, 1) := by decide +kernel
theorem dX3_needs_3 : decode cX3_needs 3 = .ok (.invokestatic 50, 3) := by decide +kernel
theorem dX3_needs_6 : decode cX3_needs 6 = .ok (.ifCond .ne 10, 3) := by decide +kernel
theorem dX3_needs_9 : decode cX3_needs 9 = .ok (.aload_n 0, 1) := by decide +kernel
theorem dX3_needs_10 : decode cX3_needs 10 = .ok (.bipush (-2), 2) := by decide +kernel
theorem dX3_needs_12 : decode cX3_needs 12 = .ok (.invokevirtual 58, 3) := by decide +kernel
theorem dX3_needs_15 : decode cX3_needs 15 = .ok (.ireturn, 1) := by decide +kernel
theorem dX3_needs_16 : decode cX3_needs 16 = .ok (.aload_n 0, 1) := by decide +kernel
theorem dX3_needs_17 : decode cX3_needs 17 = .ok (.getfield 35, 3) := by decide +kernel
theorem dX3_needs_20 : decode cX3_needs 20 = .ok (.aload_n 0, 1) := by decide +kernel
theorem dX3_needs_21 : decode cX3_needs 21 = .ok (.getfield 10, 3) := by decide +kernel
theorem dX3_needs_24 : decode cX3_needs 24 = .ok (.aload_n 0, 1) := by decide +kernel
theorem dX3_needs_25 : decode cX3_needs 25 = .ok (.getfield 10, 3) := by decide +kernel
theorem dX3_needs_28 : decode cX3_needs 28 = .ok (.getfield 70, 3) := by decide +kernel
theorem dX3_needs_31 : decode cX3_needs 31 = .ok (.invokevirtual 161, 3) := by decide +kernel
theorem dX3_needs_34 : decode cX3_needs 34 = .ok (.aload_n 0, 1) := by decide +kernel
theorem dX3_needs_35 : decode cX3_needs 35 = .ok (.getfield 35, 3) := by decide +kernel
theorem dX3_needs_38 : decode cX3_needs 38 = .ok (.aload_n 0, 1) := by decide +kernel
theorem dX3_needs_39 : decode cX3_needs 39 = .ok (.getfield 10, 3) := by decide +kernel
theorem dX3_needs_42 : decode cX3_needs 42 = .ok (.invokevirtual 165, 3) := by decide +kernel
theorem dX3_needs_45 : decode cX3_needs 45 = .ok (.istore_n 2, 1) := by decide +kernel
theorem dX3_needs_46 : decode cX3_needs 46 = .ok (.iconst 0, 1) := by decide +kernel
theorem dX3_needs_47 : decode cX3_needs 47 = .ok (.istore_n 3, 1) := by decide +kernel
theorem dX3_needs_48 : decode cX3_needs 48 = .ok (.iconst 0, 1) := by decide +kernel
theorem dX3_needs_49 : decode cX3_needs 49 = .ok (.istore 4, 2) := by decide +kernel
theorem dX3_needs_51 : decode cX3_needs 51 = .ok (.iload 4, 2) := by decide +kernel
theorem dX3_needs_53 : decode cX3_needs 53 = .ok (.aload_n 0, 1) := by decide +kernel
theorem dX3_needs_54 : decode cX3_needs 54 = .ok (.getfield 10, 3) := by decide +kernel
theorem dX3_needs_57 : decode cX3_needs 57 = .ok (.getfield 62, 3) := by decide +kernel
theorem dX3_needs_60 : decode cX3_needs 60 = .ok (.if_icmp .ge 99, 3) := by decide +kernel
theorem dX3_needs_63 : decode cX3_needs 63 = .ok (.aload_n 0, 1) := by decide +kernel
theorem dX3_needs_64 : decode cX3_needs 64 = .ok (.getfield 35, 3) := by decide +kernel
theorem dX3_needs_67 : decode cX3_needs 67 = .ok (.aload_n 0, 1) := by decide +kernel
theorem dX3_needs_68 : decode cX3_needs 68 = .ok (.getfield 10, 3) := by decide +kernel
theorem dX3_needs_71 : decode cX3_needs 71 = .ok (.aload_n 0, 1) := by decide +kernel
theorem dX3_needs_72 : decode cX3_needs 72 = .ok (.getfield 10, 3) := by decide +kernel
theorem dX3_needs_75 : decode cX3_needs 75 = .ok (.getfield 70, 3) := by decide +kernel
theorem dX3_needs_78 : decode cX3_needs 78 = .ok (.invokevirtual 161, 3) := by decide +kernel
theorem dX3_needs_81 : decode cX3_needs 81 = .ok (.aload_n 0, 1) := by decide +kernel
theorem dX3_needs_82 : decode cX3_needs 82 = .ok (.getfield 35, 3) := by decide +kernel
theorem dX3_needs_85 : decode cX3_needs 85 = .ok (.iload 4, 2) := by decide +kernel
theorem dX3_needs_87 : decode cX3_needs 87 = .ok (.invokevirtual 180, 3) := by decide +kernel
theorem dX3_needs_90 : decode cX3_needs 90 = .ok (.aload_n 0, 1) := by decide +kernel
theorem dX3_needs_91 : decode cX3_needs 91 = .ok (.getfield 35, 3) := by decide +kernel
theorem dX3_needs_94 : decode cX3_needs 94 = .ok (.aload_n 0, 1) := by decide +kernel
theorem dX3_needs_95 : decode cX3_needs 95 = .ok (.getfield 10, 3) := by decide +kernel
theorem dX3_needs_98 : decode cX3_needs 98 = .ok (.invokevirtual 165, 3) := by decide +kernel
theorem dX3_needs_101 : decode cX3_needs 101 = .ok (.istore 5, 2) := by decide +kernel
theorem dX3_needs_103 : decode cX3_needs 103 = .ok (.iload_n 1, 1) := by decide +kernel
theorem dX3_needs_104 : decode cX3_needs 104 = .ok (.ifCond .ne 20, 3) := by decide +kernel
theorem dX3_needs_107 : decode cX3_needs 107 = .ok (.iload_n 2, 1) := by decide +kernel
theorem dX3_needs_108 : decode cX3_needs 108 = .ok (.ifCond .le 12, 3) := by decide +kernel
theorem dX3_needs_111 : decode cX3_needs 111 = .ok (.iload 5, 2) := by decide +kernel
theorem dX3_needs_113 : decode cX3_needs 113 = .ok (.ifCond .ne 7, 3) := by decide +kernel
theorem dX3_needs_116 : decode cX3_needs 116 = .ok (.iconst 1, 1) := by decide +kernel
theorem dX3_needs_117 : decode cX3_needs 117 = .ok (.goto 18, 3) := by decide +kernel
theorem dX3_needs_120 : decode cX3_needs 120 = .ok (.iconst 0, 1) := by decide +kernel
theorem dX3_needs_121 : decode cX3_needs 121 = .ok (.goto 14, 3) := by decide +kernel
theorem dX3_needs_124 : decode cX3_needs 124 = .ok (.iload 5, 2) := by decide +kernel
theorem dX3_needs_126 : decode cX3_needs 126 = .ok (.iload_n 2, 1) := by decide +kernel
theorem dX3_needs_127 : decode cX3_needs 127 = .ok (.if_icmp .ne 7, 3) := by decide +kernel
theorem dX3_needs_130 : decode cX3_needs 130 = .ok (.iconst 1, 1) := by decide +kernel
theorem dX3_needs_131 : decode cX3_needs 131 = .ok (.goto 4, 3) := by decide +kernel
theorem dX3_needs_134 : decode cX3_needs 134 = .ok (.iconst 0, 1) := by decide +kernel
theorem dX3_needs_135 : decode cX3_needs 135 = .ok (.istore 6, 2) := by decide +kernel
theorem dX3_needs_137 : decode cX3_needs 137 = .ok (.iload_n 3, 1) := by decide +kernel
theorem dX3_needs_138 : decode cX3_needs 138 = .ok (.iload 6, 2) := by decide +kernel
theorem dX3_needs_140 : decode cX3_needs 140 = .ok (.ifCond .eq 10, 3) := by decide +kernel
theorem dX3_needs_143 : decode cX3_needs 143 = .ok (.iconst 1, 1) := by decide +kernel
theorem dX3_needs_144 : decode cX3_needs 144 = .ok (.iload 4, 2) := by decide +kernel
theorem dX3_needs_146 : decode cX3_needs 146 = .ok (.ishl, 1) := by decide +kernel
theorem dX3_needs_147 : decode cX3_needs 147 = .ok (.goto 4, 3) := by decide +kernel
theorem dX3_needs_150 : decode cX3_needs 150 = .ok (.iconst 0, 1) := by decide +kernel
theorem dX3_needs_151 : decode cX3_needs 151 = .ok (.ior, 1) := by decide +kernel
theorem dX3_needs_152 : decode cX3_needs 152 = .ok (.istore_n 3, 1) := by decide +kernel
theorem dX3_needs_153 : decode cX3_needs 153 = .ok (.iinc 4 1, 3) := by decide +kernel
theorem dX3_needs_156 : decode cX3_needs 156 = .ok (.goto (-105), 3) := by decide +kernel
theorem dX3_needs_159 : decode cX3_needs 159 = .ok (.iload_n 3, 1) := by decide +kernel
theorem dX3_needs_160 : decode cX3_needs 160 = .ok (.ireturn, 1) := by decide +kernel
theorem dX3_held_0 : decode cX3_held 0 = .ok (.aload_n 0, 1) := by decide +kernel
theorem dX3_held_1 : decode cX3_held 1 = .ok (.getfield 35, 3) := by decide +kernel
theorem dX3_held_4 : decode cX3_held 4 = .ok (.aload_n 0, 1) := by decide +kernel
theorem dX3_held_5 : decode cX3_held 5 = .ok (.getfield 10, 3) := by decide +kernel
theorem dX3_held_8 : decode cX3_held 8 = .ok (.aload_n 0, 1) := by decide +kernel
theorem dX3_held_9 : decode cX3_held 9 = .ok (.getfield 10, 3) := by decide +kernel
theorem dX3_held_12 : decode cX3_held 12 = .ok (.getfield 70, 3) := by decide +kernel
theorem dX3_held_15 : decode cX3_held 15 = .ok (.invokevirtual 161, 3) := by decide +kernel
theorem dX3_held_18 : decode cX3_held 18 = .ok (.aload_n 0, 1) := by decide +kernel
theorem dX3_held_19 : decode cX3_held 19 = .ok (.getfield 35, 3) := by decide +kernel
theorem dX3_held_22 : decode cX3_held 22 = .ok (.aload_n 0, 1) := by decide +kernel
theorem dX3_held_23 : decode cX3_held 23 = .ok (.getfield 10, 3) := by decide +kernel
theorem dX3_held_26 : decode cX3_held 26 = .ok (.invokevirtual 183, 3) := by decide +kernel
theorem dX3_held_29 : decode cX3_held 29 = .ok (.ireturn, 1) := by decide +kernel
theorem dX3_forms_0 : decode cX3_forms 0 = .ok (.iconst 0, 1) := by decide +kernel
theorem dX3_forms_1 : decode cX3_forms 1 = .ok (.istore_n 1, 1) := by decide +kernel
theorem dX3_forms_2 : decode cX3_forms 2 = .ok (.iconst 0, 1) := by decide +kernel
theorem dX3_forms_3 : decode cX3_forms 3 = .ok (.istore_n 2, 1) := by decide +kernel
theorem dX3_forms_4 : decode cX3_forms 4 = .ok (.iload_n 2, 1) := by decide +kernel
theorem dX3_forms_5 : decode cX3_forms 5 = .ok (.bipush 6, 2) := by decide +kernel
theorem dX3_forms_7 : decode cX3_forms 7 = .ok (.if_icmp .ge 45, 3) := by decide +kernel
theorem dX3_forms_10 : decode cX3_forms 10 = .ok (.aload_n 0, 1) := by decide +kernel
theorem dX3_forms_11 : decode cX3_forms 11 = .ok (.getfield 35, 3) := by decide +kernel
theorem dX3_forms_14 : decode cX3_forms 14 = .ok (.aload_n 0, 1) := by decide +kernel
theorem dX3_forms_15 : decode cX3_forms 15 = .ok (.getfield 10, 3) := by decide +kernel
theorem dX3_forms_18 : decode cX3_forms 18 = .ok (.iload_n 2, 1) := by decide +kernel
theorem dX3_forms_19 : decode cX3_forms 19 = .ok (.invokevirtual 161, 3) := by decide +kernel
theorem dX3_forms_22 : decode cX3_forms 22 = .ok (.iload_n 1, 1) := by decide +kernel
theorem dX3_forms_23 : decode cX3_forms 23 = .ok (.aload_n 0, 1) := by decide +kernel
theorem dX3_forms_24 : decode cX3_forms 24 = .ok (.getfield 35, 3) := by decide +kernel
theorem dX3_forms_27 : decode cX3_forms 27 = .ok (.aload_n 0, 1) := by decide +kernel
theorem dX3_forms_28 : decode cX3_forms 28 = .ok (.getfield 10, 3) := by decide +kernel
theorem dX3_forms_31 : decode cX3_forms 31 = .ok (.invokevirtual 165, 3) := by decide +kernel
theorem dX3_forms_34 : decode cX3_forms 34 = .ok (.ifCond .le 9, 3) := by decide +kernel
theorem dX3_forms_37 : decode cX3_forms 37 = .ok (.iconst 1, 1) := by decide +kernel
theorem dX3_forms_38 : decode cX3_forms 38 = .ok (.iload_n 2, 1) := by decide +kernel
theorem dX3_forms_39 : decode cX3_forms 39 = .ok (.ishl, 1) := by decide +kernel
theorem dX3_forms_40 : decode cX3_forms 40 = .ok (.goto 4, 3) := by decide +kernel
theorem dX3_forms_43 : decode cX3_forms 43 = .ok (.iconst 0, 1) := by decide +kernel
theorem dX3_forms_44 : decode cX3_forms 44 = .ok (.ior, 1) := by decide +kernel
theorem dX3_forms_45 : decode cX3_forms 45 = .ok (.istore_n 1, 1) := by decide +kernel
theorem dX3_forms_46 : decode cX3_forms 46 = .ok (.iinc 2 1, 3) := by decide +kernel
theorem dX3_forms_49 : decode cX3_forms 49 = .ok (.goto (-45), 3) := by decide +kernel
theorem dX3_forms_52 : decode cX3_forms 52 = .ok (.iload_n 1, 1) := by decide +kernel
theorem dX3_forms_53 : decode cX3_forms 53 = .ok (.ireturn, 1) := by decide +kernel
theorem dX3_rows_0 : decode cX3_rows 0 = .ok (.iload_n 1, 1) := by decide +kernel
theorem dX3_rows_1 : decode cX3_rows 1 = .ok (.iconst 1, 1) := by decide +kernel
theorem dX3_rows_2 : decode cX3_rows 2 = .ok (.iconst 3, 1) := by decide +kernel
theorem dX3_rows_3 : decode cX3_rows 3 = .ok (.aload_n 0, 1) := by decide +kernel
theorem dX3_rows_4 : decode cX3_rows 4 = .ok (.getfield 10, 3) := by decide +kernel
theorem dX3_rows_7 : decode cX3_rows 7 = .ok (.getfield 186, 3) := by decide +kernel
theorem dX3_rows_10 : decode cX3_rows 10 = .ok (.invokestatic 189, 3) := by decide +kernel
theorem dX3_rows_13 : decode cX3_rows 13 = .ok (.invokestatic 50, 3) := by decide +kernel
theorem dX3_rows_16 : decode cX3_rows 16 = .ok (.ifCond .eq 12, 3) := by decide +kernel
theorem dX3_rows_19 : decode cX3_rows 19 = .ok (.iload_n 2, 1) := by decide +kernel
theorem dX3_rows_20 : decode cX3_rows 20 = .ok (.iconst 0, 1) := by decide +kernel
theorem dX3_rows_21 : decode cX3_rows 21 = .ok (.iconst 1, 1) := by decide +kernel
theorem dX3_rows_22 : decode cX3_rows 22 = .ok (.invokestatic 50, 3) := by decide +kernel
theorem dX3_rows_25 : decode cX3_rows 25 = .ok (.ifCond .ne 10, 3) := by decide +kernel
theorem dX3_rows_28 : decode cX3_rows 28 = .ok (.aload_n 0, 1) := by decide +kernel
theorem dX3_rows_29 : decode cX3_rows 29 = .ok (.bipush (-2), 2) := by decide +kernel
theorem dX3_rows_31 : decode cX3_rows 31 = .ok (.invokevirtual 58, 3) := by decide +kernel
theorem dX3_rows_34 : decode cX3_rows 34 = .ok (.ireturn, 1) := by decide +kernel
theorem dX3_rows_35 : decode cX3_rows 35 = .ok (.aload_n 0, 1) := by decide +kernel
theorem dX3_rows_36 : decode cX3_rows 36 = .ok (.getfield 35, 3) := by decide +kernel
theorem dX3_rows_39 : decode cX3_rows 39 = .ok (.aload_n 0, 1) := by decide +kernel
theorem dX3_rows_40 : decode cX3_rows 40 = .ok (.getfield 10, 3) := by decide +kernel
theorem dX3_rows_43 : decode cX3_rows 43 = .ok (.iload_n 1, 1) := by decide +kernel
theorem dX3_rows_44 : decode cX3_rows 44 = .ok (.invokevirtual 195, 3) := by decide +kernel
theorem dX3_rows_47 : decode cX3_rows 47 = .ok (.iload_n 2, 1) := by decide +kernel
theorem dX3_rows_48 : decode cX3_rows 48 = .ok (.ifCond .ne 13, 3) := by decide +kernel
theorem dX3_rows_51 : decode cX3_rows 51 = .ok (.aload_n 0, 1) := by decide +kernel
theorem dX3_rows_52 : decode cX3_rows 52 = .ok (.getfield 35, 3) := by decide +kernel
theorem dX3_rows_55 : decode cX3_rows 55 = .ok (.getfield 198, 3) := by decide +kernel
theorem dX3_rows_58 : decode cX3_rows 58 = .ok (.goto 10, 3) := by decide +kernel
theorem dX3_rows_61 : decode cX3_rows 61 = .ok (.aload_n 0, 1) := by decide +kernel
theorem dX3_rows_62 : decode cX3_rows 62 = .ok (.getfield 35, 3) := by decide +kernel
theorem dX3_rows_65 : decode cX3_rows 65 = .ok (.getfield 201, 3) := by decide +kernel
theorem dX3_rows_68 : decode cX3_rows 68 = .ok (.ireturn, 1) := by decide +kernel
theorem dX3_note_0 : decode cX3_note 0 = .ok (.iload_n 1, 1) := by decide +kernel
theorem dX3_note_1 : decode cX3_note 1 = .ok (.invokestatic 76, 3) := by decide +kernel
theorem dX3_note_4 : decode cX3_note 4 = .ok (.ifCond .eq 19, 3) := by decide +kernel
theorem dX3_note_7 : decode cX3_note 7 = .ok (.iload_n 2, 1) := by decide +kernel
theorem dX3_note_8 : decode cX3_note 8 = .ok (.invokestatic 204, 3) := by decide +kernel
theorem dX3_note_11 : decode cX3_note 11 = .ok (.ifCond .eq 12, 3) := by decide +kernel
theorem dX3_note_14 : decode cX3_note 14 = .ok (.iload_n 3, 1) := by decide +kernel
theorem dX3_note_15 : decode cX3_note 15 = .ok (.iconst 0, 1) := by decide +kernel
theorem dX3_note_16 : decode cX3_note 16 = .ok (.iconst 5, 1) := by decide +kernel
theorem dX3_note_17 : decode cX3_note 17 = .ok (.invokestatic 50, 3) := by decide +kernel
theorem dX3_note_20 : decode cX3_note 20 = .ok (.ifCond .ne 10, 3) := by decide +kernel
theorem dX3_note_23 : decode cX3_note 23 = .ok (.aload_n 0, 1) := by decide +kernel
theorem dX3_note_24 : decode cX3_note 24 = .ok (.bipush (-2), 2) := by decide +kernel
theorem dX3_note_26 : decode cX3_note 26 = .ok (.invokevirtual 58, 3) := by decide +kernel
theorem dX3_note_29 : decode cX3_note 29 = .ok (.ireturn, 1) := by decide +kernel
theorem dX3_note_30 : decode cX3_note 30 = .ok (.aload_n 0, 1) := by decide +kernel
theorem dX3_note_31 : decode cX3_note 31 = .ok (.getfield 10, 3) := by decide +kernel
theorem dX3_note_34 : decode cX3_note 34 = .ok (.getfield 207, 3) := by decide +kernel
theorem dX3_note_37 : decode cX3_note 37 = .ok (.bipush 6, 2) := by decide +kernel
theorem dX3_note_39 : decode cX3_note 39 = .ok (.if_icmp .lt 10, 3) := by decide +kernel
theorem dX3_note_42 : decode cX3_note 42 = .ok (.aload_n 0, 1) := by decide +kernel
theorem dX3_note_43 : decode cX3_note 43 = .ok (.bipush (-4), 2) := by decide +kernel
theorem dX3_note_45 : decode cX3_note 45 = .ok (.invokevirtual 58, 3) := by decide +kernel
theorem dX3_note_48 : decode cX3_note 48 = .ok (.ireturn, 1) := by decide +kernel
theorem dX3_note_49 : decode cX3_note 49 = .ok (.aload_n 0, 1) := by decide +kernel
theorem dX3_note_50 : decode cX3_note 50 = .ok (.getfield 10, 3) := by decide +kernel
theorem dX3_note_53 : decode cX3_note 53 = .ok (.iload_n 1, 1) := by decide +kernel
theorem dX3_note_54 : decode cX3_note 54 = .ok (.iload_n 2, 1) := by decide +kernel
theorem dX3_note_55 : decode cX3_note 55 = .ok (.iload_n 3, 1) := by decide +kernel
theorem dX3_note_56 : decode cX3_note 56 = .ok (.invokevirtual 210, 3) := by decide +kernel
theorem dX3_note_59 : decode cX3_note 59 = .ok (.aload_n 0, 1) := by decide +kernel
theorem dX3_note_60 : decode cX3_note 60 = .ok (.getfield 10, 3) := by decide +kernel
theorem dX3_note_63 : decode cX3_note 63 = .ok (.getfield 207, 3) := by decide +kernel
theorem dX3_note_66 : decode cX3_note 66 = .ok (.ireturn, 1) := by decide +kernel
theorem dX3_mark_0 : decode cX3_mark 0 = .ok (.aload_n 0, 1) := by decide +kernel
theorem dX3_mark_1 : decode cX3_mark 1 = .ok (.getfield 10, 3) := by decide +kernel
theorem dX3_mark_4 : decode cX3_mark 4 = .ok (.iload_n 1, 1) := by decide +kernel
theorem dX3_mark_5 : decode cX3_mark 5 = .ok (.invokevirtual 109, 3) := by decide +kernel
theorem dX3_mark_8 : decode cX3_mark 8 = .ok (.ifCond .eq 28, 3) := by decide +kernel
theorem dX3_mark_11 : decode cX3_mark 11 = .ok (.iload_n 2, 1) := by decide +kernel
theorem dX3_mark_12 : decode cX3_mark 12 = .ok (.invokestatic 76, 3) := by decide +kernel
theorem dX3_mark_15 : decode cX3_mark 15 = .ok (.ifCond .eq 21, 3) := by decide +kernel
theorem dX3_mark_18 : decode cX3_mark 18 = .ok (.iload_n 3, 1) := by decide +kernel
theorem dX3_mark_19 : decode cX3_mark 19 = .ok (.invokestatic 204, 3) := by decide +kernel
theorem dX3_mark_22 : decode cX3_mark 22 = .ok (.ifCond .eq 14, 3) := by decide +kernel
theorem dX3_mark_25 : decode cX3_mark 25 = .ok (.iload 4, 2) := by decide +kernel
theorem dX3_mark_27 : decode cX3_mark 27 = .ok (.iconst 0, 1) := by decide +kernel
theorem dX3_mark_28 : decode cX3_mark 28 = .ok (.bipush 20, 2) := by decide +kernel
theorem dX3_mark_30 : decode cX3_mark 30 = .ok (.invokestatic 50, 3) := by decide +kernel
theorem dX3_mark_33 : decode cX3_mark 33 = .ok (.ifCond .ne 10, 3) := by decide +kernel
theorem dX3_mark_36 : decode cX3_mark 36 = .ok (.aload_n 0, 1) := by decide +kernel
theorem dX3_mark_37 : decode cX3_mark 37 = .ok (.bipush (-2), 2) := by decide +kernel
theorem dX3_mark_39 : decode cX3_mark 39 = .ok (.invokevirtual 58, 3) := by decide +kernel
theorem dX3_mark_42 : decode cX3_mark 42 = .ok (.ireturn, 1) := by decide +kernel
theorem dX3_mark_43 : decode cX3_mark 43 = .ok (.aload_n 0, 1) := by decide +kernel
theorem dX3_mark_44 : decode cX3_mark 44 = .ok (.getfield 10, 3) := by decide +kernel
theorem dX3_mark_47 : decode cX3_mark 47 = .ok (.getfield 213, 3) := by decide +kernel
theorem dX3_mark_50 : decode cX3_mark 50 = .ok (.bipush 6, 2) := by decide +kernel
theorem dX3_mark_52 : decode cX3_mark 52 = .ok (.if_icmp .lt 10, 3) := by decide +kernel
theorem dX3_mark_55 : decode cX3_mark 55 = .ok (.aload_n 0, 1) := by decide +kernel
theorem dX3_mark_56 : decode cX3_mark 56 = .ok (.bipush (-4), 2) := by decide +kernel
theorem dX3_mark_58 : decode cX3_mark 58 = .ok (.invokevirtual 58, 3) := by decide +kernel
theorem dX3_mark_61 : decode cX3_mark 61 = .ok (.ireturn, 1) := by decide +kernel
theorem dX3_mark_62 : decode cX3_mark 62 = .ok (.aload_n 0, 1) := by decide +kernel
theorem dX3_mark_63 : decode cX3_mark 63 = .ok (.getfield 10, 3) := by decide +kernel
theorem dX3_mark_66 : decode cX3_mark 66 = .ok (.iload_n 1, 1) := by decide +kernel
theorem dX3_mark_67 : decode cX3_mark 67 = .ok (.iload_n 2, 1) := by decide +kernel
theorem dX3_mark_68 : decode cX3_mark 68 = .ok (.iload_n 3, 1) := by decide +kernel
theorem dX3_mark_69 : decode cX3_mark 69 = .ok (.iload 4, 2) := by decide +kernel
theorem dX3_mark_71 : decode cX3_mark 71 = .ok (.invokevirtual 216, 3) := by decide +kernel
theorem dX3_mark_74 : decode cX3_mark 74 = .ok (.aload_n 0, 1) := by decide +kernel
theorem dX3_mark_75 : decode cX3_mark 75 = .ok (.getfield 10, 3) := by decide +kernel
theorem dX3_mark_78 : decode cX3_mark 78 = .ok (.getfield 213, 3) := by decide +kernel
theorem dX3_mark_81 : decode cX3_mark 81 = .ok (.ireturn, 1) := by decide +kernel
theorem dX3_forget_0 : decode cX3_forget 0 = .ok (.iload_n 1, 1) := by decide +kernel
theorem dX3_forget_1 : decode cX3_forget 1 = .ok (.iconst 0, 1) := by decide +kernel
theorem dX3_forget_2 : decode cX3_forget 2 = .ok (.iconst 1, 1) := by decide +kernel
theorem dX3_forget_3 : decode cX3_forget 3 = .ok (.invokestatic 50, 3) := by decide +kernel
theorem dX3_forget_6 : decode cX3_forget 6 = .ok (.ifCond .ne 10, 3) := by decide +kernel
theorem dX3_forget_9 : decode cX3_forget 9 = .ok (.aload_n 0, 1) := by decide +kernel
theorem dX3_forget_10 : decode cX3_forget 10 = .ok (.bipush (-2), 2) := by decide +kernel
theorem dX3_forget_12 : decode cX3_forget 12 = .ok (.invokevirtual 58, 3) := by decide +kernel
theorem dX3_forget_15 : decode cX3_forget 15 = .ok (.ireturn, 1) := by decide +kernel
theorem dX3_forget_16 : decode cX3_forget 16 = .ok (.iload_n 1, 1) := by decide +kernel
theorem dX3_forget_17 : decode cX3_forget 17 = .ok (.ifCond .ne 13, 3) := by decide +kernel
theorem dX3_forget_20 : decode cX3_forget 20 = .ok (.aload_n 0, 1) := by decide +kernel
theorem dX3_forget_21 : decode cX3_forget 21 = .ok (.getfield 10, 3) := by decide +kernel
theorem dX3_forget_24 : decode cX3_forget 24 = .ok (.getfield 207, 3) := by decide +kernel
theorem dX3_forget_27 : decode cX3_forget 27 = .ok (.goto 10, 3) := by decide +kernel
theorem dX3_forget_30 : decode cX3_forget 30 = .ok (.aload_n 0, 1) := by decide +kernel
theorem dX3_forget_31 : decode cX3_forget 31 = .ok (.getfield 10, 3) := by decide +kernel
theorem dX3_forget_34 : decode cX3_forget 34 = .ok (.getfield 213, 3) := by decide +kernel
theorem dX3_forget_37 : decode cX3_forget 37 = .ok (.istore_n 2, 1) := by decide +kernel
theorem dX3_forget_38 : decode cX3_forget 38 = .ok (.iload_n 1, 1) := by decide +kernel
theorem dX3_forget_39 : decode cX3_forget 39 = .ok (.ifCond .ne 14, 3) := by decide +kernel
theorem dX3_forget_42 : decode cX3_forget 42 = .ok (.aload_n 0, 1) := by decide +kernel
theorem dX3_forget_43 : decode cX3_forget 43 = .ok (.getfield 10, 3) := by decide +kernel
theorem dX3_forget_46 : decode cX3_forget 46 = .ok (.iconst 0, 1) := by decide +kernel
theorem dX3_forget_47 : decode cX3_forget 47 = .ok (.putfield 207, 3) := by decide +kernel
theorem dX3_forget_50 : decode cX3_forget 50 = .ok (.goto 11, 3) := by decide +kernel
theorem dX3_forget_53 : decode cX3_forget 53 = .ok (.aload_n 0, 1) := by decide +kernel
theorem dX3_forget_54 : decode cX3_forget 54 = .ok (.getfield 10, 3) := by decide +kernel
theorem dX3_forget_57 : decode cX3_forget 57 = .ok (.iconst 0, 1) := by decide +kernel
theorem dX3_forget_58 : decode cX3_forget 58 = .ok (.putfield 213, 3) := by decide +kernel
theorem dX3_forget_61 : decode cX3_forget 61 = .ok (.iload_n 2, 1) := by decide +kernel
theorem dX3_forget_62 : decode cX3_forget 62 = .ok (.ireturn, 1) := by decide +kernel
theorem dX3_is_0 : decode cX3_is 0 = .ok (.aload_n 0, 1) := by decide +kernel
theorem dX3_is_1 : decode cX3_is 1 = .ok (.getfield 10, 3) := by decide +kernel
theorem dX3_is_4 : decode cX3_is 4 = .ok (.invokevirtual 220, 3) := by decide +kernel
theorem dX3_is_7 : decode cX3_is 7 = .ok (.ireturn, 1) := by decide +kernel
theorem dX3_look_0 : decode cX3_look 0 = .ok (.iconst 0, 1) := by decide +kernel
theorem dX3_look_1 : decode cX3_look 1 = .ok (.aload_n 0, 1) := by decide +kernel
theorem dX3_look_2 : decode cX3_look 2 = .ok (.getfield 10, 3) := by decide +kernel
theorem dX3_look_5 : decode cX3_look 5 = .ok (.invokevirtual 220, 3) := by decide +kernel
theorem dX3_look_8 : decode cX3_look 8 = .ok (.invokestatic 223, 3) := by decide +kernel
theorem dX3_look_11 : decode cX3_look 11 = .ok (.ireturn, 1) := by decide +kernel
theorem dX3_kinds_0 : decode cX3_kinds 0 = .ok (.aload_n 0, 1) := by decide +kernel
theorem dX3_kinds_1 : decode cX3_kinds 1 = .ok (.getfield 10, 3) := by decide +kernel
theorem dX3_kinds_4 : decode cX3_kinds 4 = .ok (.iload_n 1, 1) := by decide +kernel
theorem dX3_kinds_5 : decode cX3_kinds 5 = .ok (.invokevirtual 109, 3) := by decide +kernel
theorem dX3_kinds_8 : decode cX3_kinds 8 = .ok (.ifCond .ne 10, 3) := by decide +kernel
theorem dX3_kinds_11 : decode cX3_kinds 11 = .ok (.aload_n 0, 1) := by decide +kernel
theorem dX3_kinds_12 : decode cX3_kinds 12 = .ok (.bipush (-2), 2) := by decide +kernel
theorem dX3_kinds_14 : decode cX3_kinds 14 = .ok (.invokevirtual 58, 3) := by decide +kernel
theorem dX3_kinds_17 : decode cX3_kinds 17 = .ok (.ireturn, 1) := by decide +kernel
theorem dX3_kinds_18 : decode cX3_kinds 18 = .ok (.aload_n 0, 1) := by decide +kernel
theorem dX3_kinds_19 : decode cX3_kinds 19 = .ok (.getfield 10, 3) := by decide +kernel
theorem dX3_kinds_22 : decode cX3_kinds 22 = .ok (.iload_n 1, 1) := by decide +kernel
theorem dX3_kinds_23 : decode cX3_kinds 23 = .ok (.invokevirtual 227, 3) := by decide +kernel
theorem dX3_kinds_26 : decode cX3_kinds 26 = .ok (.ireturn, 1) := by decide +kernel
theorem dX3_ask_0 : decode cX3_ask 0 = .ok (.aload_n 0, 1) := by decide +kernel
theorem dX3_ask_1 : decode cX3_ask 1 = .ok (.getfield 10, 3) := by decide +kernel
theorem dX3_ask_4 : decode cX3_ask 4 = .ok (.iload_n 1, 1) := by decide +kernel
theorem dX3_ask_5 : decode cX3_ask 5 = .ok (.invokevirtual 109, 3) := by decide +kernel
theorem dX3_ask_8 : decode cX3_ask 8 = .ok (.ifCond .ne 10, 3) := by decide +kernel
theorem dX3_ask_11 : decode cX3_ask 11 = .ok (.aload_n 0, 1) := by decide +kernel
theorem dX3_ask_12 : decode cX3_ask 12 = .ok (.bipush (-2), 2) := by decide +kernel
theorem dX3_ask_14 : decode cX3_ask 14 = .ok (.invokevirtual 58, 3) := by decide +kernel
theorem dX3_ask_17 : decode cX3_ask 17 = .ok (.ireturn, 1) := by decide +kernel
theorem dX3_ask_18 : decode cX3_ask 18 = .ok (.iconst 1, 1) := by decide +kernel
theorem dX3_ask_19 : decode cX3_ask 19 = .ok (.aload_n 0, 1) := by decide +kernel
theorem dX3_ask_20 : decode cX3_ask 20 = .ok (.getfield 10, 3) := by decide +kernel
theorem dX3_ask_23 : decode cX3_ask 23 = .ok (.iload_n 1, 1) := by decide +kernel
theorem dX3_ask_24 : decode cX3_ask 24 = .ok (.invokevirtual 227, 3) := by decide +kernel
theorem dX3_ask_27 : decode cX3_ask 27 = .ok (.invokestatic 223, 3) := by decide +kernel
theorem dX3_ask_30 : decode cX3_ask 30 = .ok (.ireturn, 1) := by decide +kernel
theorem dX3_poets_0 : decode cX3_poets 0 = .ok (.iload_n 1, 1) := by decide +kernel
theorem dX3_poets_1 : decode cX3_poets 1 = .ok (.iconst (-1), 1) := by decide +kernel
theorem dX3_poets_2 : decode cX3_poets 2 = .ok (.if_icmp .ge 13, 3) := by decide +kernel
theorem dX3_poets_5 : decode cX3_poets 5 = .ok (.aload_n 0, 1) := by decide +kernel
theorem dX3_poets_6 : decode cX3_poets 6 = .ok (.bipush (-2), 2) := by decide +kernel
theorem dX3_poets_8 : decode cX3_poets 8 = .ok (.invokevirtual 58, 3) := by decide +kernel
theorem dX3_poets_11 : decode cX3_poets 11 = .ok (.pop, 1) := by decide +kernel
theorem dX3_poets_12 : decode cX3_poets 12 = .ok (.bipush (-10), 2) := by decide +kernel
theorem dX3_poets_14 : decode cX3_poets 14 = .ok (.ireturn, 1) := by decide +kernel
theorem dX3_poets_15 : decode cX3_poets 15 = .ok (.iconst 0, 1) := by decide +kernel
theorem dX3_poets_16 : decode cX3_poets 16 = .ok (.istore_n 2, 1) := by decide +kernel
theorem dX3_poets_17 : decode cX3_poets 17 = .ok (.aload_n 0, 1) := by decide +kernel
theorem dX3_poets_18 : decode cX3_poets 18 = .ok (.getfield 10, 3) := by decide +kernel
theorem dX3_poets_21 : decode cX3_poets 21 = .ok (.invokevirtual 230, 3) := by decide +kernel
theorem dX3_poets_24 : decode cX3_poets 24 = .ok (.istore_n 3, 1) := by decide +kernel
theorem dX3_poets_25 : decode cX3_poets 25 = .ok (.iconst 0, 1) := by decide +kernel
theorem dX3_poets_26 : decode cX3_poets 26 = .ok (.istore 4, 2) := by decide +kernel
theorem dX3_poets_28 : decode cX3_poets 28 = .ok (.iload 4, 2) := by decide +kernel
theorem dX3_poets_30 : decode cX3_poets 30 = .ok (.aload_n 0, 1) := by decide +kernel
theorem dX3_poets_31 : decode cX3_poets 31 = .ok (.getfield 10, 3) := by decide +kernel
theorem dX3_poets_34 : decode cX3_poets 34 = .ok (.getfield 62, 3) := by decide +kernel
theorem dX3_poets_37 : decode cX3_poets 37 = .ok (.if_icmp .ge 64, 3) := by decide +kernel
theorem dX3_poets_40 : decode cX3_poets 40 = .ok (.iload_n 3, 1) := by decide +kernel
theorem dX3_poets_41 : decode cX3_poets 41 = .ok (.iconst (-1), 1) := by decide +kernel
theorem dX3_poets_42 : decode cX3_poets 42 = .ok (.if_icmp .eq 59, 3) := by decide +kernel
theorem dX3_poets_45 : decode cX3_poets 45 = .ok (.iconst 0, 1) := by decide +kernel
theorem dX3_poets_46 : decode cX3_poets 46 = .ok (.istore 5, 2) := by decide +kernel
theorem dX3_poets_48 : decode cX3_poets 48 = .ok (.iload 5, 2) := by decide +kernel
theorem dX3_poets_50 : decode cX3_poets 50 = .ok (.aload_n 0, 1) := by decide +kernel
theorem dX3_poets_51 : decode cX3_poets 51 = .ok (.getfield 10, 3) := by decide +kernel
theorem dX3_poets_54 : decode cX3_poets 54 = .ok (.getfield 62, 3) := by decide +kernel
theorem dX3_poets_57 : decode cX3_poets 57 = .ok (.if_icmp .ge 38, 3) := by decide +kernel
theorem dX3_poets_60 : decode cX3_poets 60 = .ok (.aload_n 0, 1) := by decide +kernel
theorem dX3_poets_61 : decode cX3_poets 61 = .ok (.iload_n 3, 1) := by decide +kernel
theorem dX3_poets_62 : decode cX3_poets 62 = .ok (.iload 4, 2) := by decide +kernel
theorem dX3_poets_64 : decode cX3_poets 64 = .ok (.iload 5, 2) := by decide +kernel
theorem dX3_poets_66 : decode cX3_poets 66 = .ok (.invokevirtual 233, 3) := by decide +kernel
theorem dX3_poets_69 : decode cX3_poets 69 = .ok (.ifCond .eq 20, 3) := by decide +kernel
theorem dX3_poets_72 : decode cX3_poets 72 = .ok (.iload_n 2, 1) := by decide +kernel
theorem dX3_poets_73 : decode cX3_poets 73 = .ok (.iload_n 1, 1) := by decide +kernel
theorem dX3_poets_74 : decode cX3_poets 74 = .ok (.if_icmp .ne 12, 3) := by decide +kernel
theorem dX3_poets_77 : decode cX3_poets 77 = .ok (.bipush 10, 2) := by decide +kernel
theorem dX3_poets_79 : decode cX3_poets 79 = .ok (.iload 4, 2) := by decide +kernel
theorem dX3_poets_81 : decode cX3_poets 81 = .ok (.imul, 1) := by decide +kernel
theorem dX3_poets_82 : decode cX3_poets 82 = .ok (.iload 5, 2) := by decide +kernel
theorem dX3_poets_84 : decode cX3_poets 84 = .ok (.iadd, 1) := by decide +kernel
theorem dX3_poets_85 : decode cX3_poets 85 = .ok (.ireturn, 1) := by decide +kernel
theorem dX3_poets_86 : decode cX3_poets 86 = .ok (.iinc 2 1, 3) := by decide +kernel
theorem dX3_poets_89 : decode cX3_poets 89 = .ok (.iinc 5 1, 3) := by decide +kernel
theorem dX3_poets_92 : decode cX3_poets 92 = .ok (.goto (-44), 3) := by decide +kernel
theorem dX3_poets_95 : decode cX3_poets 95 = .ok (.iinc 4 1, 3) := by decide +kernel
theorem dX3_poets_98 : decode cX3_poets 98 = .ok (.goto (-70), 3) := by decide +kernel
theorem dX3_poets_101 : decode cX3_poets 101 = .ok (.iload_n 1, 1) := by decide +kernel
theorem dX3_poets_102 : decode cX3_poets 102 = .ok (.iconst (-1), 1) := by decide +kernel
theorem dX3_poets_103 : decode cX3_poets 103 = .ok (.if_icmp .ne 7, 3) := by decide +kernel
theorem dX3_poets_106 : decode cX3_poets 106 = .ok (.iload_n 2, 1) := by decide +kernel
theorem dX3_poets_107 : decode cX3_poets 107 = .ok (.goto 5, 3) := by decide +kernel
theorem dX3_poets_110 : decode cX3_poets 110 = .ok (.bipush (-5), 2) := by decide +kernel
theorem dX3_poets_112 : decode cX3_poets 112 = .ok (.ireturn, 1) := by decide +kernel
theorem dX3_luck_0 : decode cX3_luck 0 = .ok (.aload_n 0, 1) := by decide +kernel
theorem dX3_luck_1 : decode cX3_luck 1 = .ok (.getfield 35, 3) := by decide +kernel
theorem dX3_luck_4 : decode cX3_luck 4 = .ok (.aload_n 0, 1) := by decide +kernel
theorem dX3_luck_5 : decode cX3_luck 5 = .ok (.getfield 10, 3) := by decide +kernel
theorem dX3_luck_8 : decode cX3_luck 8 = .ok (.aload_n 0, 1) := by decide +kernel
theorem dX3_luck_9 : decode cX3_luck 9 = .ok (.getfield 10, 3) := by decide +kernel
theorem dX3_luck_12 : decode cX3_luck 12 = .ok (.getfield 70, 3) := by decide +kernel
theorem dX3_luck_15 : decode cX3_luck 15 = .ok (.invokevirtual 161, 3) := by decide +kernel
theorem dX3_luck_18 : decode cX3_luck 18 = .ok (.aload_n 0, 1) := by decide +kernel
theorem dX3_luck_19 : decode cX3_luck 19 = .ok (.aload_n 0, 1) := by decide +kernel
theorem dX3_luck_20 : decode cX3_luck 20 = .ok (.getfield 35, 3) := by decide +kernel
theorem dX3_luck_23 : decode cX3_luck 23 = .ok (.aload_n 0, 1) := by decide +kernel
theorem dX3_luck_24 : decode cX3_luck 24 = .ok (.getfield 10, 3) := by decide +kernel
theorem dX3_luck_27 : decode cX3_luck 27 = .ok (.invokevirtual 165, 3) := by decide +kernel
theorem dX3_luck_30 : decode cX3_luck 30 = .ok (.i2l, 1) := by decide +kernel
theorem dX3_luck_31 : decode cX3_luck 31 = .ok (.aload_n 0, 1) := by decide +kernel
theorem dX3_luck_32 : decode cX3_luck 32 = .ok (.getfield 10, 3) := by decide +kernel
theorem dX3_luck_35 : decode cX3_luck 35 = .ok (.getfield 62, 3) := by decide +kernel
theorem dX3_luck_38 : decode cX3_luck 38 = .ok (.aload_n 0, 1) := by decide +kernel
theorem dX3_luck_39 : decode cX3_luck 39 = .ok (.getfield 10, 3) := by decide +kernel
theorem dX3_luck_42 : decode cX3_luck 42 = .ok (.getfield 186, 3) := by decide +kernel
theorem dX3_luck_45 : decode cX3_luck 45 = .ok (.invokestatic 236, 3) := by decide +kernel
theorem dX3_luck_48 : decode cX3_luck 48 = .ok (.i2l, 1) := by decide +kernel
theorem dX3_luck_49 : decode cX3_luck 49 = .ok (.invokevirtual 239, 3) := by decide +kernel
theorem dX3_luck_52 : decode cX3_luck 52 = .ok (.iconst 1, 1) := by decide +kernel
theorem dX3_luck_53 : decode cX3_luck 53 = .ok (.ireturn, 1) := by decide +kernel
theorem dX3_evenings_0 : decode cX3_evenings 0 = .ok (.iload_n 1, 1) := by decide +kernel
theorem dX3_evenings_1 : decode cX3_evenings 1 = .ok (.iconst 0, 1) := by decide +kernel
theorem dX3_evenings_2 : decode cX3_evenings 2 = .ok (.ldc 243, 2) := by decide +kernel
theorem dX3_evenings_4 : decode cX3_evenings 4 = .ok (.invokestatic 50, 3) := by decide +kernel
theorem dX3_evenings_7 : decode cX3_evenings 7 = .ok (.ifCond .eq 13, 3) := by decide +kernel
theorem dX3_evenings_10 : decode cX3_evenings 10 = .ok (.iload_n 2, 1) := by decide +kernel
theorem dX3_evenings_11 : decode cX3_evenings 11 = .ok (.iconst 0, 1) := by decide +kernel
theorem dX3_evenings_12 : decode cX3_evenings 12 = .ok (.bipush 60, 2) := by decide +kernel
theorem dX3_evenings_14 : decode cX3_evenings 14 = .ok (.invokestatic 50, 3) := by decide +kernel
theorem dX3_evenings_17 : decode cX3_evenings 17 = .ok (.ifCond .ne 10, 3) := by decide +kernel
theorem dX3_evenings_20 : decode cX3_evenings 20 = .ok (.aload_n 0, 1) := by decide +kernel
theorem dX3_evenings_21 : decode cX3_evenings 21 = .ok (.bipush (-2), 2) := by decide +kernel
theorem dX3_evenings_23 : decode cX3_evenings 23 = .ok (.invokevirtual 58, 3) := by decide +kernel
theorem dX3_evenings_26 : decode cX3_evenings 26 = .ok (.ireturn, 1) := by decide +kernel
theorem dX3_evenings_27 : decode cX3_evenings 27 = .ok (.aload_n 0, 1) := by decide +kernel
theorem dX3_evenings_28 : decode cX3_evenings 28 = .ok (.getfield 16, 3) := by decide +kernel
theorem dX3_evenings_31 : decode cX3_evenings 31 = .ok (.aload_n 0, 1) := by decide +kernel
theorem dX3_evenings_32 : decode cX3_evenings 32 = .ok (.getfield 10, 3) := by decide +kernel
theorem dX3_evenings_35 : decode cX3_evenings 35 = .ok (.invokevirtual 99, 3) := by decide +kernel
theorem dX3_evenings_38 : decode cX3_evenings 38 = .ok (.aload_n 0, 1) := by decide +kernel
theorem dX3_evenings_39 : decode cX3_evenings 39 = .ok (.getfield 16, 3) := by decide +kernel
theorem dX3_evenings_42 : decode cX3_evenings 42 = .ok (.getfield 121, 3) := by decide +kernel
theorem dX3_evenings_45 : decode cX3_evenings 45 = .ok (.iconst (-1), 1) := by decide +kernel
theorem dX3_evenings_46 : decode cX3_evenings 46 = .ok (.invokestatic 244, 3) := by decide +kernel
theorem dX3_evenings_49 : decode cX3_evenings 49 = .ok (.iload_n 1, 1) := by decide +kernel
theorem dX3_evenings_50 : decode cX3_evenings 50 = .ok (.i2l, 1) := by decide +kernel
theorem dX3_evenings_51 : decode cX3_evenings 51 = .ok (.lstore_n 3, 1) := by decide +kernel
theorem dX3_evenings_52 : decode cX3_evenings 52 = .ok (.iconst 0, 1) := by decide +kernel
theorem dX3_evenings_53 : decode cX3_evenings 53 = .ok (.istore 5, 2) := by decide +kernel
theorem dX3_evenings_55 : decode cX3_evenings 55 = .ok (.iconst 0, 1) := by decide +kernel
theorem dX3_evenings_56 : decode cX3_evenings 56 = .ok (.istore 6, 2) := by decide +kernel
theorem dX3_evenings_58 : decode cX3_evenings 58 = .ok (.iload 6, 2) := by decide +kernel
theorem dX3_evenings_60 : decode cX3_evenings 60 = .ok (.iload_n 2, 1) := by decide +kernel
theorem dX3_evenings_61 : decode cX3_evenings 61 = .ok (.if_icmp .ge 58, 3) := by decide +kernel
theorem dX3_evenings_64 : decode cX3_evenings 64 = .ok (.lload_n 3, 1) := by decide +kernel
theorem dX3_evenings_65 : decode cX3_evenings 65 = .ok (.ldc2_w 250, 3) := by decide +kernel
theorem dX3_evenings_68 : decode cX3_evenings 68 = .ok (.lmul, 1) := by decide +kernel
theorem dX3_evenings_69 : decode cX3_evenings 69 = .ok (.ldc2_w 252, 3) := by decide +kernel
theorem dX3_evenings_72 : decode cX3_evenings 72 = .ok (.ladd, 1) := by decide +kernel
theorem dX3_evenings_73 : decode cX3_evenings 73 = .ok (.ldc2_w 254, 3) := by decide +kernel
theorem dX3_evenings_76 : decode cX3_evenings 76 = .ok (.lrem, 1) := by decide +kernel
theorem dX3_evenings_77 : decode cX3_evenings 77 = .ok (.lstore_n 3, 1) := by decide +kernel
theorem dX3_evenings_78 : decode cX3_evenings 78 = .ok (.aload_n 0, 1) := by decide +kernel
theorem dX3_evenings_79 : decode cX3_evenings 79 = .ok (.getfield 16, 3) := by decide +kernel
theorem dX3_evenings_82 : decode cX3_evenings 82 = .ok (.lload_n 3, 1) := by decide +kernel
theorem dX3_evenings_83 : decode cX3_evenings 83 = .ok (.invokestatic 256, 3) := by decide +kernel
theorem dX3_evenings_86 : decode cX3_evenings 86 = .ok (.iload 5, 2) := by decide +kernel
theorem dX3_evenings_88 : decode cX3_evenings 88 = .ok (.aload_n 0, 1) := by decide +kernel
theorem dX3_evenings_89 : decode cX3_evenings 89 = .ok (.getfield 16, 3) := by decide +kernel
theorem dX3_evenings_92 : decode cX3_evenings 92 = .ok (.invokevirtual 132, 3) := by decide +kernel
theorem dX3_evenings_95 : decode cX3_evenings 95 = .ok (.aload_n 0, 1) := by decide +kernel
theorem dX3_evenings_96 : decode cX3_evenings 96 = .ok (.getfield 16, 3) := by decide +kernel
theorem dX3_evenings_99 : decode cX3_evenings 99 = .ok (.getfield 186, 3) := by decide +kernel
theorem dX3_evenings_102 : decode cX3_evenings 102 = .ok (.if_icmp .ne 7, 3) := by decide +kernel
theorem dX3_evenings_105 : decode cX3_evenings 105 = .ok (.iconst 1, 1) := by decide +kernel
theorem dX3_evenings_106 : decode cX3_evenings 106 = .ok (.goto 4, 3) := by decide +kernel
theorem dX3_evenings_109 : decode cX3_evenings 109 = .ok (.iconst 0, 1) := by decide +kernel
theorem dX3_evenings_110 : decode cX3_evenings 110 = .ok (.iadd, 1) := by decide +kernel
theorem dX3_evenings_111 : decode cX3_evenings 111 = .ok (.istore 5, 2) := by decide +kernel
theorem dX3_evenings_113 : decode cX3_evenings 113 = .ok (.iinc 6 1, 3) := by decide +kernel
theorem dX3_evenings_116 : decode cX3_evenings 116 = .ok (.goto (-58), 3) := by decide +kernel
theorem dX3_evenings_119 : decode cX3_evenings 119 = .ok (.iload 5, 2) := by decide +kernel
theorem dX3_evenings_121 : decode cX3_evenings 121 = .ok (.ireturn, 1) := by decide +kernel
theorem dX3_part_0 : decode cX3_part 0 = .ok (.iload_n 1, 1) := by decide +kernel
theorem dX3_part_1 : decode cX3_part 1 = .ok (.iconst 0, 1) := by decide +kernel
theorem dX3_part_2 : decode cX3_part 2 = .ok (.iconst 1, 1) := by decide +kernel
theorem dX3_part_3 : decode cX3_part 3 = .ok (.invokestatic 50, 3) := by decide +kernel
theorem dX3_part_6 : decode cX3_part 6 = .ok (.ifCond .ne 11, 3) := by decide +kernel
theorem dX3_part_9 : decode cX3_part 9 = .ok (.aload_n 0, 1) := by decide +kernel
theorem dX3_part_10 : decode cX3_part 10 = .ok (.bipush (-2), 2) := by decide +kernel
theorem dX3_part_12 : decode cX3_part 12 = .ok (.invokevirtual 58, 3) := by decide +kernel
theorem dX3_part_15 : decode cX3_part 15 = .ok (.i2l, 1) := by decide +kernel
theorem dX3_part_16 : decode cX3_part 16 = .ok (.lreturn, 1) := by decide +kernel
theorem dX3_part_17 : decode cX3_part 17 = .ok (.iload_n 1, 1) := by decide +kernel
theorem dX3_part_18 : decode cX3_part 18 = .ok (.ifCond .ne 10, 3) := by decide +kernel
theorem dX3_part_21 : decode cX3_part 21 = .ok (.aload_n 0, 1) := by decide +kernel
theorem dX3_part_22 : decode cX3_part 22 = .ok (.getfield 39, 3) := by decide +kernel
theorem dX3_part_25 : decode cX3_part 25 = .ok (.goto 7, 3) := by decide +kernel
theorem dX3_part_28 : decode cX3_part 28 = .ok (.aload_n 0, 1) := by decide +kernel
theorem dX3_part_29 : decode cX3_part 29 = .ok (.getfield 43, 3) := by decide +kernel
theorem dX3_part_32 : decode cX3_part 32 = .ok (.lreturn, 1) := by decide +kernel
theorem dX3_image_0 : decode cX3_image 0 = .ok (.iload_n 1, 1) := by decide +kernel
theorem dX3_image_1 : decode cX3_image 1 = .ok (.iconst 0, 1) := by decide +kernel
theorem dX3_image_2 : decode cX3_image 2 = .ok (.iconst 1, 1) := by decide +kernel
theorem dX3_image_3 : decode cX3_image 3 = .ok (.invokestatic 50, 3) := by decide +kernel
theorem dX3_image_6 : decode cX3_image 6 = .ok (.ifCond .ne 10, 3) := by decide +kernel
theorem dX3_image_9 : decode cX3_image 9 = .ok (.aload_n 0, 1) := by decide +kernel
theorem dX3_image_10 : decode cX3_image 10 = .ok (.bipush (-2), 2) := by decide +kernel
theorem dX3_image_12 : decode cX3_image 12 = .ok (.invokevirtual 58, 3) := by decide +kernel
theorem dX3_image_15 : decode cX3_image 15 = .ok (.ireturn, 1) := by decide +kernel
theorem dX3_image_16 : decode cX3_image 16 = .ok (.iload_n 1, 1) := by decide +kernel
theorem dX3_image_17 : decode cX3_image 17 = .ok (.ifCond .ne 22, 3) := by decide +kernel
theorem dX3_image_20 : decode cX3_image 20 = .ok (.aload_n 0, 1) := by decide +kernel
theorem dX3_image_21 : decode cX3_image 21 = .ok (.getfield 19, 3) := by decide +kernel
theorem dX3_image_24 : decode cX3_image 24 = .ok (.aload_n 0, 1) := by decide +kernel
theorem dX3_image_25 : decode cX3_image 25 = .ok (.getfield 10, 3) := by decide +kernel
theorem dX3_image_28 : decode cX3_image 28 = .ok (.invokevirtual 99, 3) := by decide +kernel
theorem dX3_image_31 : decode cX3_image 31 = .ok (.aload_n 0, 1) := by decide +kernel
theorem dX3_image_32 : decode cX3_image 32 = .ok (.iconst 1, 1) := by decide +kernel
theorem dX3_image_33 : decode cX3_image 33 = .ok (.putfield 260, 3) := by decide +kernel
theorem dX3_image_36 : decode cX3_image 36 = .ok (.goto 19, 3) := by decide +kernel
theorem dX3_image_39 : decode cX3_image 39 = .ok (.aload_n 0, 1) := by decide +kernel
theorem dX3_image_40 : decode cX3_image 40 = .ok (.getfield 22, 3) := by decide +kernel
theorem dX3_image_43 : decode cX3_image 43 = .ok (.aload_n 0, 1) := by decide +kernel
theorem dX3_image_44 : decode cX3_image 44 = .ok (.getfield 10, 3) := by decide +kernel
theorem dX3_image_47 : decode cX3_image 47 = .ok (.invokevirtual 99, 3) := by decide +kernel
theorem dX3_image_50 : decode cX3_image 50 = .ok (.aload_n 0, 1) := by decide +kernel
theorem dX3_image_51 : decode cX3_image 51 = .ok (.iconst 1, 1) := by decide +kernel
theorem dX3_image_52 : decode cX3_image 52 = .ok (.putfield 264, 3) := by decide +kernel
theorem dX3_image_55 : decode cX3_image 55 = .ok (.iconst 1, 1) := by decide +kernel
theorem dX3_image_56 : decode cX3_image 56 = .ok (.ireturn, 1) := by decide +kernel
theorem dX3_from_0 : decode cX3_from 0 = .ok (.iload_n 1, 1) := by decide +kernel
theorem dX3_from_1 : decode cX3_from 1 = .ok (.iconst 0, 1) := by decide +kernel
theorem dX3_from_2 : decode cX3_from 2 = .ok (.iconst 1, 1) := by decide +kernel
theorem dX3_from_3 : decode cX3_from 3 = .ok (.invokestatic 50, 3) := by decide +kernel
theorem dX3_from_6 : decode cX3_from 6 = .ok (.ifCond .ne 10, 3) := by decide +kernel
theorem dX3_from_9 : decode cX3_from 9 = .ok (.aload_n 0, 1) := by decide +kernel
theorem dX3_from_10 : decode cX3_from 10 = .ok (.bipush (-2), 2) := by decide +kernel
theorem dX3_from_12 : decode cX3_from 12 = .ok (.invokevirtual 58, 3) := by decide +kernel
theorem dX3_from_15 : decode cX3_from 15 = .ok (.ireturn, 1) := by decide +kernel
theorem dX3_from_16 : decode cX3_from 16 = .ok (.iload_n 1, 1) := by decide +kernel
theorem dX3_from_17 : decode cX3_from 17 = .ok (.ifCond .ne 10, 3) := by decide +kernel
theorem dX3_from_20 : decode cX3_from 20 = .ok (.aload_n 0, 1) := by decide +kernel
theorem dX3_from_21 : decode cX3_from 21 = .ok (.getfield 260, 3) := by decide +kernel
theorem dX3_from_24 : decode cX3_from 24 = .ok (.goto 7, 3) := by decide +kernel
theorem dX3_from_27 : decode cX3_from 27 = .ok (.aload_n 0, 1) := by decide +kernel
theorem dX3_from_28 : decode cX3_from 28 = .ok (.getfield 264, 3) := by decide +kernel
theorem dX3_from_31 : decode cX3_from 31 = .ok (.istore_n 2, 1) := by decide +kernel
theorem dX3_from_32 : decode cX3_from 32 = .ok (.iload_n 2, 1) := by decide +kernel
theorem dX3_from_33 : decode cX3_from 33 = .ok (.ifCond .ne 10, 3) := by decide +kernel
theorem dX3_from_36 : decode cX3_from 36 = .ok (.aload_n 0, 1) := by decide +kernel
theorem dX3_from_37 : decode cX3_from 37 = .ok (.bipush (-3), 2) := by decide +kernel
theorem dX3_from_39 : decode cX3_from 39 = .ok (.invokevirtual 58, 3) := by decide +kernel
theorem dX3_from_42 : decode cX3_from 42 = .ok (.ireturn, 1) := by decide +kernel
theorem dX3_from_43 : decode cX3_from 43 = .ok (.aload_n 0, 1) := by decide +kernel
theorem dX3_from_44 : decode cX3_from 44 = .ok (.getfield 10, 3) := by decide +kernel
theorem dX3_from_47 : decode cX3_from 47 = .ok (.iload_n 1, 1) := by decide +kernel
theorem dX3_from_48 : decode cX3_from 48 = .ok (.ifCond .ne 10, 3) := by decide +kernel
theorem dX3_from_51 : decode cX3_from 51 = .ok (.aload_n 0, 1) := by decide +kernel
theorem dX3_from_52 : decode cX3_from 52 = .ok (.getfield 19, 3) := by decide +kernel
theorem dX3_from_55 : decode cX3_from 55 = .ok (.goto 7, 3) := by decide +kernel
theorem dX3_from_58 : decode cX3_from 58 = .ok (.aload_n 0, 1) := by decide +kernel
theorem dX3_from_59 : decode cX3_from 59 = .ok (.getfield 22, 3) := by decide +kernel
theorem dX3_from_62 : decode cX3_from 62 = .ok (.invokevirtual 99, 3) := by decide +kernel
theorem dX3_from_65 : decode cX3_from 65 = .ok (.iconst 1, 1) := by decide +kernel
theorem dX3_from_66 : decode cX3_from 66 = .ok (.ireturn, 1) := by decide +kernel
theorem dX3_status_0 : decode cX3_status 0 = .ok (.iload_n 1, 1) := by decide +kernel
theorem dX3_status_1 : decode cX3_status 1 = .ok (.tableswitch 42 0 2 #[27, 32, 37], 27) := by decide +kernel
theorem dX3_status_28 : decode cX3_status 28 = .ok (.aload_n 0, 1) := by decide +kernel
theorem dX3_status_29 : decode cX3_status 29 = .ok (.getfield 267, 3) := by decide +kernel
theorem dX3_status_32 : decode cX3_status 32 = .ok (.ireturn, 1) := by decide +kernel
theorem dX3_status_33 : decode cX3_status 33 = .ok (.aload_n 0, 1) := by decide +kernel
theorem dX3_status_34 : decode cX3_status 34 = .ok (.getfield 270, 3) := by decide +kernel
theorem dX3_status_37 : decode cX3_status 37 = .ok (.ireturn, 1) := by decide +kernel
theorem dX3_status_38 : decode cX3_status 38 = .ok (.aload_n 0, 1) := by decide +kernel
theorem dX3_status_39 : decode cX3_status 39 = .ok (.getfield 273, 3) := by decide +kernel
theorem dX3_status_42 : decode cX3_status 42 = .ok (.ireturn, 1) := by decide +kernel
theorem dX3_status_43 : decode cX3_status 43 = .ok (.aload_n 0, 1) := by decide +kernel
theorem dX3_status_44 : decode cX3_status 44 = .ok (.bipush (-2), 2) := by decide +kernel
theorem dX3_status_46 : decode cX3_status 46 = .ok (.invokevirtual 58, 3) := by decide +kernel
theorem dX3_status_49 : decode cX3_status 49 = .ok (.pop, 1) := by decide +kernel
theorem dX3_status_50 : decode cX3_status 50 = .ok (.iconst (-1), 1) := by decide +kernel
theorem dX3_status_51 : decode cX3_status 51 = .ok (.ireturn, 1) := by decide +kernel
theorem dX3_count_0 : decode cX3_count 0 = .ok (.iload_n 1, 1) := by decide +kernel
theorem dX3_count_1 : decode cX3_count 1 = .ok (.iconst 0, 1) := by decide +kernel
theorem dX3_count_2 : decode cX3_count 2 = .ok (.bipush 10, 2) := by decide +kernel
theorem dX3_count_4 : decode cX3_count 4 = .ok (.invokestatic 50, 3) := by decide +kernel
theorem dX3_count_7 : decode cX3_count 7 = .ok (.ifCond .ne 10, 3) := by decide +kernel
theorem dX3_count_10 : decode cX3_count 10 = .ok (.aload_n 0, 1) := by decide +kernel
theorem dX3_count_11 : decode cX3_count 11 = .ok (.bipush (-2), 2) := by decide +kernel
theorem dX3_count_13 : decode cX3_count 13 = .ok (.invokevirtual 58, 3) := by decide +kernel
theorem dX3_count_16 : decode cX3_count 16 = .ok (.ireturn, 1) := by decide +kernel
theorem dX3_count_17 : decode cX3_count 17 = .ok (.aload_n 0, 1) := by decide +kernel
theorem dX3_count_18 : decode cX3_count 18 = .ok (.iload_n 1, 1) := by decide +kernel
theorem dX3_count_19 : decode cX3_count 19 = .ok (.invokevirtual 276, 3) := by decide +kernel
theorem dX3_count_22 : decode cX3_count 22 = .ok (.ireturn, 1) := by decide +kernel
theorem dX3_digest_0 : decode cX3_digest 0 = .ok (.ldc2_w 279, 3) := by decide +kernel
theorem dX3_digest_3 : decode cX3_digest 3 = .ok (.lstore_n 1, 1) := by decide +kernel
theorem dX3_digest_4 : decode cX3_digest 4 = .ok (.iconst 0, 1) := by decide +kernel
theorem dX3_digest_5 : decode cX3_digest 5 = .ok (.istore_n 3, 1) := by decide +kernel
theorem dX3_digest_6 : decode cX3_digest 6 = .ok (.iload_n 3, 1) := by decide +kernel
theorem dX3_digest_7 : decode cX3_digest 7 = .ok (.bipush 10, 2) := by decide +kernel
theorem dX3_digest_9 : decode cX3_digest 9 = .ok (.if_icmp .gt 22, 3) := by decide +kernel
theorem dX3_digest_12 : decode cX3_digest 12 = .ok (.ldc2_w 281, 3) := by decide +kernel
theorem dX3_digest_15 : decode cX3_digest 15 = .ok (.lload_n 1, 1) := by decide +kernel
theorem dX3_digest_16 : decode cX3_digest 16 = .ok (.lmul, 1) := by decide +kernel
theorem dX3_digest_17 : decode cX3_digest 17 = .ok (.aload_n 0, 1) := by decide +kernel
theorem dX3_digest_18 : decode cX3_digest 18 = .ok (.iload_n 3, 1) := by decide +kernel
theorem dX3_digest_19 : decode cX3_digest 19 = .ok (.invokevirtual 276, 3) := by decide +kernel
theorem dX3_digest_22 : decode cX3_digest 22 = .ok (.i2l, 1) := by decide +kernel
theorem dX3_digest_23 : decode cX3_digest 23 = .ok (.ladd, 1) := by decide +kernel
theorem dX3_digest_24 : decode cX3_digest 24 = .ok (.lstore_n 1, 1) := by decide +kernel
theorem dX3_digest_25 : decode cX3_digest 25 = .ok (.iinc 3 1, 3) := by decide +kernel
theorem dX3_digest_28 : decode cX3_digest 28 = .ok (.goto (-22), 3) := by decide +kernel
theorem dX3_digest_31 : decode cX3_digest 31 = .ok (.iconst 0, 1) := by decide +kernel
theorem dX3_digest_32 : decode cX3_digest 32 = .ok (.istore_n 3, 1) := by decide +kernel
theorem dX3_digest_33 : decode cX3_digest 33 = .ok (.iload_n 3, 1) := by decide +kernel
theorem dX3_digest_34 : decode cX3_digest 34 = .ok (.aload_n 0, 1) := by decide +kernel
theorem dX3_digest_35 : decode cX3_digest 35 = .ok (.getfield 10, 3) := by decide +kernel
theorem dX3_digest_38 : decode cX3_digest 38 = .ok (.getfield 62, 3) := by decide +kernel
theorem dX3_digest_41 : decode cX3_digest 41 = .ok (.if_icmp .ge 57, 3) := by decide +kernel
theorem dX3_digest_44 : decode cX3_digest 44 = .ok (.ldc2_w 281, 3) := by decide +kernel
theorem dX3_digest_47 : decode cX3_digest 47 = .ok (.lload_n 1, 1) := by decide +kernel
theorem dX3_digest_48 : decode cX3_digest 48 = .ok (.lmul, 1) := by decide +kernel
theorem dX3_digest_49 : decode cX3_digest 49 = .ok (.aload_n 0, 1) := by decide +kernel
theorem dX3_digest_50 : decode cX3_digest 50 = .ok (.getfield 10, 3) := by decide +kernel
theorem dX3_digest_53 : decode cX3_digest 53 = .ok (.iload_n 3, 1) := by decide +kernel
theorem dX3_digest_54 : decode cX3_digest 54 = .ok (.invokevirtual 139, 3) := by decide +kernel
theorem dX3_digest_57 : decode cX3_digest 57 = .ok (.i2l, 1) := by decide +kernel
theorem dX3_digest_58 : decode cX3_digest 58 = .ok (.ladd, 1) := by decide +kernel
theorem dX3_digest_59 : decode cX3_digest 59 = .ok (.lstore_n 1, 1) := by decide +kernel
theorem dX3_digest_60 : decode cX3_digest 60 = .ok (.ldc2_w 281, 3) := by decide +kernel
theorem dX3_digest_63 : decode cX3_digest 63 = .ok (.lload_n 1, 1) := by decide +kernel
theorem dX3_digest_64 : decode cX3_digest 64 = .ok (.lmul, 1) := by decide +kernel
theorem dX3_digest_65 : decode cX3_digest 65 = .ok (.aload_n 0, 1) := by decide +kernel
theorem dX3_digest_66 : decode cX3_digest 66 = .ok (.getfield 10, 3) := by decide +kernel
theorem dX3_digest_69 : decode cX3_digest 69 = .ok (.iload_n 3, 1) := by decide +kernel
theorem dX3_digest_70 : decode cX3_digest 70 = .ok (.invokevirtual 142, 3) := by decide +kernel
theorem dX3_digest_73 : decode cX3_digest 73 = .ok (.i2l, 1) := by decide +kernel
theorem dX3_digest_74 : decode cX3_digest 74 = .ok (.ladd, 1) := by decide +kernel
theorem dX3_digest_75 : decode cX3_digest 75 = .ok (.lstore_n 1, 1) := by decide +kernel
theorem dX3_digest_76 : decode cX3_digest 76 = .ok (.ldc2_w 281, 3) := by decide +kernel
theorem dX3_digest_79 : decode cX3_digest 79 = .ok (.lload_n 1, 1) := by decide +kernel
theorem dX3_digest_80 : decode cX3_digest 80 = .ok (.lmul, 1) := by decide +kernel
theorem dX3_digest_81 : decode cX3_digest 81 = .ok (.aload_n 0, 1) := by decide +kernel
theorem dX3_digest_82 : decode cX3_digest 82 = .ok (.getfield 10, 3) := by decide +kernel
theorem dX3_digest_85 : decode cX3_digest 85 = .ok (.iload_n 3, 1) := by decide +kernel
theorem dX3_digest_86 : decode cX3_digest 86 = .ok (.invokevirtual 145, 3) := by decide +kernel
theorem dX3_digest_89 : decode cX3_digest 89 = .ok (.i2l, 1) := by decide +kernel
theorem dX3_digest_90 : decode cX3_digest 90 = .ok (.ladd, 1) := by decide +kernel
theorem dX3_digest_91 : decode cX3_digest 91 = .ok (.lstore_n 1, 1) := by decide +kernel
theorem dX3_digest_92 : decode cX3_digest 92 = .ok (.iinc 3 1, 3) := by decide +kernel
theorem dX3_digest_95 : decode cX3_digest 95 = .ok (.goto (-62), 3) := by decide +kernel
theorem dX3_digest_98 : decode cX3_digest 98 = .ok (.lload_n 1, 1) := by decide +kernel
theorem dX3_digest_99 : decode cX3_digest 99 = .ok (.aload_n 0, 1) := by decide +kernel
theorem dX3_digest_100 : decode cX3_digest 100 = .ok (.getfield 10, 3) := by decide +kernel
theorem dX3_digest_103 : decode cX3_digest 103 = .ok (.getfield 121, 3) := by decide +kernel
theorem dX3_digest_106 : decode cX3_digest 106 = .ok (.aload_n 0, 1) := by decide +kernel
theorem dX3_digest_107 : decode cX3_digest 107 = .ok (.getfield 10, 3) := by decide +kernel
theorem dX3_digest_110 : decode cX3_digest 110 = .ok (.getfield 186, 3) := by decide +kernel
theorem dX3_digest_113 : decode cX3_digest 113 = .ok (.invokestatic 283, 3) := by decide +kernel
theorem dX3_digest_116 : decode cX3_digest 116 = .ok (.lstore_n 1, 1) := by decide +kernel
theorem dX3_digest_117 : decode cX3_digest 117 = .ok (.lload_n 1, 1) := by decide +kernel
theorem dX3_digest_118 : decode cX3_digest 118 = .ok (.aload_n 0, 1) := by decide +kernel
theorem dX3_digest_119 : decode cX3_digest 119 = .ok (.getfield 10, 3) := by decide +kernel
theorem dX3_digest_122 : decode cX3_digest 122 = .ok (.getfield 287, 3) := by decide +kernel
theorem dX3_digest_125 : decode cX3_digest 125 = .ok (.aload_n 0, 1) := by decide +kernel
theorem dX3_digest_126 : decode cX3_digest 126 = .ok (.getfield 10, 3) := by decide +kernel
theorem dX3_digest_129 : decode cX3_digest 129 = .ok (.getfield 207, 3) := by decide +kernel
theorem dX3_digest_132 : decode cX3_digest 132 = .ok (.iconst 3, 1) := by decide +kernel
theorem dX3_digest_133 : decode cX3_digest 133 = .ok (.imul, 1) := by decide +kernel
theorem dX3_digest_134 : decode cX3_digest 134 = .ok (.invokestatic 283, 3) := by decide +kernel
theorem dX3_digest_137 : decode cX3_digest 137 = .ok (.lstore_n 1, 1) := by decide +kernel
theorem dX3_digest_138 : decode cX3_digest 138 = .ok (.lload_n 1, 1) := by decide +kernel
theorem dX3_digest_139 : decode cX3_digest 139 = .ok (.aload_n 0, 1) := by decide +kernel
theorem dX3_digest_140 : decode cX3_digest 140 = .ok (.getfield 10, 3) := by decide +kernel
theorem dX3_digest_143 : decode cX3_digest 143 = .ok (.getfield 290, 3) := by decide +kernel
theorem dX3_digest_146 : decode cX3_digest 146 = .ok (.aload_n 0, 1) := by decide +kernel
theorem dX3_digest_147 : decode cX3_digest 147 = .ok (.getfield 10, 3) := by decide +kernel
theorem dX3_digest_150 : decode cX3_digest 150 = .ok (.getfield 213, 3) := by decide +kernel
theorem dX3_digest_153 : decode cX3_digest 153 = .ok (.iconst 4, 1) := by decide +kernel
theorem dX3_digest_154 : decode cX3_digest 154 = .ok (.imul, 1) := by decide +kernel
theorem dX3_digest_155 : decode cX3_digest 155 = .ok (.invokestatic 283, 3) := by decide +kernel
theorem dX3_digest_158 : decode cX3_digest 158 = .ok (.lstore_n 1, 1) := by decide +kernel
theorem dX3_digest_159 : decode cX3_digest 159 = .ok (.ldc2_w 281, 3) := by decide +kernel
theorem dX3_digest_162 : decode cX3_digest 162 = .ok (.lload_n 1, 1) := by decide +kernel
theorem dX3_digest_163 : decode cX3_digest 163 = .ok (.lmul, 1) := by decide +kernel
theorem dX3_digest_164 : decode cX3_digest 164 = .ok (.aload_n 0, 1) := by decide +kernel
theorem dX3_digest_165 : decode cX3_digest 165 = .ok (.getfield 39, 3) := by decide +kernel
theorem dX3_digest_168 : decode cX3_digest 168 = .ok (.ladd, 1) := by decide +kernel
theorem dX3_digest_169 : decode cX3_digest 169 = .ok (.lstore_n 1, 1) := by decide +kernel
theorem dX3_digest_170 : decode cX3_digest 170 = .ok (.ldc2_w 281, 3) := by decide +kernel
theorem dX3_digest_173 : decode cX3_digest 173 = .ok (.lload_n 1, 1) := by decide +kernel
theorem dX3_digest_174 : decode cX3_digest 174 = .ok (.lmul, 1) := by decide +kernel
theorem dX3_digest_175 : decode cX3_digest 175 = .ok (.aload_n 0, 1) := by decide +kernel
theorem dX3_digest_176 : decode cX3_digest 176 = .ok (.getfield 43, 3) := by decide +kernel
theorem dX3_digest_179 : decode cX3_digest 179 = .ok (.ladd, 1) := by decide +kernel
theorem dX3_digest_180 : decode cX3_digest 180 = .ok (.lreturn, 1) := by decide +kernel
theorem dX3_refuse_0 : decode cX3_refuse 0 = .ok (.iload_n 1, 1) := by decide +kernel
theorem dX3_refuse_1 : decode cX3_refuse 1 = .ok (.bipush (-2), 2) := by decide +kernel
theorem dX3_refuse_3 : decode cX3_refuse 3 = .ok (.if_icmp .ne 16, 3) := by decide +kernel
theorem dX3_refuse_6 : decode cX3_refuse 6 = .ok (.aload_n 0, 1) := by decide +kernel
theorem dX3_refuse_7 : decode cX3_refuse 7 = .ok (.dup, 1) := by decide +kernel
theorem dX3_refuse_8 : decode cX3_refuse 8 = .ok (.getfield 267, 3) := by decide +kernel
theorem dX3_refuse_11 : decode cX3_refuse 11 = .ok (.iconst 1, 1) := by decide +kernel
theorem dX3_refuse_12 : decode cX3_refuse 12 = .ok (.iadd, 1) := by decide +kernel
theorem dX3_refuse_13 : decode cX3_refuse 13 = .ok (.putfield 267, 3) := by decide +kernel
theorem dX3_refuse_16 : decode cX3_refuse 16 = .ok (.goto 32, 3) := by decide +kernel
theorem dX3_refuse_19 : decode cX3_refuse 19 = .ok (.iload_n 1, 1) := by decide +kernel
theorem dX3_refuse_20 : decode cX3_refuse 20 = .ok (.bipush (-3), 2) := by decide +kernel
theorem dX3_refuse_22 : decode cX3_refuse 22 = .ok (.if_icmp .ne 16, 3) := by decide +kernel
theorem dX3_refuse_25 : decode cX3_refuse 25 = .ok (.aload_n 0, 1) := by decide +kernel
theorem dX3_refuse_26 : decode cX3_refuse 26 = .ok (.dup, 1) := by decide +kernel
theorem dX3_refuse_27 : decode cX3_refuse 27 = .ok (.getfield 270, 3) := by decide +kernel
theorem dX3_refuse_30 : decode cX3_refuse 30 = .ok (.iconst 1, 1) := by decide +kernel
theorem dX3_refuse_31 : decode cX3_refuse 31 = .ok (.iadd, 1) := by decide +kernel
theorem dX3_refuse_32 : decode cX3_refuse 32 = .ok (.putfield 270, 3) := by decide +kernel
theorem dX3_refuse_35 : decode cX3_refuse 35 = .ok (.goto 13, 3) := by decide +kernel
theorem dX3_refuse_38 : decode cX3_refuse 38 = .ok (.aload_n 0, 1) := by decide +kernel
theorem dX3_refuse_39 : decode cX3_refuse 39 = .ok (.dup, 1) := by decide +kernel
theorem dX3_refuse_40 : decode cX3_refuse 40 = .ok (.getfield 273, 3) := by decide +kernel
theorem dX3_refuse_43 : decode cX3_refuse 43 = .ok (.iconst 1, 1) := by decide +kernel
theorem dX3_refuse_44 : decode cX3_refuse 44 = .ok (.iadd, 1) := by decide +kernel
theorem dX3_refuse_45 : decode cX3_refuse 45 = .ok (.putfield 273, 3) := by decide +kernel
theorem dX3_refuse_48 : decode cX3_refuse 48 = .ok (.iload_n 1, 1) := by decide +kernel
theorem dX3_refuse_49 : decode cX3_refuse 49 = .ok (.ireturn, 1) := by decide +kernel
theorem dX3_howMany_0 : decode cX3_howMany 0 = .ok (.iload_n 1, 1) := by decide +kernel
theorem dX3_howMany_1 : decode cX3_howMany 1 = .ok (.tableswitch 135 0 9 #[55, 63, 71, 79, 87, 95, 103, 111, 119, 127], 55) := by decide +kernel
theorem dX3_howMany_56 : decode cX3_howMany 56 = .ok (.aload_n 0, 1) := by decide +kernel
theorem dX3_howMany_57 : decode cX3_howMany 57 = .ok (.getfield 10, 3) := by decide +kernel
theorem dX3_howMany_60 : decode cX3_howMany 60 = .ok (.getfield 62, 3) := by decide +kernel
theorem dX3_howMany_63 : decode cX3_howMany 63 = .ok (.ireturn, 1) := by decide +kernel
theorem dX3_howMany_64 : decode cX3_howMany 64 = .ok (.aload_n 0, 1) := by decide +kernel
theorem dX3_howMany_65 : decode cX3_howMany 65 = .ok (.getfield 10, 3) := by decide +kernel
theorem dX3_howMany_68 : decode cX3_howMany 68 = .ok (.getfield 186, 3) := by decide +kernel
theorem dX3_howMany_71 : decode cX3_howMany 71 = .ok (.ireturn, 1) := by decide +kernel
theorem dX3_howMany_72 : decode cX3_howMany 72 = .ok (.aload_n 0, 1) := by decide +kernel
theorem dX3_howMany_73 : decode cX3_howMany 73 = .ok (.getfield 10, 3) := by decide +kernel
theorem dX3_howMany_76 : decode cX3_howMany 76 = .ok (.getfield 70, 3) := by decide +kernel
theorem dX3_howMany_79 : decode cX3_howMany 79 = .ok (.ireturn, 1) := by decide +kernel
theorem dX3_howMany_80 : decode cX3_howMany 80 = .ok (.aload_n 0, 1) := by decide +kernel
theorem dX3_howMany_81 : decode cX3_howMany 81 = .ok (.getfield 10, 3) := by decide +kernel
theorem dX3_howMany_84 : decode cX3_howMany 84 = .ok (.getfield 293, 3) := by decide +kernel
theorem dX3_howMany_87 : decode cX3_howMany 87 = .ok (.ireturn, 1) := by decide +kernel
theorem dX3_howMany_88 : decode cX3_howMany 88 = .ok (.aload_n 0, 1) := by decide +kernel
theorem dX3_howMany_89 : decode cX3_howMany 89 = .ok (.getfield 10, 3) := by decide +kernel
theorem dX3_howMany_92 : decode cX3_howMany 92 = .ok (.invokevirtual 296, 3) := by decide +kernel
theorem dX3_howMany_95 : decode cX3_howMany 95 = .ok (.ireturn, 1) := by decide +kernel
theorem dX3_howMany_96 : decode cX3_howMany 96 = .ok (.aload_n 0, 1) := by decide +kernel
theorem dX3_howMany_97 : decode cX3_howMany 97 = .ok (.getfield 10, 3) := by decide +kernel
theorem dX3_howMany_100 : decode cX3_howMany 100 = .ok (.invokevirtual 132, 3) := by decide +kernel
theorem dX3_howMany_103 : decode cX3_howMany 103 = .ok (.ireturn, 1) := by decide +kernel
theorem dX3_howMany_104 : decode cX3_howMany 104 = .ok (.aload_n 0, 1) := by decide +kernel
theorem dX3_howMany_105 : decode cX3_howMany 105 = .ok (.getfield 10, 3) := by decide +kernel
theorem dX3_howMany_108 : decode cX3_howMany 108 = .ok (.invokevirtual 299, 3) := by decide +kernel
theorem dX3_howMany_111 : decode cX3_howMany 111 = .ok (.ireturn, 1) := by decide +kernel
theorem dX3_howMany_112 : decode cX3_howMany 112 = .ok (.aload_n 0, 1) := by decide +kernel
theorem dX3_howMany_113 : decode cX3_howMany 113 = .ok (.getfield 10, 3) := by decide +kernel
theorem dX3_howMany_116 : decode cX3_howMany 116 = .ok (.getfield 207, 3) := by decide +kernel
theorem dX3_howMany_119 : decode cX3_howMany 119 = .ok (.ireturn, 1) := by decide +kernel
theorem dX3_howMany_120 : decode cX3_howMany 120 = .ok (.aload_n 0, 1) := by decide +kernel
theorem dX3_howMany_121 : decode cX3_howMany 121 = .ok (.getfield 10, 3) := by decide +kernel
theorem dX3_howMany_124 : decode cX3_howMany 124 = .ok (.getfield 213, 3) := by decide +kernel
theorem dX3_howMany_127 : decode cX3_howMany 127 = .ok (.ireturn, 1) := by decide +kernel
theorem dX3_howMany_128 : decode cX3_howMany 128 = .ok (.aload_n 0, 1) := by decide +kernel
theorem dX3_howMany_129 : decode cX3_howMany 129 = .ok (.getfield 10, 3) := by decide +kernel
theorem dX3_howMany_132 : decode cX3_howMany 132 = .ok (.getfield 73, 3) := by decide +kernel
theorem dX3_howMany_135 : decode cX3_howMany 135 = .ok (.ireturn, 1) := by decide +kernel
theorem dX3_howMany_136 : decode cX3_howMany 136 = .ok (.aload_n 0, 1) := by decide +kernel
theorem dX3_howMany_137 : decode cX3_howMany 137 = .ok (.getfield 28, 3) := by decide +kernel
theorem dX3_howMany_140 : decode cX3_howMany 140 = .ok (.getfield 85, 3) := by decide +kernel
theorem dX3_howMany_143 : decode cX3_howMany 143 = .ok (.ireturn, 1) := by decide +kernel
theorem dX3_digestRow_0 : decode cX3_digestRow 0 = .ok (.lload_n 0, 1) := by decide +kernel
theorem dX3_digestRow_1 : decode cX3_digestRow 1 = .ok (.lstore 4, 2) := by decide +kernel
theorem dX3_digestRow_3 : decode cX3_digestRow 3 = .ok (.iconst 0, 1) := by decide +kernel
theorem dX3_digestRow_4 : decode cX3_digestRow 4 = .ok (.istore 6, 2) := by decide +kernel
theorem dX3_digestRow_6 : decode cX3_digestRow 6 = .ok (.iload 6, 2) := by decide +kernel
theorem dX3_digestRow_8 : decode cX3_digestRow 8 = .ok (.iload_n 3, 1) := by decide +kernel
theorem dX3_digestRow_9 : decode cX3_digestRow 9 = .ok (.if_icmp .ge 25, 3) := by decide +kernel
theorem dX3_digestRow_12 : decode cX3_digestRow 12 = .ok (.ldc2_w 281, 3) := by decide +kernel
theorem dX3_digestRow_15 : decode cX3_digestRow 15 = .ok (.lload 4, 2) := by decide +kernel
theorem dX3_digestRow_17 : decode cX3_digestRow 17 = .ok (.lmul, 1) := by decide +kernel
theorem dX3_digestRow_18 : decode cX3_digestRow 18 = .ok (.aload_n 2, 1) := by decide +kernel
theorem dX3_digestRow_19 : decode cX3_digestRow 19 = .ok (.iload 6, 2) := by decide +kernel
theorem dX3_digestRow_21 : decode cX3_digestRow 21 = .ok (.invokestatic 302, 3) := by decide +kernel
theorem dX3_digestRow_24 : decode cX3_digestRow 24 = .ok (.i2l, 1) := by decide +kernel
theorem dX3_digestRow_25 : decode cX3_digestRow 25 = .ok (.ladd, 1) := by decide +kernel
theorem dX3_digestRow_26 : decode cX3_digestRow 26 = .ok (.lstore 4, 2) := by decide +kernel
theorem dX3_digestRow_28 : decode cX3_digestRow 28 = .ok (.iinc 6 1, 3) := by decide +kernel
theorem dX3_digestRow_31 : decode cX3_digestRow 31 = .ok (.goto (-25), 3) := by decide +kernel
theorem dX3_digestRow_34 : decode cX3_digestRow 34 = .ok (.lload 4, 2) := by decide +kernel
theorem dX3_digestRow_36 : decode cX3_digestRow 36 = .ok (.lreturn, 1) := by decide +kernel
theorem dX3_rests_0 : decode cX3_rests 0 = .ok (.aload_n 0, 1) := by decide +kernel
theorem dX3_rests_1 : decode cX3_rests 1 = .ok (.getfield 10, 3) := by decide +kernel
theorem dX3_rests_4 : decode cX3_rests 4 = .ok (.iload_n 2, 1) := by decide +kernel
theorem dX3_rests_5 : decode cX3_rests 5 = .ok (.invokevirtual 115, 3) := by decide +kernel
theorem dX3_rests_8 : decode cX3_rests 8 = .ok (.iconst (-1), 1) := by decide +kernel
theorem dX3_rests_9 : decode cX3_rests 9 = .ok (.if_icmp .ne 15, 3) := by decide +kernel
theorem dX3_rests_12 : decode cX3_rests 12 = .ok (.aload_n 0, 1) := by decide +kernel
theorem dX3_rests_13 : decode cX3_rests 13 = .ok (.getfield 10, 3) := by decide +kernel
theorem dX3_rests_16 : decode cX3_rests 16 = .ok (.iload_n 3, 1) := by decide +kernel
theorem dX3_rests_17 : decode cX3_rests 17 = .ok (.invokevirtual 115, 3) := by decide +kernel
theorem dX3_rests_20 : decode cX3_rests 20 = .ok (.iconst (-1), 1) := by decide +kernel
theorem dX3_rests_21 : decode cX3_rests 21 = .ok (.if_icmp .eq 5, 3) := by decide +kernel
theorem dX3_rests_24 : decode cX3_rests 24 = .ok (.iconst 0, 1) := by decide +kernel
theorem dX3_rests_25 : decode cX3_rests 25 = .ok (.ireturn, 1) := by decide +kernel
theorem dX3_rests_26 : decode cX3_rests 26 = .ok (.aload_n 0, 1) := by decide +kernel
theorem dX3_rests_27 : decode cX3_rests 27 = .ok (.iload_n 1, 1) := by decide +kernel
theorem dX3_rests_28 : decode cX3_rests 28 = .ok (.iload_n 2, 1) := by decide +kernel
theorem dX3_rests_29 : decode cX3_rests 29 = .ok (.iload_n 3, 1) := by decide +kernel
theorem dX3_rests_30 : decode cX3_rests 30 = .ok (.invokevirtual 306, 3) := by decide +kernel
theorem dX3_rests_33 : decode cX3_rests 33 = .ok (.istore 4, 2) := by decide +kernel
theorem dX3_rests_35 : decode cX3_rests 35 = .ok (.aload_n 0, 1) := by decide +kernel
theorem dX3_rests_36 : decode cX3_rests 36 = .ok (.iload_n 1, 1) := by decide +kernel
theorem dX3_rests_37 : decode cX3_rests 37 = .ok (.iload_n 3, 1) := by decide +kernel
theorem dX3_rests_38 : decode cX3_rests 38 = .ok (.iload_n 2, 1) := by decide +kernel
theorem dX3_rests_39 : decode cX3_rests 39 = .ok (.invokevirtual 306, 3) := by decide +kernel
theorem dX3_rests_42 : decode cX3_rests 42 = .ok (.istore 5, 2) := by decide +kernel
theorem dX3_rests_44 : decode cX3_rests 44 = .ok (.iconst 0, 1) := by decide +kernel
theorem dX3_rests_45 : decode cX3_rests 45 = .ok (.istore 6, 2) := by decide +kernel
theorem dX3_rests_47 : decode cX3_rests 47 = .ok (.iload 6, 2) := by decide +kernel
theorem dX3_rests_49 : decode cX3_rests 49 = .ok (.aload_n 0, 1) := by decide +kernel
theorem dX3_rests_50 : decode cX3_rests 50 = .ok (.getfield 10, 3) := by decide +kernel
theorem dX3_rests_53 : decode cX3_rests 53 = .ok (.getfield 62, 3) := by decide +kernel
theorem dX3_rests_56 : decode cX3_rests 56 = .ok (.if_icmp .ge 50, 3) := by decide +kernel
theorem dX3_rests_59 : decode cX3_rests 59 = .ok (.aload_n 0, 1) := by decide +kernel
theorem dX3_rests_60 : decode cX3_rests 60 = .ok (.getfield 10, 3) := by decide +kernel
theorem dX3_rests_63 : decode cX3_rests 63 = .ok (.iload 6, 2) := by decide +kernel
theorem dX3_rests_65 : decode cX3_rests 65 = .ok (.invokevirtual 115, 3) := by decide +kernel
theorem dX3_rests_68 : decode cX3_rests 68 = .ok (.iconst (-1), 1) := by decide +kernel
theorem dX3_rests_69 : decode cX3_rests 69 = .ok (.if_icmp .ne 31, 3) := by decide +kernel
theorem dX3_rests_72 : decode cX3_rests 72 = .ok (.aload_n 0, 1) := by decide +kernel
theorem dX3_rests_73 : decode cX3_rests 73 = .ok (.iload_n 1, 1) := by decide +kernel
theorem dX3_rests_74 : decode cX3_rests 74 = .ok (.iload 6, 2) := by decide +kernel
theorem dX3_rests_76 : decode cX3_rests 76 = .ok (.iload_n 3, 1) := by decide +kernel
theorem dX3_rests_77 : decode cX3_rests 77 = .ok (.invokevirtual 306, 3) := by decide +kernel
theorem dX3_rests_80 : decode cX3_rests 80 = .ok (.iload 4, 2) := by decide +kernel
theorem dX3_rests_82 : decode cX3_rests 82 = .ok (.if_icmp .gt 16, 3) := by decide +kernel
theorem dX3_rests_85 : decode cX3_rests 85 = .ok (.aload_n 0, 1) := by decide +kernel
theorem dX3_rests_86 : decode cX3_rests 86 = .ok (.iload_n 1, 1) := by decide +kernel
theorem dX3_rests_87 : decode cX3_rests 87 = .ok (.iload 6, 2) := by decide +kernel
theorem dX3_rests_89 : decode cX3_rests 89 = .ok (.iload_n 2, 1) := by decide +kernel
theorem dX3_rests_90 : decode cX3_rests 90 = .ok (.invokevirtual 306, 3) := by decide +kernel
theorem dX3_rests_93 : decode cX3_rests 93 = .ok (.iload 5, 2) := by decide +kernel
theorem dX3_rests_95 : decode cX3_rests 95 = .ok (.if_icmp .le 5, 3) := by decide +kernel
theorem dX3_rests_98 : decode cX3_rests 98 = .ok (.iconst 0, 1) := by decide +kernel
theorem dX3_rests_99 : decode cX3_rests 99 = .ok (.ireturn, 1) := by decide +kernel
theorem dX3_rests_100 : decode cX3_rests 100 = .ok (.iinc 6 1, 3) := by decide +kernel
theorem dX3_rests_103 : decode cX3_rests 103 = .ok (.goto (-56), 3) := by decide +kernel
theorem dX3_rests_106 : decode cX3_rests 106 = .ok (.iconst 1, 1) := by decide +kernel
theorem dX3_rests_107 : decode cX3_rests 107 = .ok (.ireturn, 1) := by decide +kernel
theorem dX3_gain_0 : decode cX3_gain 0 = .ok (.iload_n 2, 1) := by decide +kernel
theorem dX3_gain_1 : decode cX3_gain 1 = .ok (.iload_n 3, 1) := by decide +kernel
theorem dX3_gain_2 : decode cX3_gain 2 = .ok (.if_icmp .ne 5, 3) := by decide +kernel
theorem dX3_gain_5 : decode cX3_gain 5 = .ok (.iconst (-1), 1) := by decide +kernel
theorem dX3_gain_6 : decode cX3_gain 6 = .ok (.ireturn, 1) := by decide +kernel
theorem dX3_gain_7 : decode cX3_gain 7 = .ok (.aload_n 0, 1) := by decide +kernel
theorem dX3_gain_8 : decode cX3_gain 8 = .ok (.getfield 10, 3) := by decide +kernel
theorem dX3_gain_11 : decode cX3_gain 11 = .ok (.aload_n 0, 1) := by decide +kernel
theorem dX3_gain_12 : decode cX3_gain 12 = .ok (.getfield 10, 3) := by decide +kernel
theorem dX3_gain_15 : decode cX3_gain 15 = .ok (.getfield 70, 3) := by decide +kernel
theorem dX3_gain_18 : decode cX3_gain 18 = .ok (.iload_n 2, 1) := by decide +kernel
theorem dX3_gain_19 : decode cX3_gain 19 = .ok (.iload_n 1, 1) := by decide +kernel
theorem dX3_gain_20 : decode cX3_gain 20 = .ok (.invokevirtual 158, 3) := by decide +kernel
theorem dX3_gain_23 : decode cX3_gain 23 = .ok (.ifCond .ne 5, 3) := by decide +kernel
theorem dX3_gain_26 : decode cX3_gain 26 = .ok (.iconst 0, 1) := by decide +kernel
theorem dX3_gain_27 : decode cX3_gain 27 = .ok (.ireturn, 1) := by decide +kernel
theorem dX3_gain_28 : decode cX3_gain 28 = .ok (.aload_n 0, 1) := by decide +kernel
theorem dX3_gain_29 : decode cX3_gain 29 = .ok (.getfield 10, 3) := by decide +kernel
theorem dX3_gain_32 : decode cX3_gain 32 = .ok (.iload_n 2, 1) := by decide +kernel
theorem dX3_gain_33 : decode cX3_gain 33 = .ok (.iload_n 1, 1) := by decide +kernel
theorem dX3_gain_34 : decode cX3_gain 34 = .ok (.invokevirtual 309, 3) := by decide +kernel
theorem dX3_gain_37 : decode cX3_gain 37 = .ok (.istore 4, 2) := by decide +kernel
theorem dX3_gain_39 : decode cX3_gain 39 = .ok (.aload_n 0, 1) := by decide +kernel
theorem dX3_gain_40 : decode cX3_gain 40 = .ok (.getfield 10, 3) := by decide +kernel
theorem dX3_gain_43 : decode cX3_gain 43 = .ok (.iload_n 3, 1) := by decide +kernel
theorem dX3_gain_44 : decode cX3_gain 44 = .ok (.iload_n 1, 1) := by decide +kernel
theorem dX3_gain_45 : decode cX3_gain 45 = .ok (.invokevirtual 309, 3) := by decide +kernel
theorem dX3_gain_48 : decode cX3_gain 48 = .ok (.istore 5, 2) := by decide +kernel
theorem dX3_gain_50 : decode cX3_gain 50 = .ok (.iload 4, 2) := by decide +kernel
theorem dX3_gain_52 : decode cX3_gain 52 = .ok (.iload 5, 2) := by decide +kernel
theorem dX3_gain_54 : decode cX3_gain 54 = .ok (.if_icmp .lt 15, 3) := by decide +kernel
theorem dX3_gain_57 : decode cX3_gain 57 = .ok (.iload 4, 2) := by decide +kernel
theorem dX3_gain_59 : decode cX3_gain 59 = .ok (.iload 5, 2) := by decide +kernel
theorem dX3_gain_61 : decode cX3_gain 61 = .ok (.if_icmp .ne 12, 3) := by decide +kernel
theorem dX3_gain_64 : decode cX3_gain 64 = .ok (.iload_n 2, 1) := by decide +kernel
theorem dX3_gain_65 : decode cX3_gain 65 = .ok (.iload_n 3, 1) := by decide +kernel
theorem dX3_gain_66 : decode cX3_gain 66 = .ok (.if_icmp .ge 7, 3) := by decide +kernel
theorem dX3_gain_69 : decode cX3_gain 69 = .ok (.iconst 1, 1) := by decide +kernel
theorem dX3_gain_70 : decode cX3_gain 70 = .ok (.goto 4, 3) := by decide +kernel
theorem dX3_gain_73 : decode cX3_gain 73 = .ok (.iconst 0, 1) := by decide +kernel
theorem dX3_gain_74 : decode cX3_gain 74 = .ok (.istore 6, 2) := by decide +kernel
theorem dX3_gain_76 : decode cX3_gain 76 = .ok (.iload 6, 2) := by decide +kernel
theorem dX3_gain_78 : decode cX3_gain 78 = .ok (.ifCond .ne 22, 3) := by decide +kernel
theorem dX3_gain_81 : decode cX3_gain 81 = .ok (.aload_n 0, 1) := by decide +kernel
theorem dX3_gain_82 : decode cX3_gain 82 = .ok (.getfield 10, 3) := by decide +kernel
theorem dX3_gain_85 : decode cX3_gain 85 = .ok (.aload_n 0, 1) := by decide +kernel
theorem dX3_gain_86 : decode cX3_gain 86 = .ok (.getfield 10, 3) := by decide +kernel
theorem dX3_gain_89 : decode cX3_gain 89 = .ok (.getfield 70, 3) := by decide +kernel
theorem dX3_gain_92 : decode cX3_gain 92 = .ok (.iload_n 3, 1) := by decide +kernel
theorem dX3_gain_93 : decode cX3_gain 93 = .ok (.iload_n 1, 1) := by decide +kernel
theorem dX3_gain_94 : decode cX3_gain 94 = .ok (.invokevirtual 158, 3) := by decide +kernel
theorem dX3_gain_97 : decode cX3_gain 97 = .ok (.ifCond .ne 11, 3) := by decide +kernel
theorem dX3_gain_100 : decode cX3_gain 100 = .ok (.bipush 9, 2) := by decide +kernel
theorem dX3_gain_102 : decode cX3_gain 102 = .ok (.iload 4, 2) := by decide +kernel
theorem dX3_gain_104 : decode cX3_gain 104 = .ok (.isub, 1) := by decide +kernel
theorem dX3_gain_105 : decode cX3_gain 105 = .ok (.goto 4, 3) := by decide +kernel
theorem dX3_gain_108 : decode cX3_gain 108 = .ok (.iconst 0, 1) := by decide +kernel
theorem dX3_gain_109 : decode cX3_gain 109 = .ok (.ireturn, 1) := by decide +kernel
theorem dX3_playEvening_0 : decode cX3_playEvening 0 = .ok (.aload_n 0, 1) := by decide +kernel
theorem dX3_playEvening_1 : decode cX3_playEvening 1 = .ok (.getfield 186, 3) := by decide +kernel
theorem dX3_playEvening_4 : decode cX3_playEvening 4 = .ok (.ifCond .gt 4, 3) := by decide +kernel
theorem dX3_playEvening_7 : decode cX3_playEvening 7 = .ok (.return_, 1) := by decide +kernel
theorem dX3_playEvening_8 : decode cX3_playEvening 8 = .ok (.lload_n 1, 1) := by decide +kernel
theorem dX3_playEvening_9 : decode cX3_playEvening 9 = .ok (.ldc2_w 312, 3) := by decide +kernel
theorem dX3_playEvening_12 : decode cX3_playEvening 12 = .ok (.ldiv, 1) := by decide +kernel
theorem dX3_playEvening_13 : decode cX3_playEvening 13 = .ok (.aload_n 0, 1) := by decide +kernel
theorem dX3_playEvening_14 : decode cX3_playEvening 14 = .ok (.getfield 186, 3) := by decide +kernel
theorem dX3_playEvening_17 : decode cX3_playEvening 17 = .ok (.i2l, 1) := by decide +kernel
theorem dX3_playEvening_18 : decode cX3_playEvening 18 = .ok (.lrem, 1) := by decide +kernel
theorem dX3_playEvening_19 : decode cX3_playEvening 19 = .ok (.l2i, 1) := by decide +kernel
theorem dX3_playEvening_20 : decode cX3_playEvening 20 = .ok (.istore_n 3, 1) := by decide +kernel
theorem dX3_playEvening_21 : decode cX3_playEvening 21 = .ok (.lload_n 1, 1) := by decide +kernel
theorem dX3_playEvening_22 : decode cX3_playEvening 22 = .ok (.ldc2_w 314, 3) := by decide +kernel
theorem dX3_playEvening_25 : decode cX3_playEvening 25 = .ok (.ldiv, 1) := by decide +kernel
theorem dX3_playEvening_26 : decode cX3_playEvening 26 = .ok (.ldc2_w 316, 3) := by decide +kernel
theorem dX3_playEvening_29 : decode cX3_playEvening 29 = .ok (.lrem, 1) := by decide +kernel
theorem dX3_playEvening_30 : decode cX3_playEvening 30 = .ok (.l2i, 1) := by decide +kernel
theorem dX3_playEvening_31 : decode cX3_playEvening 31 = .ok (.istore 4, 2) := by decide +kernel
theorem dX3_playEvening_33 : decode cX3_playEvening 33 = .ok (.aload_n 0, 1) := by decide +kernel
theorem dX3_playEvening_34 : decode cX3_playEvening 34 = .ok (.iload_n 3, 1) := by decide +kernel
theorem dX3_playEvening_35 : decode cX3_playEvening 35 = .ok (.invokevirtual 112, 3) := by decide +kernel
theorem dX3_playEvening_38 : decode cX3_playEvening 38 = .ok (.iconst (-1), 1) := by decide +kernel
theorem dX3_playEvening_39 : decode cX3_playEvening 39 = .ok (.if_icmp .eq 15, 3) := by decide +kernel
theorem dX3_playEvening_42 : decode cX3_playEvening 42 = .ok (.aload_n 0, 1) := by decide +kernel
theorem dX3_playEvening_43 : decode cX3_playEvening 43 = .ok (.getfield 121, 3) := by decide +kernel
theorem dX3_playEvening_46 : decode cX3_playEvening 46 = .ok (.iload_n 3, 1) := by decide +kernel
theorem dX3_playEvening_47 : decode cX3_playEvening 47 = .ok (.iconst (-1), 1) := by decide +kernel
theorem dX3_playEvening_48 : decode cX3_playEvening 48 = .ok (.invokestatic 125, 3) := by decide +kernel
theorem dX3_playEvening_51 : decode cX3_playEvening 51 = .ok (.goto 32, 3) := by decide +kernel
theorem dX3_playEvening_54 : decode cX3_playEvening 54 = .ok (.aload_n 0, 1) := by decide +kernel
theorem dX3_playEvening_55 : decode cX3_playEvening 55 = .ok (.iload 4, 2) := by decide +kernel
theorem dX3_playEvening_57 : decode cX3_playEvening 57 = .ok (.invokevirtual 109, 3) := by decide +kernel
theorem dX3_playEvening_60 : decode cX3_playEvening 60 = .ok (.ifCond .eq 23, 3) := by decide +kernel
theorem dX3_playEvening_63 : decode cX3_playEvening 63 = .ok (.aload_n 0, 1) := by decide +kernel
theorem dX3_playEvening_64 : decode cX3_playEvening 64 = .ok (.iload 4, 2) := by decide +kernel
theorem dX3_playEvening_66 : decode cX3_playEvening 66 = .ok (.invokevirtual 115, 3) := by decide +kernel
theorem dX3_playEvening_69 : decode cX3_playEvening 69 = .ok (.iconst (-1), 1) := by decide +kernel
theorem dX3_playEvening_70 : decode cX3_playEvening 70 = .ok (.if_icmp .ne 13, 3) := by decide +kernel
theorem dX3_playEvening_73 : decode cX3_playEvening 73 = .ok (.aload_n 0, 1) := by decide +kernel
theorem dX3_playEvening_74 : decode cX3_playEvening 74 = .ok (.getfield 121, 3) := by decide +kernel
theorem dX3_playEvening_77 : decode cX3_playEvening 77 = .ok (.iload_n 3, 1) := by decide +kernel
theorem dX3_playEvening_78 : decode cX3_playEvening 78 = .ok (.iload 4, 2) := by decide +kernel
theorem dX3_playEvening_80 : decode cX3_playEvening 80 = .ok (.invokestatic 125, 3) := by decide +kernel
theorem dX3_playEvening_83 : decode cX3_playEvening 83 = .ok (.return_, 1) := by decide +kernel
theorem dX3_setFraction_0 : decode cX3_setFraction 0 = .ok (.lload_n 1, 1) := by decide +kernel
theorem dX3_setFraction_1 : decode cX3_setFraction 1 = .ok (.lload_n 3, 1) := by decide +kernel
theorem dX3_setFraction_2 : decode cX3_setFraction 2 = .ok (.invokestatic 318, 3) := by decide +kernel
theorem dX3_setFraction_5 : decode cX3_setFraction 5 = .ok (.lstore 5, 2) := by decide +kernel
theorem dX3_setFraction_7 : decode cX3_setFraction 7 = .ok (.lload_n 1, 1) := by decide +kernel
theorem dX3_setFraction_8 : decode cX3_setFraction 8 = .ok (.lconst 0, 1) := by decide +kernel
theorem dX3_setFraction_9 : decode cX3_setFraction 9 = .ok (.lcmp, 1) := by decide +kernel
theorem dX3_setFraction_10 : decode cX3_setFraction 10 = .ok (.ifCond .le 10, 3) := by decide +kernel
theorem dX3_setFraction_13 : decode cX3_setFraction 13 = .ok (.lload 5, 2) := by decide +kernel
theorem dX3_setFraction_15 : decode cX3_setFraction 15 = .ok (.lconst 0, 1) := by decide +kernel
theorem dX3_setFraction_16 : decode cX3_setFraction 16 = .ok (.lcmp, 1) := by decide +kernel
theorem dX3_setFraction_17 : decode cX3_setFraction 17 = .ok (.ifCond .gt 16, 3) := by decide +kernel
theorem dX3_setFraction_20 : decode cX3_setFraction 20 = .ok (.aload_n 0, 1) := by decide +kernel
theorem dX3_setFraction_21 : decode cX3_setFraction 21 = .ok (.lconst 0, 1) := by decide +kernel
theorem dX3_setFraction_22 : decode cX3_setFraction 22 = .ok (.putfield 39, 3) := by decide +kernel
theorem dX3_setFraction_25 : decode cX3_setFraction 25 = .ok (.aload_n 0, 1) := by decide +kernel
theorem dX3_setFraction_26 : decode cX3_setFraction 26 = .ok (.lconst 1, 1) := by decide +kernel
theorem dX3_setFraction_27 : decode cX3_setFraction 27 = .ok (.putfield 43, 3) := by decide +kernel
theorem dX3_setFraction_30 : decode cX3_setFraction 30 = .ok (.goto 19, 3) := by decide +kernel
theorem dX3_setFraction_33 : decode cX3_setFraction 33 = .ok (.aload_n 0, 1) := by decide +kernel
theorem dX3_setFraction_34 : decode cX3_setFraction 34 = .ok (.lload_n 1, 1) := by decide +kernel
theorem dX3_setFraction_35 : decode cX3_setFraction 35 = .ok (.lload 5, 2) := by decide +kernel
theorem dX3_setFraction_37 : decode cX3_setFraction 37 = .ok (.ldiv, 1) := by decide +kernel
theorem dX3_setFraction_38 : decode cX3_setFraction 38 = .ok (.putfield 39, 3) := by decide +kernel
theorem dX3_setFraction_41 : decode cX3_setFraction 41 = .ok (.aload_n 0, 1) := by decide +kernel
theorem dX3_setFraction_42 : decode cX3_setFraction 42 = .ok (.lload_n 3, 1) := by decide +kernel
theorem dX3_setFraction_43 : decode cX3_setFraction 43 = .ok (.lload 5, 2) := by decide +kernel
theorem dX3_setFraction_45 : decode cX3_setFraction 45 = .ok (.ldiv, 1) := by decide +kernel
theorem dX3_setFraction_46 : decode cX3_setFraction 46 = .ok (.putfield 43, 3) := by decide +kernel
theorem dX3_setFraction_49 : decode cX3_setFraction 49 = .ok (.return_, 1) := by decide +kernel
theorem dX3_commonDivisor_0 : decode cX3_commonDivisor 0 = .ok (.lload_n 0, 1) := by decide +kernel
theorem dX3_commonDivisor_1 : decode cX3_commonDivisor 1 = .ok (.lstore 4, 2) := by decide +kernel
theorem dX3_commonDivisor_3 : decode cX3_commonDivisor 3 = .ok (.lload_n 2, 1) := by decide +kernel
theorem dX3_commonDivisor_4 : decode cX3_commonDivisor 4 = .ok (.lstore 6, 2) := by decide +kernel
theorem dX3_commonDivisor_6 : decode cX3_commonDivisor 6 = .ok (.iconst 0, 1) := by decide +kernel
theorem dX3_commonDivisor_7 : decode cX3_commonDivisor 7 = .ok (.istore 8, 2) := by decide +kernel
theorem dX3_commonDivisor_9 : decode cX3_commonDivisor 9 = .ok (.iload 8, 2) := by decide +kernel
theorem dX3_commonDivisor_11 : decode cX3_commonDivisor 11 = .ok (.bipush 64, 2) := by decide +kernel
theorem dX3_commonDivisor_13 : decode cX3_commonDivisor 13 = .ok (.if_icmp .ge 31, 3) := by decide +kernel
theorem dX3_commonDivisor_16 : decode cX3_commonDivisor 16 = .ok (.lload 6, 2) := by decide +kernel
theorem dX3_commonDivisor_18 : decode cX3_commonDivisor 18 = .ok (.lconst 0, 1) := by decide +kernel
theorem dX3_commonDivisor_19 : decode cX3_commonDivisor 19 = .ok (.lcmp, 1) := by decide +kernel
theorem dX3_commonDivisor_20 : decode cX3_commonDivisor 20 = .ok (.ifCond .eq 24, 3) := by decide +kernel
theorem dX3_commonDivisor_23 : decode cX3_commonDivisor 23 = .ok (.lload 4, 2) := by decide +kernel
theorem dX3_commonDivisor_25 : decode cX3_commonDivisor 25 = .ok (.lload 6, 2) := by decide +kernel
theorem dX3_commonDivisor_27 : decode cX3_commonDivisor 27 = .ok (.lrem, 1) := by decide +kernel
theorem dX3_commonDivisor_28 : decode cX3_commonDivisor 28 = .ok (.lstore 9, 2) := by decide +kernel
theorem dX3_commonDivisor_30 : decode cX3_commonDivisor 30 = .ok (.lload 6, 2) := by decide +kernel
theorem dX3_commonDivisor_32 : decode cX3_commonDivisor 32 = .ok (.lstore 4, 2) := by decide +kernel
theorem dX3_commonDivisor_34 : decode cX3_commonDivisor 34 = .ok (.lload 9, 2) := by decide +kernel
theorem dX3_commonDivisor_36 : decode cX3_commonDivisor 36 = .ok (.lstore 6, 2) := by decide +kernel
theorem dX3_commonDivisor_38 : decode cX3_commonDivisor 38 = .ok (.iinc 8 1, 3) := by decide +kernel
theorem dX3_commonDivisor_41 : decode cX3_commonDivisor 41 = .ok (.goto (-32), 3) := by decide +kernel
theorem dX3_commonDivisor_44 : decode cX3_commonDivisor 44 = .ok (.lload 4, 2) := by decide +kernel
theorem dX3_commonDivisor_46 : decode cX3_commonDivisor 46 = .ok (.lreturn, 1) := by decide +kernel
theorem dX3_rowsOfWords_0 : decode cX3_rowsOfWords 0 = .ok (.iconst 1, 1) := by decide +kernel
theorem dX3_rowsOfWords_1 : decode cX3_rowsOfWords 1 = .ok (.istore_n 2, 1) := by decide +kernel
theorem dX3_rowsOfWords_2 : decode cX3_rowsOfWords 2 = .ok (.iconst 0, 1) := by decide +kernel
theorem dX3_rowsOfWords_3 : decode cX3_rowsOfWords 3 = .ok (.istore_n 3, 1) := by decide +kernel
theorem dX3_rowsOfWords_4 : decode cX3_rowsOfWords 4 = .ok (.iload_n 3, 1) := by decide +kernel
theorem dX3_rowsOfWords_5 : decode cX3_rowsOfWords 5 = .ok (.iload_n 1, 1) := by decide +kernel
theorem dX3_rowsOfWords_6 : decode cX3_rowsOfWords 6 = .ok (.if_icmp .ge 19, 3) := by decide +kernel
theorem dX3_rowsOfWords_9 : decode cX3_rowsOfWords 9 = .ok (.iload_n 2, 1) := by decide +kernel
theorem dX3_rowsOfWords_10 : decode cX3_rowsOfWords 10 = .ok (.iconst 0, 1) := by decide +kernel
theorem dX3_rowsOfWords_11 : decode cX3_rowsOfWords 11 = .ok (.iload_n 0, 1) := by decide +kernel
theorem dX3_rowsOfWords_12 : decode cX3_rowsOfWords 12 = .ok (.iload_n 3, 1) := by decide +kernel
theorem dX3_rowsOfWords_13 : decode cX3_rowsOfWords 13 = .ok (.isub, 1) := by decide +kernel
theorem dX3_rowsOfWords_14 : decode cX3_rowsOfWords 14 = .ok (.invokestatic 322, 3) := by decide +kernel
theorem dX3_rowsOfWords_17 : decode cX3_rowsOfWords 17 = .ok (.imul, 1) := by decide +kernel
theorem dX3_rowsOfWords_18 : decode cX3_rowsOfWords 18 = .ok (.istore_n 2, 1) := by decide +kernel
theorem dX3_rowsOfWords_19 : decode cX3_rowsOfWords 19 = .ok (.iinc 3 1, 3) := by decide +kernel
theorem dX3_rowsOfWords_22 : decode cX3_rowsOfWords 22 = .ok (.goto (-18), 3) := by decide +kernel
theorem dX3_rowsOfWords_25 : decode cX3_rowsOfWords 25 = .ok (.iload_n 2, 1) := by decide +kernel
theorem dX3_rowsOfWords_26 : decode cX3_rowsOfWords 26 = .ok (.ireturn, 1) := by decide +kernel
theorem dX3_bestQuestion_0 : decode cX3_bestQuestion 0 = .ok (.iconst (-1), 1) := by decide +kernel
theorem dX3_bestQuestion_1 : decode cX3_bestQuestion 1 = .ok (.istore_n 2, 1) := by decide +kernel
theorem dX3_bestQuestion_2 : decode cX3_bestQuestion 2 = .ok (.bipush 7, 2) := by decide +kernel
theorem dX3_bestQuestion_4 : decode cX3_bestQuestion 4 = .ok (.istore_n 3, 1) := by decide +kernel
theorem dX3_bestQuestion_5 : decode cX3_bestQuestion 5 = .ok (.iconst 3, 1) := by decide +kernel
theorem dX3_bestQuestion_6 : decode cX3_bestQuestion 6 = .ok (.istore 4, 2) := by decide +kernel
theorem dX3_bestQuestion_8 : decode cX3_bestQuestion 8 = .ok (.iload 4, 2) := by decide +kernel
theorem dX3_bestQuestion_10 : decode cX3_bestQuestion 10 = .ok (.bipush 6, 2) := by decide +kernel
theorem dX3_bestQuestion_12 : decode cX3_bestQuestion 12 = .ok (.if_icmp .gt 58, 3) := by decide +kernel
theorem dX3_bestQuestion_15 : decode cX3_bestQuestion 15 = .ok (.iload_n 1, 1) := by decide +kernel
theorem dX3_bestQuestion_16 : decode cX3_bestQuestion 16 = .ok (.ifCond .eq 54, 3) := by decide +kernel
theorem dX3_bestQuestion_19 : decode cX3_bestQuestion 19 = .ok (.iconst 0, 1) := by decide +kernel
theorem dX3_bestQuestion_20 : decode cX3_bestQuestion 20 = .ok (.istore 5, 2) := by decide +kernel
theorem dX3_bestQuestion_22 : decode cX3_bestQuestion 22 = .ok (.iload 5, 2) := by decide +kernel
theorem dX3_bestQuestion_24 : decode cX3_bestQuestion 24 = .ok (.bipush 6, 2) := by decide +kernel
theorem dX3_bestQuestion_26 : decode cX3_bestQuestion 26 = .ok (.if_icmp .ge 38, 3) := by decide +kernel
theorem dX3_bestQuestion_29 : decode cX3_bestQuestion 29 = .ok (.iload_n 0, 1) := by decide +kernel
theorem dX3_bestQuestion_30 : decode cX3_bestQuestion 30 = .ok (.iload_n 1, 1) := by decide +kernel
theorem dX3_bestQuestion_31 : decode cX3_bestQuestion 31 = .ok (.iload 4, 2) := by decide +kernel
theorem dX3_bestQuestion_33 : decode cX3_bestQuestion 33 = .ok (.iload 5, 2) := by decide +kernel
theorem dX3_bestQuestion_35 : decode cX3_bestQuestion 35 = .ok (.invokestatic 325, 3) := by decide +kernel
theorem dX3_bestQuestion_38 : decode cX3_bestQuestion 38 = .ok (.istore 6, 2) := by decide +kernel
theorem dX3_bestQuestion_40 : decode cX3_bestQuestion 40 = .ok (.iload 6, 2) := by decide +kernel
theorem dX3_bestQuestion_42 : decode cX3_bestQuestion 42 = .ok (.iload_n 3, 1) := by decide +kernel
theorem dX3_bestQuestion_43 : decode cX3_bestQuestion 43 = .ok (.if_icmp .ge 15, 3) := by decide +kernel
theorem dX3_bestQuestion_46 : decode cX3_bestQuestion 46 = .ok (.iload 6, 2) := by decide +kernel
theorem dX3_bestQuestion_48 : decode cX3_bestQuestion 48 = .ok (.istore_n 3, 1) := by decide +kernel
theorem dX3_bestQuestion_49 : decode cX3_bestQuestion 49 = .ok (.bipush 10, 2) := by decide +kernel
theorem dX3_bestQuestion_51 : decode cX3_bestQuestion 51 = .ok (.iload 4, 2) := by decide +kernel
theorem dX3_bestQuestion_53 : decode cX3_bestQuestion 53 = .ok (.imul, 1) := by decide +kernel
theorem dX3_bestQuestion_54 : decode cX3_bestQuestion 54 = .ok (.iload 5, 2) := by decide +kernel
theorem dX3_bestQuestion_56 : decode cX3_bestQuestion 56 = .ok (.iadd, 1) := by decide +kernel
theorem dX3_bestQuestion_57 : decode cX3_bestQuestion 57 = .ok (.istore_n 2, 1) := by decide +kernel
theorem dX3_bestQuestion_58 : decode cX3_bestQuestion 58 = .ok (.iinc 5 1, 3) := by decide +kernel
theorem dX3_bestQuestion_61 : decode cX3_bestQuestion 61 = .ok (.goto (-39), 3) := by decide +kernel
theorem dX3_bestQuestion_64 : decode cX3_bestQuestion 64 = .ok (.iinc 4 1, 3) := by decide +kernel
theorem dX3_bestQuestion_67 : decode cX3_bestQuestion 67 = .ok (.goto (-59), 3) := by decide +kernel
theorem dX3_bestQuestion_70 : decode cX3_bestQuestion 70 = .ok (.iload_n 2, 1) := by decide +kernel
theorem dX3_bestQuestion_71 : decode cX3_bestQuestion 71 = .ok (.ireturn, 1) := by decide +kernel
theorem dX3_mostAlike_0 : decode cX3_mostAlike 0 = .ok (.iconst 0, 1) := by decide +kernel
theorem dX3_mostAlike_1 : decode cX3_mostAlike 1 = .ok (.istore 4, 2) := by decide +kernel
theorem dX3_mostAlike_3 : decode cX3_mostAlike 3 = .ok (.iconst 0, 1) := by decide +kernel
theorem dX3_mostAlike_4 : decode cX3_mostAlike 4 = .ok (.istore 5, 2) := by decide +kernel
theorem dX3_mostAlike_6 : decode cX3_mostAlike 6 = .ok (.iload 5, 2) := by decide +kernel
theorem dX3_mostAlike_8 : decode cX3_mostAlike 8 = .ok (.bipush 6, 2) := by decide +kernel
theorem dX3_mostAlike_10 : decode cX3_mostAlike 10 = .ok (.if_icmp .ge 101, 3) := by decide +kernel
theorem dX3_mostAlike_13 : decode cX3_mostAlike 13 = .ok (.iload_n 1, 1) := by decide +kernel
theorem dX3_mostAlike_14 : decode cX3_mostAlike 14 = .ok (.iload 5, 2) := by decide +kernel
theorem dX3_mostAlike_16 : decode cX3_mostAlike 16 = .ok (.invokestatic 329, 3) := by decide +kernel
theorem dX3_mostAlike_19 : decode cX3_mostAlike 19 = .ok (.ifCond .eq 86, 3) := by decide +kernel
theorem dX3_mostAlike_22 : decode cX3_mostAlike 22 = .ok (.iload_n 0, 1) := by decide +kernel
theorem dX3_mostAlike_23 : decode cX3_mostAlike 23 = .ok (.iload 5, 2) := by decide +kernel
theorem dX3_mostAlike_25 : decode cX3_mostAlike 25 = .ok (.iload_n 2, 1) := by decide +kernel
theorem dX3_mostAlike_26 : decode cX3_mostAlike 26 = .ok (.iload_n 3, 1) := by decide +kernel
theorem dX3_mostAlike_27 : decode cX3_mostAlike 27 = .ok (.invokestatic 332, 3) := by decide +kernel
theorem dX3_mostAlike_30 : decode cX3_mostAlike 30 = .ok (.istore 6, 2) := by decide +kernel
theorem dX3_mostAlike_32 : decode cX3_mostAlike 32 = .ok (.iconst 0, 1) := by decide +kernel
theorem dX3_mostAlike_33 : decode cX3_mostAlike 33 = .ok (.istore 7, 2) := by decide +kernel
theorem dX3_mostAlike_35 : decode cX3_mostAlike 35 = .ok (.iload 5, 2) := by decide +kernel
theorem dX3_mostAlike_37 : decode cX3_mostAlike 37 = .ok (.istore 8, 2) := by decide +kernel
theorem dX3_mostAlike_39 : decode cX3_mostAlike 39 = .ok (.iload 8, 2) := by decide +kernel
theorem dX3_mostAlike_41 : decode cX3_mostAlike 41 = .ok (.bipush 6, 2) := by decide +kernel
theorem dX3_mostAlike_43 : decode cX3_mostAlike 43 = .ok (.if_icmp .ge 53, 3) := by decide +kernel
theorem dX3_mostAlike_46 : decode cX3_mostAlike 46 = .ok (.iload_n 1, 1) := by decide +kernel
theorem dX3_mostAlike_47 : decode cX3_mostAlike 47 = .ok (.iload 8, 2) := by decide +kernel
theorem dX3_mostAlike_49 : decode cX3_mostAlike 49 = .ok (.invokestatic 329, 3) := by decide +kernel
theorem dX3_mostAlike_52 : decode cX3_mostAlike 52 = .ok (.ifCond .eq 20, 3) := by decide +kernel
theorem dX3_mostAlike_55 : decode cX3_mostAlike 55 = .ok (.iload_n 0, 1) := by decide +kernel
theorem dX3_mostAlike_56 : decode cX3_mostAlike 56 = .ok (.iload 8, 2) := by decide +kernel
theorem dX3_mostAlike_58 : decode cX3_mostAlike 58 = .ok (.iload_n 2, 1) := by decide +kernel
theorem dX3_mostAlike_59 : decode cX3_mostAlike 59 = .ok (.iload_n 3, 1) := by decide +kernel
theorem dX3_mostAlike_60 : decode cX3_mostAlike 60 = .ok (.invokestatic 332, 3) := by decide +kernel
theorem dX3_mostAlike_63 : decode cX3_mostAlike 63 = .ok (.iload 6, 2) := by decide +kernel
theorem dX3_mostAlike_65 : decode cX3_mostAlike 65 = .ok (.if_icmp .ne 7, 3) := by decide +kernel
theorem dX3_mostAlike_68 : decode cX3_mostAlike 68 = .ok (.iconst 1, 1) := by decide +kernel
theorem dX3_mostAlike_69 : decode cX3_mostAlike 69 = .ok (.goto 4, 3) := by decide +kernel
theorem dX3_mostAlike_72 : decode cX3_mostAlike 72 = .ok (.iconst 0, 1) := by decide +kernel
theorem dX3_mostAlike_73 : decode cX3_mostAlike 73 = .ok (.istore 9, 2) := by decide +kernel
theorem dX3_mostAlike_75 : decode cX3_mostAlike 75 = .ok (.iload 7, 2) := by decide +kernel
theorem dX3_mostAlike_77 : decode cX3_mostAlike 77 = .ok (.iload 9, 2) := by decide +kernel
theorem dX3_mostAlike_79 : decode cX3_mostAlike 79 = .ok (.ifCond .eq 7, 3) := by decide +kernel
theorem dX3_mostAlike_82 : decode cX3_mostAlike 82 = .ok (.iconst 1, 1) := by decide +kernel
theorem dX3_mostAlike_83 : decode cX3_mostAlike 83 = .ok (.goto 4, 3) := by decide +kernel
theorem dX3_mostAlike_86 : decode cX3_mostAlike 86 = .ok (.iconst 0, 1) := by decide +kernel
theorem dX3_mostAlike_87 : decode cX3_mostAlike 87 = .ok (.iadd, 1) := by decide +kernel
theorem dX3_mostAlike_88 : decode cX3_mostAlike 88 = .ok (.istore 7, 2) := by decide +kernel
theorem dX3_mostAlike_90 : decode cX3_mostAlike 90 = .ok (.iinc 8 1, 3) := by decide +kernel
theorem dX3_mostAlike_93 : decode cX3_mostAlike 93 = .ok (.goto (-54), 3) := by decide +kernel
theorem dX3_mostAlike_96 : decode cX3_mostAlike 96 = .ok (.iload 4, 2) := by decide +kernel
theorem dX3_mostAlike_98 : decode cX3_mostAlike 98 = .ok (.iload 7, 2) := by decide +kernel
theorem dX3_mostAlike_100 : decode cX3_mostAlike 100 = .ok (.invokestatic 322, 3) := by decide +kernel
theorem dX3_mostAlike_103 : decode cX3_mostAlike 103 = .ok (.istore 4, 2) := by decide +kernel
theorem dX3_mostAlike_105 : decode cX3_mostAlike 105 = .ok (.iinc 5 1, 3) := by decide +kernel
theorem dX3_mostAlike_108 : decode cX3_mostAlike 108 = .ok (.goto (-102), 3) := by decide +kernel
theorem dX3_mostAlike_111 : decode cX3_mostAlike 111 = .ok (.iload 4, 2) := by decide +kernel
theorem dX3_mostAlike_113 : decode cX3_mostAlike 113 = .ok (.ireturn, 1) := by decide +kernel
theorem dX3_saidBy_0 : decode cX3_saidBy 0 = .ok (.iload_n 0, 1) := by decide +kernel
theorem dX3_saidBy_1 : decode cX3_saidBy 1 = .ok (.ifCond .eq 12, 3) := by decide +kernel
theorem dX3_saidBy_4 : decode cX3_saidBy 4 = .ok (.iload_n 1, 1) := by decide +kernel
theorem dX3_saidBy_5 : decode cX3_saidBy 5 = .ok (.iload_n 2, 1) := by decide +kernel
theorem dX3_saidBy_6 : decode cX3_saidBy 6 = .ok (.iload_n 3, 1) := by decide +kernel
theorem dX3_saidBy_7 : decode cX3_saidBy 7 = .ok (.invokestatic 335, 3) := by decide +kernel
theorem dX3_saidBy_10 : decode cX3_saidBy 10 = .ok (.goto 9, 3) := by decide +kernel
theorem dX3_saidBy_13 : decode cX3_saidBy 13 = .ok (.iload_n 1, 1) := by decide +kernel
theorem dX3_saidBy_14 : decode cX3_saidBy 14 = .ok (.iload_n 2, 1) := by decide +kernel
theorem dX3_saidBy_15 : decode cX3_saidBy 15 = .ok (.iload_n 3, 1) := by decide +kernel
theorem dX3_saidBy_16 : decode cX3_saidBy 16 = .ok (.invokestatic 338, 3) := by decide +kernel
theorem dX3_saidBy_19 : decode cX3_saidBy 19 = .ok (.ireturn, 1) := by decide +kernel
theorem dX3_placeOf_0 : decode cX3_placeOf 0 = .ok (.iload_n 1, 1) := by decide +kernel
theorem dX3_placeOf_1 : decode cX3_placeOf 1 = .ok (.iconst 1, 1) := by decide +kernel
theorem dX3_placeOf_2 : decode cX3_placeOf 2 = .ok (.isub, 1) := by decide +kernel
theorem dX3_placeOf_3 : decode cX3_placeOf 3 = .ok (.istore_n 3, 1) := by decide +kernel
theorem dX3_placeOf_4 : decode cX3_placeOf 4 = .ok (.iload_n 1, 1) := by decide +kernel
theorem dX3_placeOf_5 : decode cX3_placeOf 5 = .ok (.ifCond .le 9, 3) := by decide +kernel
theorem dX3_placeOf_8 : decode cX3_placeOf 8 = .ok (.iload_n 2, 1) := by decide +kernel
theorem dX3_placeOf_9 : decode cX3_placeOf 9 = .ok (.iload_n 1, 1) := by decide +kernel
theorem dX3_placeOf_10 : decode cX3_placeOf 10 = .ok (.irem, 1) := by decide +kernel
theorem dX3_placeOf_11 : decode cX3_placeOf 11 = .ok (.goto 4, 3) := by decide +kernel
theorem dX3_placeOf_14 : decode cX3_placeOf 14 = .ok (.iconst 0, 1) := by decide +kernel
theorem dX3_placeOf_15 : decode cX3_placeOf 15 = .ok (.istore 4, 2) := by decide +kernel
theorem dX3_placeOf_17 : decode cX3_placeOf 17 = .ok (.iload_n 0, 1) := by decide +kernel
theorem dX3_placeOf_18 : decode cX3_placeOf 18 = .ok (.tableswitch 61 1 5 #[34, 36, 40, 43, 48], 34) := by decide +kernel
theorem dX3_placeOf_52 : decode cX3_placeOf 52 = .ok (.iload_n 3, 1) := by decide +kernel
theorem dX3_placeOf_53 : decode cX3_placeOf 53 = .ok (.ireturn, 1) := by decide +kernel
theorem dX3_placeOf_54 : decode cX3_placeOf 54 = .ok (.iload_n 1, 1) := by decide +kernel
theorem dX3_placeOf_55 : decode cX3_placeOf 55 = .ok (.iconst 2, 1) := by decide +kernel
theorem dX3_placeOf_56 : decode cX3_placeOf 56 = .ok (.idiv, 1) := by decide +kernel
theorem dX3_placeOf_57 : decode cX3_placeOf 57 = .ok (.ireturn, 1) := by decide +kernel
theorem dX3_placeOf_58 : decode cX3_placeOf 58 = .ok (.iload 4, 2) := by decide +kernel
theorem dX3_placeOf_60 : decode cX3_placeOf 60 = .ok (.ireturn, 1) := by decide +kernel
theorem dX3_placeOf_61 : decode cX3_placeOf 61 = .ok (.iload_n 3, 1) := by decide +kernel
theorem dX3_placeOf_62 : decode cX3_placeOf 62 = .ok (.iload 4, 2) := by decide +kernel
theorem dX3_placeOf_64 : decode cX3_placeOf 64 = .ok (.isub, 1) := by decide +kernel
theorem dX3_placeOf_65 : decode cX3_placeOf 65 = .ok (.ireturn, 1) := by decide +kernel
theorem dX3_placeOf_66 : decode cX3_placeOf 66 = .ok (.iload_n 2, 1) := by decide +kernel
theorem dX3_placeOf_67 : decode cX3_placeOf 67 = .ok (.iconst 1, 1) := by decide +kernel
theorem dX3_placeOf_68 : decode cX3_placeOf 68 = .ok (.iand, 1) := by decide +kernel
theorem dX3_placeOf_69 : decode cX3_placeOf 69 = .ok (.iconst 1, 1) := by decide +kernel
theorem dX3_placeOf_70 : decode cX3_placeOf 70 = .ok (.if_icmp .ne 7, 3) := by decide +kernel
theorem dX3_placeOf_73 : decode cX3_placeOf 73 = .ok (.iload_n 3, 1) := by decide +kernel
theorem dX3_placeOf_74 : decode cX3_placeOf 74 = .ok (.goto 4, 3) := by decide +kernel
theorem dX3_placeOf_77 : decode cX3_placeOf 77 = .ok (.iconst 0, 1) := by decide +kernel
theorem dX3_placeOf_78 : decode cX3_placeOf 78 = .ok (.ireturn, 1) := by decide +kernel
theorem dX3_placeOf_79 : decode cX3_placeOf 79 = .ok (.iconst 0, 1) := by decide +kernel
theorem dX3_placeOf_80 : decode cX3_placeOf 80 = .ok (.ireturn, 1) := by decide +kernel
theorem dX3_costOf_0 : decode cX3_costOf 0 = .ok (.iload_n 1, 1) := by decide +kernel
theorem dX3_costOf_1 : decode cX3_costOf 1 = .ok (.istore_n 3, 1) := by decide +kernel
theorem dX3_costOf_2 : decode cX3_costOf 2 = .ok (.iload_n 3, 1) := by decide +kernel
theorem dX3_costOf_3 : decode cX3_costOf 3 = .ok (.iconst 3, 1) := by decide +kernel
theorem dX3_costOf_4 : decode cX3_costOf 4 = .ok (.iadd, 1) := by decide +kernel
theorem dX3_costOf_5 : decode cX3_costOf 5 = .ok (.istore 4, 2) := by decide +kernel
theorem dX3_costOf_7 : decode cX3_costOf 7 = .ok (.iload_n 3, 1) := by decide +kernel
theorem dX3_costOf_8 : decode cX3_costOf 8 = .ok (.iconst 1, 1) := by decide +kernel
theorem dX3_costOf_9 : decode cX3_costOf 9 = .ok (.iadd, 1) := by decide +kernel
theorem dX3_costOf_10 : decode cX3_costOf 10 = .ok (.iconst 2, 1) := by decide +kernel
theorem dX3_costOf_11 : decode cX3_costOf 11 = .ok (.idiv, 1) := by decide +kernel
theorem dX3_costOf_12 : decode cX3_costOf 12 = .ok (.istore 5, 2) := by decide +kernel
theorem dX3_costOf_14 : decode cX3_costOf 14 = .ok (.iload_n 0, 1) := by decide +kernel
theorem dX3_costOf_15 : decode cX3_costOf 15 = .ok (.tableswitch 69 1 5 #[33, 36, 39, 43, 54], 33) := by decide +kernel
theorem dX3_costOf_48 : decode cX3_costOf 48 = .ok (.iload 4, 2) := by decide +kernel
theorem dX3_costOf_50 : decode cX3_costOf 50 = .ok (.ireturn, 1) := by decide +kernel
theorem dX3_costOf_51 : decode cX3_costOf 51 = .ok (.iload 5, 2) := by decide +kernel
theorem dX3_costOf_53 : decode cX3_costOf 53 = .ok (.ireturn, 1) := by decide +kernel
theorem dX3_costOf_54 : decode cX3_costOf 54 = .ok (.iload_n 3, 1) := by decide +kernel
theorem dX3_costOf_55 : decode cX3_costOf 55 = .ok (.iload_n 2, 1) := by decide +kernel
theorem dX3_costOf_56 : decode cX3_costOf 56 = .ok (.iadd, 1) := by decide +kernel
theorem dX3_costOf_57 : decode cX3_costOf 57 = .ok (.ireturn, 1) := by decide +kernel
theorem dX3_costOf_58 : decode cX3_costOf 58 = .ok (.iload_n 2, 1) := by decide +kernel
theorem dX3_costOf_59 : decode cX3_costOf 59 = .ok (.ifCond .ne 7, 3) := by decide +kernel
theorem dX3_costOf_62 : decode cX3_costOf 62 = .ok (.iconst 0, 1) := by decide +kernel
theorem dX3_costOf_63 : decode cX3_costOf 63 = .ok (.goto 5, 3) := by decide +kernel
theorem dX3_costOf_66 : decode cX3_costOf 66 = .ok (.iload 4, 2) := by decide +kernel
theorem dX3_costOf_68 : decode cX3_costOf 68 = .ok (.ireturn, 1) := by decide +kernel
theorem dX3_costOf_69 : decode cX3_costOf 69 = .ok (.iload_n 2, 1) := by decide +kernel
theorem dX3_costOf_70 : decode cX3_costOf 70 = .ok (.iconst 3, 1) := by decide +kernel
theorem dX3_costOf_71 : decode cX3_costOf 71 = .ok (.if_icmp .lt 10, 3) := by decide +kernel
theorem dX3_costOf_74 : decode cX3_costOf 74 = .ok (.iload 5, 2) := by decide +kernel
theorem dX3_costOf_76 : decode cX3_costOf 76 = .ok (.iconst 2, 1) := by decide +kernel
theorem dX3_costOf_77 : decode cX3_costOf 77 = .ok (.iadd, 1) := by decide +kernel
theorem dX3_costOf_78 : decode cX3_costOf 78 = .ok (.goto 5, 3) := by decide +kernel
theorem dX3_costOf_81 : decode cX3_costOf 81 = .ok (.iload 5, 2) := by decide +kernel
theorem dX3_costOf_83 : decode cX3_costOf 83 = .ok (.ireturn, 1) := by decide +kernel
theorem dX3_costOf_84 : decode cX3_costOf 84 = .ok (.iload_n 3, 1) := by decide +kernel
theorem dX3_costOf_85 : decode cX3_costOf 85 = .ok (.ireturn, 1) := by decide +kernel
theorem dX3_letterOf_0 : decode cX3_letterOf 0 = .ok (.iload_n 0, 1) := by decide +kernel
theorem dX3_letterOf_1 : decode cX3_letterOf 1 = .ok (.istore_n 3, 1) := by decide +kernel
theorem dX3_letterOf_2 : decode cX3_letterOf 2 = .ok (.iload_n 1, 1) := by decide +kernel
theorem dX3_letterOf_3 : decode cX3_letterOf 3 = .ok (.iconst 1, 1) := by decide +kernel
theorem dX3_letterOf_4 : decode cX3_letterOf 4 = .ok (.isub, 1) := by decide +kernel
theorem dX3_letterOf_5 : decode cX3_letterOf 5 = .ok (.istore 4, 2) := by decide +kernel
theorem dX3_letterOf_7 : decode cX3_letterOf 7 = .ok (.iload 4, 2) := by decide +kernel
theorem dX3_letterOf_9 : decode cX3_letterOf 9 = .ok (.iload_n 2, 1) := by decide +kernel
theorem dX3_letterOf_10 : decode cX3_letterOf 10 = .ok (.if_icmp .le 14, 3) := by decide +kernel
theorem dX3_letterOf_13 : decode cX3_letterOf 13 = .ok (.iload_n 3, 1) := by decide +kernel
theorem dX3_letterOf_14 : decode cX3_letterOf 14 = .ok (.bipush 10, 2) := by decide +kernel
theorem dX3_letterOf_16 : decode cX3_letterOf 16 = .ok (.idiv, 1) := by decide +kernel
theorem dX3_letterOf_17 : decode cX3_letterOf 17 = .ok (.istore_n 3, 1) := by decide +kernel
theorem dX3_letterOf_18 : decode cX3_letterOf 18 = .ok (.iinc 4 (-1), 3) := by decide +kernel
theorem dX3_letterOf_21 : decode cX3_letterOf 21 = .ok (.goto (-14), 3) := by decide +kernel
theorem dX3_letterOf_24 : decode cX3_letterOf 24 = .ok (.iload_n 3, 1) := by decide +kernel
theorem dX3_letterOf_25 : decode cX3_letterOf 25 = .ok (.bipush 10, 2) := by decide +kernel
theorem dX3_letterOf_27 : decode cX3_letterOf 27 = .ok (.irem, 1) := by decide +kernel
theorem dX3_letterOf_28 : decode cX3_letterOf 28 = .ok (.ireturn, 1) := by decide +kernel
theorem dX3_isKind_0 : decode cX3_isKind 0 = .ok (.iload_n 0, 1) := by decide +kernel
theorem dX3_isKind_1 : decode cX3_isKind 1 = .ok (.iconst 0, 1) := by decide +kernel
theorem dX3_isKind_2 : decode cX3_isKind 2 = .ok (.iconst 5, 1) := by decide +kernel
theorem dX3_isKind_3 : decode cX3_isKind 3 = .ok (.invokestatic 50, 3) := by decide +kernel
theorem dX3_isKind_6 : decode cX3_isKind 6 = .ok (.ireturn, 1) := by decide +kernel
theorem dX3_isLength_0 : decode cX3_isLength 0 = .ok (.iload_n 0, 1) := by decide +kernel
theorem dX3_isLength_1 : decode cX3_isLength 1 = .ok (.iconst 3, 1) := by decide +kernel
theorem dX3_isLength_2 : decode cX3_isLength 2 = .ok (.bipush 6, 2) := by decide +kernel
theorem dX3_isLength_4 : decode cX3_isLength 4 = .ok (.invokestatic 50, 3) := by decide +kernel
theorem dX3_isLength_7 : decode cX3_isLength 7 = .ok (.ireturn, 1) := by decide +kernel
theorem dX3_isLineNumber_0 : decode cX3_isLineNumber 0 = .ok (.iload_n 0, 1) := by decide +kernel
theorem dX3_isLineNumber_1 : decode cX3_isLineNumber 1 = .ok (.iconst 0, 1) := by decide +kernel
theorem dX3_isLineNumber_2 : decode cX3_isLineNumber 2 = .ok (.iconst 5, 1) := by decide +kernel
theorem dX3_isLineNumber_3 : decode cX3_isLineNumber 3 = .ok (.invokestatic 50, 3) := by decide +kernel
theorem dX3_isLineNumber_6 : decode cX3_isLineNumber 6 = .ok (.ireturn, 1) := by decide +kernel
theorem dX3_isCode_0 : decode cX3_isCode 0 = .ok (.iload_n 1, 1) := by decide +kernel
theorem dX3_isCode_1 : decode cX3_isCode 1 = .ok (.ifCond .lt 18, 3) := by decide +kernel
theorem dX3_isCode_4 : decode cX3_isCode 4 = .ok (.iload_n 1, 1) := by decide +kernel
theorem dX3_isCode_5 : decode cX3_isCode 5 = .ok (.getstatic 341, 3) := by decide +kernel
theorem dX3_isCode_8 : decode cX3_isCode 8 = .ok (.iload_n 0, 1) := by decide +kernel
theorem dX3_isCode_9 : decode cX3_isCode 9 = .ok (.invokestatic 302, 3) := by decide +kernel
theorem dX3_isCode_12 : decode cX3_isCode 12 = .ok (.if_icmp .ge 7, 3) := by decide +kernel
theorem dX3_isCode_15 : decode cX3_isCode 15 = .ok (.iconst 1, 1) := by decide +kernel
theorem dX3_isCode_16 : decode cX3_isCode 16 = .ok (.goto 4, 3) := by decide +kernel
theorem dX3_isCode_19 : decode cX3_isCode 19 = .ok (.iconst 0, 1) := by decide +kernel
theorem dX3_isCode_20 : decode cX3_isCode 20 = .ok (.ireturn, 1) := by decide +kernel
theorem dX3_within_0 : decode cX3_within 0 = .ok (.iload_n 0, 1) := by decide +kernel
theorem dX3_within_1 : decode cX3_within 1 = .ok (.iload_n 1, 1) := by decide +kernel
theorem dX3_within_2 : decode cX3_within 2 = .ok (.if_icmp .lt 12, 3) := by decide +kernel
theorem dX3_within_5 : decode cX3_within 5 = .ok (.iload_n 0, 1) := by decide +kernel
theorem dX3_within_6 : decode cX3_within 6 = .ok (.iload_n 2, 1) := by decide +kernel
theorem dX3_within_7 : decode cX3_within 7 = .ok (.if_icmp .gt 7, 3) := by decide +kernel
theorem dX3_within_10 : decode cX3_within 10 = .ok (.iconst 1, 1) := by decide +kernel
theorem dX3_within_11 : decode cX3_within 11 = .ok (.goto 4, 3) := by decide +kernel
theorem dX3_within_14 : decode cX3_within 14 = .ok (.iconst 0, 1) := by decide +kernel
theorem dX3_within_15 : decode cX3_within 15 = .ok (.ireturn, 1) := by decide +kernel
theorem dX3_hasBit_0 : decode cX3_hasBit 0 = .ok (.iload_n 0, 1) := by decide +kernel
theorem dX3_hasBit_1 : decode cX3_hasBit 1 = .ok (.iload_n 1, 1) := by decide +kernel
theorem dX3_hasBit_2 : decode cX3_hasBit 2 = .ok (.ishr, 1) := by decide +kernel
theorem dX3_hasBit_3 : decode cX3_hasBit 3 = .ok (.iconst 1, 1) := by decide +kernel
theorem dX3_hasBit_4 : decode cX3_hasBit 4 = .ok (.iand, 1) := by decide +kernel
theorem dX3_hasBit_5 : decode cX3_hasBit 5 = .ok (.iconst 1, 1) := by decide +kernel
theorem dX3_hasBit_6 : decode cX3_hasBit 6 = .ok (.if_icmp .ne 7, 3) := by decide +kernel
theorem dX3_hasBit_9 : decode cX3_hasBit 9 = .ok (.iconst 1, 1) := by decide +kernel
theorem dX3_hasBit_10 : decode cX3_hasBit 10 = .ok (.goto 4, 3) := by decide +kernel
theorem dX3_hasBit_13 : decode cX3_hasBit 13 = .ok (.iconst 0, 1) := by decide +kernel
theorem dX3_hasBit_14 : decode cX3_hasBit 14 = .ok (.ireturn, 1) := by decide +kernel
theorem dX3_at_0 : decode cX3_at 0 = .ok (.iload_n 1, 1) := by decide +kernel
theorem dX3_at_1 : decode cX3_at 1 = .ok (.ifCond .lt 15, 3) := by decide +kernel
theorem dX3_at_4 : decode cX3_at 4 = .ok (.iload_n 1, 1) := by decide +kernel
theorem dX3_at_5 : decode cX3_at 5 = .ok (.aload_n 0, 1) := by decide +kernel
theorem dX3_at_6 : decode cX3_at 6 = .ok (.arraylength, 1) := by decide +kernel
theorem dX3_at_7 : decode cX3_at 7 = .ok (.if_icmp .ge 9, 3) := by decide +kernel
theorem dX3_at_10 : decode cX3_at 10 = .ok (.aload_n 0, 1) := by decide +kernel
theorem dX3_at_11 : decode cX3_at 11 = .ok (.iload_n 1, 1) := by decide +kernel
theorem dX3_at_12 : decode cX3_at 12 = .ok (.iaload, 1) := by decide +kernel
theorem dX3_at_13 : decode cX3_at 13 = .ok (.goto 4, 3) := by decide +kernel
theorem dX3_at_16 : decode cX3_at 16 = .ok (.iconst 0, 1) := by decide +kernel
theorem dX3_at_17 : decode cX3_at 17 = .ok (.ireturn, 1) := by decide +kernel
theorem dX3_set_0 : decode cX3_set 0 = .ok (.iload_n 1, 1) := by decide +kernel
theorem dX3_set_1 : decode cX3_set 1 = .ok (.ifCond .lt 13, 3) := by decide +kernel
theorem dX3_set_4 : decode cX3_set 4 = .ok (.iload_n 1, 1) := by decide +kernel
theorem dX3_set_5 : decode cX3_set 5 = .ok (.aload_n 0, 1) := by decide +kernel
theorem dX3_set_6 : decode cX3_set 6 = .ok (.arraylength, 1) := by decide +kernel
theorem dX3_set_7 : decode cX3_set 7 = .ok (.if_icmp .ge 7, 3) := by decide +kernel
theorem dX3_set_10 : decode cX3_set 10 = .ok (.aload_n 0, 1) := by decide +kernel
theorem dX3_set_11 : decode cX3_set 11 = .ok (.iload_n 1, 1) := by decide +kernel
theorem dX3_set_12 : decode cX3_set 12 = .ok (.iload_n 2, 1) := by decide +kernel
theorem dX3_set_13 : decode cX3_set 13 = .ok (.iastore, 1) := by decide +kernel
theorem dX3_set_14 : decode cX3_set 14 = .ok (.return_, 1) := by decide +kernel
theorem dX3_copyRow_0 : decode cX3_copyRow 0 = .ok (.aload_n 0, 1) := by decide +kernel
theorem dX3_copyRow_1 : decode cX3_copyRow 1 = .ok (.iconst 0, 1) := by decide +kernel
theorem dX3_copyRow_2 : decode cX3_copyRow 2 = .ok (.aload_n 1, 1) := by decide +kernel
theorem dX3_copyRow_3 : decode cX3_copyRow 3 = .ok (.iconst 0, 1) := by decide +kernel
theorem dX3_copyRow_4 : decode cX3_copyRow 4 = .ok (.aload_n 0, 1) := by decide +kernel
theorem dX3_copyRow_5 : decode cX3_copyRow 5 = .ok (.arraylength, 1) := by decide +kernel
theorem dX3_copyRow_6 : decode cX3_copyRow 6 = .ok (.aload_n 1, 1) := by decide +kernel
theorem dX3_copyRow_7 : decode cX3_copyRow 7 = .ok (.arraylength, 1) := by decide +kernel
theorem dX3_copyRow_8 : decode cX3_copyRow 8 = .ok (.invokestatic 189, 3) := by decide +kernel
theorem dX3_copyRow_11 : decode cX3_copyRow 11 = .ok (.invokestatic 344, 3) := by decide +kernel
theorem dX3_copyRow_14 : decode cX3_copyRow 14 = .ok (.return_, 1) := by decide +kernel
theorem dX4_init_0 : decode cX4_init 0 = .ok (.aload_n 0, 1) := by decide +kernel
theorem dX4_init_1 : decode cX4_init 1 = .ok (.invokespecial 1, 3) := by decide +kernel
theorem dX4_init_4 : decode cX4_init 4 = .ok (.aload_n 0, 1) := by decide +kernel
theorem dX4_init_5 : decode cX4_init 5 = .ok (.bipush 127, 2) := by decide +kernel
theorem dX4_init_7 : decode cX4_init 7 = .ok (.newarray .int, 2) := by decide +kernel
theorem dX4_init_9 : decode cX4_init 9 = .ok (.putfield 7, 3) := by decide +kernel
theorem dX4_init_12 : decode cX4_init 12 = .ok (.aload_n 0, 1) := by decide +kernel
theorem dX4_init_13 : decode cX4_init 13 = .ok (.bipush 127, 2) := by decide +kernel
theorem dX4_init_15 : decode cX4_init 15 = .ok (.newarray .int, 2) := by decide +kernel
theorem dX4_init_17 : decode cX4_init 17 = .ok (.putfield 13, 3) := by decide +kernel
theorem dX4_init_20 : decode cX4_init 20 = .ok (.aload_n 0, 1) := by decide +kernel
theorem dX4_init_21 : decode cX4_init 21 = .ok (.sipush 254, 3) := by decide +kernel
theorem dX4_init_24 : decode cX4_init 24 = .ok (.newarray .int, 2) := by decide +kernel
theorem dX4_init_26 : decode cX4_init 26 = .ok (.putfield 16, 3) := by decide +kernel
theorem dX4_init_29 : decode cX4_init 29 = .ok (.aload_n 0, 1) := by decide +kernel
theorem dX4_init_30 : decode cX4_init 30 = .ok (.iconst 2, 1) := by decide +kernel
theorem dX4_init_31 : decode cX4_init 31 = .ok (.newarray .boolean, 2) := by decide +kernel
theorem dX4_init_33 : decode cX4_init 33 = .ok (.putfield 19, 3) := by decide +kernel
theorem dX4_init_36 : decode cX4_init 36 = .ok (.aload_n 0, 1) := by decide +kernel
theorem dX4_init_37 : decode cX4_init 37 = .ok (.iconst 3, 1) := by decide +kernel
theorem dX4_init_38 : decode cX4_init 38 = .ok (.newarray .int, 2) := by decide +kernel
theorem dX4_init_40 : decode cX4_init 40 = .ok (.putfield 23, 3) := by decide +kernel
theorem dX4_init_43 : decode cX4_init 43 = .ok (.aload_n 0, 1) := by decide +kernel
theorem dX4_init_44 : decode cX4_init 44 = .ok (.lconst 1, 1) := by decide +kernel
theorem dX4_init_45 : decode cX4_init 45 = .ok (.putfield 26, 3) := by decide +kernel
theorem dX4_init_48 : decode cX4_init 48 = .ok (.aload_n 0, 1) := by decide +kernel
theorem dX4_init_49 : decode cX4_init 49 = .ok (.sipush 150, 3) := by decide +kernel
theorem dX4_init_52 : decode cX4_init 52 = .ok (.newarray .int, 2) := by decide +kernel
theorem dX4_init_54 : decode cX4_init 54 = .ok (.putfield 30, 3) := by decide +kernel
theorem dX4_init_57 : decode cX4_init 57 = .ok (.aload_n 0, 1) := by decide +kernel
theorem dX4_init_58 : decode cX4_init 58 = .ok (.sipush 1792, 3) := by decide +kernel
theorem dX4_init_61 : decode cX4_init 61 = .ok (.newarray .int, 2) := by decide +kernel
theorem dX4_init_63 : decode cX4_init 63 = .ok (.putfield 33, 3) := by decide +kernel
theorem dX4_init_66 : decode cX4_init 66 = .ok (.aload_n 0, 1) := by decide +kernel
theorem dX4_init_67 : decode cX4_init 67 = .ok (.sipush 1792, 3) := by decide +kernel
theorem dX4_init_70 : decode cX4_init 70 = .ok (.newarray .int, 2) := by decide +kernel
theorem dX4_init_72 : decode cX4_init 72 = .ok (.putfield 36, 3) := by decide +kernel
theorem dX4_init_75 : decode cX4_init 75 = .ok (.aload_n 0, 1) := by decide +kernel
theorem dX4_init_76 : decode cX4_init 76 = .ok (.sipush 1000, 3) := by decide +kernel
theorem dX4_init_79 : decode cX4_init 79 = .ok (.newarray .boolean, 2) := by decide +kernel
theorem dX4_init_81 : decode cX4_init 81 = .ok (.putfield 39, 3) := by decide +kernel
theorem dX4_init_84 : decode cX4_init 84 = .ok (.aload_n 0, 1) := by decide +kernel
theorem dX4_init_85 : decode cX4_init 85 = .ok (.bipush 6, 2) := by decide +kernel
theorem dX4_init_87 : decode cX4_init 87 = .ok (.newarray .int, 2) := by decide +kernel
theorem dX4_init_89 : decode cX4_init 89 = .ok (.putfield 42, 3) := by decide +kernel
theorem dX4_init_92 : decode cX4_init 92 = .ok (.aload_n 0, 1) := by decide +kernel
theorem dX4_init_93 : decode cX4_init 93 = .ok (.getfield 7, 3) := by decide +kernel
theorem dX4_init_96 : decode cX4_init 96 = .ok (.invokestatic 45, 3) := by decide +kernel
theorem dX4_init_99 : decode cX4_init 99 = .ok (.aload_n 0, 1) := by decide +kernel
theorem dX4_init_100 : decode cX4_init 100 = .ok (.getfield 13, 3) := by decide +kernel
theorem dX4_init_103 : decode cX4_init 103 = .ok (.invokestatic 45, 3) := by decide +kernel
theorem dX4_init_106 : decode cX4_init 106 = .ok (.return_, 1) := by decide +kernel
theorem dX4_in_0 : decode cX4_in 0 = .ok (.iload_n 0, 1) := by decide +kernel
theorem dX4_in_1 : decode cX4_in 1 = .ok (.iload_n 1, 1) := by decide +kernel
theorem dX4_in_2 : decode cX4_in 2 = .ok (.if_icmp .lt 12, 3) := by decide +kernel
theorem dX4_in_5 : decode cX4_in 5 = .ok (.iload_n 0, 1) := by decide +kernel
theorem dX4_in_6 : decode cX4_in 6 = .ok (.iload_n 2, 1) := by decide +kernel
theorem dX4_in_7 : decode cX4_in 7 = .ok (.if_icmp .gt 7, 3) := by decide +kernel
theorem dX4_in_10 : decode cX4_in 10 = .ok (.iconst 1, 1) := by decide +kernel
theorem dX4_in_11 : decode cX4_in 11 = .ok (.goto 4, 3) := by decide +kernel
theorem dX4_in_14 : decode cX4_in 14 = .ok (.iconst 0, 1) := by decide +kernel
theorem dX4_in_15 : decode cX4_in 15 = .ok (.ireturn, 1) := by decide +kernel
theorem dX4_has_0 : decode cX4_has 0 = .ok (.iload_n 0, 1) := by decide +kernel
theorem dX4_has_1 : decode cX4_has 1 = .ok (.iload_n 1, 1) := by decide +kernel
theorem dX4_has_2 : decode cX4_has 2 = .ok (.ishr, 1) := by decide +kernel
theorem dX4_has_3 : decode cX4_has 3 = .ok (.iconst 1, 1) := by decide +kernel
theorem dX4_has_4 : decode cX4_has 4 = .ok (.iand, 1) := by decide +kernel
theorem dX4_has_5 : decode cX4_has 5 = .ok (.iconst 1, 1) := by decide +kernel
theorem dX4_has_6 : decode cX4_has 6 = .ok (.if_icmp .ne 7, 3) := by decide +kernel
theorem dX4_has_9 : decode cX4_has 9 = .ok (.iconst 1, 1) := by decide +kernel
theorem dX4_has_10 : decode cX4_has 10 = .ok (.goto 4, 3) := by decide +kernel
theorem dX4_has_13 : decode cX4_has 13 = .ok (.iconst 0, 1) := by decide +kernel
theorem dX4_has_14 : decode cX4_has 14 = .ok (.ireturn, 1) := by decide +kernel
theorem dX4_badBy_0 : decode cX4_badBy 0 = .ok (.aload_n 0, 1) := by decide +kernel
theorem dX4_badBy_1 : decode cX4_badBy 1 = .ok (.getfield 23, 3) := by decide +kernel
theorem dX4_badBy_4 : decode cX4_badBy 4 = .ok (.iconst 0, 1) := by decide +kernel
theorem dX4_badBy_5 : decode cX4_badBy 5 = .ok (.dup2, 1) := by decide +kernel
theorem dX4_badBy_6 : decode cX4_badBy 6 = .ok (.iaload, 1) := by decide +kernel
theorem dX4_badBy_7 : decode cX4_badBy 7 = .ok (.iconst 1, 1) := by decide +kernel
theorem dX4_badBy_8 : decode cX4_badBy 8 = .ok (.iadd, 1) := by decide +kernel
theorem dX4_badBy_9 : decode cX4_badBy 9 = .ok (.iastore, 1) := by decide +kernel
theorem dX4_badBy_10 : decode cX4_badBy 10 = .ok (.iload_n 1, 1) := by decide +kernel
theorem dX4_badBy_11 : decode cX4_badBy 11 = .ok (.ireturn, 1) := by decide +kernel
theorem dX4_bad_0 : decode cX4_bad 0 = .ok (.aload_n 0, 1) := by decide +kernel
theorem dX4_bad_1 : decode cX4_bad 1 = .ok (.bipush (-2), 2) := by decide +kernel
theorem dX4_bad_3 : decode cX4_bad 3 = .ok (.invokevirtual 49, 3) := by decide +kernel
theorem dX4_bad_6 : decode cX4_bad 6 = .ok (.ireturn, 1) := by decide +kernel
theorem dX4_no_0 : decode cX4_no 0 = .ok (.aload_n 0, 1) := by decide +kernel
theorem dX4_no_1 : decode cX4_no 1 = .ok (.getfield 23, 3) := by decide +kernel
theorem dX4_no_4 : decode cX4_no 4 = .ok (.iconst 1, 1) := by decide +kernel
theorem dX4_no_5 : decode cX4_no 5 = .ok (.dup2, 1) := by decide +kernel
theorem dX4_no_6 : decode cX4_no 6 = .ok (.iaload, 1) := by decide +kernel
theorem dX4_no_7 : decode cX4_no 7 = .ok (.iconst 1, 1) := by decide +kernel
theorem dX4_no_8 : decode cX4_no 8 = .ok (.iadd, 1) := by decide +kernel
theorem dX4_no_9 : decode cX4_no 9 = .ok (.iastore, 1) := by decide +kernel
theorem dX4_no_10 : decode cX4_no 10 = .ok (.bipush (-3), 2) := by decide +kernel
theorem dX4_no_12 : decode cX4_no 12 = .ok (.ireturn, 1) := by decide +kernel
theorem dX4_full_0 : decode cX4_full 0 = .ok (.aload_n 0, 1) := by decide +kernel
theorem dX4_full_1 : decode cX4_full 1 = .ok (.getfield 23, 3) := by decide +kernel
theorem dX4_full_4 : decode cX4_full 4 = .ok (.iconst 2, 1) := by decide +kernel
theorem dX4_full_5 : decode cX4_full 5 = .ok (.dup2, 1) := by decide +kernel
theorem dX4_full_6 : decode cX4_full 6 = .ok (.iaload, 1) := by decide +kernel
theorem dX4_full_7 : decode cX4_full 7 = .ok (.iconst 1, 1) := by decide +kernel
theorem dX4_full_8 : decode cX4_full 8 = .ok (.iadd, 1) := by decide +kernel
theorem dX4_full_9 : decode cX4_full 9 = .ok (.iastore, 1) := by decide +kernel
theorem dX4_full_10 : decode cX4_full 10 = .ok (.bipush (-4), 2) := by decide +kernel
theorem dX4_full_12 : decode cX4_full 12 = .ok (.ireturn, 1) := by decide +kernel
theorem dX4_bring_0 : decode cX4_bring 0 = .ok (.iconst 0, 1) := by decide +kernel
theorem dX4_bring_1 : decode cX4_bring 1 = .ok (.istore 5, 2) := by decide +kernel
theorem dX4_bring_3 : decode cX4_bring 3 = .ok (.iload 5, 2) := by decide +kernel
theorem dX4_bring_5 : decode cX4_bring 5 = .ok (.iload 4, 2) := by decide +kernel
theorem dX4_bring_7 : decode cX4_bring 7 = .ok (.if_icmp .ge 21, 3) := by decide +kernel
theorem dX4_bring_10 : decode cX4_bring 10 = .ok (.aload_n 2, 1) := by decide +kernel
theorem dX4_bring_11 : decode cX4_bring 11 = .ok (.iload_n 3, 1) := by decide +kernel
theorem dX4_bring_12 : decode cX4_bring 12 = .ok (.iload 5, 2) := by decide +kernel
theorem dX4_bring_14 : decode cX4_bring 14 = .ok (.iadd, 1) := by decide +kernel
theorem dX4_bring_15 : decode cX4_bring 15 = .ok (.aload_n 0, 1) := by decide +kernel
theorem dX4_bring_16 : decode cX4_bring 16 = .ok (.iload_n 1, 1) := by decide +kernel
theorem dX4_bring_17 : decode cX4_bring 17 = .ok (.iload 5, 2) := by decide +kernel
theorem dX4_bring_19 : decode cX4_bring 19 = .ok (.iadd, 1) := by decide +kernel
theorem dX4_bring_20 : decode cX4_bring 20 = .ok (.iaload, 1) := by decide +kernel
theorem dX4_bring_21 : decode cX4_bring 21 = .ok (.iastore, 1) := by decide +kernel
theorem dX4_bring_22 : decode cX4_bring 22 = .ok (.iinc 5 1, 3) := by decide +kernel
theorem dX4_bring_25 : decode cX4_bring 25 = .ok (.goto (-22), 3) := by decide +kernel
theorem dX4_bring_28 : decode cX4_bring 28 = .ok (.return_, 1) := by decide +kernel
theorem dX4_begin_0 : decode cX4_begin 0 = .ok (.iconst 0, 1) := by decide +kernel
theorem dX4_begin_1 : decode cX4_begin 1 = .ok (.istore_n 1, 1) := by decide +kernel
theorem dX4_begin_2 : decode cX4_begin 2 = .ok (.iload_n 1, 1) := by decide +kernel
theorem dX4_begin_3 : decode cX4_begin 3 = .ok (.bipush 127, 2) := by decide +kernel
theorem dX4_begin_5 : decode cX4_begin 5 = .ok (.if_icmp .ge 28, 3) := by decide +kernel
theorem dX4_begin_8 : decode cX4_begin 8 = .ok (.aload_n 0, 1) := by decide +kernel
theorem dX4_begin_9 : decode cX4_begin 9 = .ok (.iload_n 1, 1) := by decide +kernel
theorem dX4_begin_10 : decode cX4_begin 10 = .ok (.iload_n 1, 1) := by decide +kernel
theorem dX4_begin_11 : decode cX4_begin 11 = .ok (.bipush 28, 2) := by decide +kernel
theorem dX4_begin_13 : decode cX4_begin 13 = .ok (.bipush 33, 2) := by decide +kernel
theorem dX4_begin_15 : decode cX4_begin 15 = .ok (.invokestatic 53, 3) := by decide +kernel
theorem dX4_begin_18 : decode cX4_begin 18 = .ok (.ifCond .eq 7, 3) := by decide +kernel
theorem dX4_begin_21 : decode cX4_begin 21 = .ok (.iconst (-1), 1) := by decide +kernel
theorem dX4_begin_22 : decode cX4_begin 22 = .ok (.goto 4, 3) := by decide +kernel
theorem dX4_begin_25 : decode cX4_begin 25 = .ok (.iconst 0, 1) := by decide +kernel
theorem dX4_begin_26 : decode cX4_begin 26 = .ok (.iastore, 1) := by decide +kernel
theorem dX4_begin_27 : decode cX4_begin 27 = .ok (.iinc 1 1, 3) := by decide +kernel
theorem dX4_begin_30 : decode cX4_begin 30 = .ok (.goto (-28), 3) := by decide +kernel
theorem dX4_begin_33 : decode cX4_begin 33 = .ok (.aload_n 0, 1) := by decide +kernel
theorem dX4_begin_34 : decode cX4_begin 34 = .ok (.iconst 1, 1) := by decide +kernel
theorem dX4_begin_35 : decode cX4_begin 35 = .ok (.iconst 3, 1) := by decide +kernel
theorem dX4_begin_36 : decode cX4_begin 36 = .ok (.iastore, 1) := by decide +kernel
theorem dX4_begin_37 : decode cX4_begin 37 = .ok (.return_, 1) := by decide +kernel
theorem dX4_power_0 : decode cX4_power 0 = .ok (.iconst 1, 1) := by decide +kernel
theorem dX4_power_1 : decode cX4_power 1 = .ok (.istore_n 1, 1) := by decide +kernel
theorem dX4_power_2 : decode cX4_power 2 = .ok (.iconst 0, 1) := by decide +kernel
theorem dX4_power_3 : decode cX4_power 3 = .ok (.istore_n 2, 1) := by decide +kernel
theorem dX4_power_4 : decode cX4_power 4 = .ok (.iload_n 2, 1) := by decide +kernel
theorem dX4_power_5 : decode cX4_power 5 = .ok (.iload_n 0, 1) := by decide +kernel
theorem dX4_power_6 : decode cX4_power 6 = .ok (.if_icmp .ge 14, 3) := by decide +kernel
theorem dX4_power_9 : decode cX4_power 9 = .ok (.iload_n 1, 1) := by decide +kernel
theorem dX4_power_10 : decode cX4_power 10 = .ok (.bipush 10, 2) := by decide +kernel
theorem dX4_power_12 : decode cX4_power 12 = .ok (.imul, 1) := by decide +kernel
theorem dX4_power_13 : decode cX4_power 13 = .ok (.istore_n 1, 1) := by decide +kernel
theorem dX4_power_14 : decode cX4_power 14 = .ok (.iinc 2 1, 3) := by decide +kernel
theorem dX4_power_17 : decode cX4_power 17 = .ok (.goto (-13), 3) := by decide +kernel
theorem dX4_power_20 : decode cX4_power 20 = .ok (.iload_n 1, 1) := by decide +kernel
theorem dX4_power_21 : decode cX4_power 21 = .ok (.ireturn, 1) := by decide +kernel
theorem dX4_letterOf_0 : decode cX4_letterOf 0 = .ok (.iload_n 0, 1) := by decide +kernel
theorem dX4_letterOf_1 : decode cX4_letterOf 1 = .ok (.iload_n 1, 1) := by decide +kernel
theorem dX4_letterOf_2 : decode cX4_letterOf 2 = .ok (.iconst 1, 1) := by decide +kernel
theorem dX4_letterOf_3 : decode cX4_letterOf 3 = .ok (.isub, 1) := by decide +kernel
theorem dX4_letterOf_4 : decode cX4_letterOf 4 = .ok (.iload_n 2, 1) := by decide +kernel
theorem dX4_letterOf_5 : decode cX4_letterOf 5 = .ok (.isub, 1) := by decide +kernel
theorem dX4_letterOf_6 : decode cX4_letterOf 6 = .ok (.invokestatic 57, 3) := by decide +kernel
theorem dX4_letterOf_9 : decode cX4_letterOf 9 = .ok (.idiv, 1) := by decide +kernel
theorem dX4_letterOf_10 : decode cX4_letterOf 10 = .ok (.bipush 10, 2) := by decide +kernel
theorem dX4_letterOf_12 : decode cX4_letterOf 12 = .ok (.irem, 1) := by decide +kernel
theorem dX4_letterOf_13 : decode cX4_letterOf 13 = .ok (.ireturn, 1) := by decide +kernel
theorem dX4_isWord_0 : decode cX4_isWord 0 = .ok (.iload_n 1, 1) := by decide +kernel
theorem dX4_isWord_1 : decode cX4_isWord 1 = .ok (.iconst 0, 1) := by decide +kernel
theorem dX4_isWord_2 : decode cX4_isWord 2 = .ok (.aload_n 0, 1) := by decide +kernel
theorem dX4_isWord_3 : decode cX4_isWord 3 = .ok (.getfield 7, 3) := by decide +kernel
theorem dX4_isWord_6 : decode cX4_isWord 6 = .ok (.iconst 3, 1) := by decide +kernel
theorem dX4_isWord_7 : decode cX4_isWord 7 = .ok (.iaload, 1) := by decide +kernel
theorem dX4_isWord_8 : decode cX4_isWord 8 = .ok (.iconst 1, 1) := by decide +kernel
theorem dX4_isWord_9 : decode cX4_isWord 9 = .ok (.isub, 1) := by decide +kernel
theorem dX4_isWord_10 : decode cX4_isWord 10 = .ok (.invokestatic 53, 3) := by decide +kernel
theorem dX4_isWord_13 : decode cX4_isWord 13 = .ok (.ireturn, 1) := by decide +kernel
theorem dX4_isLine_0 : decode cX4_isLine 0 = .ok (.iload_n 1, 1) := by decide +kernel
theorem dX4_isLine_1 : decode cX4_isLine 1 = .ok (.iconst 0, 1) := by decide +kernel
theorem dX4_isLine_2 : decode cX4_isLine 2 = .ok (.aload_n 0, 1) := by decide +kernel
theorem dX4_isLine_3 : decode cX4_isLine 3 = .ok (.getfield 7, 3) := by decide +kernel
theorem dX4_isLine_6 : decode cX4_isLine 6 = .ok (.iconst 1, 1) := by decide +kernel
theorem dX4_isLine_7 : decode cX4_isLine 7 = .ok (.iaload, 1) := by decide +kernel
theorem dX4_isLine_8 : decode cX4_isLine 8 = .ok (.iconst 1, 1) := by decide +kernel
theorem dX4_isLine_9 : decode cX4_isLine 9 = .ok (.isub, 1) := by decide +kernel
theorem dX4_isLine_10 : decode cX4_isLine 10 = .ok (.invokestatic 53, 3) := by decide +kernel
theorem dX4_isLine_13 : decode cX4_isLine 13 = .ok (.ireturn, 1) := by decide +kernel
theorem dX4_verse_0 : decode cX4_verse 0 = .ok (.iload_n 1, 1) := by decide +kernel
theorem dX4_verse_1 : decode cX4_verse 1 = .ok (.iconst 0, 1) := by decide +kernel
theorem dX4_verse_2 : decode cX4_verse 2 = .ok (.iconst 5, 1) := by decide +kernel
theorem dX4_verse_3 : decode cX4_verse 3 = .ok (.invokestatic 53, 3) := by decide +kernel
theorem dX4_verse_6 : decode cX4_verse 6 = .ok (.ifCond .eq 27, 3) := by decide +kernel
theorem dX4_verse_9 : decode cX4_verse 9 = .ok (.iload_n 2, 1) := by decide +kernel
theorem dX4_verse_10 : decode cX4_verse 10 = .ok (.iconst 1, 1) := by decide +kernel
theorem dX4_verse_11 : decode cX4_verse 11 = .ok (.bipush 6, 2) := by decide +kernel
theorem dX4_verse_13 : decode cX4_verse 13 = .ok (.invokestatic 53, 3) := by decide +kernel
theorem dX4_verse_16 : decode cX4_verse 16 = .ok (.ifCond .eq 17, 3) := by decide +kernel
theorem dX4_verse_19 : decode cX4_verse 19 = .ok (.iload_n 3, 1) := by decide +kernel
theorem dX4_verse_20 : decode cX4_verse 20 = .ok (.iconst 0, 1) := by decide +kernel
theorem dX4_verse_21 : decode cX4_verse 21 = .ok (.iload_n 2, 1) := by decide +kernel
theorem dX4_verse_22 : decode cX4_verse 22 = .ok (.invokestatic 57, 3) := by decide +kernel
theorem dX4_verse_25 : decode cX4_verse 25 = .ok (.iconst 1, 1) := by decide +kernel
theorem dX4_verse_26 : decode cX4_verse 26 = .ok (.isub, 1) := by decide +kernel
theorem dX4_verse_27 : decode cX4_verse 27 = .ok (.invokestatic 53, 3) := by decide +kernel
theorem dX4_verse_30 : decode cX4_verse 30 = .ok (.ifCond .ne 8, 3) := by decide +kernel
theorem dX4_verse_33 : decode cX4_verse 33 = .ok (.aload_n 0, 1) := by decide +kernel
theorem dX4_verse_34 : decode cX4_verse 34 = .ok (.invokevirtual 60, 3) := by decide +kernel
theorem dX4_verse_37 : decode cX4_verse 37 = .ok (.ireturn, 1) := by decide +kernel
theorem dX4_verse_38 : decode cX4_verse 38 = .ok (.aload_n 0, 1) := by decide +kernel
theorem dX4_verse_39 : decode cX4_verse 39 = .ok (.getfield 7, 3) := by decide +kernel
theorem dX4_verse_42 : decode cX4_verse 42 = .ok (.iconst 3, 1) := by decide +kernel
theorem dX4_verse_43 : decode cX4_verse 43 = .ok (.iaload, 1) := by decide +kernel
theorem dX4_verse_44 : decode cX4_verse 44 = .ok (.istore 4, 2) := by decide +kernel
theorem dX4_verse_46 : decode cX4_verse 46 = .ok (.aload_n 0, 1) := by decide +kernel
theorem dX4_verse_47 : decode cX4_verse 47 = .ok (.getfield 7, 3) := by decide +kernel
theorem dX4_verse_50 : decode cX4_verse 50 = .ok (.invokestatic 45, 3) := by decide +kernel
theorem dX4_verse_53 : decode cX4_verse 53 = .ok (.aload_n 0, 1) := by decide +kernel
theorem dX4_verse_54 : decode cX4_verse 54 = .ok (.getfield 7, 3) := by decide +kernel
theorem dX4_verse_57 : decode cX4_verse 57 = .ok (.iconst 0, 1) := by decide +kernel
theorem dX4_verse_58 : decode cX4_verse 58 = .ok (.iload_n 1, 1) := by decide +kernel
theorem dX4_verse_59 : decode cX4_verse 59 = .ok (.iastore, 1) := by decide +kernel
theorem dX4_verse_60 : decode cX4_verse 60 = .ok (.aload_n 0, 1) := by decide +kernel
theorem dX4_verse_61 : decode cX4_verse 61 = .ok (.getfield 7, 3) := by decide +kernel
theorem dX4_verse_64 : decode cX4_verse 64 = .ok (.iconst 1, 1) := by decide +kernel
theorem dX4_verse_65 : decode cX4_verse 65 = .ok (.iload_n 2, 1) := by decide +kernel
theorem dX4_verse_66 : decode cX4_verse 66 = .ok (.iastore, 1) := by decide +kernel
theorem dX4_verse_67 : decode cX4_verse 67 = .ok (.aload_n 0, 1) := by decide +kernel
theorem dX4_verse_68 : decode cX4_verse 68 = .ok (.getfield 7, 3) := by decide +kernel
theorem dX4_verse_71 : decode cX4_verse 71 = .ok (.iconst 2, 1) := by decide +kernel
theorem dX4_verse_72 : decode cX4_verse 72 = .ok (.iload_n 3, 1) := by decide +kernel
theorem dX4_verse_73 : decode cX4_verse 73 = .ok (.iastore, 1) := by decide +kernel
theorem dX4_verse_74 : decode cX4_verse 74 = .ok (.iload 4, 2) := by decide +kernel
theorem dX4_verse_76 : decode cX4_verse 76 = .ok (.ireturn, 1) := by decide +kernel
theorem dX4_form_0 : decode cX4_form 0 = .ok (.iload_n 1, 1) := by decide +kernel
theorem dX4_form_1 : decode cX4_form 1 = .ok (.iconst 0, 1) := by decide +kernel
theorem dX4_form_2 : decode cX4_form 2 = .ok (.iconst 5, 1) := by decide +kernel
theorem dX4_form_3 : decode cX4_form 3 = .ok (.invokestatic 53, 3) := by decide +kernel
theorem dX4_form_6 : decode cX4_form 6 = .ok (.ifCond .ne 8, 3) := by decide +kernel
theorem dX4_form_9 : decode cX4_form 9 = .ok (.aload_n 0, 1) := by decide +kernel
theorem dX4_form_10 : decode cX4_form 10 = .ok (.invokevirtual 60, 3) := by decide +kernel
theorem dX4_form_13 : decode cX4_form 13 = .ok (.ireturn, 1) := by decide +kernel
theorem dX4_form_14 : decode cX4_form 14 = .ok (.aload_n 0, 1) := by decide +kernel
theorem dX4_form_15 : decode cX4_form 15 = .ok (.getfield 7, 3) := by decide +kernel
theorem dX4_form_18 : decode cX4_form 18 = .ok (.iconst 0, 1) := by decide +kernel
theorem dX4_form_19 : decode cX4_form 19 = .ok (.iaload, 1) := by decide +kernel
theorem dX4_form_20 : decode cX4_form 20 = .ok (.istore_n 2, 1) := by decide +kernel
theorem dX4_form_21 : decode cX4_form 21 = .ok (.aload_n 0, 1) := by decide +kernel
theorem dX4_form_22 : decode cX4_form 22 = .ok (.getfield 7, 3) := by decide +kernel
theorem dX4_form_25 : decode cX4_form 25 = .ok (.iconst 0, 1) := by decide +kernel
theorem dX4_form_26 : decode cX4_form 26 = .ok (.iload_n 1, 1) := by decide +kernel
theorem dX4_form_27 : decode cX4_form 27 = .ok (.iastore, 1) := by decide +kernel
theorem dX4_form_28 : decode cX4_form 28 = .ok (.aload_n 0, 1) := by decide +kernel
theorem dX4_form_29 : decode cX4_form 29 = .ok (.getfield 7, 3) := by decide +kernel
theorem dX4_form_32 : decode cX4_form 32 = .ok (.bipush 78, 2) := by decide +kernel
theorem dX4_form_34 : decode cX4_form 34 = .ok (.iconst 0, 1) := by decide +kernel
theorem dX4_form_35 : decode cX4_form 35 = .ok (.iastore, 1) := by decide +kernel
theorem dX4_form_36 : decode cX4_form 36 = .ok (.iload_n 2, 1) := by decide +kernel
theorem dX4_form_37 : decode cX4_form 37 = .ok (.ireturn, 1) := by decide +kernel
theorem dX4_isThere_0 : decode cX4_isThere 0 = .ok (.iconst 0, 1) := by decide +kernel
theorem dX4_isThere_1 : decode cX4_isThere 1 = .ok (.istore_n 3, 1) := by decide +kernel
theorem dX4_isThere_2 : decode cX4_isThere 2 = .ok (.iconst 0, 1) := by decide +kernel
theorem dX4_isThere_3 : decode cX4_isThere 3 = .ok (.istore 4, 2) := by decide +kernel
theorem dX4_isThere_5 : decode cX4_isThere 5 = .ok (.iload 4, 2) := by decide +kernel
theorem dX4_isThere_7 : decode cX4_isThere 7 = .ok (.aload_n 0, 1) := by decide +kernel
theorem dX4_isThere_8 : decode cX4_isThere 8 = .ok (.iconst 3, 1) := by decide +kernel
theorem dX4_isThere_9 : decode cX4_isThere 9 = .ok (.iaload, 1) := by decide +kernel
theorem dX4_isThere_10 : decode cX4_isThere 10 = .ok (.if_icmp .ge 41, 3) := by decide +kernel
theorem dX4_isThere_13 : decode cX4_isThere 13 = .ok (.iload_n 3, 1) := by decide +kernel
theorem dX4_isThere_14 : decode cX4_isThere 14 = .ok (.ifCond .ne 25, 3) := by decide +kernel
theorem dX4_isThere_17 : decode cX4_isThere 17 = .ok (.aload_n 0, 1) := by decide +kernel
theorem dX4_isThere_18 : decode cX4_isThere 18 = .ok (.bipush 12, 2) := by decide +kernel
theorem dX4_isThere_20 : decode cX4_isThere 20 = .ok (.iload 4, 2) := by decide +kernel
theorem dX4_isThere_22 : decode cX4_isThere 22 = .ok (.iadd, 1) := by decide +kernel
theorem dX4_isThere_23 : decode cX4_isThere 23 = .ok (.iaload, 1) := by decide +kernel
theorem dX4_isThere_24 : decode cX4_isThere 24 = .ok (.iload_n 1, 1) := by decide +kernel
theorem dX4_isThere_25 : decode cX4_isThere 25 = .ok (.if_icmp .ne 18, 3) := by decide +kernel
theorem dX4_isThere_28 : decode cX4_isThere 28 = .ok (.aload_n 0, 1) := by decide +kernel
theorem dX4_isThere_29 : decode cX4_isThere 29 = .ok (.bipush 20, 2) := by decide +kernel
theorem dX4_isThere_31 : decode cX4_isThere 31 = .ok (.iload 4, 2) := by decide +kernel
theorem dX4_isThere_33 : decode cX4_isThere 33 = .ok (.iadd, 1) := by decide +kernel
theorem dX4_isThere_34 : decode cX4_isThere 34 = .ok (.iaload, 1) := by decide +kernel
theorem dX4_isThere_35 : decode cX4_isThere 35 = .ok (.iload_n 2, 1) := by decide +kernel
theorem dX4_isThere_36 : decode cX4_isThere 36 = .ok (.if_icmp .ne 7, 3) := by decide +kernel
theorem dX4_isThere_39 : decode cX4_isThere 39 = .ok (.iconst 1, 1) := by decide +kernel
theorem dX4_isThere_40 : decode cX4_isThere 40 = .ok (.goto 4, 3) := by decide +kernel
theorem dX4_isThere_43 : decode cX4_isThere 43 = .ok (.iconst 0, 1) := by decide +kernel
theorem dX4_isThere_44 : decode cX4_isThere 44 = .ok (.istore_n 3, 1) := by decide +kernel
theorem dX4_isThere_45 : decode cX4_isThere 45 = .ok (.iinc 4 1, 3) := by decide +kernel
theorem dX4_isThere_48 : decode cX4_isThere 48 = .ok (.goto (-43), 3) := by decide +kernel
theorem dX4_isThere_51 : decode cX4_isThere 51 = .ok (.iload_n 3, 1) := by decide +kernel
theorem dX4_isThere_52 : decode cX4_isThere 52 = .ok (.ireturn, 1) := by decide +kernel
theorem dX4_addWord_0 : decode cX4_addWord 0 = .ok (.aload_n 0, 1) := by decide +kernel
theorem dX4_addWord_1 : decode cX4_addWord 1 = .ok (.iconst 3, 1) := by decide +kernel
theorem dX4_addWord_2 : decode cX4_addWord 2 = .ok (.iaload, 1) := by decide +kernel
theorem dX4_addWord_3 : decode cX4_addWord 3 = .ok (.istore 4, 2) := by decide +kernel
theorem dX4_addWord_5 : decode cX4_addWord 5 = .ok (.aload_n 0, 1) := by decide +kernel
theorem dX4_addWord_6 : decode cX4_addWord 6 = .ok (.iconst 4, 1) := by decide +kernel
theorem dX4_addWord_7 : decode cX4_addWord 7 = .ok (.iload 4, 2) := by decide +kernel
theorem dX4_addWord_9 : decode cX4_addWord 9 = .ok (.iadd, 1) := by decide +kernel
theorem dX4_addWord_10 : decode cX4_addWord 10 = .ok (.iload_n 1, 1) := by decide +kernel
theorem dX4_addWord_11 : decode cX4_addWord 11 = .ok (.iastore, 1) := by decide +kernel
theorem dX4_addWord_12 : decode cX4_addWord 12 = .ok (.aload_n 0, 1) := by decide +kernel
theorem dX4_addWord_13 : decode cX4_addWord 13 = .ok (.bipush 12, 2) := by decide +kernel
theorem dX4_addWord_15 : decode cX4_addWord 15 = .ok (.iload 4, 2) := by decide +kernel
theorem dX4_addWord_17 : decode cX4_addWord 17 = .ok (.iadd, 1) := by decide +kernel
theorem dX4_addWord_18 : decode cX4_addWord 18 = .ok (.iload_n 2, 1) := by decide +kernel
theorem dX4_addWord_19 : decode cX4_addWord 19 = .ok (.iastore, 1) := by decide +kernel
theorem dX4_addWord_20 : decode cX4_addWord 20 = .ok (.aload_n 0, 1) := by decide +kernel
theorem dX4_addWord_21 : decode cX4_addWord 21 = .ok (.bipush 20, 2) := by decide +kernel
theorem dX4_addWord_23 : decode cX4_addWord 23 = .ok (.iload 4, 2) := by decide +kernel
theorem dX4_addWord_25 : decode cX4_addWord 25 = .ok (.iadd, 1) := by decide +kernel
theorem dX4_addWord_26 : decode cX4_addWord 26 = .ok (.iload_n 3, 1) := by decide +kernel
theorem dX4_addWord_27 : decode cX4_addWord 27 = .ok (.iastore, 1) := by decide +kernel
theorem dX4_addWord_28 : decode cX4_addWord 28 = .ok (.aload_n 0, 1) := by decide +kernel
theorem dX4_addWord_29 : decode cX4_addWord 29 = .ok (.iconst 3, 1) := by decide +kernel
theorem dX4_addWord_30 : decode cX4_addWord 30 = .ok (.dup2, 1) := by decide +kernel
theorem dX4_addWord_31 : decode cX4_addWord 31 = .ok (.iaload, 1) := by decide +kernel
theorem dX4_addWord_32 : decode cX4_addWord 32 = .ok (.iconst 1, 1) := by decide +kernel
theorem dX4_addWord_33 : decode cX4_addWord 33 = .ok (.iadd, 1) := by decide +kernel
theorem dX4_addWord_34 : decode cX4_addWord 34 = .ok (.iastore, 1) := by decide +kernel
theorem dX4_addWord_35 : decode cX4_addWord 35 = .ok (.iload 4, 2) := by decide +kernel
theorem dX4_addWord_37 : decode cX4_addWord 37 = .ok (.ireturn, 1) := by decide +kernel
theorem dX4_word_0 : decode cX4_word 0 = .ok (.iload_n 1, 1) := by decide +kernel
theorem dX4_word_1 : decode cX4_word 1 = .ok (.iconst 0, 1) := by decide +kernel
theorem dX4_word_2 : decode cX4_word 2 = .ok (.iconst 5, 1) := by decide +kernel
theorem dX4_word_3 : decode cX4_word 3 = .ok (.invokestatic 53, 3) := by decide +kernel
theorem dX4_word_6 : decode cX4_word 6 = .ok (.ifCond .eq 27, 3) := by decide +kernel
theorem dX4_word_9 : decode cX4_word 9 = .ok (.iload_n 2, 1) := by decide +kernel
theorem dX4_word_10 : decode cX4_word 10 = .ok (.iconst 3, 1) := by decide +kernel
theorem dX4_word_11 : decode cX4_word 11 = .ok (.bipush 6, 2) := by decide +kernel
theorem dX4_word_13 : decode cX4_word 13 = .ok (.invokestatic 53, 3) := by decide +kernel
theorem dX4_word_16 : decode cX4_word 16 = .ok (.ifCond .eq 17, 3) := by decide +kernel
theorem dX4_word_19 : decode cX4_word 19 = .ok (.iload_n 3, 1) := by decide +kernel
theorem dX4_word_20 : decode cX4_word 20 = .ok (.iconst 0, 1) := by decide +kernel
theorem dX4_word_21 : decode cX4_word 21 = .ok (.iload_n 2, 1) := by decide +kernel
theorem dX4_word_22 : decode cX4_word 22 = .ok (.invokestatic 57, 3) := by decide +kernel
theorem dX4_word_25 : decode cX4_word 25 = .ok (.iconst 1, 1) := by decide +kernel
theorem dX4_word_26 : decode cX4_word 26 = .ok (.isub, 1) := by decide +kernel
theorem dX4_word_27 : decode cX4_word 27 = .ok (.invokestatic 53, 3) := by decide +kernel
theorem dX4_word_30 : decode cX4_word 30 = .ok (.ifCond .ne 8, 3) := by decide +kernel
theorem dX4_word_33 : decode cX4_word 33 = .ok (.aload_n 0, 1) := by decide +kernel
theorem dX4_word_34 : decode cX4_word 34 = .ok (.invokevirtual 60, 3) := by decide +kernel
theorem dX4_word_37 : decode cX4_word 37 = .ok (.ireturn, 1) := by decide +kernel
theorem dX4_word_38 : decode cX4_word 38 = .ok (.aload_n 0, 1) := by decide +kernel
theorem dX4_word_39 : decode cX4_word 39 = .ok (.getfield 7, 3) := by decide +kernel
theorem dX4_word_42 : decode cX4_word 42 = .ok (.iload_n 2, 1) := by decide +kernel
theorem dX4_word_43 : decode cX4_word 43 = .ok (.iload_n 3, 1) := by decide +kernel
theorem dX4_word_44 : decode cX4_word 44 = .ok (.invokestatic 64, 3) := by decide +kernel
theorem dX4_word_47 : decode cX4_word 47 = .ok (.ifCond .eq 8, 3) := by decide +kernel
theorem dX4_word_50 : decode cX4_word 50 = .ok (.aload_n 0, 1) := by decide +kernel
theorem dX4_word_51 : decode cX4_word 51 = .ok (.invokevirtual 68, 3) := by decide +kernel
theorem dX4_word_54 : decode cX4_word 54 = .ok (.ireturn, 1) := by decide +kernel
theorem dX4_word_55 : decode cX4_word 55 = .ok (.aload_n 0, 1) := by decide +kernel
theorem dX4_word_56 : decode cX4_word 56 = .ok (.getfield 7, 3) := by decide +kernel
theorem dX4_word_59 : decode cX4_word 59 = .ok (.iconst 3, 1) := by decide +kernel
theorem dX4_word_60 : decode cX4_word 60 = .ok (.iaload, 1) := by decide +kernel
theorem dX4_word_61 : decode cX4_word 61 = .ok (.bipush 8, 2) := by decide +kernel
theorem dX4_word_63 : decode cX4_word 63 = .ok (.if_icmp .ne 8, 3) := by decide +kernel
theorem dX4_word_66 : decode cX4_word 66 = .ok (.aload_n 0, 1) := by decide +kernel
theorem dX4_word_67 : decode cX4_word 67 = .ok (.invokevirtual 71, 3) := by decide +kernel
theorem dX4_word_70 : decode cX4_word 70 = .ok (.ireturn, 1) := by decide +kernel
theorem dX4_word_71 : decode cX4_word 71 = .ok (.aload_n 0, 1) := by decide +kernel
theorem dX4_word_72 : decode cX4_word 72 = .ok (.getfield 7, 3) := by decide +kernel
theorem dX4_word_75 : decode cX4_word 75 = .ok (.bipush 78, 2) := by decide +kernel
theorem dX4_word_77 : decode cX4_word 77 = .ok (.iconst 0, 1) := by decide +kernel
theorem dX4_word_78 : decode cX4_word 78 = .ok (.iastore, 1) := by decide +kernel
theorem dX4_word_79 : decode cX4_word 79 = .ok (.aload_n 0, 1) := by decide +kernel
theorem dX4_word_80 : decode cX4_word 80 = .ok (.getfield 7, 3) := by decide +kernel
theorem dX4_word_83 : decode cX4_word 83 = .ok (.iload_n 1, 1) := by decide +kernel
theorem dX4_word_84 : decode cX4_word 84 = .ok (.iload_n 2, 1) := by decide +kernel
theorem dX4_word_85 : decode cX4_word 85 = .ok (.iload_n 3, 1) := by decide +kernel
theorem dX4_word_86 : decode cX4_word 86 = .ok (.invokestatic 74, 3) := by decide +kernel
theorem dX4_word_89 : decode cX4_word 89 = .ok (.ireturn, 1) := by decide +kernel
theorem dX4_type_0 : decode cX4_type 0 = .ok (.iload_n 1, 1) := by decide +kernel
theorem dX4_type_1 : decode cX4_type 1 = .ok (.iconst 0, 1) := by decide +kernel
theorem dX4_type_2 : decode cX4_type 2 = .ok (.bipush 127, 2) := by decide +kernel
theorem dX4_type_4 : decode cX4_type 4 = .ok (.invokestatic 53, 3) := by decide +kernel
theorem dX4_type_7 : decode cX4_type 7 = .ok (.ifCond .ne 8, 3) := by decide +kernel
theorem dX4_type_10 : decode cX4_type 10 = .ok (.aload_n 0, 1) := by decide +kernel
theorem dX4_type_11 : decode cX4_type 11 = .ok (.invokevirtual 60, 3) := by decide +kernel
theorem dX4_type_14 : decode cX4_type 14 = .ok (.ireturn, 1) := by decide +kernel
theorem dX4_type_15 : decode cX4_type 15 = .ok (.aload_n 0, 1) := by decide +kernel
theorem dX4_type_16 : decode cX4_type 16 = .ok (.getfield 78, 3) := by decide +kernel
theorem dX4_type_19 : decode cX4_type 19 = .ok (.sipush 150, 3) := by decide +kernel
theorem dX4_type_22 : decode cX4_type 22 = .ok (.if_icmp .ne 8, 3) := by decide +kernel
theorem dX4_type_25 : decode cX4_type 25 = .ok (.aload_n 0, 1) := by decide +kernel
theorem dX4_type_26 : decode cX4_type 26 = .ok (.invokevirtual 71, 3) := by decide +kernel
theorem dX4_type_29 : decode cX4_type 29 = .ok (.ireturn, 1) := by decide +kernel
theorem dX4_type_30 : decode cX4_type 30 = .ok (.aload_n 0, 1) := by decide +kernel
theorem dX4_type_31 : decode cX4_type 31 = .ok (.getfield 30, 3) := by decide +kernel
theorem dX4_type_34 : decode cX4_type 34 = .ok (.aload_n 0, 1) := by decide +kernel
theorem dX4_type_35 : decode cX4_type 35 = .ok (.getfield 78, 3) := by decide +kernel
theorem dX4_type_38 : decode cX4_type 38 = .ok (.iload_n 1, 1) := by decide +kernel
theorem dX4_type_39 : decode cX4_type 39 = .ok (.iastore, 1) := by decide +kernel
theorem dX4_type_40 : decode cX4_type 40 = .ok (.aload_n 0, 1) := by decide +kernel
theorem dX4_type_41 : decode cX4_type 41 = .ok (.dup, 1) := by decide +kernel
theorem dX4_type_42 : decode cX4_type 42 = .ok (.getfield 78, 3) := by decide +kernel
theorem dX4_type_45 : decode cX4_type 45 = .ok (.iconst 1, 1) := by decide +kernel
theorem dX4_type_46 : decode cX4_type 46 = .ok (.iadd, 1) := by decide +kernel
theorem dX4_type_47 : decode cX4_type 47 = .ok (.putfield 78, 3) := by decide +kernel
theorem dX4_type_50 : decode cX4_type 50 = .ok (.aload_n 0, 1) := by decide +kernel
theorem dX4_type_51 : decode cX4_type 51 = .ok (.getfield 78, 3) := by decide +kernel
theorem dX4_type_54 : decode cX4_type 54 = .ok (.ireturn, 1) := by decide +kernel
theorem dX4_clear_0 : decode cX4_clear 0 = .ok (.aload_n 0, 1) := by decide +kernel
theorem dX4_clear_1 : decode cX4_clear 1 = .ok (.getfield 78, 3) := by decide +kernel
theorem dX4_clear_4 : decode cX4_clear 4 = .ok (.istore_n 1, 1) := by decide +kernel
theorem dX4_clear_5 : decode cX4_clear 5 = .ok (.aload_n 0, 1) := by decide +kernel
theorem dX4_clear_6 : decode cX4_clear 6 = .ok (.iconst 0, 1) := by decide +kernel
theorem dX4_clear_7 : decode cX4_clear 7 = .ok (.putfield 78, 3) := by decide +kernel
theorem dX4_clear_10 : decode cX4_clear 10 = .ok (.iload_n 1, 1) := by decide +kernel
theorem dX4_clear_11 : decode cX4_clear 11 = .ok (.ireturn, 1) := by decide +kernel
theorem dX4_kindAt_0 : decode cX4_kindAt 0 = .ok (.iload_n 1, 1) := by decide +kernel
theorem dX4_kindAt_1 : decode cX4_kindAt 1 = .ok (.aload_n 0, 1) := by decide +kernel
theorem dX4_kindAt_2 : decode cX4_kindAt 2 = .ok (.getfield 78, 3) := by decide +kernel
theorem dX4_kindAt_5 : decode cX4_kindAt 5 = .ok (.if_icmp .ge 12, 3) := by decide +kernel
theorem dX4_kindAt_8 : decode cX4_kindAt 8 = .ok (.aload_n 0, 1) := by decide +kernel
theorem dX4_kindAt_9 : decode cX4_kindAt 9 = .ok (.getfield 30, 3) := by decide +kernel
theorem dX4_kindAt_12 : decode cX4_kindAt 12 = .ok (.iload_n 1, 1) := by decide +kernel
theorem dX4_kindAt_13 : decode cX4_kindAt 13 = .ok (.iaload, 1) := by decide +kernel
theorem dX4_kindAt_14 : decode cX4_kindAt 14 = .ok (.goto 4, 3) := by decide +kernel
theorem dX4_kindAt_17 : decode cX4_kindAt 17 = .ok (.iconst 0, 1) := by decide +kernel
theorem dX4_kindAt_18 : decode cX4_kindAt 18 = .ok (.istore_n 2, 1) := by decide +kernel
theorem dX4_kindAt_19 : decode cX4_kindAt 19 = .ok (.iload_n 2, 1) := by decide +kernel
theorem dX4_kindAt_20 : decode cX4_kindAt 20 = .ok (.bipush 97, 2) := by decide +kernel
theorem dX4_kindAt_22 : decode cX4_kindAt 22 = .ok (.bipush 122, 2) := by decide +kernel
theorem dX4_kindAt_24 : decode cX4_kindAt 24 = .ok (.invokestatic 53, 3) := by decide +kernel
theorem dX4_kindAt_27 : decode cX4_kindAt 27 = .ok (.ifCond .eq 7, 3) := by decide +kernel
theorem dX4_kindAt_30 : decode cX4_kindAt 30 = .ok (.iconst 1, 1) := by decide +kernel
theorem dX4_kindAt_31 : decode cX4_kindAt 31 = .ok (.goto 19, 3) := by decide +kernel
theorem dX4_kindAt_34 : decode cX4_kindAt 34 = .ok (.iload_n 2, 1) := by decide +kernel
theorem dX4_kindAt_35 : decode cX4_kindAt 35 = .ok (.bipush 48, 2) := by decide +kernel
theorem dX4_kindAt_37 : decode cX4_kindAt 37 = .ok (.bipush 57, 2) := by decide +kernel
theorem dX4_kindAt_39 : decode cX4_kindAt 39 = .ok (.invokestatic 53, 3) := by decide +kernel
theorem dX4_kindAt_42 : decode cX4_kindAt 42 = .ok (.ifCond .eq 7, 3) := by decide +kernel
theorem dX4_kindAt_45 : decode cX4_kindAt 45 = .ok (.iconst 2, 1) := by decide +kernel
theorem dX4_kindAt_46 : decode cX4_kindAt 46 = .ok (.goto 4, 3) := by decide +kernel
theorem dX4_kindAt_49 : decode cX4_kindAt 49 = .ok (.iconst 0, 1) := by decide +kernel
theorem dX4_kindAt_50 : decode cX4_kindAt 50 = .ok (.ireturn, 1) := by decide +kernel
theorem dX4_nextToken_0 : decode cX4_nextToken 0 = .ok (.aload_n 0, 1) := by decide +kernel
theorem dX4_nextToken_1 : decode cX4_nextToken 1 = .ok (.getfield 82, 3) := by decide +kernel
theorem dX4_nextToken_4 : decode cX4_nextToken 4 = .ok (.aload_n 0, 1) := by decide +kernel
theorem dX4_nextToken_5 : decode cX4_nextToken 5 = .ok (.getfield 78, 3) := by decide +kernel
theorem dX4_nextToken_8 : decode cX4_nextToken 8 = .ok (.if_icmp .ge 30, 3) := by decide +kernel
theorem dX4_nextToken_11 : decode cX4_nextToken 11 = .ok (.aload_n 0, 1) := by decide +kernel
theorem dX4_nextToken_12 : decode cX4_nextToken 12 = .ok (.getfield 30, 3) := by decide +kernel
theorem dX4_nextToken_15 : decode cX4_nextToken 15 = .ok (.aload_n 0, 1) := by decide +kernel
theorem dX4_nextToken_16 : decode cX4_nextToken 16 = .ok (.getfield 82, 3) := by decide +kernel
theorem dX4_nextToken_19 : decode cX4_nextToken 19 = .ok (.iaload, 1) := by decide +kernel
theorem dX4_nextToken_20 : decode cX4_nextToken 20 = .ok (.bipush 32, 2) := by decide +kernel
theorem dX4_nextToken_22 : decode cX4_nextToken 22 = .ok (.if_icmp .ne 16, 3) := by decide +kernel
theorem dX4_nextToken_25 : decode cX4_nextToken 25 = .ok (.aload_n 0, 1) := by decide +kernel
theorem dX4_nextToken_26 : decode cX4_nextToken 26 = .ok (.dup, 1) := by decide +kernel
theorem dX4_nextToken_27 : decode cX4_nextToken 27 = .ok (.getfield 82, 3) := by decide +kernel
theorem dX4_nextToken_30 : decode cX4_nextToken 30 = .ok (.iconst 1, 1) := by decide +kernel
theorem dX4_nextToken_31 : decode cX4_nextToken 31 = .ok (.iadd, 1) := by decide +kernel
theorem dX4_nextToken_32 : decode cX4_nextToken 32 = .ok (.putfield 82, 3) := by decide +kernel
theorem dX4_nextToken_35 : decode cX4_nextToken 35 = .ok (.goto (-35), 3) := by decide +kernel
theorem dX4_nextToken_38 : decode cX4_nextToken 38 = .ok (.aload_n 0, 1) := by decide +kernel
theorem dX4_nextToken_39 : decode cX4_nextToken 39 = .ok (.aload_n 0, 1) := by decide +kernel
theorem dX4_nextToken_40 : decode cX4_nextToken 40 = .ok (.getfield 82, 3) := by decide +kernel
theorem dX4_nextToken_43 : decode cX4_nextToken 43 = .ok (.putfield 85, 3) := by decide +kernel
theorem dX4_nextToken_46 : decode cX4_nextToken 46 = .ok (.aload_n 0, 1) := by decide +kernel
theorem dX4_nextToken_47 : decode cX4_nextToken 47 = .ok (.lconst 0, 1) := by decide +kernel
theorem dX4_nextToken_48 : decode cX4_nextToken 48 = .ok (.putfield 88, 3) := by decide +kernel
theorem dX4_nextToken_51 : decode cX4_nextToken 51 = .ok (.aload_n 0, 1) := by decide +kernel
theorem dX4_nextToken_52 : decode cX4_nextToken 52 = .ok (.iconst 0, 1) := by decide +kernel
theorem dX4_nextToken_53 : decode cX4_nextToken 53 = .ok (.putfield 91, 3) := by decide +kernel
theorem dX4_nextToken_56 : decode cX4_nextToken 56 = .ok (.aload_n 0, 1) := by decide +kernel
theorem dX4_nextToken_57 : decode cX4_nextToken 57 = .ok (.getfield 82, 3) := by decide +kernel
theorem dX4_nextToken_60 : decode cX4_nextToken 60 = .ok (.aload_n 0, 1) := by decide +kernel
theorem dX4_nextToken_61 : decode cX4_nextToken 61 = .ok (.getfield 78, 3) := by decide +kernel
theorem dX4_nextToken_64 : decode cX4_nextToken 64 = .ok (.if_icmp .ne 9, 3) := by decide +kernel
theorem dX4_nextToken_67 : decode cX4_nextToken 67 = .ok (.aload_n 0, 1) := by decide +kernel
theorem dX4_nextToken_68 : decode cX4_nextToken 68 = .ok (.iconst 0, 1) := by decide +kernel
theorem dX4_nextToken_69 : decode cX4_nextToken 69 = .ok (.putfield 94, 3) := by decide +kernel
theorem dX4_nextToken_72 : decode cX4_nextToken 72 = .ok (.return_, 1) := by decide +kernel
theorem dX4_nextToken_73 : decode cX4_nextToken 73 = .ok (.aload_n 0, 1) := by decide +kernel
theorem dX4_nextToken_74 : decode cX4_nextToken 74 = .ok (.aload_n 0, 1) := by decide +kernel
theorem dX4_nextToken_75 : decode cX4_nextToken 75 = .ok (.aload_n 0, 1) := by decide +kernel
theorem dX4_nextToken_76 : decode cX4_nextToken 76 = .ok (.getfield 82, 3) := by decide +kernel
theorem dX4_nextToken_79 : decode cX4_nextToken 79 = .ok (.invokevirtual 97, 3) := by decide +kernel
theorem dX4_nextToken_82 : decode cX4_nextToken 82 = .ok (.putfield 94, 3) := by decide +kernel
theorem dX4_nextToken_85 : decode cX4_nextToken 85 = .ok (.aload_n 0, 1) := by decide +kernel
theorem dX4_nextToken_86 : decode cX4_nextToken 86 = .ok (.getfield 94, 3) := by decide +kernel
theorem dX4_nextToken_89 : decode cX4_nextToken 89 = .ok (.ifCond .ne 37, 3) := by decide +kernel
theorem dX4_nextToken_92 : decode cX4_nextToken 92 = .ok (.aload_n 0, 1) := by decide +kernel
theorem dX4_nextToken_93 : decode cX4_nextToken 93 = .ok (.aload_n 0, 1) := by decide +kernel
theorem dX4_nextToken_94 : decode cX4_nextToken 94 = .ok (.getfield 30, 3) := by decide +kernel
theorem dX4_nextToken_97 : decode cX4_nextToken 97 = .ok (.aload_n 0, 1) := by decide +kernel
theorem dX4_nextToken_98 : decode cX4_nextToken 98 = .ok (.getfield 82, 3) := by decide +kernel
theorem dX4_nextToken_101 : decode cX4_nextToken 101 = .ok (.iaload, 1) := by decide +kernel
theorem dX4_nextToken_102 : decode cX4_nextToken 102 = .ok (.bipush 59, 2) := by decide +kernel
theorem dX4_nextToken_104 : decode cX4_nextToken 104 = .ok (.if_icmp .ne 7, 3) := by decide +kernel
theorem dX4_nextToken_107 : decode cX4_nextToken 107 = .ok (.iconst 3, 1) := by decide +kernel
theorem dX4_nextToken_108 : decode cX4_nextToken 108 = .ok (.goto 4, 3) := by decide +kernel
theorem dX4_nextToken_111 : decode cX4_nextToken 111 = .ok (.iconst 4, 1) := by decide +kernel
theorem dX4_nextToken_112 : decode cX4_nextToken 112 = .ok (.putfield 94, 3) := by decide +kernel
theorem dX4_nextToken_115 : decode cX4_nextToken 115 = .ok (.aload_n 0, 1) := by decide +kernel
theorem dX4_nextToken_116 : decode cX4_nextToken 116 = .ok (.dup, 1) := by decide +kernel
theorem dX4_nextToken_117 : decode cX4_nextToken 117 = .ok (.getfield 82, 3) := by decide +kernel
theorem dX4_nextToken_120 : decode cX4_nextToken 120 = .ok (.iconst 1, 1) := by decide +kernel
theorem dX4_nextToken_121 : decode cX4_nextToken 121 = .ok (.iadd, 1) := by decide +kernel
theorem dX4_nextToken_122 : decode cX4_nextToken 122 = .ok (.putfield 82, 3) := by decide +kernel
theorem dX4_nextToken_125 : decode cX4_nextToken 125 = .ok (.return_, 1) := by decide +kernel
theorem dX4_nextToken_126 : decode cX4_nextToken 126 = .ok (.aload_n 0, 1) := by decide +kernel
theorem dX4_nextToken_127 : decode cX4_nextToken 127 = .ok (.aload_n 0, 1) := by decide +kernel
theorem dX4_nextToken_128 : decode cX4_nextToken 128 = .ok (.getfield 82, 3) := by decide +kernel
theorem dX4_nextToken_131 : decode cX4_nextToken 131 = .ok (.invokevirtual 97, 3) := by decide +kernel
theorem dX4_nextToken_134 : decode cX4_nextToken 134 = .ok (.aload_n 0, 1) := by decide +kernel
theorem dX4_nextToken_135 : decode cX4_nextToken 135 = .ok (.getfield 94, 3) := by decide +kernel
theorem dX4_nextToken_138 : decode cX4_nextToken 138 = .ok (.if_icmp .ne 97, 3) := by decide +kernel
theorem dX4_nextToken_141 : decode cX4_nextToken 141 = .ok (.aload_n 0, 1) := by decide +kernel
theorem dX4_nextToken_142 : decode cX4_nextToken 142 = .ok (.getfield 82, 3) := by decide +kernel
theorem dX4_nextToken_145 : decode cX4_nextToken 145 = .ok (.aload_n 0, 1) := by decide +kernel
theorem dX4_nextToken_146 : decode cX4_nextToken 146 = .ok (.getfield 85, 3) := by decide +kernel
theorem dX4_nextToken_149 : decode cX4_nextToken 149 = .ok (.isub, 1) := by decide +kernel
theorem dX4_nextToken_150 : decode cX4_nextToken 150 = .ok (.istore_n 1, 1) := by decide +kernel
theorem dX4_nextToken_151 : decode cX4_nextToken 151 = .ok (.aload_n 0, 1) := by decide +kernel
theorem dX4_nextToken_152 : decode cX4_nextToken 152 = .ok (.iload_n 1, 1) := by decide +kernel
theorem dX4_nextToken_153 : decode cX4_nextToken 153 = .ok (.bipush 7, 2) := by decide +kernel
theorem dX4_nextToken_155 : decode cX4_nextToken 155 = .ok (.if_icmp .ge 25, 3) := by decide +kernel
theorem dX4_nextToken_158 : decode cX4_nextToken 158 = .ok (.ldc2_w 100, 3) := by decide +kernel
theorem dX4_nextToken_161 : decode cX4_nextToken 161 = .ok (.aload_n 0, 1) := by decide +kernel
theorem dX4_nextToken_162 : decode cX4_nextToken 162 = .ok (.getfield 88, 3) := by decide +kernel
theorem dX4_nextToken_165 : decode cX4_nextToken 165 = .ok (.lmul, 1) := by decide +kernel
theorem dX4_nextToken_166 : decode cX4_nextToken 166 = .ok (.aload_n 0, 1) := by decide +kernel
theorem dX4_nextToken_167 : decode cX4_nextToken 167 = .ok (.getfield 30, 3) := by decide +kernel
theorem dX4_nextToken_170 : decode cX4_nextToken 170 = .ok (.aload_n 0, 1) := by decide +kernel
theorem dX4_nextToken_171 : decode cX4_nextToken 171 = .ok (.getfield 82, 3) := by decide +kernel
theorem dX4_nextToken_174 : decode cX4_nextToken 174 = .ok (.iaload, 1) := by decide +kernel
theorem dX4_nextToken_175 : decode cX4_nextToken 175 = .ok (.i2l, 1) := by decide +kernel
theorem dX4_nextToken_176 : decode cX4_nextToken 176 = .ok (.ladd, 1) := by decide +kernel
theorem dX4_nextToken_177 : decode cX4_nextToken 177 = .ok (.goto 6, 3) := by decide +kernel
theorem dX4_nextToken_180 : decode cX4_nextToken 180 = .ok (.ldc2_w 102, 3) := by decide +kernel
theorem dX4_nextToken_183 : decode cX4_nextToken 183 = .ok (.putfield 88, 3) := by decide +kernel
theorem dX4_nextToken_186 : decode cX4_nextToken 186 = .ok (.aload_n 0, 1) := by decide +kernel
theorem dX4_nextToken_187 : decode cX4_nextToken 187 = .ok (.iload_n 1, 1) := by decide +kernel
theorem dX4_nextToken_188 : decode cX4_nextToken 188 = .ok (.iconst 2, 1) := by decide +kernel
theorem dX4_nextToken_189 : decode cX4_nextToken 189 = .ok (.if_icmp .ge 26, 3) := by decide +kernel
theorem dX4_nextToken_192 : decode cX4_nextToken 192 = .ok (.bipush 10, 2) := by decide +kernel
theorem dX4_nextToken_194 : decode cX4_nextToken 194 = .ok (.aload_n 0, 1) := by decide +kernel
theorem dX4_nextToken_195 : decode cX4_nextToken 195 = .ok (.getfield 91, 3) := by decide +kernel
theorem dX4_nextToken_198 : decode cX4_nextToken 198 = .ok (.imul, 1) := by decide +kernel
theorem dX4_nextToken_199 : decode cX4_nextToken 199 = .ok (.aload_n 0, 1) := by decide +kernel
theorem dX4_nextToken_200 : decode cX4_nextToken 200 = .ok (.getfield 30, 3) := by decide +kernel
theorem dX4_nextToken_203 : decode cX4_nextToken 203 = .ok (.aload_n 0, 1) := by decide +kernel
theorem dX4_nextToken_204 : decode cX4_nextToken 204 = .ok (.getfield 82, 3) := by decide +kernel
theorem dX4_nextToken_207 : decode cX4_nextToken 207 = .ok (.iaload, 1) := by decide +kernel
theorem dX4_nextToken_208 : decode cX4_nextToken 208 = .ok (.iadd, 1) := by decide +kernel
theorem dX4_nextToken_209 : decode cX4_nextToken 209 = .ok (.bipush 48, 2) := by decide +kernel
theorem dX4_nextToken_211 : decode cX4_nextToken 211 = .ok (.isub, 1) := by decide +kernel
theorem dX4_nextToken_212 : decode cX4_nextToken 212 = .ok (.goto 7, 3) := by decide +kernel
theorem dX4_nextToken_215 : decode cX4_nextToken 215 = .ok (.aload_n 0, 1) := by decide +kernel
theorem dX4_nextToken_216 : decode cX4_nextToken 216 = .ok (.getfield 91, 3) := by decide +kernel
theorem dX4_nextToken_219 : decode cX4_nextToken 219 = .ok (.putfield 91, 3) := by decide +kernel
theorem dX4_nextToken_222 : decode cX4_nextToken 222 = .ok (.aload_n 0, 1) := by decide +kernel
theorem dX4_nextToken_223 : decode cX4_nextToken 223 = .ok (.dup, 1) := by decide +kernel
theorem dX4_nextToken_224 : decode cX4_nextToken 224 = .ok (.getfield 82, 3) := by decide +kernel
theorem dX4_nextToken_227 : decode cX4_nextToken 227 = .ok (.iconst 1, 1) := by decide +kernel
theorem dX4_nextToken_228 : decode cX4_nextToken 228 = .ok (.iadd, 1) := by decide +kernel
theorem dX4_nextToken_229 : decode cX4_nextToken 229 = .ok (.putfield 82, 3) := by decide +kernel
theorem dX4_nextToken_232 : decode cX4_nextToken 232 = .ok (.goto (-106), 3) := by decide +kernel
theorem dX4_nextToken_235 : decode cX4_nextToken 235 = .ok (.aload_n 0, 1) := by decide +kernel
theorem dX4_nextToken_236 : decode cX4_nextToken 236 = .ok (.aload_n 0, 1) := by decide +kernel
theorem dX4_nextToken_237 : decode cX4_nextToken 237 = .ok (.getfield 94, 3) := by decide +kernel
theorem dX4_nextToken_240 : decode cX4_nextToken 240 = .ok (.iconst 2, 1) := by decide +kernel
theorem dX4_nextToken_241 : decode cX4_nextToken 241 = .ok (.if_icmp .ne 20, 3) := by decide +kernel
theorem dX4_nextToken_244 : decode cX4_nextToken 244 = .ok (.aload_n 0, 1) := by decide +kernel
theorem dX4_nextToken_245 : decode cX4_nextToken 245 = .ok (.getfield 82, 3) := by decide +kernel
theorem dX4_nextToken_248 : decode cX4_nextToken 248 = .ok (.aload_n 0, 1) := by decide +kernel
theorem dX4_nextToken_249 : decode cX4_nextToken 249 = .ok (.getfield 85, 3) := by decide +kernel
theorem dX4_nextToken_252 : decode cX4_nextToken 252 = .ok (.isub, 1) := by decide +kernel
theorem dX4_nextToken_253 : decode cX4_nextToken 253 = .ok (.iconst 2, 1) := by decide +kernel
theorem dX4_nextToken_254 : decode cX4_nextToken 254 = .ok (.if_icmp .le 7, 3) := by decide +kernel
theorem dX4_nextToken_257 : decode cX4_nextToken 257 = .ok (.iconst 4, 1) := by decide +kernel
theorem dX4_nextToken_258 : decode cX4_nextToken 258 = .ok (.goto 7, 3) := by decide +kernel
theorem dX4_nextToken_261 : decode cX4_nextToken 261 = .ok (.aload_n 0, 1) := by decide +kernel
theorem dX4_nextToken_262 : decode cX4_nextToken 262 = .ok (.getfield 94, 3) := by decide +kernel
theorem dX4_nextToken_265 : decode cX4_nextToken 265 = .ok (.putfield 94, 3) := by decide +kernel
theorem dX4_nextToken_268 : decode cX4_nextToken 268 = .ok (.return_, 1) := by decide +kernel
theorem dX4_isNumber_0 : decode cX4_isNumber 0 = .ok (.aload_n 0, 1) := by decide +kernel
theorem dX4_isNumber_1 : decode cX4_isNumber 1 = .ok (.invokevirtual 104, 3) := by decide +kernel
theorem dX4_isNumber_4 : decode cX4_isNumber 4 = .ok (.aload_n 0, 1) := by decide +kernel
theorem dX4_isNumber_5 : decode cX4_isNumber 5 = .ok (.getfield 94, 3) := by decide +kernel
theorem dX4_isNumber_8 : decode cX4_isNumber 8 = .ok (.iconst 2, 1) := by decide +kernel
theorem dX4_isNumber_9 : decode cX4_isNumber 9 = .ok (.if_icmp .ne 19, 3) := by decide +kernel
theorem dX4_isNumber_12 : decode cX4_isNumber 12 = .ok (.aload_n 0, 1) := by decide +kernel
theorem dX4_isNumber_13 : decode cX4_isNumber 13 = .ok (.getfield 91, 3) := by decide +kernel
theorem dX4_isNumber_16 : decode cX4_isNumber 16 = .ok (.iload_n 1, 1) := by decide +kernel
theorem dX4_isNumber_17 : decode cX4_isNumber 17 = .ok (.iload_n 2, 1) := by decide +kernel
theorem dX4_isNumber_18 : decode cX4_isNumber 18 = .ok (.invokestatic 53, 3) := by decide +kernel
theorem dX4_isNumber_21 : decode cX4_isNumber 21 = .ok (.ifCond .eq 7, 3) := by decide +kernel
theorem dX4_isNumber_24 : decode cX4_isNumber 24 = .ok (.iconst 1, 1) := by decide +kernel
theorem dX4_isNumber_25 : decode cX4_isNumber 25 = .ok (.goto 4, 3) := by decide +kernel
theorem dX4_isNumber_28 : decode cX4_isNumber 28 = .ok (.iconst 0, 1) := by decide +kernel
theorem dX4_isNumber_29 : decode cX4_isNumber 29 = .ok (.ireturn, 1) := by decide +kernel
theorem dX4_lettersThere_0 : decode cX4_lettersThere 0 = .ok (.iconst 0, 1) := by decide +kernel
theorem dX4_lettersThere_1 : decode cX4_lettersThere 1 = .ok (.istore_n 2, 1) := by decide +kernel
theorem dX4_lettersThere_2 : decode cX4_lettersThere 2 = .ok (.iconst 0, 1) := by decide +kernel
theorem dX4_lettersThere_3 : decode cX4_lettersThere 3 = .ok (.istore_n 3, 1) := by decide +kernel
theorem dX4_lettersThere_4 : decode cX4_lettersThere 4 = .ok (.aload_n 0, 1) := by decide +kernel
theorem dX4_lettersThere_5 : decode cX4_lettersThere 5 = .ok (.invokevirtual 104, 3) := by decide +kernel
theorem dX4_lettersThere_8 : decode cX4_lettersThere 8 = .ok (.aload_n 0, 1) := by decide +kernel
theorem dX4_lettersThere_9 : decode cX4_lettersThere 9 = .ok (.getfield 94, 3) := by decide +kernel
theorem dX4_lettersThere_12 : decode cX4_lettersThere 12 = .ok (.iconst 2, 1) := by decide +kernel
theorem dX4_lettersThere_13 : decode cX4_lettersThere 13 = .ok (.if_icmp .ne 42, 3) := by decide +kernel
theorem dX4_lettersThere_16 : decode cX4_lettersThere 16 = .ok (.aload_n 0, 1) := by decide +kernel
theorem dX4_lettersThere_17 : decode cX4_lettersThere 17 = .ok (.getfield 91, 3) := by decide +kernel
theorem dX4_lettersThere_20 : decode cX4_lettersThere 20 = .ok (.iconst 0, 1) := by decide +kernel
theorem dX4_lettersThere_21 : decode cX4_lettersThere 21 = .ok (.bipush 9, 2) := by decide +kernel
theorem dX4_lettersThere_23 : decode cX4_lettersThere 23 = .ok (.invokestatic 53, 3) := by decide +kernel
theorem dX4_lettersThere_26 : decode cX4_lettersThere 26 = .ok (.ifCond .eq 29, 3) := by decide +kernel
theorem dX4_lettersThere_29 : decode cX4_lettersThere 29 = .ok (.iload_n 2, 1) := by decide +kernel
theorem dX4_lettersThere_30 : decode cX4_lettersThere 30 = .ok (.bipush 6, 2) := by decide +kernel
theorem dX4_lettersThere_32 : decode cX4_lettersThere 32 = .ok (.if_icmp .ge 23, 3) := by decide +kernel
theorem dX4_lettersThere_35 : decode cX4_lettersThere 35 = .ok (.bipush 10, 2) := by decide +kernel
theorem dX4_lettersThere_37 : decode cX4_lettersThere 37 = .ok (.iload_n 3, 1) := by decide +kernel
theorem dX4_lettersThere_38 : decode cX4_lettersThere 38 = .ok (.imul, 1) := by decide +kernel
theorem dX4_lettersThere_39 : decode cX4_lettersThere 39 = .ok (.aload_n 0, 1) := by decide +kernel
theorem dX4_lettersThere_40 : decode cX4_lettersThere 40 = .ok (.getfield 91, 3) := by decide +kernel
theorem dX4_lettersThere_43 : decode cX4_lettersThere 43 = .ok (.iadd, 1) := by decide +kernel
theorem dX4_lettersThere_44 : decode cX4_lettersThere 44 = .ok (.istore_n 3, 1) := by decide +kernel
theorem dX4_lettersThere_45 : decode cX4_lettersThere 45 = .ok (.iinc 2 1, 3) := by decide +kernel
theorem dX4_lettersThere_48 : decode cX4_lettersThere 48 = .ok (.aload_n 0, 1) := by decide +kernel
theorem dX4_lettersThere_49 : decode cX4_lettersThere 49 = .ok (.invokevirtual 104, 3) := by decide +kernel
theorem dX4_lettersThere_52 : decode cX4_lettersThere 52 = .ok (.goto (-44), 3) := by decide +kernel
theorem dX4_lettersThere_55 : decode cX4_lettersThere 55 = .ok (.aload_n 0, 1) := by decide +kernel
theorem dX4_lettersThere_56 : decode cX4_lettersThere 56 = .ok (.getfield 94, 3) := by decide +kernel
theorem dX4_lettersThere_59 : decode cX4_lettersThere 59 = .ok (.iconst 3, 1) := by decide +kernel
theorem dX4_lettersThere_60 : decode cX4_lettersThere 60 = .ok (.if_icmp .ne 8, 3) := by decide +kernel
theorem dX4_lettersThere_63 : decode cX4_lettersThere 63 = .ok (.iload_n 2, 1) := by decide +kernel
theorem dX4_lettersThere_64 : decode cX4_lettersThere 64 = .ok (.iload_n 1, 1) := by decide +kernel
theorem dX4_lettersThere_65 : decode cX4_lettersThere 65 = .ok (.if_icmp .ge 5, 3) := by decide +kernel
theorem dX4_lettersThere_68 : decode cX4_lettersThere 68 = .ok (.iconst (-1), 1) := by decide +kernel
theorem dX4_lettersThere_69 : decode cX4_lettersThere 69 = .ok (.ireturn, 1) := by decide +kernel
theorem dX4_lettersThere_70 : decode cX4_lettersThere 70 = .ok (.aload_n 0, 1) := by decide +kernel
theorem dX4_lettersThere_71 : decode cX4_lettersThere 71 = .ok (.iload_n 3, 1) := by decide +kernel
theorem dX4_lettersThere_72 : decode cX4_lettersThere 72 = .ok (.putfield 91, 3) := by decide +kernel
theorem dX4_lettersThere_75 : decode cX4_lettersThere 75 = .ok (.iload_n 2, 1) := by decide +kernel
theorem dX4_lettersThere_76 : decode cX4_lettersThere 76 = .ok (.ireturn, 1) := by decide +kernel
theorem dX4_isVerseItem_0 : decode cX4_isVerseItem 0 = .ok (.aload_n 0, 1) := by decide +kernel
theorem dX4_isVerseItem_1 : decode cX4_isVerseItem 1 = .ok (.iconst 0, 1) := by decide +kernel
theorem dX4_isVerseItem_2 : decode cX4_isVerseItem 2 = .ok (.iconst 5, 1) := by decide +kernel
theorem dX4_isVerseItem_3 : decode cX4_isVerseItem 3 = .ok (.invokevirtual 107, 3) := by decide +kernel
theorem dX4_isVerseItem_6 : decode cX4_isVerseItem 6 = .ok (.ifCond .ne 5, 3) := by decide +kernel
theorem dX4_isVerseItem_9 : decode cX4_isVerseItem 9 = .ok (.iconst 0, 1) := by decide +kernel
theorem dX4_isVerseItem_10 : decode cX4_isVerseItem 10 = .ok (.ireturn, 1) := by decide +kernel
theorem dX4_isVerseItem_11 : decode cX4_isVerseItem 11 = .ok (.aload_n 0, 1) := by decide +kernel
theorem dX4_isVerseItem_12 : decode cX4_isVerseItem 12 = .ok (.getfield 13, 3) := by decide +kernel
theorem dX4_isVerseItem_15 : decode cX4_isVerseItem 15 = .ok (.iconst 0, 1) := by decide +kernel
theorem dX4_isVerseItem_16 : decode cX4_isVerseItem 16 = .ok (.aload_n 0, 1) := by decide +kernel
theorem dX4_isVerseItem_17 : decode cX4_isVerseItem 17 = .ok (.getfield 91, 3) := by decide +kernel
theorem dX4_isVerseItem_20 : decode cX4_isVerseItem 20 = .ok (.iastore, 1) := by decide +kernel
theorem dX4_isVerseItem_21 : decode cX4_isVerseItem 21 = .ok (.aload_n 0, 1) := by decide +kernel
theorem dX4_isVerseItem_22 : decode cX4_isVerseItem 22 = .ok (.getfield 13, 3) := by decide +kernel
theorem dX4_isVerseItem_25 : decode cX4_isVerseItem 25 = .ok (.iconst 1, 1) := by decide +kernel
theorem dX4_isVerseItem_26 : decode cX4_isVerseItem 26 = .ok (.aload_n 0, 1) := by decide +kernel
theorem dX4_isVerseItem_27 : decode cX4_isVerseItem 27 = .ok (.iconst 1, 1) := by decide +kernel
theorem dX4_isVerseItem_28 : decode cX4_isVerseItem 28 = .ok (.invokevirtual 111, 3) := by decide +kernel
theorem dX4_isVerseItem_31 : decode cX4_isVerseItem 31 = .ok (.iastore, 1) := by decide +kernel
theorem dX4_isVerseItem_32 : decode cX4_isVerseItem 32 = .ok (.aload_n 0, 1) := by decide +kernel
theorem dX4_isVerseItem_33 : decode cX4_isVerseItem 33 = .ok (.getfield 13, 3) := by decide +kernel
theorem dX4_isVerseItem_36 : decode cX4_isVerseItem 36 = .ok (.iconst 2, 1) := by decide +kernel
theorem dX4_isVerseItem_37 : decode cX4_isVerseItem 37 = .ok (.aload_n 0, 1) := by decide +kernel
theorem dX4_isVerseItem_38 : decode cX4_isVerseItem 38 = .ok (.getfield 91, 3) := by decide +kernel
theorem dX4_isVerseItem_41 : decode cX4_isVerseItem 41 = .ok (.iastore, 1) := by decide +kernel
theorem dX4_isVerseItem_42 : decode cX4_isVerseItem 42 = .ok (.aload_n 0, 1) := by decide +kernel
theorem dX4_isVerseItem_43 : decode cX4_isVerseItem 43 = .ok (.getfield 13, 3) := by decide +kernel
theorem dX4_isVerseItem_46 : decode cX4_isVerseItem 46 = .ok (.iconst 1, 1) := by decide +kernel
theorem dX4_isVerseItem_47 : decode cX4_isVerseItem 47 = .ok (.iaload, 1) := by decide +kernel
theorem dX4_isVerseItem_48 : decode cX4_isVerseItem 48 = .ok (.ifCond .le 7, 3) := by decide +kernel
theorem dX4_isVerseItem_51 : decode cX4_isVerseItem 51 = .ok (.iconst 1, 1) := by decide +kernel
theorem dX4_isVerseItem_52 : decode cX4_isVerseItem 52 = .ok (.goto 4, 3) := by decide +kernel
theorem dX4_isVerseItem_55 : decode cX4_isVerseItem 55 = .ok (.iconst 0, 1) := by decide +kernel
theorem dX4_isVerseItem_56 : decode cX4_isVerseItem 56 = .ok (.ireturn, 1) := by decide +kernel
theorem dX4_isWordItem_0 : decode cX4_isWordItem 0 = .ok (.aload_n 0, 1) := by decide +kernel
theorem dX4_isWordItem_1 : decode cX4_isWordItem 1 = .ok (.getfield 13, 3) := by decide +kernel
theorem dX4_isWordItem_4 : decode cX4_isWordItem 4 = .ok (.iconst 3, 1) := by decide +kernel
theorem dX4_isWordItem_5 : decode cX4_isWordItem 5 = .ok (.iaload, 1) := by decide +kernel
theorem dX4_isWordItem_6 : decode cX4_isWordItem 6 = .ok (.bipush 8, 2) := by decide +kernel
theorem dX4_isWordItem_8 : decode cX4_isWordItem 8 = .ok (.if_icmp .eq 12, 3) := by decide +kernel
theorem dX4_isWordItem_11 : decode cX4_isWordItem 11 = .ok (.aload_n 0, 1) := by decide +kernel
theorem dX4_isWordItem_12 : decode cX4_isWordItem 12 = .ok (.iconst 0, 1) := by decide +kernel
theorem dX4_isWordItem_13 : decode cX4_isWordItem 13 = .ok (.iconst 5, 1) := by decide +kernel
theorem dX4_isWordItem_14 : decode cX4_isWordItem 14 = .ok (.invokevirtual 107, 3) := by decide +kernel
theorem dX4_isWordItem_17 : decode cX4_isWordItem 17 = .ok (.ifCond .ne 5, 3) := by decide +kernel
theorem dX4_isWordItem_20 : decode cX4_isWordItem 20 = .ok (.iconst 0, 1) := by decide +kernel
theorem dX4_isWordItem_21 : decode cX4_isWordItem 21 = .ok (.ireturn, 1) := by decide +kernel
theorem dX4_isWordItem_22 : decode cX4_isWordItem 22 = .ok (.aload_n 0, 1) := by decide +kernel
theorem dX4_isWordItem_23 : decode cX4_isWordItem 23 = .ok (.getfield 91, 3) := by decide +kernel
theorem dX4_isWordItem_26 : decode cX4_isWordItem 26 = .ok (.istore_n 1, 1) := by decide +kernel
theorem dX4_isWordItem_27 : decode cX4_isWordItem 27 = .ok (.aload_n 0, 1) := by decide +kernel
theorem dX4_isWordItem_28 : decode cX4_isWordItem 28 = .ok (.iconst 3, 1) := by decide +kernel
theorem dX4_isWordItem_29 : decode cX4_isWordItem 29 = .ok (.invokevirtual 111, 3) := by decide +kernel
theorem dX4_isWordItem_32 : decode cX4_isWordItem 32 = .ok (.istore_n 2, 1) := by decide +kernel
theorem dX4_isWordItem_33 : decode cX4_isWordItem 33 = .ok (.iload_n 2, 1) := by decide +kernel
theorem dX4_isWordItem_34 : decode cX4_isWordItem 34 = .ok (.ifCond .lt 18, 3) := by decide +kernel
theorem dX4_isWordItem_37 : decode cX4_isWordItem 37 = .ok (.aload_n 0, 1) := by decide +kernel
theorem dX4_isWordItem_38 : decode cX4_isWordItem 38 = .ok (.getfield 13, 3) := by decide +kernel
theorem dX4_isWordItem_41 : decode cX4_isWordItem 41 = .ok (.iload_n 2, 1) := by decide +kernel
theorem dX4_isWordItem_42 : decode cX4_isWordItem 42 = .ok (.aload_n 0, 1) := by decide +kernel
theorem dX4_isWordItem_43 : decode cX4_isWordItem 43 = .ok (.getfield 91, 3) := by decide +kernel
theorem dX4_isWordItem_46 : decode cX4_isWordItem 46 = .ok (.invokestatic 64, 3) := by decide +kernel
theorem dX4_isWordItem_49 : decode cX4_isWordItem 49 = .ok (.ifCond .eq 5, 3) := by decide +kernel
theorem dX4_isWordItem_52 : decode cX4_isWordItem 52 = .ok (.iconst 0, 1) := by decide +kernel
theorem dX4_isWordItem_53 : decode cX4_isWordItem 53 = .ok (.ireturn, 1) := by decide +kernel
theorem dX4_isWordItem_54 : decode cX4_isWordItem 54 = .ok (.aload_n 0, 1) := by decide +kernel
theorem dX4_isWordItem_55 : decode cX4_isWordItem 55 = .ok (.getfield 13, 3) := by decide +kernel
theorem dX4_isWordItem_58 : decode cX4_isWordItem 58 = .ok (.iload_n 1, 1) := by decide +kernel
theorem dX4_isWordItem_59 : decode cX4_isWordItem 59 = .ok (.iload_n 2, 1) := by decide +kernel
theorem dX4_isWordItem_60 : decode cX4_isWordItem 60 = .ok (.aload_n 0, 1) := by decide +kernel
theorem dX4_isWordItem_61 : decode cX4_isWordItem 61 = .ok (.getfield 91, 3) := by decide +kernel
theorem dX4_isWordItem_64 : decode cX4_isWordItem 64 = .ok (.invokestatic 74, 3) := by decide +kernel
theorem dX4_isWordItem_67 : decode cX4_isWordItem 67 = .ok (.pop, 1) := by decide +kernel
theorem dX4_isWordItem_68 : decode cX4_isWordItem 68 = .ok (.iconst 1, 1) := by decide +kernel
theorem dX4_isWordItem_69 : decode cX4_isWordItem 69 = .ok (.ireturn, 1) := by decide +kernel
theorem dX4_lineOf_0 : decode cX4_lineOf 0 = .ok (.iconst (-1), 1) := by decide +kernel
theorem dX4_lineOf_1 : decode cX4_lineOf 1 = .ok (.istore_n 2, 1) := by decide +kernel
theorem dX4_lineOf_2 : decode cX4_lineOf 2 = .ok (.iconst 0, 1) := by decide +kernel
theorem dX4_lineOf_3 : decode cX4_lineOf 3 = .ok (.istore_n 3, 1) := by decide +kernel
theorem dX4_lineOf_4 : decode cX4_lineOf 4 = .ok (.iload_n 3, 1) := by decide +kernel
theorem dX4_lineOf_5 : decode cX4_lineOf 5 = .ok (.aload_n 0, 1) := by decide +kernel
theorem dX4_lineOf_6 : decode cX4_lineOf 6 = .ok (.iconst 1, 1) := by decide +kernel
theorem dX4_lineOf_7 : decode cX4_lineOf 7 = .ok (.iaload, 1) := by decide +kernel
theorem dX4_lineOf_8 : decode cX4_lineOf 8 = .ok (.if_icmp .ge 25, 3) := by decide +kernel
theorem dX4_lineOf_11 : decode cX4_lineOf 11 = .ok (.aload_n 0, 1) := by decide +kernel
theorem dX4_lineOf_12 : decode cX4_lineOf 12 = .ok (.bipush 28, 2) := by decide +kernel
theorem dX4_lineOf_14 : decode cX4_lineOf 14 = .ok (.iload_n 3, 1) := by decide +kernel
theorem dX4_lineOf_15 : decode cX4_lineOf 15 = .ok (.iadd, 1) := by decide +kernel
theorem dX4_lineOf_16 : decode cX4_lineOf 16 = .ok (.iaload, 1) := by decide +kernel
theorem dX4_lineOf_17 : decode cX4_lineOf 17 = .ok (.iload_n 1, 1) := by decide +kernel
theorem dX4_lineOf_18 : decode cX4_lineOf 18 = .ok (.if_icmp .ne 7, 3) := by decide +kernel
theorem dX4_lineOf_21 : decode cX4_lineOf 21 = .ok (.iload_n 3, 1) := by decide +kernel
theorem dX4_lineOf_22 : decode cX4_lineOf 22 = .ok (.goto 4, 3) := by decide +kernel
theorem dX4_lineOf_25 : decode cX4_lineOf 25 = .ok (.iload_n 2, 1) := by decide +kernel
theorem dX4_lineOf_26 : decode cX4_lineOf 26 = .ok (.istore_n 2, 1) := by decide +kernel
theorem dX4_lineOf_27 : decode cX4_lineOf 27 = .ok (.iinc 3 1, 3) := by decide +kernel
theorem dX4_lineOf_30 : decode cX4_lineOf 30 = .ok (.goto (-26), 3) := by decide +kernel
theorem dX4_lineOf_33 : decode cX4_lineOf 33 = .ok (.iload_n 2, 1) := by decide +kernel
theorem dX4_lineOf_34 : decode cX4_lineOf 34 = .ok (.ireturn, 1) := by decide +kernel
theorem dX4_isPutItem_0 : decode cX4_isPutItem 0 = .ok (.aload_n 0, 1) := by decide +kernel
theorem dX4_isPutItem_1 : decode cX4_isPutItem 1 = .ok (.iconst 0, 1) := by decide +kernel
theorem dX4_isPutItem_2 : decode cX4_isPutItem 2 = .ok (.aload_n 0, 1) := by decide +kernel
theorem dX4_isPutItem_3 : decode cX4_isPutItem 3 = .ok (.getfield 13, 3) := by decide +kernel
theorem dX4_isPutItem_6 : decode cX4_isPutItem 6 = .ok (.iconst 1, 1) := by decide +kernel
theorem dX4_isPutItem_7 : decode cX4_isPutItem 7 = .ok (.iaload, 1) := by decide +kernel
theorem dX4_isPutItem_8 : decode cX4_isPutItem 8 = .ok (.iconst 1, 1) := by decide +kernel
theorem dX4_isPutItem_9 : decode cX4_isPutItem 9 = .ok (.isub, 1) := by decide +kernel
theorem dX4_isPutItem_10 : decode cX4_isPutItem 10 = .ok (.invokevirtual 107, 3) := by decide +kernel
theorem dX4_isPutItem_13 : decode cX4_isPutItem 13 = .ok (.ifCond .eq 19, 3) := by decide +kernel
theorem dX4_isPutItem_16 : decode cX4_isPutItem 16 = .ok (.aload_n 0, 1) := by decide +kernel
theorem dX4_isPutItem_17 : decode cX4_isPutItem 17 = .ok (.getfield 13, 3) := by decide +kernel
theorem dX4_isPutItem_20 : decode cX4_isPutItem 20 = .ok (.bipush 28, 2) := by decide +kernel
theorem dX4_isPutItem_22 : decode cX4_isPutItem 22 = .ok (.aload_n 0, 1) := by decide +kernel
theorem dX4_isPutItem_23 : decode cX4_isPutItem 23 = .ok (.getfield 91, 3) := by decide +kernel
theorem dX4_isPutItem_26 : decode cX4_isPutItem 26 = .ok (.iadd, 1) := by decide +kernel
theorem dX4_isPutItem_27 : decode cX4_isPutItem 27 = .ok (.iaload, 1) := by decide +kernel
theorem dX4_isPutItem_28 : decode cX4_isPutItem 28 = .ok (.iconst (-1), 1) := by decide +kernel
theorem dX4_isPutItem_29 : decode cX4_isPutItem 29 = .ok (.if_icmp .eq 5, 3) := by decide +kernel
theorem dX4_isPutItem_32 : decode cX4_isPutItem 32 = .ok (.iconst 0, 1) := by decide +kernel
theorem dX4_isPutItem_33 : decode cX4_isPutItem 33 = .ok (.ireturn, 1) := by decide +kernel
theorem dX4_isPutItem_34 : decode cX4_isPutItem 34 = .ok (.aload_n 0, 1) := by decide +kernel
theorem dX4_isPutItem_35 : decode cX4_isPutItem 35 = .ok (.getfield 91, 3) := by decide +kernel
theorem dX4_isPutItem_38 : decode cX4_isPutItem 38 = .ok (.istore_n 1, 1) := by decide +kernel
theorem dX4_isPutItem_39 : decode cX4_isPutItem 39 = .ok (.aload_n 0, 1) := by decide +kernel
theorem dX4_isPutItem_40 : decode cX4_isPutItem 40 = .ok (.iconst 0, 1) := by decide +kernel
theorem dX4_isPutItem_41 : decode cX4_isPutItem 41 = .ok (.aload_n 0, 1) := by decide +kernel
theorem dX4_isPutItem_42 : decode cX4_isPutItem 42 = .ok (.getfield 13, 3) := by decide +kernel
theorem dX4_isPutItem_45 : decode cX4_isPutItem 45 = .ok (.iconst 3, 1) := by decide +kernel
theorem dX4_isPutItem_46 : decode cX4_isPutItem 46 = .ok (.iaload, 1) := by decide +kernel
theorem dX4_isPutItem_47 : decode cX4_isPutItem 47 = .ok (.iconst 1, 1) := by decide +kernel
theorem dX4_isPutItem_48 : decode cX4_isPutItem 48 = .ok (.isub, 1) := by decide +kernel
theorem dX4_isPutItem_49 : decode cX4_isPutItem 49 = .ok (.invokevirtual 107, 3) := by decide +kernel
theorem dX4_isPutItem_52 : decode cX4_isPutItem 52 = .ok (.ifCond .eq 18, 3) := by decide +kernel
theorem dX4_isPutItem_55 : decode cX4_isPutItem 55 = .ok (.aload_n 0, 1) := by decide +kernel
theorem dX4_isPutItem_56 : decode cX4_isPutItem 56 = .ok (.getfield 13, 3) := by decide +kernel
theorem dX4_isPutItem_59 : decode cX4_isPutItem 59 = .ok (.aload_n 0, 1) := by decide +kernel
theorem dX4_isPutItem_60 : decode cX4_isPutItem 60 = .ok (.getfield 91, 3) := by decide +kernel
theorem dX4_isPutItem_63 : decode cX4_isPutItem 63 = .ok (.invokestatic 114, 3) := by decide +kernel
theorem dX4_isPutItem_66 : decode cX4_isPutItem 66 = .ok (.iconst (-1), 1) := by decide +kernel
theorem dX4_isPutItem_67 : decode cX4_isPutItem 67 = .ok (.if_icmp .eq 5, 3) := by decide +kernel
theorem dX4_isPutItem_70 : decode cX4_isPutItem 70 = .ok (.iconst 0, 1) := by decide +kernel
theorem dX4_isPutItem_71 : decode cX4_isPutItem 71 = .ok (.ireturn, 1) := by decide +kernel
theorem dX4_isPutItem_72 : decode cX4_isPutItem 72 = .ok (.aload_n 0, 1) := by decide +kernel
theorem dX4_isPutItem_73 : decode cX4_isPutItem 73 = .ok (.getfield 13, 3) := by decide +kernel
theorem dX4_isPutItem_76 : decode cX4_isPutItem 76 = .ok (.bipush 28, 2) := by decide +kernel
theorem dX4_isPutItem_78 : decode cX4_isPutItem 78 = .ok (.iload_n 1, 1) := by decide +kernel
theorem dX4_isPutItem_79 : decode cX4_isPutItem 79 = .ok (.iadd, 1) := by decide +kernel
theorem dX4_isPutItem_80 : decode cX4_isPutItem 80 = .ok (.aload_n 0, 1) := by decide +kernel
theorem dX4_isPutItem_81 : decode cX4_isPutItem 81 = .ok (.getfield 91, 3) := by decide +kernel
theorem dX4_isPutItem_84 : decode cX4_isPutItem 84 = .ok (.iastore, 1) := by decide +kernel
theorem dX4_isPutItem_85 : decode cX4_isPutItem 85 = .ok (.aload_n 0, 1) := by decide +kernel
theorem dX4_isPutItem_86 : decode cX4_isPutItem 86 = .ok (.invokevirtual 104, 3) := by decide +kernel
theorem dX4_isPutItem_89 : decode cX4_isPutItem 89 = .ok (.aload_n 0, 1) := by decide +kernel
theorem dX4_isPutItem_90 : decode cX4_isPutItem 90 = .ok (.getfield 94, 3) := by decide +kernel
theorem dX4_isPutItem_93 : decode cX4_isPutItem 93 = .ok (.iconst 3, 1) := by decide +kernel
theorem dX4_isPutItem_94 : decode cX4_isPutItem 94 = .ok (.if_icmp .ne 7, 3) := by decide +kernel
theorem dX4_isPutItem_97 : decode cX4_isPutItem 97 = .ok (.iconst 1, 1) := by decide +kernel
theorem dX4_isPutItem_98 : decode cX4_isPutItem 98 = .ok (.goto 4, 3) := by decide +kernel
theorem dX4_isPutItem_101 : decode cX4_isPutItem 101 = .ok (.iconst 0, 1) := by decide +kernel
theorem dX4_isPutItem_102 : decode cX4_isPutItem 102 = .ok (.ireturn, 1) := by decide +kernel
theorem dX4_isTakeItem_0 : decode cX4_isTakeItem 0 = .ok (.aload_n 0, 1) := by decide +kernel
theorem dX4_isTakeItem_1 : decode cX4_isTakeItem 1 = .ok (.iconst 0, 1) := by decide +kernel
theorem dX4_isTakeItem_2 : decode cX4_isTakeItem 2 = .ok (.aload_n 0, 1) := by decide +kernel
theorem dX4_isTakeItem_3 : decode cX4_isTakeItem 3 = .ok (.getfield 13, 3) := by decide +kernel
theorem dX4_isTakeItem_6 : decode cX4_isTakeItem 6 = .ok (.iconst 1, 1) := by decide +kernel
theorem dX4_isTakeItem_7 : decode cX4_isTakeItem 7 = .ok (.iaload, 1) := by decide +kernel
theorem dX4_isTakeItem_8 : decode cX4_isTakeItem 8 = .ok (.iconst 1, 1) := by decide +kernel
theorem dX4_isTakeItem_9 : decode cX4_isTakeItem 9 = .ok (.isub, 1) := by decide +kernel
theorem dX4_isTakeItem_10 : decode cX4_isTakeItem 10 = .ok (.invokevirtual 107, 3) := by decide +kernel
theorem dX4_isTakeItem_13 : decode cX4_isTakeItem 13 = .ok (.ifCond .eq 19, 3) := by decide +kernel
theorem dX4_isTakeItem_16 : decode cX4_isTakeItem 16 = .ok (.aload_n 0, 1) := by decide +kernel
theorem dX4_isTakeItem_17 : decode cX4_isTakeItem 17 = .ok (.getfield 13, 3) := by decide +kernel
theorem dX4_isTakeItem_20 : decode cX4_isTakeItem 20 = .ok (.bipush 28, 2) := by decide +kernel
theorem dX4_isTakeItem_22 : decode cX4_isTakeItem 22 = .ok (.aload_n 0, 1) := by decide +kernel
theorem dX4_isTakeItem_23 : decode cX4_isTakeItem 23 = .ok (.getfield 91, 3) := by decide +kernel
theorem dX4_isTakeItem_26 : decode cX4_isTakeItem 26 = .ok (.iadd, 1) := by decide +kernel
theorem dX4_isTakeItem_27 : decode cX4_isTakeItem 27 = .ok (.iaload, 1) := by decide +kernel
theorem dX4_isTakeItem_28 : decode cX4_isTakeItem 28 = .ok (.iconst (-1), 1) := by decide +kernel
theorem dX4_isTakeItem_29 : decode cX4_isTakeItem 29 = .ok (.if_icmp .ne 5, 3) := by decide +kernel
theorem dX4_isTakeItem_32 : decode cX4_isTakeItem 32 = .ok (.iconst 0, 1) := by decide +kernel
theorem dX4_isTakeItem_33 : decode cX4_isTakeItem 33 = .ok (.ireturn, 1) := by decide +kernel
theorem dX4_isTakeItem_34 : decode cX4_isTakeItem 34 = .ok (.aload_n 0, 1) := by decide +kernel
theorem dX4_isTakeItem_35 : decode cX4_isTakeItem 35 = .ok (.getfield 13, 3) := by decide +kernel
theorem dX4_isTakeItem_38 : decode cX4_isTakeItem 38 = .ok (.bipush 28, 2) := by decide +kernel
theorem dX4_isTakeItem_40 : decode cX4_isTakeItem 40 = .ok (.aload_n 0, 1) := by decide +kernel
theorem dX4_isTakeItem_41 : decode cX4_isTakeItem 41 = .ok (.getfield 91, 3) := by decide +kernel
theorem dX4_isTakeItem_44 : decode cX4_isTakeItem 44 = .ok (.iadd, 1) := by decide +kernel
theorem dX4_isTakeItem_45 : decode cX4_isTakeItem 45 = .ok (.iconst (-1), 1) := by decide +kernel
theorem dX4_isTakeItem_46 : decode cX4_isTakeItem 46 = .ok (.iastore, 1) := by decide +kernel
theorem dX4_isTakeItem_47 : decode cX4_isTakeItem 47 = .ok (.aload_n 0, 1) := by decide +kernel
theorem dX4_isTakeItem_48 : decode cX4_isTakeItem 48 = .ok (.invokevirtual 104, 3) := by decide +kernel
theorem dX4_isTakeItem_51 : decode cX4_isTakeItem 51 = .ok (.aload_n 0, 1) := by decide +kernel
theorem dX4_isTakeItem_52 : decode cX4_isTakeItem 52 = .ok (.getfield 94, 3) := by decide +kernel
theorem dX4_isTakeItem_55 : decode cX4_isTakeItem 55 = .ok (.iconst 3, 1) := by decide +kernel
theorem dX4_isTakeItem_56 : decode cX4_isTakeItem 56 = .ok (.if_icmp .ne 7, 3) := by decide +kernel
theorem dX4_isTakeItem_59 : decode cX4_isTakeItem 59 = .ok (.iconst 1, 1) := by decide +kernel
theorem dX4_isTakeItem_60 : decode cX4_isTakeItem 60 = .ok (.goto 4, 3) := by decide +kernel
theorem dX4_isTakeItem_63 : decode cX4_isTakeItem 63 = .ok (.iconst 0, 1) := by decide +kernel
theorem dX4_isTakeItem_64 : decode cX4_isTakeItem 64 = .ok (.ireturn, 1) := by decide +kernel
theorem dX4_isItem_0 : decode cX4_isItem 0 = .ok (.aload_n 0, 1) := by decide +kernel
theorem dX4_isItem_1 : decode cX4_isItem 1 = .ok (.getfield 118, 3) := by decide +kernel
theorem dX4_isItem_4 : decode cX4_isItem 4 = .ok (.ifCond .ne 7, 3) := by decide +kernel
theorem dX4_isItem_7 : decode cX4_isItem 7 = .ok (.iconst 1, 1) := by decide +kernel
theorem dX4_isItem_8 : decode cX4_isItem 8 = .ok (.goto 4, 3) := by decide +kernel
theorem dX4_isItem_11 : decode cX4_isItem 11 = .ok (.iconst 0, 1) := by decide +kernel
theorem dX4_isItem_12 : decode cX4_isItem 12 = .ok (.istore_n 1, 1) := by decide +kernel
theorem dX4_isItem_13 : decode cX4_isItem 13 = .ok (.aload_n 0, 1) := by decide +kernel
theorem dX4_isItem_14 : decode cX4_isItem 14 = .ok (.getfield 94, 3) := by decide +kernel
theorem dX4_isItem_17 : decode cX4_isItem 17 = .ok (.iconst 1, 1) := by decide +kernel
theorem dX4_isItem_18 : decode cX4_isItem 18 = .ok (.if_icmp .ne 23, 3) := by decide +kernel
theorem dX4_isItem_21 : decode cX4_isItem 21 = .ok (.iload_n 1, 1) := by decide +kernel
theorem dX4_isItem_22 : decode cX4_isItem 22 = .ok (.aload_n 0, 1) := by decide +kernel
theorem dX4_isItem_23 : decode cX4_isItem 23 = .ok (.getfield 88, 3) := by decide +kernel
theorem dX4_isItem_26 : decode cX4_isItem 26 = .ok (.ldc2_w 121, 3) := by decide +kernel
theorem dX4_isItem_29 : decode cX4_isItem 29 = .ok (.lcmp, 1) := by decide +kernel
theorem dX4_isItem_30 : decode cX4_isItem 30 = .ok (.ifCond .ne 7, 3) := by decide +kernel
theorem dX4_isItem_33 : decode cX4_isItem 33 = .ok (.iconst 1, 1) := by decide +kernel
theorem dX4_isItem_34 : decode cX4_isItem 34 = .ok (.goto 4, 3) := by decide +kernel
theorem dX4_isItem_37 : decode cX4_isItem 37 = .ok (.iconst 0, 1) := by decide +kernel
theorem dX4_isItem_38 : decode cX4_isItem 38 = .ok (.if_icmp .eq 5, 3) := by decide +kernel
theorem dX4_isItem_41 : decode cX4_isItem 41 = .ok (.iconst 0, 1) := by decide +kernel
theorem dX4_isItem_42 : decode cX4_isItem 42 = .ok (.ireturn, 1) := by decide +kernel
theorem dX4_isItem_43 : decode cX4_isItem 43 = .ok (.iload_n 1, 1) := by decide +kernel
theorem dX4_isItem_44 : decode cX4_isItem 44 = .ok (.ifCond .eq 8, 3) := by decide +kernel
theorem dX4_isItem_47 : decode cX4_isItem 47 = .ok (.aload_n 0, 1) := by decide +kernel
theorem dX4_isItem_48 : decode cX4_isItem 48 = .ok (.invokevirtual 123, 3) := by decide +kernel
theorem dX4_isItem_51 : decode cX4_isItem 51 = .ok (.ireturn, 1) := by decide +kernel
theorem dX4_isItem_52 : decode cX4_isItem 52 = .ok (.aload_n 0, 1) := by decide +kernel
theorem dX4_isItem_53 : decode cX4_isItem 53 = .ok (.getfield 88, 3) := by decide +kernel
theorem dX4_isItem_56 : decode cX4_isItem 56 = .ok (.ldc2_w 127, 3) := by decide +kernel
theorem dX4_isItem_59 : decode cX4_isItem 59 = .ok (.lcmp, 1) := by decide +kernel
theorem dX4_isItem_60 : decode cX4_isItem 60 = .ok (.ifCond .ne 8, 3) := by decide +kernel
theorem dX4_isItem_63 : decode cX4_isItem 63 = .ok (.aload_n 0, 1) := by decide +kernel
theorem dX4_isItem_64 : decode cX4_isItem 64 = .ok (.invokevirtual 129, 3) := by decide +kernel
theorem dX4_isItem_67 : decode cX4_isItem 67 = .ok (.ireturn, 1) := by decide +kernel
theorem dX4_isItem_68 : decode cX4_isItem 68 = .ok (.aload_n 0, 1) := by decide +kernel
theorem dX4_isItem_69 : decode cX4_isItem 69 = .ok (.getfield 88, 3) := by decide +kernel
theorem dX4_isItem_72 : decode cX4_isItem 72 = .ok (.ldc2_w 132, 3) := by decide +kernel
theorem dX4_isItem_75 : decode cX4_isItem 75 = .ok (.lcmp, 1) := by decide +kernel
theorem dX4_isItem_76 : decode cX4_isItem 76 = .ok (.ifCond .ne 10, 3) := by decide +kernel
theorem dX4_isItem_79 : decode cX4_isItem 79 = .ok (.aload_n 0, 1) := by decide +kernel
theorem dX4_isItem_80 : decode cX4_isItem 80 = .ok (.invokevirtual 134, 3) := by decide +kernel
theorem dX4_isItem_83 : decode cX4_isItem 83 = .ok (.goto 26, 3) := by decide +kernel
theorem dX4_isItem_86 : decode cX4_isItem 86 = .ok (.aload_n 0, 1) := by decide +kernel
theorem dX4_isItem_87 : decode cX4_isItem 87 = .ok (.getfield 88, 3) := by decide +kernel
theorem dX4_isItem_90 : decode cX4_isItem 90 = .ok (.ldc2_w 137, 3) := by decide +kernel
theorem dX4_isItem_93 : decode cX4_isItem 93 = .ok (.lcmp, 1) := by decide +kernel
theorem dX4_isItem_94 : decode cX4_isItem 94 = .ok (.ifCond .ne 14, 3) := by decide +kernel
theorem dX4_isItem_97 : decode cX4_isItem 97 = .ok (.aload_n 0, 1) := by decide +kernel
theorem dX4_isItem_98 : decode cX4_isItem 98 = .ok (.invokevirtual 139, 3) := by decide +kernel
theorem dX4_isItem_101 : decode cX4_isItem 101 = .ok (.ifCond .eq 7, 3) := by decide +kernel
theorem dX4_isItem_104 : decode cX4_isItem 104 = .ok (.iconst 1, 1) := by decide +kernel
theorem dX4_isItem_105 : decode cX4_isItem 105 = .ok (.goto 4, 3) := by decide +kernel
theorem dX4_isItem_108 : decode cX4_isItem 108 = .ok (.iconst 0, 1) := by decide +kernel
theorem dX4_isItem_109 : decode cX4_isItem 109 = .ok (.ireturn, 1) := by decide +kernel
theorem dX4_isRead_0 : decode cX4_isRead 0 = .ok (.aload_n 0, 1) := by decide +kernel
theorem dX4_isRead_1 : decode cX4_isRead 1 = .ok (.getfield 13, 3) := by decide +kernel
theorem dX4_isRead_4 : decode cX4_isRead 4 = .ok (.invokestatic 45, 3) := by decide +kernel
theorem dX4_isRead_7 : decode cX4_isRead 7 = .ok (.aload_n 0, 1) := by decide +kernel
theorem dX4_isRead_8 : decode cX4_isRead 8 = .ok (.iconst 0, 1) := by decide +kernel
theorem dX4_isRead_9 : decode cX4_isRead 9 = .ok (.putfield 82, 3) := by decide +kernel
theorem dX4_isRead_12 : decode cX4_isRead 12 = .ok (.aload_n 0, 1) := by decide +kernel
theorem dX4_isRead_13 : decode cX4_isRead 13 = .ok (.iconst 0, 1) := by decide +kernel
theorem dX4_isRead_14 : decode cX4_isRead 14 = .ok (.putfield 118, 3) := by decide +kernel
theorem dX4_isRead_17 : decode cX4_isRead 17 = .ok (.aload_n 0, 1) := by decide +kernel
theorem dX4_isRead_18 : decode cX4_isRead 18 = .ok (.invokevirtual 104, 3) := by decide +kernel
theorem dX4_isRead_21 : decode cX4_isRead 21 = .ok (.aload_n 0, 1) := by decide +kernel
theorem dX4_isRead_22 : decode cX4_isRead 22 = .ok (.getfield 94, 3) := by decide +kernel
theorem dX4_isRead_25 : decode cX4_isRead 25 = .ok (.ifCond .ne 10, 3) := by decide +kernel
theorem dX4_isRead_28 : decode cX4_isRead 28 = .ok (.aload_n 0, 1) := by decide +kernel
theorem dX4_isRead_29 : decode cX4_isRead 29 = .ok (.getfield 118, 3) := by decide +kernel
theorem dX4_isRead_32 : decode cX4_isRead 32 = .ok (.ifCond .ne 29, 3) := by decide +kernel
theorem dX4_isRead_35 : decode cX4_isRead 35 = .ok (.aload_n 0, 1) := by decide +kernel
theorem dX4_isRead_36 : decode cX4_isRead 36 = .ok (.invokevirtual 142, 3) := by decide +kernel
theorem dX4_isRead_39 : decode cX4_isRead 39 = .ok (.ifCond .ne 5, 3) := by decide +kernel
theorem dX4_isRead_42 : decode cX4_isRead 42 = .ok (.iconst 0, 1) := by decide +kernel
theorem dX4_isRead_43 : decode cX4_isRead 43 = .ok (.ireturn, 1) := by decide +kernel
theorem dX4_isRead_44 : decode cX4_isRead 44 = .ok (.aload_n 0, 1) := by decide +kernel
theorem dX4_isRead_45 : decode cX4_isRead 45 = .ok (.dup, 1) := by decide +kernel
theorem dX4_isRead_46 : decode cX4_isRead 46 = .ok (.getfield 118, 3) := by decide +kernel
theorem dX4_isRead_49 : decode cX4_isRead 49 = .ok (.iconst 1, 1) := by decide +kernel
theorem dX4_isRead_50 : decode cX4_isRead 50 = .ok (.iadd, 1) := by decide +kernel
theorem dX4_isRead_51 : decode cX4_isRead 51 = .ok (.putfield 118, 3) := by decide +kernel
theorem dX4_isRead_54 : decode cX4_isRead 54 = .ok (.aload_n 0, 1) := by decide +kernel
theorem dX4_isRead_55 : decode cX4_isRead 55 = .ok (.invokevirtual 104, 3) := by decide +kernel
theorem dX4_isRead_58 : decode cX4_isRead 58 = .ok (.goto (-37), 3) := by decide +kernel
theorem dX4_isRead_61 : decode cX4_isRead 61 = .ok (.iconst 1, 1) := by decide +kernel
theorem dX4_isRead_62 : decode cX4_isRead 62 = .ok (.ireturn, 1) := by decide +kernel
theorem dX4_read_0 : decode cX4_read 0 = .ok (.aload_n 0, 1) := by decide +kernel
theorem dX4_read_1 : decode cX4_read 1 = .ok (.invokevirtual 145, 3) := by decide +kernel
theorem dX4_read_4 : decode cX4_read 4 = .ok (.ifCond .ne 11, 3) := by decide +kernel
theorem dX4_read_7 : decode cX4_read 7 = .ok (.bipush (-10), 2) := by decide +kernel
theorem dX4_read_9 : decode cX4_read 9 = .ok (.aload_n 0, 1) := by decide +kernel
theorem dX4_read_10 : decode cX4_read 10 = .ok (.getfield 85, 3) := by decide +kernel
theorem dX4_read_13 : decode cX4_read 13 = .ok (.isub, 1) := by decide +kernel
theorem dX4_read_14 : decode cX4_read 14 = .ok (.ireturn, 1) := by decide +kernel
theorem dX4_read_15 : decode cX4_read 15 = .ok (.aload_n 0, 1) := by decide +kernel
theorem dX4_read_16 : decode cX4_read 16 = .ok (.getfield 13, 3) := by decide +kernel
theorem dX4_read_19 : decode cX4_read 19 = .ok (.iconst 0, 1) := by decide +kernel
theorem dX4_read_20 : decode cX4_read 20 = .ok (.aload_n 0, 1) := by decide +kernel
theorem dX4_read_21 : decode cX4_read 21 = .ok (.getfield 7, 3) := by decide +kernel
theorem dX4_read_24 : decode cX4_read 24 = .ok (.iconst 0, 1) := by decide +kernel
theorem dX4_read_25 : decode cX4_read 25 = .ok (.bipush 127, 2) := by decide +kernel
theorem dX4_read_27 : decode cX4_read 27 = .ok (.invokestatic 148, 3) := by decide +kernel
theorem dX4_read_30 : decode cX4_read 30 = .ok (.aload_n 0, 1) := by decide +kernel
theorem dX4_read_31 : decode cX4_read 31 = .ok (.getfield 118, 3) := by decide +kernel
theorem dX4_read_34 : decode cX4_read 34 = .ok (.ireturn, 1) := by decide +kernel
theorem dX4_placeBy_0 : decode cX4_placeBy 0 = .ok (.iload_n 0, 1) := by decide +kernel
theorem dX4_placeBy_1 : decode cX4_placeBy 1 = .ok (.tableswitch 70 1 5 #[35, 39, 43, 47, 55], 35) := by decide +kernel
theorem dX4_placeBy_36 : decode cX4_placeBy 36 = .ok (.iload_n 1, 1) := by decide +kernel
theorem dX4_placeBy_37 : decode cX4_placeBy 37 = .ok (.iconst 1, 1) := by decide +kernel
theorem dX4_placeBy_38 : decode cX4_placeBy 38 = .ok (.isub, 1) := by decide +kernel
theorem dX4_placeBy_39 : decode cX4_placeBy 39 = .ok (.ireturn, 1) := by decide +kernel
theorem dX4_placeBy_40 : decode cX4_placeBy 40 = .ok (.iload_n 1, 1) := by decide +kernel
theorem dX4_placeBy_41 : decode cX4_placeBy 41 = .ok (.iconst 2, 1) := by decide +kernel
theorem dX4_placeBy_42 : decode cX4_placeBy 42 = .ok (.idiv, 1) := by decide +kernel
theorem dX4_placeBy_43 : decode cX4_placeBy 43 = .ok (.ireturn, 1) := by decide +kernel
theorem dX4_placeBy_44 : decode cX4_placeBy 44 = .ok (.iload_n 2, 1) := by decide +kernel
theorem dX4_placeBy_45 : decode cX4_placeBy 45 = .ok (.iload_n 1, 1) := by decide +kernel
theorem dX4_placeBy_46 : decode cX4_placeBy 46 = .ok (.irem, 1) := by decide +kernel
theorem dX4_placeBy_47 : decode cX4_placeBy 47 = .ok (.ireturn, 1) := by decide +kernel
theorem dX4_placeBy_48 : decode cX4_placeBy 48 = .ok (.iload_n 1, 1) := by decide +kernel
theorem dX4_placeBy_49 : decode cX4_placeBy 49 = .ok (.iconst 1, 1) := by decide +kernel
theorem dX4_placeBy_50 : decode cX4_placeBy 50 = .ok (.isub, 1) := by decide +kernel
theorem dX4_placeBy_51 : decode cX4_placeBy 51 = .ok (.iload_n 2, 1) := by decide +kernel
theorem dX4_placeBy_52 : decode cX4_placeBy 52 = .ok (.iload_n 1, 1) := by decide +kernel
theorem dX4_placeBy_53 : decode cX4_placeBy 53 = .ok (.irem, 1) := by decide +kernel
theorem dX4_placeBy_54 : decode cX4_placeBy 54 = .ok (.isub, 1) := by decide +kernel
theorem dX4_placeBy_55 : decode cX4_placeBy 55 = .ok (.ireturn, 1) := by decide +kernel
theorem dX4_placeBy_56 : decode cX4_placeBy 56 = .ok (.iload_n 2, 1) := by decide +kernel
theorem dX4_placeBy_57 : decode cX4_placeBy 57 = .ok (.iconst 2, 1) := by decide +kernel
theorem dX4_placeBy_58 : decode cX4_placeBy 58 = .ok (.irem, 1) := by decide +kernel
theorem dX4_placeBy_59 : decode cX4_placeBy 59 = .ok (.iconst 1, 1) := by decide +kernel
theorem dX4_placeBy_60 : decode cX4_placeBy 60 = .ok (.if_icmp .ne 9, 3) := by decide +kernel
theorem dX4_placeBy_63 : decode cX4_placeBy 63 = .ok (.iload_n 1, 1) := by decide +kernel
theorem dX4_placeBy_64 : decode cX4_placeBy 64 = .ok (.iconst 1, 1) := by decide +kernel
theorem dX4_placeBy_65 : decode cX4_placeBy 65 = .ok (.isub, 1) := by decide +kernel
theorem dX4_placeBy_66 : decode cX4_placeBy 66 = .ok (.goto 4, 3) := by decide +kernel
theorem dX4_placeBy_69 : decode cX4_placeBy 69 = .ok (.iconst 0, 1) := by decide +kernel
theorem dX4_placeBy_70 : decode cX4_placeBy 70 = .ok (.ireturn, 1) := by decide +kernel
theorem dX4_placeBy_71 : decode cX4_placeBy 71 = .ok (.iconst 0, 1) := by decide +kernel
theorem dX4_placeBy_72 : decode cX4_placeBy 72 = .ok (.ireturn, 1) := by decide +kernel
theorem dX4_costBy_0 : decode cX4_costBy 0 = .ok (.iload_n 0, 1) := by decide +kernel
theorem dX4_costBy_1 : decode cX4_costBy 1 = .ok (.tableswitch 78 1 5 #[35, 39, 45, 49, 61], 35) := by decide +kernel
theorem dX4_costBy_36 : decode cX4_costBy 36 = .ok (.iload_n 1, 1) := by decide +kernel
theorem dX4_costBy_37 : decode cX4_costBy 37 = .ok (.iconst 3, 1) := by decide +kernel
theorem dX4_costBy_38 : decode cX4_costBy 38 = .ok (.iadd, 1) := by decide +kernel
theorem dX4_costBy_39 : decode cX4_costBy 39 = .ok (.ireturn, 1) := by decide +kernel
theorem dX4_costBy_40 : decode cX4_costBy 40 = .ok (.iload_n 1, 1) := by decide +kernel
theorem dX4_costBy_41 : decode cX4_costBy 41 = .ok (.iconst 1, 1) := by decide +kernel
theorem dX4_costBy_42 : decode cX4_costBy 42 = .ok (.iadd, 1) := by decide +kernel
theorem dX4_costBy_43 : decode cX4_costBy 43 = .ok (.iconst 2, 1) := by decide +kernel
theorem dX4_costBy_44 : decode cX4_costBy 44 = .ok (.idiv, 1) := by decide +kernel
theorem dX4_costBy_45 : decode cX4_costBy 45 = .ok (.ireturn, 1) := by decide +kernel
theorem dX4_costBy_46 : decode cX4_costBy 46 = .ok (.iload_n 1, 1) := by decide +kernel
theorem dX4_costBy_47 : decode cX4_costBy 47 = .ok (.iload_n 2, 1) := by decide +kernel
theorem dX4_costBy_48 : decode cX4_costBy 48 = .ok (.iadd, 1) := by decide +kernel
theorem dX4_costBy_49 : decode cX4_costBy 49 = .ok (.ireturn, 1) := by decide +kernel
theorem dX4_costBy_50 : decode cX4_costBy 50 = .ok (.iload_n 2, 1) := by decide +kernel
theorem dX4_costBy_51 : decode cX4_costBy 51 = .ok (.ifCond .ne 7, 3) := by decide +kernel
theorem dX4_costBy_54 : decode cX4_costBy 54 = .ok (.iconst 0, 1) := by decide +kernel
theorem dX4_costBy_55 : decode cX4_costBy 55 = .ok (.goto 6, 3) := by decide +kernel
theorem dX4_costBy_58 : decode cX4_costBy 58 = .ok (.iload_n 1, 1) := by decide +kernel
theorem dX4_costBy_59 : decode cX4_costBy 59 = .ok (.iconst 3, 1) := by decide +kernel
theorem dX4_costBy_60 : decode cX4_costBy 60 = .ok (.iadd, 1) := by decide +kernel
theorem dX4_costBy_61 : decode cX4_costBy 61 = .ok (.ireturn, 1) := by decide +kernel
theorem dX4_costBy_62 : decode cX4_costBy 62 = .ok (.iload_n 1, 1) := by decide +kernel
theorem dX4_costBy_63 : decode cX4_costBy 63 = .ok (.iconst 1, 1) := by decide +kernel
theorem dX4_costBy_64 : decode cX4_costBy 64 = .ok (.iadd, 1) := by decide +kernel
theorem dX4_costBy_65 : decode cX4_costBy 65 = .ok (.iconst 2, 1) := by decide +kernel
theorem dX4_costBy_66 : decode cX4_costBy 66 = .ok (.idiv, 1) := by decide +kernel
theorem dX4_costBy_67 : decode cX4_costBy 67 = .ok (.iload_n 2, 1) := by decide +kernel
theorem dX4_costBy_68 : decode cX4_costBy 68 = .ok (.iconst 3, 1) := by decide +kernel
theorem dX4_costBy_69 : decode cX4_costBy 69 = .ok (.if_icmp .lt 7, 3) := by decide +kernel
theorem dX4_costBy_72 : decode cX4_costBy 72 = .ok (.iconst 2, 1) := by decide +kernel
theorem dX4_costBy_73 : decode cX4_costBy 73 = .ok (.goto 4, 3) := by decide +kernel
theorem dX4_costBy_76 : decode cX4_costBy 76 = .ok (.iconst 0, 1) := by decide +kernel
theorem dX4_costBy_77 : decode cX4_costBy 77 = .ok (.iadd, 1) := by decide +kernel
theorem dX4_costBy_78 : decode cX4_costBy 78 = .ok (.ireturn, 1) := by decide +kernel
theorem dX4_costBy_79 : decode cX4_costBy 79 = .ok (.iload_n 1, 1) := by decide +kernel
theorem dX4_costBy_80 : decode cX4_costBy 80 = .ok (.ireturn, 1) := by decide +kernel
theorem dX4_cost_0 : decode cX4_cost 0 = .ok (.aload_n 0, 1) := by decide +kernel
theorem dX4_cost_1 : decode cX4_cost 1 = .ok (.getfield 7, 3) := by decide +kernel
theorem dX4_cost_4 : decode cX4_cost 4 = .ok (.iconst 4, 1) := by decide +kernel
theorem dX4_cost_5 : decode cX4_cost 5 = .ok (.iload_n 1, 1) := by decide +kernel
theorem dX4_cost_6 : decode cX4_cost 6 = .ok (.iadd, 1) := by decide +kernel
theorem dX4_cost_7 : decode cX4_cost 7 = .ok (.iaload, 1) := by decide +kernel
theorem dX4_cost_8 : decode cX4_cost 8 = .ok (.aload_n 0, 1) := by decide +kernel
theorem dX4_cost_9 : decode cX4_cost 9 = .ok (.getfield 7, 3) := by decide +kernel
theorem dX4_cost_12 : decode cX4_cost 12 = .ok (.bipush 12, 2) := by decide +kernel
theorem dX4_cost_14 : decode cX4_cost 14 = .ok (.iload_n 1, 1) := by decide +kernel
theorem dX4_cost_15 : decode cX4_cost 15 = .ok (.iadd, 1) := by decide +kernel
theorem dX4_cost_16 : decode cX4_cost 16 = .ok (.iaload, 1) := by decide +kernel
theorem dX4_cost_17 : decode cX4_cost 17 = .ok (.iload_n 2, 1) := by decide +kernel
theorem dX4_cost_18 : decode cX4_cost 18 = .ok (.invokestatic 152, 3) := by decide +kernel
theorem dX4_cost_21 : decode cX4_cost 21 = .ok (.ireturn, 1) := by decide +kernel
theorem dX4_counting_0 : decode cX4_counting 0 = .ok (.aload_n 0, 1) := by decide +kernel
theorem dX4_counting_1 : decode cX4_counting 1 = .ok (.getfield 7, 3) := by decide +kernel
theorem dX4_counting_4 : decode cX4_counting 4 = .ok (.bipush 20, 2) := by decide +kernel
theorem dX4_counting_6 : decode cX4_counting 6 = .ok (.iload_n 2, 1) := by decide +kernel
theorem dX4_counting_7 : decode cX4_counting 7 = .ok (.iadd, 1) := by decide +kernel
theorem dX4_counting_8 : decode cX4_counting 8 = .ok (.iaload, 1) := by decide +kernel
theorem dX4_counting_9 : decode cX4_counting 9 = .ok (.aload_n 0, 1) := by decide +kernel
theorem dX4_counting_10 : decode cX4_counting 10 = .ok (.getfield 7, 3) := by decide +kernel
theorem dX4_counting_13 : decode cX4_counting 13 = .ok (.bipush 12, 2) := by decide +kernel
theorem dX4_counting_15 : decode cX4_counting 15 = .ok (.iload_n 2, 1) := by decide +kernel
theorem dX4_counting_16 : decode cX4_counting 16 = .ok (.iadd, 1) := by decide +kernel
theorem dX4_counting_17 : decode cX4_counting 17 = .ok (.iaload, 1) := by decide +kernel
theorem dX4_counting_18 : decode cX4_counting 18 = .ok (.iload_n 1, 1) := by decide +kernel
theorem dX4_counting_19 : decode cX4_counting 19 = .ok (.aload_n 0, 1) := by decide +kernel
theorem dX4_counting_20 : decode cX4_counting 20 = .ok (.getfield 7, 3) := by decide +kernel
theorem dX4_counting_23 : decode cX4_counting 23 = .ok (.bipush 12, 2) := by decide +kernel
theorem dX4_counting_25 : decode cX4_counting 25 = .ok (.iload_n 2, 1) := by decide +kernel
theorem dX4_counting_26 : decode cX4_counting 26 = .ok (.iadd, 1) := by decide +kernel
theorem dX4_counting_27 : decode cX4_counting 27 = .ok (.iaload, 1) := by decide +kernel
theorem dX4_counting_28 : decode cX4_counting 28 = .ok (.iload_n 3, 1) := by decide +kernel
theorem dX4_counting_29 : decode cX4_counting 29 = .ok (.invokestatic 156, 3) := by decide +kernel
theorem dX4_counting_32 : decode cX4_counting 32 = .ok (.invokestatic 159, 3) := by decide +kernel
theorem dX4_counting_35 : decode cX4_counting 35 = .ok (.ireturn, 1) := by decide +kernel
theorem dX4_targetAt_0 : decode cX4_targetAt 0 = .ok (.aload_n 0, 1) := by decide +kernel
theorem dX4_targetAt_1 : decode cX4_targetAt 1 = .ok (.getfield 7, 3) := by decide +kernel
theorem dX4_targetAt_4 : decode cX4_targetAt 4 = .ok (.iconst 2, 1) := by decide +kernel
theorem dX4_targetAt_5 : decode cX4_targetAt 5 = .ok (.iaload, 1) := by decide +kernel
theorem dX4_targetAt_6 : decode cX4_targetAt 6 = .ok (.aload_n 0, 1) := by decide +kernel
theorem dX4_targetAt_7 : decode cX4_targetAt 7 = .ok (.getfield 7, 3) := by decide +kernel
theorem dX4_targetAt_10 : decode cX4_targetAt 10 = .ok (.iconst 1, 1) := by decide +kernel
theorem dX4_targetAt_11 : decode cX4_targetAt 11 = .ok (.iaload, 1) := by decide +kernel
theorem dX4_targetAt_12 : decode cX4_targetAt 12 = .ok (.iload_n 1, 1) := by decide +kernel
theorem dX4_targetAt_13 : decode cX4_targetAt 13 = .ok (.invokestatic 159, 3) := by decide +kernel
theorem dX4_targetAt_16 : decode cX4_targetAt 16 = .ok (.ireturn, 1) := by decide +kernel
theorem dX4_isFit_0 : decode cX4_isFit 0 = .ok (.aload_n 0, 1) := by decide +kernel
theorem dX4_isFit_1 : decode cX4_isFit 1 = .ok (.iload_n 1, 1) := by decide +kernel
theorem dX4_isFit_2 : decode cX4_isFit 2 = .ok (.iload_n 2, 1) := by decide +kernel
theorem dX4_isFit_3 : decode cX4_isFit 3 = .ok (.iload_n 3, 1) := by decide +kernel
theorem dX4_isFit_4 : decode cX4_isFit 4 = .ok (.invokevirtual 162, 3) := by decide +kernel
theorem dX4_isFit_7 : decode cX4_isFit 7 = .ok (.aload_n 0, 1) := by decide +kernel
theorem dX4_isFit_8 : decode cX4_isFit 8 = .ok (.iload_n 3, 1) := by decide +kernel
theorem dX4_isFit_9 : decode cX4_isFit 9 = .ok (.invokevirtual 165, 3) := by decide +kernel
theorem dX4_isFit_12 : decode cX4_isFit 12 = .ok (.if_icmp .ne 7, 3) := by decide +kernel
theorem dX4_isFit_15 : decode cX4_isFit 15 = .ok (.iconst 1, 1) := by decide +kernel
theorem dX4_isFit_16 : decode cX4_isFit 16 = .ok (.goto 4, 3) := by decide +kernel
theorem dX4_isFit_19 : decode cX4_isFit 19 = .ok (.iconst 0, 1) := by decide +kernel
theorem dX4_isFit_20 : decode cX4_isFit 20 = .ok (.ireturn, 1) := by decide +kernel
theorem dX4_isRight_0 : decode cX4_isRight 0 = .ok (.aload_n 1, 1) := by decide +kernel
theorem dX4_isRight_1 : decode cX4_isRight 1 = .ok (.iload_n 2, 1) := by decide +kernel
theorem dX4_isRight_2 : decode cX4_isRight 2 = .ok (.iload_n 3, 1) := by decide +kernel
theorem dX4_isRight_3 : decode cX4_isRight 3 = .ok (.iadd, 1) := by decide +kernel
theorem dX4_isRight_4 : decode cX4_isRight 4 = .ok (.iaload, 1) := by decide +kernel
theorem dX4_isRight_5 : decode cX4_isRight 5 = .ok (.istore 4, 2) := by decide +kernel
theorem dX4_isRight_7 : decode cX4_isRight 7 = .ok (.iload 4, 2) := by decide +kernel
theorem dX4_isRight_9 : decode cX4_isRight 9 = .ok (.iconst (-1), 1) := by decide +kernel
theorem dX4_isRight_10 : decode cX4_isRight 10 = .ok (.if_icmp .eq 23, 3) := by decide +kernel
theorem dX4_isRight_13 : decode cX4_isRight 13 = .ok (.aload_n 0, 1) := by decide +kernel
theorem dX4_isRight_14 : decode cX4_isRight 14 = .ok (.aload_n 0, 1) := by decide +kernel
theorem dX4_isRight_15 : decode cX4_isRight 15 = .ok (.getfield 7, 3) := by decide +kernel
theorem dX4_isRight_18 : decode cX4_isRight 18 = .ok (.iconst 0, 1) := by decide +kernel
theorem dX4_isRight_19 : decode cX4_isRight 19 = .ok (.iaload, 1) := by decide +kernel
theorem dX4_isRight_20 : decode cX4_isRight 20 = .ok (.iload 4, 2) := by decide +kernel
theorem dX4_isRight_22 : decode cX4_isRight 22 = .ok (.iload_n 3, 1) := by decide +kernel
theorem dX4_isRight_23 : decode cX4_isRight 23 = .ok (.invokevirtual 168, 3) := by decide +kernel
theorem dX4_isRight_26 : decode cX4_isRight 26 = .ok (.ifCond .eq 7, 3) := by decide +kernel
theorem dX4_isRight_29 : decode cX4_isRight 29 = .ok (.iconst 1, 1) := by decide +kernel
theorem dX4_isRight_30 : decode cX4_isRight 30 = .ok (.goto 4, 3) := by decide +kernel
theorem dX4_isRight_33 : decode cX4_isRight 33 = .ok (.iconst 0, 1) := by decide +kernel
theorem dX4_isRight_34 : decode cX4_isRight 34 = .ok (.ireturn, 1) := by decide +kernel
theorem dX4_rightOnes_0 : decode cX4_rightOnes 0 = .ok (.iconst 0, 1) := by decide +kernel
theorem dX4_rightOnes_1 : decode cX4_rightOnes 1 = .ok (.istore_n 3, 1) := by decide +kernel
theorem dX4_rightOnes_2 : decode cX4_rightOnes 2 = .ok (.iconst 0, 1) := by decide +kernel
theorem dX4_rightOnes_3 : decode cX4_rightOnes 3 = .ok (.istore 4, 2) := by decide +kernel
theorem dX4_rightOnes_5 : decode cX4_rightOnes 5 = .ok (.iload 4, 2) := by decide +kernel
theorem dX4_rightOnes_7 : decode cX4_rightOnes 7 = .ok (.aload_n 0, 1) := by decide +kernel
theorem dX4_rightOnes_8 : decode cX4_rightOnes 8 = .ok (.getfield 7, 3) := by decide +kernel
theorem dX4_rightOnes_11 : decode cX4_rightOnes 11 = .ok (.iconst 1, 1) := by decide +kernel
theorem dX4_rightOnes_12 : decode cX4_rightOnes 12 = .ok (.iaload, 1) := by decide +kernel
theorem dX4_rightOnes_13 : decode cX4_rightOnes 13 = .ok (.if_icmp .ge 28, 3) := by decide +kernel
theorem dX4_rightOnes_16 : decode cX4_rightOnes 16 = .ok (.iload_n 3, 1) := by decide +kernel
theorem dX4_rightOnes_17 : decode cX4_rightOnes 17 = .ok (.aload_n 0, 1) := by decide +kernel
theorem dX4_rightOnes_18 : decode cX4_rightOnes 18 = .ok (.aload_n 1, 1) := by decide +kernel
theorem dX4_rightOnes_19 : decode cX4_rightOnes 19 = .ok (.iload_n 2, 1) := by decide +kernel
theorem dX4_rightOnes_20 : decode cX4_rightOnes 20 = .ok (.iload 4, 2) := by decide +kernel
theorem dX4_rightOnes_22 : decode cX4_rightOnes 22 = .ok (.invokevirtual 171, 3) := by decide +kernel
theorem dX4_rightOnes_25 : decode cX4_rightOnes 25 = .ok (.ifCond .eq 7, 3) := by decide +kernel
theorem dX4_rightOnes_28 : decode cX4_rightOnes 28 = .ok (.iconst 1, 1) := by decide +kernel
theorem dX4_rightOnes_29 : decode cX4_rightOnes 29 = .ok (.goto 4, 3) := by decide +kernel
theorem dX4_rightOnes_32 : decode cX4_rightOnes 32 = .ok (.iconst 0, 1) := by decide +kernel
theorem dX4_rightOnes_33 : decode cX4_rightOnes 33 = .ok (.iadd, 1) := by decide +kernel
theorem dX4_rightOnes_34 : decode cX4_rightOnes 34 = .ok (.istore_n 3, 1) := by decide +kernel
theorem dX4_rightOnes_35 : decode cX4_rightOnes 35 = .ok (.iinc 4 1, 3) := by decide +kernel
theorem dX4_rightOnes_38 : decode cX4_rightOnes 38 = .ok (.goto (-33), 3) := by decide +kernel
theorem dX4_rightOnes_41 : decode cX4_rightOnes 41 = .ok (.iload_n 3, 1) := by decide +kernel
theorem dX4_rightOnes_42 : decode cX4_rightOnes 42 = .ok (.ireturn, 1) := by decide +kernel
theorem dX4_notes_0 : decode cX4_notes 0 = .ok (.aload_n 0, 1) := by decide +kernel
theorem dX4_notes_1 : decode cX4_notes 1 = .ok (.getfield 7, 3) := by decide +kernel
theorem dX4_notes_4 : decode cX4_notes 4 = .ok (.bipush 78, 2) := by decide +kernel
theorem dX4_notes_6 : decode cX4_notes 6 = .ok (.iaload, 1) := by decide +kernel
theorem dX4_notes_7 : decode cX4_notes 7 = .ok (.bipush 8, 2) := by decide +kernel
theorem dX4_notes_9 : decode cX4_notes 9 = .ok (.if_icmp .ne 31, 3) := by decide +kernel
theorem dX4_notes_12 : decode cX4_notes 12 = .ok (.aload_n 0, 1) := by decide +kernel
theorem dX4_notes_13 : decode cX4_notes 13 = .ok (.getfield 7, 3) := by decide +kernel
theorem dX4_notes_16 : decode cX4_notes 16 = .ok (.bipush 85, 2) := by decide +kernel
theorem dX4_notes_18 : decode cX4_notes 18 = .ok (.aload_n 0, 1) := by decide +kernel
theorem dX4_notes_19 : decode cX4_notes 19 = .ok (.getfield 7, 3) := by decide +kernel
theorem dX4_notes_22 : decode cX4_notes 22 = .ok (.bipush 79, 2) := by decide +kernel
theorem dX4_notes_24 : decode cX4_notes 24 = .ok (.bipush 42, 2) := by decide +kernel
theorem dX4_notes_26 : decode cX4_notes 26 = .ok (.invokestatic 148, 3) := by decide +kernel
theorem dX4_notes_29 : decode cX4_notes 29 = .ok (.aload_n 0, 1) := by decide +kernel
theorem dX4_notes_30 : decode cX4_notes 30 = .ok (.getfield 7, 3) := by decide +kernel
theorem dX4_notes_33 : decode cX4_notes 33 = .ok (.bipush 78, 2) := by decide +kernel
theorem dX4_notes_35 : decode cX4_notes 35 = .ok (.dup2, 1) := by decide +kernel
theorem dX4_notes_36 : decode cX4_notes 36 = .ok (.iaload, 1) := by decide +kernel
theorem dX4_notes_37 : decode cX4_notes 37 = .ok (.iconst 1, 1) := by decide +kernel
theorem dX4_notes_38 : decode cX4_notes 38 = .ok (.isub, 1) := by decide +kernel
theorem dX4_notes_39 : decode cX4_notes 39 = .ok (.iastore, 1) := by decide +kernel
theorem dX4_notes_40 : decode cX4_notes 40 = .ok (.aload_n 0, 1) := by decide +kernel
theorem dX4_notes_41 : decode cX4_notes 41 = .ok (.getfield 7, 3) := by decide +kernel
theorem dX4_notes_44 : decode cX4_notes 44 = .ok (.bipush 28, 2) := by decide +kernel
theorem dX4_notes_46 : decode cX4_notes 46 = .ok (.aload_n 0, 1) := by decide +kernel
theorem dX4_notes_47 : decode cX4_notes 47 = .ok (.getfield 7, 3) := by decide +kernel
theorem dX4_notes_50 : decode cX4_notes 50 = .ok (.bipush 79, 2) := by decide +kernel
theorem dX4_notes_52 : decode cX4_notes 52 = .ok (.bipush 6, 2) := by decide +kernel
theorem dX4_notes_54 : decode cX4_notes 54 = .ok (.aload_n 0, 1) := by decide +kernel
theorem dX4_notes_55 : decode cX4_notes 55 = .ok (.getfield 7, 3) := by decide +kernel
theorem dX4_notes_58 : decode cX4_notes 58 = .ok (.bipush 78, 2) := by decide +kernel
theorem dX4_notes_60 : decode cX4_notes 60 = .ok (.iaload, 1) := by decide +kernel
theorem dX4_notes_61 : decode cX4_notes 61 = .ok (.imul, 1) := by decide +kernel
theorem dX4_notes_62 : decode cX4_notes 62 = .ok (.iadd, 1) := by decide +kernel
theorem dX4_notes_63 : decode cX4_notes 63 = .ok (.bipush 6, 2) := by decide +kernel
theorem dX4_notes_65 : decode cX4_notes 65 = .ok (.invokestatic 148, 3) := by decide +kernel
theorem dX4_notes_68 : decode cX4_notes 68 = .ok (.aload_n 0, 1) := by decide +kernel
theorem dX4_notes_69 : decode cX4_notes 69 = .ok (.getfield 7, 3) := by decide +kernel
theorem dX4_notes_72 : decode cX4_notes 72 = .ok (.bipush 78, 2) := by decide +kernel
theorem dX4_notes_74 : decode cX4_notes 74 = .ok (.dup2, 1) := by decide +kernel
theorem dX4_notes_75 : decode cX4_notes 75 = .ok (.iaload, 1) := by decide +kernel
theorem dX4_notes_76 : decode cX4_notes 76 = .ok (.iconst 1, 1) := by decide +kernel
theorem dX4_notes_77 : decode cX4_notes 77 = .ok (.iadd, 1) := by decide +kernel
theorem dX4_notes_78 : decode cX4_notes 78 = .ok (.iastore, 1) := by decide +kernel
theorem dX4_notes_79 : decode cX4_notes 79 = .ok (.return_, 1) := by decide +kernel
theorem dX4_puts_0 : decode cX4_puts 0 = .ok (.aload_n 0, 1) := by decide +kernel
theorem dX4_puts_1 : decode cX4_puts 1 = .ok (.iload_n 1, 1) := by decide +kernel
theorem dX4_puts_2 : decode cX4_puts 2 = .ok (.invokevirtual 174, 3) := by decide +kernel
theorem dX4_puts_5 : decode cX4_puts 5 = .ok (.ifCond .eq 11, 3) := by decide +kernel
theorem dX4_puts_8 : decode cX4_puts 8 = .ok (.aload_n 0, 1) := by decide +kernel
theorem dX4_puts_9 : decode cX4_puts 9 = .ok (.iload_n 2, 1) := by decide +kernel
theorem dX4_puts_10 : decode cX4_puts 10 = .ok (.invokevirtual 178, 3) := by decide +kernel
theorem dX4_puts_13 : decode cX4_puts 13 = .ok (.ifCond .ne 8, 3) := by decide +kernel
theorem dX4_puts_16 : decode cX4_puts 16 = .ok (.aload_n 0, 1) := by decide +kernel
theorem dX4_puts_17 : decode cX4_puts 17 = .ok (.invokevirtual 60, 3) := by decide +kernel
theorem dX4_puts_20 : decode cX4_puts 20 = .ok (.ireturn, 1) := by decide +kernel
theorem dX4_puts_21 : decode cX4_puts 21 = .ok (.aload_n 0, 1) := by decide +kernel
theorem dX4_puts_22 : decode cX4_puts 22 = .ok (.getfield 7, 3) := by decide +kernel
theorem dX4_puts_25 : decode cX4_puts 25 = .ok (.bipush 28, 2) := by decide +kernel
theorem dX4_puts_27 : decode cX4_puts 27 = .ok (.iload_n 1, 1) := by decide +kernel
theorem dX4_puts_28 : decode cX4_puts 28 = .ok (.iadd, 1) := by decide +kernel
theorem dX4_puts_29 : decode cX4_puts 29 = .ok (.iaload, 1) := by decide +kernel
theorem dX4_puts_30 : decode cX4_puts 30 = .ok (.iconst (-1), 1) := by decide +kernel
theorem dX4_puts_31 : decode cX4_puts 31 = .ok (.if_icmp .ne 15, 3) := by decide +kernel
theorem dX4_puts_34 : decode cX4_puts 34 = .ok (.aload_n 0, 1) := by decide +kernel
theorem dX4_puts_35 : decode cX4_puts 35 = .ok (.getfield 7, 3) := by decide +kernel
theorem dX4_puts_38 : decode cX4_puts 38 = .ok (.iload_n 2, 1) := by decide +kernel
theorem dX4_puts_39 : decode cX4_puts 39 = .ok (.invokestatic 114, 3) := by decide +kernel
theorem dX4_puts_42 : decode cX4_puts 42 = .ok (.iconst (-1), 1) := by decide +kernel
theorem dX4_puts_43 : decode cX4_puts 43 = .ok (.if_icmp .eq 8, 3) := by decide +kernel
theorem dX4_puts_46 : decode cX4_puts 46 = .ok (.aload_n 0, 1) := by decide +kernel
theorem dX4_puts_47 : decode cX4_puts 47 = .ok (.invokevirtual 68, 3) := by decide +kernel
theorem dX4_puts_50 : decode cX4_puts 50 = .ok (.ireturn, 1) := by decide +kernel
theorem dX4_puts_51 : decode cX4_puts 51 = .ok (.aload_n 0, 1) := by decide +kernel
theorem dX4_puts_52 : decode cX4_puts 52 = .ok (.invokevirtual 181, 3) := by decide +kernel
theorem dX4_puts_55 : decode cX4_puts 55 = .ok (.aload_n 0, 1) := by decide +kernel
theorem dX4_puts_56 : decode cX4_puts 56 = .ok (.getfield 7, 3) := by decide +kernel
theorem dX4_puts_59 : decode cX4_puts 59 = .ok (.bipush 28, 2) := by decide +kernel
theorem dX4_puts_61 : decode cX4_puts 61 = .ok (.iload_n 1, 1) := by decide +kernel
theorem dX4_puts_62 : decode cX4_puts 62 = .ok (.iadd, 1) := by decide +kernel
theorem dX4_puts_63 : decode cX4_puts 63 = .ok (.iload_n 2, 1) := by decide +kernel
theorem dX4_puts_64 : decode cX4_puts 64 = .ok (.iastore, 1) := by decide +kernel
theorem dX4_puts_65 : decode cX4_puts 65 = .ok (.aload_n 0, 1) := by decide +kernel
theorem dX4_puts_66 : decode cX4_puts 66 = .ok (.aload_n 0, 1) := by decide +kernel
theorem dX4_puts_67 : decode cX4_puts 67 = .ok (.getfield 7, 3) := by decide +kernel
theorem dX4_puts_70 : decode cX4_puts 70 = .ok (.iconst 0, 1) := by decide +kernel
theorem dX4_puts_71 : decode cX4_puts 71 = .ok (.iaload, 1) := by decide +kernel
theorem dX4_puts_72 : decode cX4_puts 72 = .ok (.iload_n 2, 1) := by decide +kernel
theorem dX4_puts_73 : decode cX4_puts 73 = .ok (.iload_n 1, 1) := by decide +kernel
theorem dX4_puts_74 : decode cX4_puts 74 = .ok (.invokevirtual 168, 3) := by decide +kernel
theorem dX4_puts_77 : decode cX4_puts 77 = .ok (.ifCond .eq 7, 3) := by decide +kernel
theorem dX4_puts_80 : decode cX4_puts 80 = .ok (.iconst 1, 1) := by decide +kernel
theorem dX4_puts_81 : decode cX4_puts 81 = .ok (.goto 4, 3) := by decide +kernel
theorem dX4_puts_84 : decode cX4_puts 84 = .ok (.iconst 0, 1) := by decide +kernel
theorem dX4_puts_85 : decode cX4_puts 85 = .ok (.ireturn, 1) := by decide +kernel
theorem dX4_takes_0 : decode cX4_takes 0 = .ok (.aload_n 0, 1) := by decide +kernel
theorem dX4_takes_1 : decode cX4_takes 1 = .ok (.iload_n 1, 1) := by decide +kernel
theorem dX4_takes_2 : decode cX4_takes 2 = .ok (.invokevirtual 174, 3) := by decide +kernel
theorem dX4_takes_5 : decode cX4_takes 5 = .ok (.ifCond .ne 8, 3) := by decide +kernel
theorem dX4_takes_8 : decode cX4_takes 8 = .ok (.aload_n 0, 1) := by decide +kernel
theorem dX4_takes_9 : decode cX4_takes 9 = .ok (.invokevirtual 60, 3) := by decide +kernel
theorem dX4_takes_12 : decode cX4_takes 12 = .ok (.ireturn, 1) := by decide +kernel
theorem dX4_takes_13 : decode cX4_takes 13 = .ok (.aload_n 0, 1) := by decide +kernel
theorem dX4_takes_14 : decode cX4_takes 14 = .ok (.getfield 7, 3) := by decide +kernel
theorem dX4_takes_17 : decode cX4_takes 17 = .ok (.bipush 28, 2) := by decide +kernel
theorem dX4_takes_19 : decode cX4_takes 19 = .ok (.iload_n 1, 1) := by decide +kernel
theorem dX4_takes_20 : decode cX4_takes 20 = .ok (.iadd, 1) := by decide +kernel
theorem dX4_takes_21 : decode cX4_takes 21 = .ok (.iaload, 1) := by decide +kernel
theorem dX4_takes_22 : decode cX4_takes 22 = .ok (.istore_n 2, 1) := by decide +kernel
theorem dX4_takes_23 : decode cX4_takes 23 = .ok (.iload_n 2, 1) := by decide +kernel
theorem dX4_takes_24 : decode cX4_takes 24 = .ok (.iconst (-1), 1) := by decide +kernel
theorem dX4_takes_25 : decode cX4_takes 25 = .ok (.if_icmp .ne 8, 3) := by decide +kernel
theorem dX4_takes_28 : decode cX4_takes 28 = .ok (.aload_n 0, 1) := by decide +kernel
theorem dX4_takes_29 : decode cX4_takes 29 = .ok (.invokevirtual 68, 3) := by decide +kernel
theorem dX4_takes_32 : decode cX4_takes 32 = .ok (.ireturn, 1) := by decide +kernel
theorem dX4_takes_33 : decode cX4_takes 33 = .ok (.aload_n 0, 1) := by decide +kernel
theorem dX4_takes_34 : decode cX4_takes 34 = .ok (.invokevirtual 181, 3) := by decide +kernel
theorem dX4_takes_37 : decode cX4_takes 37 = .ok (.aload_n 0, 1) := by decide +kernel
theorem dX4_takes_38 : decode cX4_takes 38 = .ok (.getfield 7, 3) := by decide +kernel
theorem dX4_takes_41 : decode cX4_takes 41 = .ok (.bipush 28, 2) := by decide +kernel
theorem dX4_takes_43 : decode cX4_takes 43 = .ok (.iload_n 1, 1) := by decide +kernel
theorem dX4_takes_44 : decode cX4_takes 44 = .ok (.iadd, 1) := by decide +kernel
theorem dX4_takes_45 : decode cX4_takes 45 = .ok (.iconst (-1), 1) := by decide +kernel
theorem dX4_takes_46 : decode cX4_takes 46 = .ok (.iastore, 1) := by decide +kernel
theorem dX4_takes_47 : decode cX4_takes 47 = .ok (.iload_n 2, 1) := by decide +kernel
theorem dX4_takes_48 : decode cX4_takes 48 = .ok (.ireturn, 1) := by decide +kernel
theorem dX4_swaps_0 : decode cX4_swaps 0 = .ok (.aload_n 0, 1) := by decide +kernel
theorem dX4_swaps_1 : decode cX4_swaps 1 = .ok (.iload_n 1, 1) := by decide +kernel
theorem dX4_swaps_2 : decode cX4_swaps 2 = .ok (.invokevirtual 174, 3) := by decide +kernel
theorem dX4_swaps_5 : decode cX4_swaps 5 = .ok (.ifCond .eq 16, 3) := by decide +kernel
theorem dX4_swaps_8 : decode cX4_swaps 8 = .ok (.aload_n 0, 1) := by decide +kernel
theorem dX4_swaps_9 : decode cX4_swaps 9 = .ok (.iload_n 2, 1) := by decide +kernel
theorem dX4_swaps_10 : decode cX4_swaps 10 = .ok (.invokevirtual 174, 3) := by decide +kernel
theorem dX4_swaps_13 : decode cX4_swaps 13 = .ok (.ifCond .eq 8, 3) := by decide +kernel
theorem dX4_swaps_16 : decode cX4_swaps 16 = .ok (.iload_n 1, 1) := by decide +kernel
theorem dX4_swaps_17 : decode cX4_swaps 17 = .ok (.iload_n 2, 1) := by decide +kernel
theorem dX4_swaps_18 : decode cX4_swaps 18 = .ok (.if_icmp .ne 8, 3) := by decide +kernel
theorem dX4_swaps_21 : decode cX4_swaps 21 = .ok (.aload_n 0, 1) := by decide +kernel
theorem dX4_swaps_22 : decode cX4_swaps 22 = .ok (.invokevirtual 60, 3) := by decide +kernel
theorem dX4_swaps_25 : decode cX4_swaps 25 = .ok (.ireturn, 1) := by decide +kernel
theorem dX4_swaps_26 : decode cX4_swaps 26 = .ok (.aload_n 0, 1) := by decide +kernel
theorem dX4_swaps_27 : decode cX4_swaps 27 = .ok (.getfield 7, 3) := by decide +kernel
theorem dX4_swaps_30 : decode cX4_swaps 30 = .ok (.bipush 28, 2) := by decide +kernel
theorem dX4_swaps_32 : decode cX4_swaps 32 = .ok (.iload_n 1, 1) := by decide +kernel
theorem dX4_swaps_33 : decode cX4_swaps 33 = .ok (.iadd, 1) := by decide +kernel
theorem dX4_swaps_34 : decode cX4_swaps 34 = .ok (.iaload, 1) := by decide +kernel
theorem dX4_swaps_35 : decode cX4_swaps 35 = .ok (.istore_n 3, 1) := by decide +kernel
theorem dX4_swaps_36 : decode cX4_swaps 36 = .ok (.iload_n 3, 1) := by decide +kernel
theorem dX4_swaps_37 : decode cX4_swaps 37 = .ok (.iconst (-1), 1) := by decide +kernel
theorem dX4_swaps_38 : decode cX4_swaps 38 = .ok (.if_icmp .ne 21, 3) := by decide +kernel
theorem dX4_swaps_41 : decode cX4_swaps 41 = .ok (.aload_n 0, 1) := by decide +kernel
theorem dX4_swaps_42 : decode cX4_swaps 42 = .ok (.getfield 7, 3) := by decide +kernel
theorem dX4_swaps_45 : decode cX4_swaps 45 = .ok (.bipush 28, 2) := by decide +kernel
theorem dX4_swaps_47 : decode cX4_swaps 47 = .ok (.iload_n 2, 1) := by decide +kernel
theorem dX4_swaps_48 : decode cX4_swaps 48 = .ok (.iadd, 1) := by decide +kernel
theorem dX4_swaps_49 : decode cX4_swaps 49 = .ok (.iaload, 1) := by decide +kernel
theorem dX4_swaps_50 : decode cX4_swaps 50 = .ok (.iconst (-1), 1) := by decide +kernel
theorem dX4_swaps_51 : decode cX4_swaps 51 = .ok (.if_icmp .ne 8, 3) := by decide +kernel
theorem dX4_swaps_54 : decode cX4_swaps 54 = .ok (.aload_n 0, 1) := by decide +kernel
theorem dX4_swaps_55 : decode cX4_swaps 55 = .ok (.invokevirtual 68, 3) := by decide +kernel
theorem dX4_swaps_58 : decode cX4_swaps 58 = .ok (.ireturn, 1) := by decide +kernel
theorem dX4_swaps_59 : decode cX4_swaps 59 = .ok (.aload_n 0, 1) := by decide +kernel
theorem dX4_swaps_60 : decode cX4_swaps 60 = .ok (.invokevirtual 181, 3) := by decide +kernel
theorem dX4_swaps_63 : decode cX4_swaps 63 = .ok (.aload_n 0, 1) := by decide +kernel
theorem dX4_swaps_64 : decode cX4_swaps 64 = .ok (.getfield 7, 3) := by decide +kernel
theorem dX4_swaps_67 : decode cX4_swaps 67 = .ok (.bipush 28, 2) := by decide +kernel
theorem dX4_swaps_69 : decode cX4_swaps 69 = .ok (.iload_n 1, 1) := by decide +kernel
theorem dX4_swaps_70 : decode cX4_swaps 70 = .ok (.iadd, 1) := by decide +kernel
theorem dX4_swaps_71 : decode cX4_swaps 71 = .ok (.aload_n 0, 1) := by decide +kernel
theorem dX4_swaps_72 : decode cX4_swaps 72 = .ok (.getfield 7, 3) := by decide +kernel
theorem dX4_swaps_75 : decode cX4_swaps 75 = .ok (.bipush 28, 2) := by decide +kernel
theorem dX4_swaps_77 : decode cX4_swaps 77 = .ok (.iload_n 2, 1) := by decide +kernel
theorem dX4_swaps_78 : decode cX4_swaps 78 = .ok (.iadd, 1) := by decide +kernel
theorem dX4_swaps_79 : decode cX4_swaps 79 = .ok (.iaload, 1) := by decide +kernel
theorem dX4_swaps_80 : decode cX4_swaps 80 = .ok (.iastore, 1) := by decide +kernel
theorem dX4_swaps_81 : decode cX4_swaps 81 = .ok (.aload_n 0, 1) := by decide +kernel
theorem dX4_swaps_82 : decode cX4_swaps 82 = .ok (.getfield 7, 3) := by decide +kernel
theorem dX4_swaps_85 : decode cX4_swaps 85 = .ok (.bipush 28, 2) := by decide +kernel
theorem dX4_swaps_87 : decode cX4_swaps 87 = .ok (.iload_n 2, 1) := by decide +kernel
theorem dX4_swaps_88 : decode cX4_swaps 88 = .ok (.iadd, 1) := by decide +kernel
theorem dX4_swaps_89 : decode cX4_swaps 89 = .ok (.iload_n 3, 1) := by decide +kernel
theorem dX4_swaps_90 : decode cX4_swaps 90 = .ok (.iastore, 1) := by decide +kernel
theorem dX4_swaps_91 : decode cX4_swaps 91 = .ok (.aload_n 0, 1) := by decide +kernel
theorem dX4_swaps_92 : decode cX4_swaps 92 = .ok (.aload_n 0, 1) := by decide +kernel
theorem dX4_swaps_93 : decode cX4_swaps 93 = .ok (.getfield 7, 3) := by decide +kernel
theorem dX4_swaps_96 : decode cX4_swaps 96 = .ok (.bipush 28, 2) := by decide +kernel
theorem dX4_swaps_98 : decode cX4_swaps 98 = .ok (.invokevirtual 184, 3) := by decide +kernel
theorem dX4_swaps_101 : decode cX4_swaps 101 = .ok (.ireturn, 1) := by decide +kernel
theorem dX4_undo_0 : decode cX4_undo 0 = .ok (.aload_n 0, 1) := by decide +kernel
theorem dX4_undo_1 : decode cX4_undo 1 = .ok (.getfield 7, 3) := by decide +kernel
theorem dX4_undo_4 : decode cX4_undo 4 = .ok (.bipush 78, 2) := by decide +kernel
theorem dX4_undo_6 : decode cX4_undo 6 = .ok (.iaload, 1) := by decide +kernel
theorem dX4_undo_7 : decode cX4_undo 7 = .ok (.ifCond .ne 8, 3) := by decide +kernel
theorem dX4_undo_10 : decode cX4_undo 10 = .ok (.aload_n 0, 1) := by decide +kernel
theorem dX4_undo_11 : decode cX4_undo 11 = .ok (.invokevirtual 68, 3) := by decide +kernel
theorem dX4_undo_14 : decode cX4_undo 14 = .ok (.ireturn, 1) := by decide +kernel
theorem dX4_undo_15 : decode cX4_undo 15 = .ok (.aload_n 0, 1) := by decide +kernel
theorem dX4_undo_16 : decode cX4_undo 16 = .ok (.getfield 7, 3) := by decide +kernel
theorem dX4_undo_19 : decode cX4_undo 19 = .ok (.bipush 78, 2) := by decide +kernel
theorem dX4_undo_21 : decode cX4_undo 21 = .ok (.dup2, 1) := by decide +kernel
theorem dX4_undo_22 : decode cX4_undo 22 = .ok (.iaload, 1) := by decide +kernel
theorem dX4_undo_23 : decode cX4_undo 23 = .ok (.iconst 1, 1) := by decide +kernel
theorem dX4_undo_24 : decode cX4_undo 24 = .ok (.isub, 1) := by decide +kernel
theorem dX4_undo_25 : decode cX4_undo 25 = .ok (.iastore, 1) := by decide +kernel
theorem dX4_undo_26 : decode cX4_undo 26 = .ok (.aload_n 0, 1) := by decide +kernel
theorem dX4_undo_27 : decode cX4_undo 27 = .ok (.getfield 7, 3) := by decide +kernel
theorem dX4_undo_30 : decode cX4_undo 30 = .ok (.bipush 79, 2) := by decide +kernel
theorem dX4_undo_32 : decode cX4_undo 32 = .ok (.bipush 6, 2) := by decide +kernel
theorem dX4_undo_34 : decode cX4_undo 34 = .ok (.aload_n 0, 1) := by decide +kernel
theorem dX4_undo_35 : decode cX4_undo 35 = .ok (.getfield 7, 3) := by decide +kernel
theorem dX4_undo_38 : decode cX4_undo 38 = .ok (.bipush 78, 2) := by decide +kernel
theorem dX4_undo_40 : decode cX4_undo 40 = .ok (.iaload, 1) := by decide +kernel
theorem dX4_undo_41 : decode cX4_undo 41 = .ok (.imul, 1) := by decide +kernel
theorem dX4_undo_42 : decode cX4_undo 42 = .ok (.iadd, 1) := by decide +kernel
theorem dX4_undo_43 : decode cX4_undo 43 = .ok (.aload_n 0, 1) := by decide +kernel
theorem dX4_undo_44 : decode cX4_undo 44 = .ok (.getfield 7, 3) := by decide +kernel
theorem dX4_undo_47 : decode cX4_undo 47 = .ok (.bipush 28, 2) := by decide +kernel
theorem dX4_undo_49 : decode cX4_undo 49 = .ok (.bipush 6, 2) := by decide +kernel
theorem dX4_undo_51 : decode cX4_undo 51 = .ok (.invokestatic 148, 3) := by decide +kernel
theorem dX4_undo_54 : decode cX4_undo 54 = .ok (.aload_n 0, 1) := by decide +kernel
theorem dX4_undo_55 : decode cX4_undo 55 = .ok (.aload_n 0, 1) := by decide +kernel
theorem dX4_undo_56 : decode cX4_undo 56 = .ok (.getfield 7, 3) := by decide +kernel
theorem dX4_undo_59 : decode cX4_undo 59 = .ok (.bipush 28, 2) := by decide +kernel
theorem dX4_undo_61 : decode cX4_undo 61 = .ok (.invokevirtual 184, 3) := by decide +kernel
theorem dX4_undo_64 : decode cX4_undo 64 = .ok (.ireturn, 1) := by decide +kernel
theorem dX4_of_0 : decode cX4_of 0 = .ok (.aload_n 0, 1) := by decide +kernel
theorem dX4_of_1 : decode cX4_of 1 = .ok (.iload_n 1, 1) := by decide +kernel
theorem dX4_of_2 : decode cX4_of 2 = .ok (.invokevirtual 178, 3) := by decide +kernel
theorem dX4_of_5 : decode cX4_of 5 = .ok (.ifCond .eq 12, 3) := by decide +kernel
theorem dX4_of_8 : decode cX4_of 8 = .ok (.iload_n 2, 1) := by decide +kernel
theorem dX4_of_9 : decode cX4_of 9 = .ok (.iconst 0, 1) := by decide +kernel
theorem dX4_of_10 : decode cX4_of 10 = .ok (.iconst 3, 1) := by decide +kernel
theorem dX4_of_11 : decode cX4_of 11 = .ok (.invokestatic 53, 3) := by decide +kernel
theorem dX4_of_14 : decode cX4_of 14 = .ok (.ifCond .ne 8, 3) := by decide +kernel
theorem dX4_of_17 : decode cX4_of 17 = .ok (.aload_n 0, 1) := by decide +kernel
theorem dX4_of_18 : decode cX4_of 18 = .ok (.invokevirtual 60, 3) := by decide +kernel
theorem dX4_of_21 : decode cX4_of 21 = .ok (.ireturn, 1) := by decide +kernel
theorem dX4_of_22 : decode cX4_of 22 = .ok (.iload_n 2, 1) := by decide +kernel
theorem dX4_of_23 : decode cX4_of 23 = .ok (.iconst 3, 1) := by decide +kernel
theorem dX4_of_24 : decode cX4_of 24 = .ok (.if_icmp .ne 14, 3) := by decide +kernel
theorem dX4_of_27 : decode cX4_of 27 = .ok (.aload_n 0, 1) := by decide +kernel
theorem dX4_of_28 : decode cX4_of 28 = .ok (.getfield 7, 3) := by decide +kernel
theorem dX4_of_31 : decode cX4_of 31 = .ok (.iload_n 1, 1) := by decide +kernel
theorem dX4_of_32 : decode cX4_of 32 = .ok (.invokestatic 114, 3) := by decide +kernel
theorem dX4_of_35 : decode cX4_of 35 = .ok (.goto 16, 3) := by decide +kernel
theorem dX4_of_38 : decode cX4_of 38 = .ok (.aload_n 0, 1) := by decide +kernel
theorem dX4_of_39 : decode cX4_of 39 = .ok (.getfield 7, 3) := by decide +kernel
theorem dX4_of_42 : decode cX4_of 42 = .ok (.iconst 4, 1) := by decide +kernel
theorem dX4_of_43 : decode cX4_of 43 = .ok (.bipush 8, 2) := by decide +kernel
theorem dX4_of_45 : decode cX4_of 45 = .ok (.iload_n 2, 1) := by decide +kernel
theorem dX4_of_46 : decode cX4_of 46 = .ok (.imul, 1) := by decide +kernel
theorem dX4_of_47 : decode cX4_of 47 = .ok (.iadd, 1) := by decide +kernel
theorem dX4_of_48 : decode cX4_of 48 = .ok (.iload_n 1, 1) := by decide +kernel
theorem dX4_of_49 : decode cX4_of 49 = .ok (.iadd, 1) := by decide +kernel
theorem dX4_of_50 : decode cX4_of 50 = .ok (.iaload, 1) := by decide +kernel
theorem dX4_of_51 : decode cX4_of 51 = .ok (.ireturn, 1) := by decide +kernel
theorem dX4_about_0 : decode cX4_about 0 = .ok (.aload_n 0, 1) := by decide +kernel
theorem dX4_about_1 : decode cX4_about 1 = .ok (.iload_n 1, 1) := by decide +kernel
theorem dX4_about_2 : decode cX4_about 2 = .ok (.invokevirtual 174, 3) := by decide +kernel
theorem dX4_about_5 : decode cX4_about 5 = .ok (.ifCond .eq 12, 3) := by decide +kernel
theorem dX4_about_8 : decode cX4_about 8 = .ok (.iload_n 2, 1) := by decide +kernel
theorem dX4_about_9 : decode cX4_about 9 = .ok (.iconst 0, 1) := by decide +kernel
theorem dX4_about_10 : decode cX4_about 10 = .ok (.iconst 4, 1) := by decide +kernel
theorem dX4_about_11 : decode cX4_about 11 = .ok (.invokestatic 53, 3) := by decide +kernel
theorem dX4_about_14 : decode cX4_about 14 = .ok (.ifCond .ne 8, 3) := by decide +kernel
theorem dX4_about_17 : decode cX4_about 17 = .ok (.aload_n 0, 1) := by decide +kernel
theorem dX4_about_18 : decode cX4_about 18 = .ok (.invokevirtual 60, 3) := by decide +kernel
theorem dX4_about_21 : decode cX4_about 21 = .ok (.ireturn, 1) := by decide +kernel
theorem dX4_about_22 : decode cX4_about 22 = .ok (.aload_n 0, 1) := by decide +kernel
theorem dX4_about_23 : decode cX4_about 23 = .ok (.getfield 7, 3) := by decide +kernel
theorem dX4_about_26 : decode cX4_about 26 = .ok (.bipush 28, 2) := by decide +kernel
theorem dX4_about_28 : decode cX4_about 28 = .ok (.iload_n 1, 1) := by decide +kernel
theorem dX4_about_29 : decode cX4_about 29 = .ok (.iadd, 1) := by decide +kernel
theorem dX4_about_30 : decode cX4_about 30 = .ok (.iaload, 1) := by decide +kernel
theorem dX4_about_31 : decode cX4_about 31 = .ok (.istore_n 3, 1) := by decide +kernel
theorem dX4_about_32 : decode cX4_about 32 = .ok (.iload_n 2, 1) := by decide +kernel
theorem dX4_about_33 : decode cX4_about 33 = .ok (.tableswitch 91 0 3 #[31, 33, 55, 71], 31) := by decide +kernel
theorem dX4_about_64 : decode cX4_about 64 = .ok (.iload_n 3, 1) := by decide +kernel
theorem dX4_about_65 : decode cX4_about 65 = .ok (.ireturn, 1) := by decide +kernel
theorem dX4_about_66 : decode cX4_about 66 = .ok (.iload_n 3, 1) := by decide +kernel
theorem dX4_about_67 : decode cX4_about 67 = .ok (.iconst (-1), 1) := by decide +kernel
theorem dX4_about_68 : decode cX4_about 68 = .ok (.if_icmp .ne 7, 3) := by decide +kernel
theorem dX4_about_71 : decode cX4_about 71 = .ok (.iconst (-1), 1) := by decide +kernel
theorem dX4_about_72 : decode cX4_about 72 = .ok (.goto 15, 3) := by decide +kernel
theorem dX4_about_75 : decode cX4_about 75 = .ok (.aload_n 0, 1) := by decide +kernel
theorem dX4_about_76 : decode cX4_about 76 = .ok (.aload_n 0, 1) := by decide +kernel
theorem dX4_about_77 : decode cX4_about 77 = .ok (.getfield 7, 3) := by decide +kernel
theorem dX4_about_80 : decode cX4_about 80 = .ok (.iconst 0, 1) := by decide +kernel
theorem dX4_about_81 : decode cX4_about 81 = .ok (.iaload, 1) := by decide +kernel
theorem dX4_about_82 : decode cX4_about 82 = .ok (.iload_n 3, 1) := by decide +kernel
theorem dX4_about_83 : decode cX4_about 83 = .ok (.iload_n 1, 1) := by decide +kernel
theorem dX4_about_84 : decode cX4_about 84 = .ok (.invokevirtual 162, 3) := by decide +kernel
theorem dX4_about_87 : decode cX4_about 87 = .ok (.ireturn, 1) := by decide +kernel
theorem dX4_about_88 : decode cX4_about 88 = .ok (.iload_n 3, 1) := by decide +kernel
theorem dX4_about_89 : decode cX4_about 89 = .ok (.iconst (-1), 1) := by decide +kernel
theorem dX4_about_90 : decode cX4_about 90 = .ok (.if_icmp .ne 7, 3) := by decide +kernel
theorem dX4_about_93 : decode cX4_about 93 = .ok (.iconst 0, 1) := by decide +kernel
theorem dX4_about_94 : decode cX4_about 94 = .ok (.goto 9, 3) := by decide +kernel
theorem dX4_about_97 : decode cX4_about 97 = .ok (.aload_n 0, 1) := by decide +kernel
theorem dX4_about_98 : decode cX4_about 98 = .ok (.iload_n 3, 1) := by decide +kernel
theorem dX4_about_99 : decode cX4_about 99 = .ok (.iload_n 1, 1) := by decide +kernel
theorem dX4_about_100 : decode cX4_about 100 = .ok (.invokevirtual 187, 3) := by decide +kernel
theorem dX4_about_103 : decode cX4_about 103 = .ok (.ireturn, 1) := by decide +kernel
theorem dX4_about_104 : decode cX4_about 104 = .ok (.aload_n 0, 1) := by decide +kernel
theorem dX4_about_105 : decode cX4_about 105 = .ok (.aload_n 0, 1) := by decide +kernel
theorem dX4_about_106 : decode cX4_about 106 = .ok (.getfield 7, 3) := by decide +kernel
theorem dX4_about_109 : decode cX4_about 109 = .ok (.bipush 28, 2) := by decide +kernel
theorem dX4_about_111 : decode cX4_about 111 = .ok (.iload_n 1, 1) := by decide +kernel
theorem dX4_about_112 : decode cX4_about 112 = .ok (.invokevirtual 171, 3) := by decide +kernel
theorem dX4_about_115 : decode cX4_about 115 = .ok (.ifCond .eq 7, 3) := by decide +kernel
theorem dX4_about_118 : decode cX4_about 118 = .ok (.iconst 1, 1) := by decide +kernel
theorem dX4_about_119 : decode cX4_about 119 = .ok (.goto 4, 3) := by decide +kernel
theorem dX4_about_122 : decode cX4_about 122 = .ok (.iconst 0, 1) := by decide +kernel
theorem dX4_about_123 : decode cX4_about 123 = .ok (.ireturn, 1) := by decide +kernel
theorem dX4_about_124 : decode cX4_about 124 = .ok (.aload_n 0, 1) := by decide +kernel
theorem dX4_about_125 : decode cX4_about 125 = .ok (.iload_n 1, 1) := by decide +kernel
theorem dX4_about_126 : decode cX4_about 126 = .ok (.invokevirtual 165, 3) := by decide +kernel
theorem dX4_about_129 : decode cX4_about 129 = .ok (.ireturn, 1) := by decide +kernel
theorem dX4_fits_0 : decode cX4_fits 0 = .ok (.aload_n 0, 1) := by decide +kernel
theorem dX4_fits_1 : decode cX4_fits 1 = .ok (.iload_n 1, 1) := by decide +kernel
theorem dX4_fits_2 : decode cX4_fits 2 = .ok (.invokevirtual 178, 3) := by decide +kernel
theorem dX4_fits_5 : decode cX4_fits 5 = .ok (.ifCond .eq 11, 3) := by decide +kernel
theorem dX4_fits_8 : decode cX4_fits 8 = .ok (.aload_n 0, 1) := by decide +kernel
theorem dX4_fits_9 : decode cX4_fits 9 = .ok (.iload_n 2, 1) := by decide +kernel
theorem dX4_fits_10 : decode cX4_fits 10 = .ok (.invokevirtual 174, 3) := by decide +kernel
theorem dX4_fits_13 : decode cX4_fits 13 = .ok (.ifCond .ne 10, 3) := by decide +kernel
theorem dX4_fits_16 : decode cX4_fits 16 = .ok (.aload_n 0, 1) := by decide +kernel
theorem dX4_fits_17 : decode cX4_fits 17 = .ok (.invokevirtual 60, 3) := by decide +kernel
theorem dX4_fits_20 : decode cX4_fits 20 = .ok (.goto 23, 3) := by decide +kernel
theorem dX4_fits_23 : decode cX4_fits 23 = .ok (.aload_n 0, 1) := by decide +kernel
theorem dX4_fits_24 : decode cX4_fits 24 = .ok (.aload_n 0, 1) := by decide +kernel
theorem dX4_fits_25 : decode cX4_fits 25 = .ok (.getfield 7, 3) := by decide +kernel
theorem dX4_fits_28 : decode cX4_fits 28 = .ok (.iconst 0, 1) := by decide +kernel
theorem dX4_fits_29 : decode cX4_fits 29 = .ok (.iaload, 1) := by decide +kernel
theorem dX4_fits_30 : decode cX4_fits 30 = .ok (.iload_n 1, 1) := by decide +kernel
theorem dX4_fits_31 : decode cX4_fits 31 = .ok (.iload_n 2, 1) := by decide +kernel
theorem dX4_fits_32 : decode cX4_fits 32 = .ok (.invokevirtual 168, 3) := by decide +kernel
theorem dX4_fits_35 : decode cX4_fits 35 = .ok (.ifCond .eq 7, 3) := by decide +kernel
theorem dX4_fits_38 : decode cX4_fits 38 = .ok (.iconst 1, 1) := by decide +kernel
theorem dX4_fits_39 : decode cX4_fits 39 = .ok (.goto 4, 3) := by decide +kernel
theorem dX4_fits_42 : decode cX4_fits 42 = .ok (.iconst 0, 1) := by decide +kernel
theorem dX4_fits_43 : decode cX4_fits 43 = .ok (.ireturn, 1) := by decide +kernel
theorem dX4_isWay_0 : decode cX4_isWay 0 = .ok (.iload_n 2, 1) := by decide +kernel
theorem dX4_isWay_1 : decode cX4_isWay 1 = .ok (.ifCond .eq 46, 3) := by decide +kernel
theorem dX4_isWay_4 : decode cX4_isWay 4 = .ok (.aload_n 0, 1) := by decide +kernel
theorem dX4_isWay_5 : decode cX4_isWay 5 = .ok (.getfield 7, 3) := by decide +kernel
theorem dX4_isWay_8 : decode cX4_isWay 8 = .ok (.bipush 28, 2) := by decide +kernel
theorem dX4_isWay_10 : decode cX4_isWay 10 = .ok (.iload 4, 2) := by decide +kernel
theorem dX4_isWay_12 : decode cX4_isWay 12 = .ok (.iadd, 1) := by decide +kernel
theorem dX4_isWay_13 : decode cX4_isWay 13 = .ok (.iaload, 1) := by decide +kernel
theorem dX4_isWay_14 : decode cX4_isWay 14 = .ok (.iconst (-1), 1) := by decide +kernel
theorem dX4_isWay_15 : decode cX4_isWay 15 = .ok (.if_icmp .ne 18, 3) := by decide +kernel
theorem dX4_isWay_18 : decode cX4_isWay 18 = .ok (.aload_n 0, 1) := by decide +kernel
theorem dX4_isWay_19 : decode cX4_isWay 19 = .ok (.getfield 7, 3) := by decide +kernel
theorem dX4_isWay_22 : decode cX4_isWay 22 = .ok (.iload_n 3, 1) := by decide +kernel
theorem dX4_isWay_23 : decode cX4_isWay 23 = .ok (.invokestatic 114, 3) := by decide +kernel
theorem dX4_isWay_26 : decode cX4_isWay 26 = .ok (.iconst (-1), 1) := by decide +kernel
theorem dX4_isWay_27 : decode cX4_isWay 27 = .ok (.if_icmp .ne 24, 3) := by decide +kernel
theorem dX4_isWay_30 : decode cX4_isWay 30 = .ok (.goto 17, 3) := by decide +kernel
theorem dX4_isWay_33 : decode cX4_isWay 33 = .ok (.aload_n 0, 1) := by decide +kernel
theorem dX4_isWay_34 : decode cX4_isWay 34 = .ok (.getfield 7, 3) := by decide +kernel
theorem dX4_isWay_37 : decode cX4_isWay 37 = .ok (.bipush 28, 2) := by decide +kernel
theorem dX4_isWay_39 : decode cX4_isWay 39 = .ok (.iload 4, 2) := by decide +kernel
theorem dX4_isWay_41 : decode cX4_isWay 41 = .ok (.iadd, 1) := by decide +kernel
theorem dX4_isWay_42 : decode cX4_isWay 42 = .ok (.iaload, 1) := by decide +kernel
theorem dX4_isWay_43 : decode cX4_isWay 43 = .ok (.iload_n 3, 1) := by decide +kernel
theorem dX4_isWay_44 : decode cX4_isWay 44 = .ok (.if_icmp .ne 7, 3) := by decide +kernel
theorem dX4_isWay_47 : decode cX4_isWay 47 = .ok (.iconst 1, 1) := by decide +kernel
theorem dX4_isWay_48 : decode cX4_isWay 48 = .ok (.goto 4, 3) := by decide +kernel
theorem dX4_isWay_51 : decode cX4_isWay 51 = .ok (.iconst 0, 1) := by decide +kernel
theorem dX4_isWay_52 : decode cX4_isWay 52 = .ok (.istore 5, 2) := by decide +kernel
theorem dX4_isWay_54 : decode cX4_isWay 54 = .ok (.iload 5, 2) := by decide +kernel
theorem dX4_isWay_56 : decode cX4_isWay 56 = .ok (.ifCond .eq 18, 3) := by decide +kernel
theorem dX4_isWay_59 : decode cX4_isWay 59 = .ok (.aload_n 0, 1) := by decide +kernel
theorem dX4_isWay_60 : decode cX4_isWay 60 = .ok (.iload_n 1, 1) := by decide +kernel
theorem dX4_isWay_61 : decode cX4_isWay 61 = .ok (.iload_n 3, 1) := by decide +kernel
theorem dX4_isWay_62 : decode cX4_isWay 62 = .ok (.iload 4, 2) := by decide +kernel
theorem dX4_isWay_64 : decode cX4_isWay 64 = .ok (.invokevirtual 168, 3) := by decide +kernel
theorem dX4_isWay_67 : decode cX4_isWay 67 = .ok (.ifCond .eq 7, 3) := by decide +kernel
theorem dX4_isWay_70 : decode cX4_isWay 70 = .ok (.iconst 1, 1) := by decide +kernel
theorem dX4_isWay_71 : decode cX4_isWay 71 = .ok (.goto 4, 3) := by decide +kernel
theorem dX4_isWay_74 : decode cX4_isWay 74 = .ok (.iconst 0, 1) := by decide +kernel
theorem dX4_isWay_75 : decode cX4_isWay 75 = .ok (.ireturn, 1) := by decide +kernel
theorem dX4_layWays_0 : decode cX4_layWays 0 = .ok (.aload_n 0, 1) := by decide +kernel
theorem dX4_layWays_1 : decode cX4_layWays 1 = .ok (.getfield 7, 3) := by decide +kernel
theorem dX4_layWays_4 : decode cX4_layWays 4 = .ok (.iconst 1, 1) := by decide +kernel
theorem dX4_layWays_5 : decode cX4_layWays 5 = .ok (.iaload, 1) := by decide +kernel
theorem dX4_layWays_6 : decode cX4_layWays 6 = .ok (.istore_n 3, 1) := by decide +kernel
theorem dX4_layWays_7 : decode cX4_layWays 7 = .ok (.iconst 0, 1) := by decide +kernel
theorem dX4_layWays_8 : decode cX4_layWays 8 = .ok (.istore 4, 2) := by decide +kernel
theorem dX4_layWays_10 : decode cX4_layWays 10 = .ok (.iload 4, 2) := by decide +kernel
theorem dX4_layWays_12 : decode cX4_layWays 12 = .ok (.sipush 256, 3) := by decide +kernel
theorem dX4_layWays_15 : decode cX4_layWays 15 = .ok (.if_icmp .ge 37, 3) := by decide +kernel
theorem dX4_layWays_18 : decode cX4_layWays 18 = .ok (.aload_n 0, 1) := by decide +kernel
theorem dX4_layWays_19 : decode cX4_layWays 19 = .ok (.getfield 33, 3) := by decide +kernel
theorem dX4_layWays_22 : decode cX4_layWays 22 = .ok (.sipush 256, 3) := by decide +kernel
theorem dX4_layWays_25 : decode cX4_layWays 25 = .ok (.iload_n 3, 1) := by decide +kernel
theorem dX4_layWays_26 : decode cX4_layWays 26 = .ok (.imul, 1) := by decide +kernel
theorem dX4_layWays_27 : decode cX4_layWays 27 = .ok (.iload 4, 2) := by decide +kernel
theorem dX4_layWays_29 : decode cX4_layWays 29 = .ok (.iadd, 1) := by decide +kernel
theorem dX4_layWays_30 : decode cX4_layWays 30 = .ok (.iconst 1, 1) := by decide +kernel
theorem dX4_layWays_31 : decode cX4_layWays 31 = .ok (.iastore, 1) := by decide +kernel
theorem dX4_layWays_32 : decode cX4_layWays 32 = .ok (.aload_n 0, 1) := by decide +kernel
theorem dX4_layWays_33 : decode cX4_layWays 33 = .ok (.getfield 36, 3) := by decide +kernel
theorem dX4_layWays_36 : decode cX4_layWays 36 = .ok (.sipush 256, 3) := by decide +kernel
theorem dX4_layWays_39 : decode cX4_layWays 39 = .ok (.iload_n 3, 1) := by decide +kernel
theorem dX4_layWays_40 : decode cX4_layWays 40 = .ok (.imul, 1) := by decide +kernel
theorem dX4_layWays_41 : decode cX4_layWays 41 = .ok (.iload 4, 2) := by decide +kernel
theorem dX4_layWays_43 : decode cX4_layWays 43 = .ok (.iadd, 1) := by decide +kernel
theorem dX4_layWays_44 : decode cX4_layWays 44 = .ok (.iconst 0, 1) := by decide +kernel
theorem dX4_layWays_45 : decode cX4_layWays 45 = .ok (.iastore, 1) := by decide +kernel
theorem dX4_layWays_46 : decode cX4_layWays 46 = .ok (.iinc 4 1, 3) := by decide +kernel
theorem dX4_layWays_49 : decode cX4_layWays 49 = .ok (.goto (-39), 3) := by decide +kernel
theorem dX4_layWays_52 : decode cX4_layWays 52 = .ok (.iload_n 3, 1) := by decide +kernel
theorem dX4_layWays_53 : decode cX4_layWays 53 = .ok (.iconst 1, 1) := by decide +kernel
theorem dX4_layWays_54 : decode cX4_layWays 54 = .ok (.isub, 1) := by decide +kernel
theorem dX4_layWays_55 : decode cX4_layWays 55 = .ok (.istore 4, 2) := by decide +kernel
theorem dX4_layWays_57 : decode cX4_layWays 57 = .ok (.iload 4, 2) := by decide +kernel
theorem dX4_layWays_59 : decode cX4_layWays 59 = .ok (.ifCond .lt 193, 3) := by decide +kernel
theorem dX4_layWays_62 : decode cX4_layWays 62 = .ok (.iconst 0, 1) := by decide +kernel
theorem dX4_layWays_63 : decode cX4_layWays 63 = .ok (.istore 5, 2) := by decide +kernel
theorem dX4_layWays_65 : decode cX4_layWays 65 = .ok (.iload 5, 2) := by decide +kernel
theorem dX4_layWays_67 : decode cX4_layWays 67 = .ok (.sipush 256, 3) := by decide +kernel
theorem dX4_layWays_70 : decode cX4_layWays 70 = .ok (.if_icmp .ge 176, 3) := by decide +kernel
theorem dX4_layWays_73 : decode cX4_layWays 73 = .ok (.iconst 0, 1) := by decide +kernel
theorem dX4_layWays_74 : decode cX4_layWays 74 = .ok (.istore 6, 2) := by decide +kernel
theorem dX4_layWays_76 : decode cX4_layWays 76 = .ok (.sipush 9999, 3) := by decide +kernel
theorem dX4_layWays_79 : decode cX4_layWays 79 = .ok (.istore 7, 2) := by decide +kernel
theorem dX4_layWays_81 : decode cX4_layWays 81 = .ok (.iconst 0, 1) := by decide +kernel
theorem dX4_layWays_82 : decode cX4_layWays 82 = .ok (.istore 8, 2) := by decide +kernel
theorem dX4_layWays_84 : decode cX4_layWays 84 = .ok (.iload 8, 2) := by decide +kernel
theorem dX4_layWays_86 : decode cX4_layWays 86 = .ok (.aload_n 0, 1) := by decide +kernel
theorem dX4_layWays_87 : decode cX4_layWays 87 = .ok (.getfield 7, 3) := by decide +kernel
theorem dX4_layWays_90 : decode cX4_layWays 90 = .ok (.iconst 3, 1) := by decide +kernel
theorem dX4_layWays_91 : decode cX4_layWays 91 = .ok (.iaload, 1) := by decide +kernel
theorem dX4_layWays_92 : decode cX4_layWays 92 = .ok (.if_icmp .ge 116, 3) := by decide +kernel
theorem dX4_layWays_95 : decode cX4_layWays 95 = .ok (.sipush 256, 3) := by decide +kernel
theorem dX4_layWays_98 : decode cX4_layWays 98 = .ok (.iload 4, 2) := by decide +kernel
theorem dX4_layWays_100 : decode cX4_layWays 100 = .ok (.iconst 1, 1) := by decide +kernel
theorem dX4_layWays_101 : decode cX4_layWays 101 = .ok (.iadd, 1) := by decide +kernel
theorem dX4_layWays_102 : decode cX4_layWays 102 = .ok (.imul, 1) := by decide +kernel
theorem dX4_layWays_103 : decode cX4_layWays 103 = .ok (.iload 5, 2) := by decide +kernel
theorem dX4_layWays_105 : decode cX4_layWays 105 = .ok (.iconst 1, 1) := by decide +kernel
theorem dX4_layWays_106 : decode cX4_layWays 106 = .ok (.iload 8, 2) := by decide +kernel
theorem dX4_layWays_108 : decode cX4_layWays 108 = .ok (.ishl, 1) := by decide +kernel
theorem dX4_layWays_109 : decode cX4_layWays 109 = .ok (.ior, 1) := by decide +kernel
theorem dX4_layWays_110 : decode cX4_layWays 110 = .ok (.iadd, 1) := by decide +kernel
theorem dX4_layWays_111 : decode cX4_layWays 111 = .ok (.istore 9, 2) := by decide +kernel
theorem dX4_layWays_113 : decode cX4_layWays 113 = .ok (.iload 5, 2) := by decide +kernel
theorem dX4_layWays_115 : decode cX4_layWays 115 = .ok (.iload 8, 2) := by decide +kernel
theorem dX4_layWays_117 : decode cX4_layWays 117 = .ok (.invokestatic 191, 3) := by decide +kernel
theorem dX4_layWays_120 : decode cX4_layWays 120 = .ok (.ifCond .ne 82, 3) := by decide +kernel
theorem dX4_layWays_123 : decode cX4_layWays 123 = .ok (.aload_n 0, 1) := by decide +kernel
theorem dX4_layWays_124 : decode cX4_layWays 124 = .ok (.getfield 33, 3) := by decide +kernel
theorem dX4_layWays_127 : decode cX4_layWays 127 = .ok (.iload 9, 2) := by decide +kernel
theorem dX4_layWays_129 : decode cX4_layWays 129 = .ok (.iaload, 1) := by decide +kernel
theorem dX4_layWays_130 : decode cX4_layWays 130 = .ok (.ifCond .le 72, 3) := by decide +kernel
theorem dX4_layWays_133 : decode cX4_layWays 133 = .ok (.aload_n 0, 1) := by decide +kernel
theorem dX4_layWays_134 : decode cX4_layWays 134 = .ok (.iload_n 1, 1) := by decide +kernel
theorem dX4_layWays_135 : decode cX4_layWays 135 = .ok (.iload_n 2, 1) := by decide +kernel
theorem dX4_layWays_136 : decode cX4_layWays 136 = .ok (.iload 8, 2) := by decide +kernel
theorem dX4_layWays_138 : decode cX4_layWays 138 = .ok (.iload 4, 2) := by decide +kernel
theorem dX4_layWays_140 : decode cX4_layWays 140 = .ok (.invokevirtual 194, 3) := by decide +kernel
theorem dX4_layWays_143 : decode cX4_layWays 143 = .ok (.ifCond .eq 59, 3) := by decide +kernel
theorem dX4_layWays_146 : decode cX4_layWays 146 = .ok (.iload 6, 2) := by decide +kernel
theorem dX4_layWays_148 : decode cX4_layWays 148 = .ok (.aload_n 0, 1) := by decide +kernel
theorem dX4_layWays_149 : decode cX4_layWays 149 = .ok (.getfield 33, 3) := by decide +kernel
theorem dX4_layWays_152 : decode cX4_layWays 152 = .ok (.iload 9, 2) := by decide +kernel
theorem dX4_layWays_154 : decode cX4_layWays 154 = .ok (.iaload, 1) := by decide +kernel
theorem dX4_layWays_155 : decode cX4_layWays 155 = .ok (.iadd, 1) := by decide +kernel
theorem dX4_layWays_156 : decode cX4_layWays 156 = .ok (.istore 6, 2) := by decide +kernel
theorem dX4_layWays_158 : decode cX4_layWays 158 = .ok (.aload_n 0, 1) := by decide +kernel
theorem dX4_layWays_159 : decode cX4_layWays 159 = .ok (.iload 8, 2) := by decide +kernel
theorem dX4_layWays_161 : decode cX4_layWays 161 = .ok (.iload 4, 2) := by decide +kernel
theorem dX4_layWays_163 : decode cX4_layWays 163 = .ok (.invokevirtual 187, 3) := by decide +kernel
theorem dX4_layWays_166 : decode cX4_layWays 166 = .ok (.aload_n 0, 1) := by decide +kernel
theorem dX4_layWays_167 : decode cX4_layWays 167 = .ok (.getfield 36, 3) := by decide +kernel
theorem dX4_layWays_170 : decode cX4_layWays 170 = .ok (.iload 9, 2) := by decide +kernel
theorem dX4_layWays_172 : decode cX4_layWays 172 = .ok (.iaload, 1) := by decide +kernel
theorem dX4_layWays_173 : decode cX4_layWays 173 = .ok (.iadd, 1) := by decide +kernel
theorem dX4_layWays_174 : decode cX4_layWays 174 = .ok (.iload 7, 2) := by decide +kernel
theorem dX4_layWays_176 : decode cX4_layWays 176 = .ok (.if_icmp .ge 22, 3) := by decide +kernel
theorem dX4_layWays_179 : decode cX4_layWays 179 = .ok (.aload_n 0, 1) := by decide +kernel
theorem dX4_layWays_180 : decode cX4_layWays 180 = .ok (.iload 8, 2) := by decide +kernel
theorem dX4_layWays_182 : decode cX4_layWays 182 = .ok (.iload 4, 2) := by decide +kernel
theorem dX4_layWays_184 : decode cX4_layWays 184 = .ok (.invokevirtual 187, 3) := by decide +kernel
theorem dX4_layWays_187 : decode cX4_layWays 187 = .ok (.aload_n 0, 1) := by decide +kernel
theorem dX4_layWays_188 : decode cX4_layWays 188 = .ok (.getfield 36, 3) := by decide +kernel
theorem dX4_layWays_191 : decode cX4_layWays 191 = .ok (.iload 9, 2) := by decide +kernel
theorem dX4_layWays_193 : decode cX4_layWays 193 = .ok (.iaload, 1) := by decide +kernel
theorem dX4_layWays_194 : decode cX4_layWays 194 = .ok (.iadd, 1) := by decide +kernel
theorem dX4_layWays_195 : decode cX4_layWays 195 = .ok (.goto 5, 3) := by decide +kernel
theorem dX4_layWays_198 : decode cX4_layWays 198 = .ok (.iload 7, 2) := by decide +kernel
theorem dX4_layWays_200 : decode cX4_layWays 200 = .ok (.istore 7, 2) := by decide +kernel
theorem dX4_layWays_202 : decode cX4_layWays 202 = .ok (.iinc 8 1, 3) := by decide +kernel
theorem dX4_layWays_205 : decode cX4_layWays 205 = .ok (.goto (-121), 3) := by decide +kernel
theorem dX4_layWays_208 : decode cX4_layWays 208 = .ok (.aload_n 0, 1) := by decide +kernel
theorem dX4_layWays_209 : decode cX4_layWays 209 = .ok (.getfield 33, 3) := by decide +kernel
theorem dX4_layWays_212 : decode cX4_layWays 212 = .ok (.sipush 256, 3) := by decide +kernel
theorem dX4_layWays_215 : decode cX4_layWays 215 = .ok (.iload 4, 2) := by decide +kernel
theorem dX4_layWays_217 : decode cX4_layWays 217 = .ok (.imul, 1) := by decide +kernel
theorem dX4_layWays_218 : decode cX4_layWays 218 = .ok (.iload 5, 2) := by decide +kernel
theorem dX4_layWays_220 : decode cX4_layWays 220 = .ok (.iadd, 1) := by decide +kernel
theorem dX4_layWays_221 : decode cX4_layWays 221 = .ok (.iload 6, 2) := by decide +kernel
theorem dX4_layWays_223 : decode cX4_layWays 223 = .ok (.iastore, 1) := by decide +kernel
theorem dX4_layWays_224 : decode cX4_layWays 224 = .ok (.aload_n 0, 1) := by decide +kernel
theorem dX4_layWays_225 : decode cX4_layWays 225 = .ok (.getfield 36, 3) := by decide +kernel
theorem dX4_layWays_228 : decode cX4_layWays 228 = .ok (.sipush 256, 3) := by decide +kernel
theorem dX4_layWays_231 : decode cX4_layWays 231 = .ok (.iload 4, 2) := by decide +kernel
theorem dX4_layWays_233 : decode cX4_layWays 233 = .ok (.imul, 1) := by decide +kernel
theorem dX4_layWays_234 : decode cX4_layWays 234 = .ok (.iload 5, 2) := by decide +kernel
theorem dX4_layWays_236 : decode cX4_layWays 236 = .ok (.iadd, 1) := by decide +kernel
theorem dX4_layWays_237 : decode cX4_layWays 237 = .ok (.iload 7, 2) := by decide +kernel
theorem dX4_layWays_239 : decode cX4_layWays 239 = .ok (.iastore, 1) := by decide +kernel
theorem dX4_layWays_240 : decode cX4_layWays 240 = .ok (.iinc 5 1, 3) := by decide +kernel
theorem dX4_layWays_243 : decode cX4_layWays 243 = .ok (.goto (-178), 3) := by decide +kernel
theorem dX4_layWays_246 : decode cX4_layWays 246 = .ok (.iinc 4 (-1), 3) := by decide +kernel
theorem dX4_layWays_249 : decode cX4_layWays 249 = .ok (.goto (-192), 3) := by decide +kernel
theorem dX4_layWays_252 : decode cX4_layWays 252 = .ok (.return_, 1) := by decide +kernel
theorem dX4_ways_0 : decode cX4_ways 0 = .ok (.aload_n 0, 1) := by decide +kernel
theorem dX4_ways_1 : decode cX4_ways 1 = .ok (.aload_n 0, 1) := by decide +kernel
theorem dX4_ways_2 : decode cX4_ways 2 = .ok (.getfield 7, 3) := by decide +kernel
theorem dX4_ways_5 : decode cX4_ways 5 = .ok (.iconst 0, 1) := by decide +kernel
theorem dX4_ways_6 : decode cX4_ways 6 = .ok (.iaload, 1) := by decide +kernel
theorem dX4_ways_7 : decode cX4_ways 7 = .ok (.iconst 0, 1) := by decide +kernel
theorem dX4_ways_8 : decode cX4_ways 8 = .ok (.invokevirtual 198, 3) := by decide +kernel
theorem dX4_ways_11 : decode cX4_ways 11 = .ok (.aload_n 0, 1) := by decide +kernel
theorem dX4_ways_12 : decode cX4_ways 12 = .ok (.getfield 33, 3) := by decide +kernel
theorem dX4_ways_15 : decode cX4_ways 15 = .ok (.iconst 0, 1) := by decide +kernel
theorem dX4_ways_16 : decode cX4_ways 16 = .ok (.iaload, 1) := by decide +kernel
theorem dX4_ways_17 : decode cX4_ways 17 = .ok (.ireturn, 1) := by decide +kernel
theorem dX4_wordOn_0 : decode cX4_wordOn 0 = .ok (.iconst 0, 1) := by decide +kernel
theorem dX4_wordOn_1 : decode cX4_wordOn 1 = .ok (.istore_n 3, 1) := by decide +kernel
theorem dX4_wordOn_2 : decode cX4_wordOn 2 = .ok (.iconst (-1), 1) := by decide +kernel
theorem dX4_wordOn_3 : decode cX4_wordOn 3 = .ok (.istore 4, 2) := by decide +kernel
theorem dX4_wordOn_5 : decode cX4_wordOn 5 = .ok (.iconst 0, 1) := by decide +kernel
theorem dX4_wordOn_6 : decode cX4_wordOn 6 = .ok (.istore 5, 2) := by decide +kernel
theorem dX4_wordOn_8 : decode cX4_wordOn 8 = .ok (.iload 5, 2) := by decide +kernel
theorem dX4_wordOn_10 : decode cX4_wordOn 10 = .ok (.iload_n 1, 1) := by decide +kernel
theorem dX4_wordOn_11 : decode cX4_wordOn 11 = .ok (.if_icmp .gt 167, 3) := by decide +kernel
theorem dX4_wordOn_14 : decode cX4_wordOn 14 = .ok (.iconst (-1), 1) := by decide +kernel
theorem dX4_wordOn_15 : decode cX4_wordOn 15 = .ok (.istore 4, 2) := by decide +kernel
theorem dX4_wordOn_17 : decode cX4_wordOn 17 = .ok (.aload_n 0, 1) := by decide +kernel
theorem dX4_wordOn_18 : decode cX4_wordOn 18 = .ok (.getfield 7, 3) := by decide +kernel
theorem dX4_wordOn_21 : decode cX4_wordOn 21 = .ok (.iconst 3, 1) := by decide +kernel
theorem dX4_wordOn_22 : decode cX4_wordOn 22 = .ok (.iaload, 1) := by decide +kernel
theorem dX4_wordOn_23 : decode cX4_wordOn 23 = .ok (.iconst 1, 1) := by decide +kernel
theorem dX4_wordOn_24 : decode cX4_wordOn 24 = .ok (.isub, 1) := by decide +kernel
theorem dX4_wordOn_25 : decode cX4_wordOn 25 = .ok (.istore 6, 2) := by decide +kernel
theorem dX4_wordOn_27 : decode cX4_wordOn 27 = .ok (.iload 6, 2) := by decide +kernel
theorem dX4_wordOn_29 : decode cX4_wordOn 29 = .ok (.ifCond .lt 136, 3) := by decide +kernel
theorem dX4_wordOn_32 : decode cX4_wordOn 32 = .ok (.sipush 256, 3) := by decide +kernel
theorem dX4_wordOn_35 : decode cX4_wordOn 35 = .ok (.iload 5, 2) := by decide +kernel
theorem dX4_wordOn_37 : decode cX4_wordOn 37 = .ok (.iconst 1, 1) := by decide +kernel
theorem dX4_wordOn_38 : decode cX4_wordOn 38 = .ok (.iadd, 1) := by decide +kernel
theorem dX4_wordOn_39 : decode cX4_wordOn 39 = .ok (.imul, 1) := by decide +kernel
theorem dX4_wordOn_40 : decode cX4_wordOn 40 = .ok (.iload_n 3, 1) := by decide +kernel
theorem dX4_wordOn_41 : decode cX4_wordOn 41 = .ok (.iconst 1, 1) := by decide +kernel
theorem dX4_wordOn_42 : decode cX4_wordOn 42 = .ok (.iload 6, 2) := by decide +kernel
theorem dX4_wordOn_44 : decode cX4_wordOn 44 = .ok (.ishl, 1) := by decide +kernel
theorem dX4_wordOn_45 : decode cX4_wordOn 45 = .ok (.ior, 1) := by decide +kernel
theorem dX4_wordOn_46 : decode cX4_wordOn 46 = .ok (.iadd, 1) := by decide +kernel
theorem dX4_wordOn_47 : decode cX4_wordOn 47 = .ok (.istore 7, 2) := by decide +kernel
theorem dX4_wordOn_49 : decode cX4_wordOn 49 = .ok (.iload_n 3, 1) := by decide +kernel
theorem dX4_wordOn_50 : decode cX4_wordOn 50 = .ok (.iload 6, 2) := by decide +kernel
theorem dX4_wordOn_52 : decode cX4_wordOn 52 = .ok (.invokestatic 191, 3) := by decide +kernel
theorem dX4_wordOn_55 : decode cX4_wordOn 55 = .ok (.ifCond .ne 34, 3) := by decide +kernel
theorem dX4_wordOn_58 : decode cX4_wordOn 58 = .ok (.aload_n 0, 1) := by decide +kernel
theorem dX4_wordOn_59 : decode cX4_wordOn 59 = .ok (.getfield 33, 3) := by decide +kernel
theorem dX4_wordOn_62 : decode cX4_wordOn 62 = .ok (.iload 7, 2) := by decide +kernel
theorem dX4_wordOn_64 : decode cX4_wordOn 64 = .ok (.iaload, 1) := by decide +kernel
theorem dX4_wordOn_65 : decode cX4_wordOn 65 = .ok (.ifCond .le 24, 3) := by decide +kernel
theorem dX4_wordOn_68 : decode cX4_wordOn 68 = .ok (.aload_n 0, 1) := by decide +kernel
theorem dX4_wordOn_69 : decode cX4_wordOn 69 = .ok (.aload_n 0, 1) := by decide +kernel
theorem dX4_wordOn_70 : decode cX4_wordOn 70 = .ok (.getfield 7, 3) := by decide +kernel
theorem dX4_wordOn_73 : decode cX4_wordOn 73 = .ok (.iconst 0, 1) := by decide +kernel
theorem dX4_wordOn_74 : decode cX4_wordOn 74 = .ok (.iaload, 1) := by decide +kernel
theorem dX4_wordOn_75 : decode cX4_wordOn 75 = .ok (.iload 6, 2) := by decide +kernel
theorem dX4_wordOn_77 : decode cX4_wordOn 77 = .ok (.iload 5, 2) := by decide +kernel
theorem dX4_wordOn_79 : decode cX4_wordOn 79 = .ok (.invokevirtual 168, 3) := by decide +kernel
theorem dX4_wordOn_82 : decode cX4_wordOn 82 = .ok (.ifCond .eq 7, 3) := by decide +kernel
theorem dX4_wordOn_85 : decode cX4_wordOn 85 = .ok (.iconst 1, 1) := by decide +kernel
theorem dX4_wordOn_86 : decode cX4_wordOn 86 = .ok (.goto 4, 3) := by decide +kernel
theorem dX4_wordOn_89 : decode cX4_wordOn 89 = .ok (.iconst 0, 1) := by decide +kernel
theorem dX4_wordOn_90 : decode cX4_wordOn 90 = .ok (.istore 8, 2) := by decide +kernel
theorem dX4_wordOn_92 : decode cX4_wordOn 92 = .ok (.iload 8, 2) := by decide +kernel
theorem dX4_wordOn_94 : decode cX4_wordOn 94 = .ok (.ifCond .eq 39, 3) := by decide +kernel
theorem dX4_wordOn_97 : decode cX4_wordOn 97 = .ok (.aload_n 0, 1) := by decide +kernel
theorem dX4_wordOn_98 : decode cX4_wordOn 98 = .ok (.iload 6, 2) := by decide +kernel
theorem dX4_wordOn_100 : decode cX4_wordOn 100 = .ok (.iload 5, 2) := by decide +kernel
theorem dX4_wordOn_102 : decode cX4_wordOn 102 = .ok (.invokevirtual 187, 3) := by decide +kernel
theorem dX4_wordOn_105 : decode cX4_wordOn 105 = .ok (.aload_n 0, 1) := by decide +kernel
theorem dX4_wordOn_106 : decode cX4_wordOn 106 = .ok (.getfield 36, 3) := by decide +kernel
theorem dX4_wordOn_109 : decode cX4_wordOn 109 = .ok (.iload 7, 2) := by decide +kernel
theorem dX4_wordOn_111 : decode cX4_wordOn 111 = .ok (.iaload, 1) := by decide +kernel
theorem dX4_wordOn_112 : decode cX4_wordOn 112 = .ok (.iadd, 1) := by decide +kernel
theorem dX4_wordOn_113 : decode cX4_wordOn 113 = .ok (.aload_n 0, 1) := by decide +kernel
theorem dX4_wordOn_114 : decode cX4_wordOn 114 = .ok (.getfield 36, 3) := by decide +kernel
theorem dX4_wordOn_117 : decode cX4_wordOn 117 = .ok (.sipush 256, 3) := by decide +kernel
theorem dX4_wordOn_120 : decode cX4_wordOn 120 = .ok (.iload 5, 2) := by decide +kernel
theorem dX4_wordOn_122 : decode cX4_wordOn 122 = .ok (.imul, 1) := by decide +kernel
theorem dX4_wordOn_123 : decode cX4_wordOn 123 = .ok (.iload_n 3, 1) := by decide +kernel
theorem dX4_wordOn_124 : decode cX4_wordOn 124 = .ok (.iadd, 1) := by decide +kernel
theorem dX4_wordOn_125 : decode cX4_wordOn 125 = .ok (.iaload, 1) := by decide +kernel
theorem dX4_wordOn_126 : decode cX4_wordOn 126 = .ok (.if_icmp .ne 7, 3) := by decide +kernel
theorem dX4_wordOn_129 : decode cX4_wordOn 129 = .ok (.iconst 1, 1) := by decide +kernel
theorem dX4_wordOn_130 : decode cX4_wordOn 130 = .ok (.goto 4, 3) := by decide +kernel
theorem dX4_wordOn_133 : decode cX4_wordOn 133 = .ok (.iconst 0, 1) := by decide +kernel
theorem dX4_wordOn_134 : decode cX4_wordOn 134 = .ok (.istore 9, 2) := by decide +kernel
theorem dX4_wordOn_136 : decode cX4_wordOn 136 = .ok (.iload 8, 2) := by decide +kernel
theorem dX4_wordOn_138 : decode cX4_wordOn 138 = .ok (.ifCond .eq 17, 3) := by decide +kernel
theorem dX4_wordOn_141 : decode cX4_wordOn 141 = .ok (.iload_n 2, 1) := by decide +kernel
theorem dX4_wordOn_142 : decode cX4_wordOn 142 = .ok (.ifCond .eq 8, 3) := by decide +kernel
theorem dX4_wordOn_145 : decode cX4_wordOn 145 = .ok (.iload 9, 2) := by decide +kernel
theorem dX4_wordOn_147 : decode cX4_wordOn 147 = .ok (.ifCond .eq 8, 3) := by decide +kernel
theorem dX4_wordOn_150 : decode cX4_wordOn 150 = .ok (.iload 6, 2) := by decide +kernel
theorem dX4_wordOn_152 : decode cX4_wordOn 152 = .ok (.goto 5, 3) := by decide +kernel
theorem dX4_wordOn_155 : decode cX4_wordOn 155 = .ok (.iload 4, 2) := by decide +kernel
theorem dX4_wordOn_157 : decode cX4_wordOn 157 = .ok (.istore 4, 2) := by decide +kernel
theorem dX4_wordOn_159 : decode cX4_wordOn 159 = .ok (.iinc 6 (-1), 3) := by decide +kernel
theorem dX4_wordOn_162 : decode cX4_wordOn 162 = .ok (.goto (-135), 3) := by decide +kernel
theorem dX4_wordOn_165 : decode cX4_wordOn 165 = .ok (.iload_n 3, 1) := by decide +kernel
theorem dX4_wordOn_166 : decode cX4_wordOn 166 = .ok (.iconst 1, 1) := by decide +kernel
theorem dX4_wordOn_167 : decode cX4_wordOn 167 = .ok (.iload 4, 2) := by decide +kernel
theorem dX4_wordOn_169 : decode cX4_wordOn 169 = .ok (.ishl, 1) := by decide +kernel
theorem dX4_wordOn_170 : decode cX4_wordOn 170 = .ok (.ior, 1) := by decide +kernel
theorem dX4_wordOn_171 : decode cX4_wordOn 171 = .ok (.istore_n 3, 1) := by decide +kernel
theorem dX4_wordOn_172 : decode cX4_wordOn 172 = .ok (.iinc 5 1, 3) := by decide +kernel
theorem dX4_wordOn_175 : decode cX4_wordOn 175 = .ok (.goto (-167), 3) := by decide +kernel
theorem dX4_wordOn_178 : decode cX4_wordOn 178 = .ok (.iload 4, 2) := by decide +kernel
theorem dX4_wordOn_180 : decode cX4_wordOn 180 = .ok (.ireturn, 1) := by decide +kernel
theorem dX4_first_0 : decode cX4_first 0 = .ok (.aload_n 0, 1) := by decide +kernel
theorem dX4_first_1 : decode cX4_first 1 = .ok (.iload_n 1, 1) := by decide +kernel
theorem dX4_first_2 : decode cX4_first 2 = .ok (.invokevirtual 174, 3) := by decide +kernel
theorem dX4_first_5 : decode cX4_first 5 = .ok (.ifCond .ne 8, 3) := by decide +kernel
theorem dX4_first_8 : decode cX4_first 8 = .ok (.aload_n 0, 1) := by decide +kernel
theorem dX4_first_9 : decode cX4_first 9 = .ok (.invokevirtual 60, 3) := by decide +kernel
theorem dX4_first_12 : decode cX4_first 12 = .ok (.ireturn, 1) := by decide +kernel
theorem dX4_first_13 : decode cX4_first 13 = .ok (.aload_n 0, 1) := by decide +kernel
theorem dX4_first_14 : decode cX4_first 14 = .ok (.aload_n 0, 1) := by decide +kernel
theorem dX4_first_15 : decode cX4_first 15 = .ok (.getfield 7, 3) := by decide +kernel
theorem dX4_first_18 : decode cX4_first 18 = .ok (.iconst 0, 1) := by decide +kernel
theorem dX4_first_19 : decode cX4_first 19 = .ok (.iaload, 1) := by decide +kernel
theorem dX4_first_20 : decode cX4_first 20 = .ok (.iconst 0, 1) := by decide +kernel
theorem dX4_first_21 : decode cX4_first 21 = .ok (.invokevirtual 198, 3) := by decide +kernel
theorem dX4_first_24 : decode cX4_first 24 = .ok (.aload_n 0, 1) := by decide +kernel
theorem dX4_first_25 : decode cX4_first 25 = .ok (.getfield 33, 3) := by decide +kernel
theorem dX4_first_28 : decode cX4_first 28 = .ok (.iconst 0, 1) := by decide +kernel
theorem dX4_first_29 : decode cX4_first 29 = .ok (.iaload, 1) := by decide +kernel
theorem dX4_first_30 : decode cX4_first 30 = .ok (.ifCond .ne 7, 3) := by decide +kernel
theorem dX4_first_33 : decode cX4_first 33 = .ok (.iconst (-1), 1) := by decide +kernel
theorem dX4_first_34 : decode cX4_first 34 = .ok (.goto 9, 3) := by decide +kernel
theorem dX4_first_37 : decode cX4_first 37 = .ok (.aload_n 0, 1) := by decide +kernel
theorem dX4_first_38 : decode cX4_first 38 = .ok (.iload_n 1, 1) := by decide +kernel
theorem dX4_first_39 : decode cX4_first 39 = .ok (.iconst 0, 1) := by decide +kernel
theorem dX4_first_40 : decode cX4_first 40 = .ok (.invokevirtual 202, 3) := by decide +kernel
theorem dX4_first_43 : decode cX4_first 43 = .ok (.ireturn, 1) := by decide +kernel
theorem dX4_cheap_0 : decode cX4_cheap 0 = .ok (.iload_n 1, 1) := by decide +kernel
theorem dX4_cheap_1 : decode cX4_cheap 1 = .ok (.iconst (-1), 1) := by decide +kernel
theorem dX4_cheap_2 : decode cX4_cheap 2 = .ok (.if_icmp .eq 18, 3) := by decide +kernel
theorem dX4_cheap_5 : decode cX4_cheap 5 = .ok (.aload_n 0, 1) := by decide +kernel
theorem dX4_cheap_6 : decode cX4_cheap 6 = .ok (.iload_n 1, 1) := by decide +kernel
theorem dX4_cheap_7 : decode cX4_cheap 7 = .ok (.invokevirtual 174, 3) := by decide +kernel
theorem dX4_cheap_10 : decode cX4_cheap 10 = .ok (.ifCond .ne 10, 3) := by decide +kernel
theorem dX4_cheap_13 : decode cX4_cheap 13 = .ok (.aload_n 0, 1) := by decide +kernel
theorem dX4_cheap_14 : decode cX4_cheap 14 = .ok (.bipush (-10), 2) := by decide +kernel
theorem dX4_cheap_16 : decode cX4_cheap 16 = .ok (.invokevirtual 49, 3) := by decide +kernel
theorem dX4_cheap_19 : decode cX4_cheap 19 = .ok (.ireturn, 1) := by decide +kernel
theorem dX4_cheap_20 : decode cX4_cheap 20 = .ok (.aload_n 0, 1) := by decide +kernel
theorem dX4_cheap_21 : decode cX4_cheap 21 = .ok (.aload_n 0, 1) := by decide +kernel
theorem dX4_cheap_22 : decode cX4_cheap 22 = .ok (.getfield 7, 3) := by decide +kernel
theorem dX4_cheap_25 : decode cX4_cheap 25 = .ok (.iconst 0, 1) := by decide +kernel
theorem dX4_cheap_26 : decode cX4_cheap 26 = .ok (.iaload, 1) := by decide +kernel
theorem dX4_cheap_27 : decode cX4_cheap 27 = .ok (.iconst 0, 1) := by decide +kernel
theorem dX4_cheap_28 : decode cX4_cheap 28 = .ok (.invokevirtual 198, 3) := by decide +kernel
theorem dX4_cheap_31 : decode cX4_cheap 31 = .ok (.aload_n 0, 1) := by decide +kernel
theorem dX4_cheap_32 : decode cX4_cheap 32 = .ok (.getfield 33, 3) := by decide +kernel
theorem dX4_cheap_35 : decode cX4_cheap 35 = .ok (.iconst 0, 1) := by decide +kernel
theorem dX4_cheap_36 : decode cX4_cheap 36 = .ok (.iaload, 1) := by decide +kernel
theorem dX4_cheap_37 : decode cX4_cheap 37 = .ok (.ifCond .ne 6, 3) := by decide +kernel
theorem dX4_cheap_40 : decode cX4_cheap 40 = .ok (.bipush (-6), 2) := by decide +kernel
theorem dX4_cheap_42 : decode cX4_cheap 42 = .ok (.ireturn, 1) := by decide +kernel
theorem dX4_cheap_43 : decode cX4_cheap 43 = .ok (.iload_n 1, 1) := by decide +kernel
theorem dX4_cheap_44 : decode cX4_cheap 44 = .ok (.iconst (-1), 1) := by decide +kernel
theorem dX4_cheap_45 : decode cX4_cheap 45 = .ok (.if_icmp .ne 12, 3) := by decide +kernel
theorem dX4_cheap_48 : decode cX4_cheap 48 = .ok (.aload_n 0, 1) := by decide +kernel
theorem dX4_cheap_49 : decode cX4_cheap 49 = .ok (.getfield 36, 3) := by decide +kernel
theorem dX4_cheap_52 : decode cX4_cheap 52 = .ok (.iconst 0, 1) := by decide +kernel
theorem dX4_cheap_53 : decode cX4_cheap 53 = .ok (.iaload, 1) := by decide +kernel
theorem dX4_cheap_54 : decode cX4_cheap 54 = .ok (.goto 9, 3) := by decide +kernel
theorem dX4_cheap_57 : decode cX4_cheap 57 = .ok (.aload_n 0, 1) := by decide +kernel
theorem dX4_cheap_58 : decode cX4_cheap 58 = .ok (.iload_n 1, 1) := by decide +kernel
theorem dX4_cheap_59 : decode cX4_cheap 59 = .ok (.iconst 1, 1) := by decide +kernel
theorem dX4_cheap_60 : decode cX4_cheap 60 = .ok (.invokevirtual 202, 3) := by decide +kernel
theorem dX4_cheap_63 : decode cX4_cheap 63 = .ok (.ireturn, 1) := by decide +kernel
theorem dX4_more_0 : decode cX4_more 0 = .ok (.aload_n 0, 1) := by decide +kernel
theorem dX4_more_1 : decode cX4_more 1 = .ok (.aload_n 0, 1) := by decide +kernel
theorem dX4_more_2 : decode cX4_more 2 = .ok (.getfield 7, 3) := by decide +kernel
theorem dX4_more_5 : decode cX4_more 5 = .ok (.iconst 0, 1) := by decide +kernel
theorem dX4_more_6 : decode cX4_more 6 = .ok (.iaload, 1) := by decide +kernel
theorem dX4_more_7 : decode cX4_more 7 = .ok (.iconst 1, 1) := by decide +kernel
theorem dX4_more_8 : decode cX4_more 8 = .ok (.invokevirtual 198, 3) := by decide +kernel
theorem dX4_more_11 : decode cX4_more 11 = .ok (.aload_n 0, 1) := by decide +kernel
theorem dX4_more_12 : decode cX4_more 12 = .ok (.getfield 33, 3) := by decide +kernel
theorem dX4_more_15 : decode cX4_more 15 = .ok (.iconst 0, 1) := by decide +kernel
theorem dX4_more_16 : decode cX4_more 16 = .ok (.iaload, 1) := by decide +kernel
theorem dX4_more_17 : decode cX4_more 17 = .ok (.ireturn, 1) := by decide +kernel
theorem dX4_without_0 : decode cX4_without 0 = .ok (.aload_n 0, 1) := by decide +kernel
theorem dX4_without_1 : decode cX4_without 1 = .ok (.aload_n 0, 1) := by decide +kernel
theorem dX4_without_2 : decode cX4_without 2 = .ok (.getfield 7, 3) := by decide +kernel
theorem dX4_without_5 : decode cX4_without 5 = .ok (.iconst 0, 1) := by decide +kernel
theorem dX4_without_6 : decode cX4_without 6 = .ok (.iaload, 1) := by decide +kernel
theorem dX4_without_7 : decode cX4_without 7 = .ok (.iconst 0, 1) := by decide +kernel
theorem dX4_without_8 : decode cX4_without 8 = .ok (.invokevirtual 198, 3) := by decide +kernel
theorem dX4_without_11 : decode cX4_without 11 = .ok (.aload_n 0, 1) := by decide +kernel
theorem dX4_without_12 : decode cX4_without 12 = .ok (.getfield 33, 3) := by decide +kernel
theorem dX4_without_15 : decode cX4_without 15 = .ok (.iconst 1, 1) := by decide +kernel
theorem dX4_without_16 : decode cX4_without 16 = .ok (.iload_n 1, 1) := by decide +kernel
theorem dX4_without_17 : decode cX4_without 17 = .ok (.ishl, 1) := by decide +kernel
theorem dX4_without_18 : decode cX4_without 18 = .ok (.iaload, 1) := by decide +kernel
theorem dX4_without_19 : decode cX4_without 19 = .ok (.ireturn, 1) := by decide +kernel
theorem dX4_needs_0 : decode cX4_needs 0 = .ok (.iload_n 1, 1) := by decide +kernel
theorem dX4_needs_1 : decode cX4_needs 1 = .ok (.iconst 0, 1) := by decide +kernel
theorem dX4_needs_2 : decode cX4_needs 2 = .ok (.iconst 1, 1) := by decide +kernel
theorem dX4_needs_3 : decode cX4_needs 3 = .ok (.invokestatic 53, 3) := by decide +kernel
theorem dX4_needs_6 : decode cX4_needs 6 = .ok (.ifCond .ne 8, 3) := by decide +kernel
theorem dX4_needs_9 : decode cX4_needs 9 = .ok (.aload_n 0, 1) := by decide +kernel
theorem dX4_needs_10 : decode cX4_needs 10 = .ok (.invokevirtual 60, 3) := by decide +kernel
theorem dX4_needs_13 : decode cX4_needs 13 = .ok (.ireturn, 1) := by decide +kernel
theorem dX4_needs_14 : decode cX4_needs 14 = .ok (.aload_n 0, 1) := by decide +kernel
theorem dX4_needs_15 : decode cX4_needs 15 = .ok (.aload_n 0, 1) := by decide +kernel
theorem dX4_needs_16 : decode cX4_needs 16 = .ok (.getfield 7, 3) := by decide +kernel
theorem dX4_needs_19 : decode cX4_needs 19 = .ok (.iconst 0, 1) := by decide +kernel
theorem dX4_needs_20 : decode cX4_needs 20 = .ok (.iaload, 1) := by decide +kernel
theorem dX4_needs_21 : decode cX4_needs 21 = .ok (.iconst 0, 1) := by decide +kernel
theorem dX4_needs_22 : decode cX4_needs 22 = .ok (.invokevirtual 198, 3) := by decide +kernel
theorem dX4_needs_25 : decode cX4_needs 25 = .ok (.aload_n 0, 1) := by decide +kernel
theorem dX4_needs_26 : decode cX4_needs 26 = .ok (.getfield 33, 3) := by decide +kernel
theorem dX4_needs_29 : decode cX4_needs 29 = .ok (.iconst 0, 1) := by decide +kernel
theorem dX4_needs_30 : decode cX4_needs 30 = .ok (.iaload, 1) := by decide +kernel
theorem dX4_needs_31 : decode cX4_needs 31 = .ok (.istore_n 2, 1) := by decide +kernel
theorem dX4_needs_32 : decode cX4_needs 32 = .ok (.iconst 0, 1) := by decide +kernel
theorem dX4_needs_33 : decode cX4_needs 33 = .ok (.istore_n 3, 1) := by decide +kernel
theorem dX4_needs_34 : decode cX4_needs 34 = .ok (.iconst 0, 1) := by decide +kernel
theorem dX4_needs_35 : decode cX4_needs 35 = .ok (.istore 4, 2) := by decide +kernel
theorem dX4_needs_37 : decode cX4_needs 37 = .ok (.iload 4, 2) := by decide +kernel
theorem dX4_needs_39 : decode cX4_needs 39 = .ok (.aload_n 0, 1) := by decide +kernel
theorem dX4_needs_40 : decode cX4_needs 40 = .ok (.getfield 7, 3) := by decide +kernel
theorem dX4_needs_43 : decode cX4_needs 43 = .ok (.iconst 3, 1) := by decide +kernel
theorem dX4_needs_44 : decode cX4_needs 44 = .ok (.iaload, 1) := by decide +kernel
theorem dX4_needs_45 : decode cX4_needs 45 = .ok (.if_icmp .ge 67, 3) := by decide +kernel
theorem dX4_needs_48 : decode cX4_needs 48 = .ok (.aload_n 0, 1) := by decide +kernel
theorem dX4_needs_49 : decode cX4_needs 49 = .ok (.iload 4, 2) := by decide +kernel
theorem dX4_needs_51 : decode cX4_needs 51 = .ok (.invokevirtual 206, 3) := by decide +kernel
theorem dX4_needs_54 : decode cX4_needs 54 = .ok (.istore 5, 2) := by decide +kernel
theorem dX4_needs_56 : decode cX4_needs 56 = .ok (.iload_n 1, 1) := by decide +kernel
theorem dX4_needs_57 : decode cX4_needs 57 = .ok (.ifCond .ne 20, 3) := by decide +kernel
theorem dX4_needs_60 : decode cX4_needs 60 = .ok (.iload_n 2, 1) := by decide +kernel
theorem dX4_needs_61 : decode cX4_needs 61 = .ok (.ifCond .le 12, 3) := by decide +kernel
theorem dX4_needs_64 : decode cX4_needs 64 = .ok (.iload 5, 2) := by decide +kernel
theorem dX4_needs_66 : decode cX4_needs 66 = .ok (.ifCond .ne 7, 3) := by decide +kernel
theorem dX4_needs_69 : decode cX4_needs 69 = .ok (.iconst 1, 1) := by decide +kernel
theorem dX4_needs_70 : decode cX4_needs 70 = .ok (.goto 18, 3) := by decide +kernel
theorem dX4_needs_73 : decode cX4_needs 73 = .ok (.iconst 0, 1) := by decide +kernel
theorem dX4_needs_74 : decode cX4_needs 74 = .ok (.goto 14, 3) := by decide +kernel
theorem dX4_needs_77 : decode cX4_needs 77 = .ok (.iload 5, 2) := by decide +kernel
theorem dX4_needs_79 : decode cX4_needs 79 = .ok (.iload_n 2, 1) := by decide +kernel
theorem dX4_needs_80 : decode cX4_needs 80 = .ok (.if_icmp .ne 7, 3) := by decide +kernel
theorem dX4_needs_83 : decode cX4_needs 83 = .ok (.iconst 1, 1) := by decide +kernel
theorem dX4_needs_84 : decode cX4_needs 84 = .ok (.goto 4, 3) := by decide +kernel
theorem dX4_needs_87 : decode cX4_needs 87 = .ok (.iconst 0, 1) := by decide +kernel
theorem dX4_needs_88 : decode cX4_needs 88 = .ok (.istore 6, 2) := by decide +kernel
theorem dX4_needs_90 : decode cX4_needs 90 = .ok (.iload_n 3, 1) := by decide +kernel
theorem dX4_needs_91 : decode cX4_needs 91 = .ok (.iload 6, 2) := by decide +kernel
theorem dX4_needs_93 : decode cX4_needs 93 = .ok (.ifCond .eq 10, 3) := by decide +kernel
theorem dX4_needs_96 : decode cX4_needs 96 = .ok (.iconst 1, 1) := by decide +kernel
theorem dX4_needs_97 : decode cX4_needs 97 = .ok (.iload 4, 2) := by decide +kernel
theorem dX4_needs_99 : decode cX4_needs 99 = .ok (.ishl, 1) := by decide +kernel
theorem dX4_needs_100 : decode cX4_needs 100 = .ok (.goto 4, 3) := by decide +kernel
theorem dX4_needs_103 : decode cX4_needs 103 = .ok (.iconst 0, 1) := by decide +kernel
theorem dX4_needs_104 : decode cX4_needs 104 = .ok (.ior, 1) := by decide +kernel
theorem dX4_needs_105 : decode cX4_needs 105 = .ok (.istore_n 3, 1) := by decide +kernel
theorem dX4_needs_106 : decode cX4_needs 106 = .ok (.iinc 4 1, 3) := by decide +kernel
theorem dX4_needs_109 : decode cX4_needs 109 = .ok (.goto (-72), 3) := by decide +kernel
theorem dX4_needs_112 : decode cX4_needs 112 = .ok (.iload_n 3, 1) := by decide +kernel
theorem dX4_needs_113 : decode cX4_needs 113 = .ok (.ireturn, 1) := by decide +kernel
theorem dX4_held_0 : decode cX4_held 0 = .ok (.aload_n 0, 1) := by decide +kernel
theorem dX4_held_1 : decode cX4_held 1 = .ok (.getfield 7, 3) := by decide +kernel
theorem dX4_held_4 : decode cX4_held 4 = .ok (.iconst 1, 1) := by decide +kernel
theorem dX4_held_5 : decode cX4_held 5 = .ok (.iaload, 1) := by decide +kernel
theorem dX4_held_6 : decode cX4_held 6 = .ok (.istore_n 1, 1) := by decide +kernel
theorem dX4_held_7 : decode cX4_held 7 = .ok (.iconst 0, 1) := by decide +kernel
theorem dX4_held_8 : decode cX4_held 8 = .ok (.istore_n 2, 1) := by decide +kernel
theorem dX4_held_9 : decode cX4_held 9 = .ok (.iload_n 2, 1) := by decide +kernel
theorem dX4_held_10 : decode cX4_held 10 = .ok (.sipush 256, 3) := by decide +kernel
theorem dX4_held_13 : decode cX4_held 13 = .ok (.if_icmp .ge 22, 3) := by decide +kernel
theorem dX4_held_16 : decode cX4_held 16 = .ok (.aload_n 0, 1) := by decide +kernel
theorem dX4_held_17 : decode cX4_held 17 = .ok (.getfield 36, 3) := by decide +kernel
theorem dX4_held_20 : decode cX4_held 20 = .ok (.sipush 256, 3) := by decide +kernel
theorem dX4_held_23 : decode cX4_held 23 = .ok (.iload_n 1, 1) := by decide +kernel
theorem dX4_held_24 : decode cX4_held 24 = .ok (.imul, 1) := by decide +kernel
theorem dX4_held_25 : decode cX4_held 25 = .ok (.iload_n 2, 1) := by decide +kernel
theorem dX4_held_26 : decode cX4_held 26 = .ok (.iadd, 1) := by decide +kernel
theorem dX4_held_27 : decode cX4_held 27 = .ok (.iconst 0, 1) := by decide +kernel
theorem dX4_held_28 : decode cX4_held 28 = .ok (.iastore, 1) := by decide +kernel
theorem dX4_held_29 : decode cX4_held 29 = .ok (.iinc 2 1, 3) := by decide +kernel
theorem dX4_held_32 : decode cX4_held 32 = .ok (.goto (-23), 3) := by decide +kernel
theorem dX4_held_35 : decode cX4_held 35 = .ok (.iload_n 1, 1) := by decide +kernel
theorem dX4_held_36 : decode cX4_held 36 = .ok (.iconst 1, 1) := by decide +kernel
theorem dX4_held_37 : decode cX4_held 37 = .ok (.isub, 1) := by decide +kernel
theorem dX4_held_38 : decode cX4_held 38 = .ok (.istore_n 2, 1) := by decide +kernel
theorem dX4_held_39 : decode cX4_held 39 = .ok (.iload_n 2, 1) := by decide +kernel
theorem dX4_held_40 : decode cX4_held 40 = .ok (.ifCond .lt 154, 3) := by decide +kernel
theorem dX4_held_43 : decode cX4_held 43 = .ok (.iconst 0, 1) := by decide +kernel
theorem dX4_held_44 : decode cX4_held 44 = .ok (.istore_n 3, 1) := by decide +kernel
theorem dX4_held_45 : decode cX4_held 45 = .ok (.iload_n 3, 1) := by decide +kernel
theorem dX4_held_46 : decode cX4_held 46 = .ok (.sipush 256, 3) := by decide +kernel
theorem dX4_held_49 : decode cX4_held 49 = .ok (.if_icmp .ge 139, 3) := by decide +kernel
theorem dX4_held_52 : decode cX4_held 52 = .ok (.aload_n 0, 1) := by decide +kernel
theorem dX4_held_53 : decode cX4_held 53 = .ok (.getfield 36, 3) := by decide +kernel
theorem dX4_held_56 : decode cX4_held 56 = .ok (.sipush 256, 3) := by decide +kernel
theorem dX4_held_59 : decode cX4_held 59 = .ok (.iload_n 2, 1) := by decide +kernel
theorem dX4_held_60 : decode cX4_held 60 = .ok (.iconst 1, 1) := by decide +kernel
theorem dX4_held_61 : decode cX4_held 61 = .ok (.iadd, 1) := by decide +kernel
theorem dX4_held_62 : decode cX4_held 62 = .ok (.imul, 1) := by decide +kernel
theorem dX4_held_63 : decode cX4_held 63 = .ok (.iload_n 3, 1) := by decide +kernel
theorem dX4_held_64 : decode cX4_held 64 = .ok (.iadd, 1) := by decide +kernel
theorem dX4_held_65 : decode cX4_held 65 = .ok (.iaload, 1) := by decide +kernel
theorem dX4_held_66 : decode cX4_held 66 = .ok (.istore 4, 2) := by decide +kernel
theorem dX4_held_68 : decode cX4_held 68 = .ok (.iconst 0, 1) := by decide +kernel
theorem dX4_held_69 : decode cX4_held 69 = .ok (.istore 5, 2) := by decide +kernel
theorem dX4_held_71 : decode cX4_held 71 = .ok (.iload 5, 2) := by decide +kernel
theorem dX4_held_73 : decode cX4_held 73 = .ok (.aload_n 0, 1) := by decide +kernel
theorem dX4_held_74 : decode cX4_held 74 = .ok (.getfield 7, 3) := by decide +kernel
theorem dX4_held_77 : decode cX4_held 77 = .ok (.iconst 3, 1) := by decide +kernel
theorem dX4_held_78 : decode cX4_held 78 = .ok (.iaload, 1) := by decide +kernel
theorem dX4_held_79 : decode cX4_held 79 = .ok (.if_icmp .ge 89, 3) := by decide +kernel
theorem dX4_held_82 : decode cX4_held 82 = .ok (.iload_n 3, 1) := by decide +kernel
theorem dX4_held_83 : decode cX4_held 83 = .ok (.iload 5, 2) := by decide +kernel
theorem dX4_held_85 : decode cX4_held 85 = .ok (.invokestatic 191, 3) := by decide +kernel
theorem dX4_held_88 : decode cX4_held 88 = .ok (.ifCond .ne 23, 3) := by decide +kernel
theorem dX4_held_91 : decode cX4_held 91 = .ok (.aload_n 0, 1) := by decide +kernel
theorem dX4_held_92 : decode cX4_held 92 = .ok (.aload_n 0, 1) := by decide +kernel
theorem dX4_held_93 : decode cX4_held 93 = .ok (.getfield 7, 3) := by decide +kernel
theorem dX4_held_96 : decode cX4_held 96 = .ok (.iconst 0, 1) := by decide +kernel
theorem dX4_held_97 : decode cX4_held 97 = .ok (.iaload, 1) := by decide +kernel
theorem dX4_held_98 : decode cX4_held 98 = .ok (.iload 5, 2) := by decide +kernel
theorem dX4_held_100 : decode cX4_held 100 = .ok (.iload_n 2, 1) := by decide +kernel
theorem dX4_held_101 : decode cX4_held 101 = .ok (.invokevirtual 168, 3) := by decide +kernel
theorem dX4_held_104 : decode cX4_held 104 = .ok (.ifCond .eq 7, 3) := by decide +kernel
theorem dX4_held_107 : decode cX4_held 107 = .ok (.iconst 1, 1) := by decide +kernel
theorem dX4_held_108 : decode cX4_held 108 = .ok (.goto 4, 3) := by decide +kernel
theorem dX4_held_111 : decode cX4_held 111 = .ok (.iconst 0, 1) := by decide +kernel
theorem dX4_held_112 : decode cX4_held 112 = .ok (.istore 6, 2) := by decide +kernel
theorem dX4_held_114 : decode cX4_held 114 = .ok (.iload 6, 2) := by decide +kernel
theorem dX4_held_116 : decode cX4_held 116 = .ok (.ifCond .eq 27, 3) := by decide +kernel
theorem dX4_held_119 : decode cX4_held 119 = .ok (.iconst 1, 1) := by decide +kernel
theorem dX4_held_120 : decode cX4_held 120 = .ok (.aload_n 0, 1) := by decide +kernel
theorem dX4_held_121 : decode cX4_held 121 = .ok (.getfield 36, 3) := by decide +kernel
theorem dX4_held_124 : decode cX4_held 124 = .ok (.sipush 256, 3) := by decide +kernel
theorem dX4_held_127 : decode cX4_held 127 = .ok (.iload_n 2, 1) := by decide +kernel
theorem dX4_held_128 : decode cX4_held 128 = .ok (.iconst 1, 1) := by decide +kernel
theorem dX4_held_129 : decode cX4_held 129 = .ok (.iadd, 1) := by decide +kernel
theorem dX4_held_130 : decode cX4_held 130 = .ok (.imul, 1) := by decide +kernel
theorem dX4_held_131 : decode cX4_held 131 = .ok (.iload_n 3, 1) := by decide +kernel
theorem dX4_held_132 : decode cX4_held 132 = .ok (.iconst 1, 1) := by decide +kernel
theorem dX4_held_133 : decode cX4_held 133 = .ok (.iload 5, 2) := by decide +kernel
theorem dX4_held_135 : decode cX4_held 135 = .ok (.ishl, 1) := by decide +kernel
theorem dX4_held_136 : decode cX4_held 136 = .ok (.ior, 1) := by decide +kernel
theorem dX4_held_137 : decode cX4_held 137 = .ok (.iadd, 1) := by decide +kernel
theorem dX4_held_138 : decode cX4_held 138 = .ok (.iaload, 1) := by decide +kernel
theorem dX4_held_139 : decode cX4_held 139 = .ok (.iadd, 1) := by decide +kernel
theorem dX4_held_140 : decode cX4_held 140 = .ok (.goto 4, 3) := by decide +kernel
theorem dX4_held_143 : decode cX4_held 143 = .ok (.iconst 0, 1) := by decide +kernel
theorem dX4_held_144 : decode cX4_held 144 = .ok (.istore 7, 2) := by decide +kernel
theorem dX4_held_146 : decode cX4_held 146 = .ok (.iload 7, 2) := by decide +kernel
theorem dX4_held_148 : decode cX4_held 148 = .ok (.iload 4, 2) := by decide +kernel
theorem dX4_held_150 : decode cX4_held 150 = .ok (.if_icmp .le 8, 3) := by decide +kernel
theorem dX4_held_153 : decode cX4_held 153 = .ok (.iload 7, 2) := by decide +kernel
theorem dX4_held_155 : decode cX4_held 155 = .ok (.goto 5, 3) := by decide +kernel
theorem dX4_held_158 : decode cX4_held 158 = .ok (.iload 4, 2) := by decide +kernel
theorem dX4_held_160 : decode cX4_held 160 = .ok (.istore 4, 2) := by decide +kernel
theorem dX4_held_162 : decode cX4_held 162 = .ok (.iinc 5 1, 3) := by decide +kernel
theorem dX4_held_165 : decode cX4_held 165 = .ok (.goto (-94), 3) := by decide +kernel
theorem dX4_held_168 : decode cX4_held 168 = .ok (.aload_n 0, 1) := by decide +kernel
theorem dX4_held_169 : decode cX4_held 169 = .ok (.getfield 36, 3) := by decide +kernel
theorem dX4_held_172 : decode cX4_held 172 = .ok (.sipush 256, 3) := by decide +kernel
theorem dX4_held_175 : decode cX4_held 175 = .ok (.iload_n 2, 1) := by decide +kernel
theorem dX4_held_176 : decode cX4_held 176 = .ok (.imul, 1) := by decide +kernel
theorem dX4_held_177 : decode cX4_held 177 = .ok (.iload_n 3, 1) := by decide +kernel
theorem dX4_held_178 : decode cX4_held 178 = .ok (.iadd, 1) := by decide +kernel
theorem dX4_held_179 : decode cX4_held 179 = .ok (.iload 4, 2) := by decide +kernel
theorem dX4_held_181 : decode cX4_held 181 = .ok (.iastore, 1) := by decide +kernel
theorem dX4_held_182 : decode cX4_held 182 = .ok (.iinc 3 1, 3) := by decide +kernel
theorem dX4_held_185 : decode cX4_held 185 = .ok (.goto (-140), 3) := by decide +kernel
theorem dX4_held_188 : decode cX4_held 188 = .ok (.iinc 2 (-1), 3) := by decide +kernel
theorem dX4_held_191 : decode cX4_held 191 = .ok (.goto (-152), 3) := by decide +kernel
theorem dX4_held_194 : decode cX4_held 194 = .ok (.aload_n 0, 1) := by decide +kernel
theorem dX4_held_195 : decode cX4_held 195 = .ok (.getfield 36, 3) := by decide +kernel
theorem dX4_held_198 : decode cX4_held 198 = .ok (.iconst 0, 1) := by decide +kernel
theorem dX4_held_199 : decode cX4_held 199 = .ok (.iaload, 1) := by decide +kernel
theorem dX4_held_200 : decode cX4_held 200 = .ok (.ireturn, 1) := by decide +kernel
theorem dX4_forms_0 : decode cX4_forms 0 = .ok (.iconst 0, 1) := by decide +kernel
theorem dX4_forms_1 : decode cX4_forms 1 = .ok (.istore_n 1, 1) := by decide +kernel
theorem dX4_forms_2 : decode cX4_forms 2 = .ok (.iconst 0, 1) := by decide +kernel
theorem dX4_forms_3 : decode cX4_forms 3 = .ok (.istore_n 2, 1) := by decide +kernel
theorem dX4_forms_4 : decode cX4_forms 4 = .ok (.iload_n 2, 1) := by decide +kernel
theorem dX4_forms_5 : decode cX4_forms 5 = .ok (.bipush 6, 2) := by decide +kernel
theorem dX4_forms_7 : decode cX4_forms 7 = .ok (.if_icmp .ge 34, 3) := by decide +kernel
theorem dX4_forms_10 : decode cX4_forms 10 = .ok (.aload_n 0, 1) := by decide +kernel
theorem dX4_forms_11 : decode cX4_forms 11 = .ok (.iload_n 2, 1) := by decide +kernel
theorem dX4_forms_12 : decode cX4_forms 12 = .ok (.iconst 0, 1) := by decide +kernel
theorem dX4_forms_13 : decode cX4_forms 13 = .ok (.invokevirtual 198, 3) := by decide +kernel
theorem dX4_forms_16 : decode cX4_forms 16 = .ok (.iload_n 1, 1) := by decide +kernel
theorem dX4_forms_17 : decode cX4_forms 17 = .ok (.aload_n 0, 1) := by decide +kernel
theorem dX4_forms_18 : decode cX4_forms 18 = .ok (.getfield 33, 3) := by decide +kernel
theorem dX4_forms_21 : decode cX4_forms 21 = .ok (.iconst 0, 1) := by decide +kernel
theorem dX4_forms_22 : decode cX4_forms 22 = .ok (.iaload, 1) := by decide +kernel
theorem dX4_forms_23 : decode cX4_forms 23 = .ok (.ifCond .le 9, 3) := by decide +kernel
theorem dX4_forms_26 : decode cX4_forms 26 = .ok (.iconst 1, 1) := by decide +kernel
theorem dX4_forms_27 : decode cX4_forms 27 = .ok (.iload_n 2, 1) := by decide +kernel
theorem dX4_forms_28 : decode cX4_forms 28 = .ok (.ishl, 1) := by decide +kernel
theorem dX4_forms_29 : decode cX4_forms 29 = .ok (.goto 4, 3) := by decide +kernel
theorem dX4_forms_32 : decode cX4_forms 32 = .ok (.iconst 0, 1) := by decide +kernel
theorem dX4_forms_33 : decode cX4_forms 33 = .ok (.ior, 1) := by decide +kernel
theorem dX4_forms_34 : decode cX4_forms 34 = .ok (.istore_n 1, 1) := by decide +kernel
theorem dX4_forms_35 : decode cX4_forms 35 = .ok (.iinc 2 1, 3) := by decide +kernel
theorem dX4_forms_38 : decode cX4_forms 38 = .ok (.goto (-34), 3) := by decide +kernel
theorem dX4_forms_41 : decode cX4_forms 41 = .ok (.iload_n 1, 1) := by decide +kernel
theorem dX4_forms_42 : decode cX4_forms 42 = .ok (.ireturn, 1) := by decide +kernel
theorem dX4_rowBy_0 : decode cX4_rowBy 0 = .ok (.iconst 0, 1) := by decide +kernel
theorem dX4_rowBy_1 : decode cX4_rowBy 1 = .ok (.istore_n 3, 1) := by decide +kernel
theorem dX4_rowBy_2 : decode cX4_rowBy 2 = .ok (.iconst 0, 1) := by decide +kernel
theorem dX4_rowBy_3 : decode cX4_rowBy 3 = .ok (.istore 4, 2) := by decide +kernel
theorem dX4_rowBy_5 : decode cX4_rowBy 5 = .ok (.iload_n 2, 1) := by decide +kernel
theorem dX4_rowBy_6 : decode cX4_rowBy 6 = .ok (.istore 5, 2) := by decide +kernel
theorem dX4_rowBy_8 : decode cX4_rowBy 8 = .ok (.iconst 0, 1) := by decide +kernel
theorem dX4_rowBy_9 : decode cX4_rowBy 9 = .ok (.istore 6, 2) := by decide +kernel
theorem dX4_rowBy_11 : decode cX4_rowBy 11 = .ok (.iload 6, 2) := by decide +kernel
theorem dX4_rowBy_13 : decode cX4_rowBy 13 = .ok (.iload_n 1, 1) := by decide +kernel
theorem dX4_rowBy_14 : decode cX4_rowBy 14 = .ok (.if_icmp .ge 74, 3) := by decide +kernel
theorem dX4_rowBy_17 : decode cX4_rowBy 17 = .ok (.iload 5, 2) := by decide +kernel
theorem dX4_rowBy_19 : decode cX4_rowBy 19 = .ok (.bipush 8, 2) := by decide +kernel
theorem dX4_rowBy_21 : decode cX4_rowBy 21 = .ok (.irem, 1) := by decide +kernel
theorem dX4_rowBy_22 : decode cX4_rowBy 22 = .ok (.istore 7, 2) := by decide +kernel
theorem dX4_rowBy_24 : decode cX4_rowBy 24 = .ok (.iload 5, 2) := by decide +kernel
theorem dX4_rowBy_26 : decode cX4_rowBy 26 = .ok (.bipush 8, 2) := by decide +kernel
theorem dX4_rowBy_28 : decode cX4_rowBy 28 = .ok (.idiv, 1) := by decide +kernel
theorem dX4_rowBy_29 : decode cX4_rowBy 29 = .ok (.istore 5, 2) := by decide +kernel
theorem dX4_rowBy_31 : decode cX4_rowBy 31 = .ok (.iload 7, 2) := by decide +kernel
theorem dX4_rowBy_33 : decode cX4_rowBy 33 = .ok (.aload_n 0, 1) := by decide +kernel
theorem dX4_rowBy_34 : decode cX4_rowBy 34 = .ok (.getfield 7, 3) := by decide +kernel
theorem dX4_rowBy_37 : decode cX4_rowBy 37 = .ok (.iconst 3, 1) := by decide +kernel
theorem dX4_rowBy_38 : decode cX4_rowBy 38 = .ok (.iaload, 1) := by decide +kernel
theorem dX4_rowBy_39 : decode cX4_rowBy 39 = .ok (.if_icmp .ge 12, 3) := by decide +kernel
theorem dX4_rowBy_42 : decode cX4_rowBy 42 = .ok (.iload_n 3, 1) := by decide +kernel
theorem dX4_rowBy_43 : decode cX4_rowBy 43 = .ok (.iload 7, 2) := by decide +kernel
theorem dX4_rowBy_45 : decode cX4_rowBy 45 = .ok (.invokestatic 191, 3) := by decide +kernel
theorem dX4_rowBy_48 : decode cX4_rowBy 48 = .ok (.ifCond .eq 5, 3) := by decide +kernel
theorem dX4_rowBy_51 : decode cX4_rowBy 51 = .ok (.iconst (-1), 1) := by decide +kernel
theorem dX4_rowBy_52 : decode cX4_rowBy 52 = .ok (.ireturn, 1) := by decide +kernel
theorem dX4_rowBy_53 : decode cX4_rowBy 53 = .ok (.iload_n 3, 1) := by decide +kernel
theorem dX4_rowBy_54 : decode cX4_rowBy 54 = .ok (.iconst 1, 1) := by decide +kernel
theorem dX4_rowBy_55 : decode cX4_rowBy 55 = .ok (.iload 7, 2) := by decide +kernel
theorem dX4_rowBy_57 : decode cX4_rowBy 57 = .ok (.ishl, 1) := by decide +kernel
theorem dX4_rowBy_58 : decode cX4_rowBy 58 = .ok (.ior, 1) := by decide +kernel
theorem dX4_rowBy_59 : decode cX4_rowBy 59 = .ok (.istore_n 3, 1) := by decide +kernel
theorem dX4_rowBy_60 : decode cX4_rowBy 60 = .ok (.bipush 10, 2) := by decide +kernel
theorem dX4_rowBy_62 : decode cX4_rowBy 62 = .ok (.iload 4, 2) := by decide +kernel
theorem dX4_rowBy_64 : decode cX4_rowBy 64 = .ok (.imul, 1) := by decide +kernel
theorem dX4_rowBy_65 : decode cX4_rowBy 65 = .ok (.aload_n 0, 1) := by decide +kernel
theorem dX4_rowBy_66 : decode cX4_rowBy 66 = .ok (.aload_n 0, 1) := by decide +kernel
theorem dX4_rowBy_67 : decode cX4_rowBy 67 = .ok (.getfield 7, 3) := by decide +kernel
theorem dX4_rowBy_70 : decode cX4_rowBy 70 = .ok (.iconst 0, 1) := by decide +kernel
theorem dX4_rowBy_71 : decode cX4_rowBy 71 = .ok (.iaload, 1) := by decide +kernel
theorem dX4_rowBy_72 : decode cX4_rowBy 72 = .ok (.iload 7, 2) := by decide +kernel
theorem dX4_rowBy_74 : decode cX4_rowBy 74 = .ok (.iload 6, 2) := by decide +kernel
theorem dX4_rowBy_76 : decode cX4_rowBy 76 = .ok (.invokevirtual 162, 3) := by decide +kernel
theorem dX4_rowBy_79 : decode cX4_rowBy 79 = .ok (.iadd, 1) := by decide +kernel
theorem dX4_rowBy_80 : decode cX4_rowBy 80 = .ok (.istore 4, 2) := by decide +kernel
theorem dX4_rowBy_82 : decode cX4_rowBy 82 = .ok (.iinc 6 1, 3) := by decide +kernel
theorem dX4_rowBy_85 : decode cX4_rowBy 85 = .ok (.goto (-74), 3) := by decide +kernel
theorem dX4_rowBy_88 : decode cX4_rowBy 88 = .ok (.iload 4, 2) := by decide +kernel
theorem dX4_rowBy_90 : decode cX4_rowBy 90 = .ok (.ireturn, 1) := by decide +kernel
theorem dX4_rows_0 : decode cX4_rows 0 = .ok (.iload_n 1, 1) := by decide +kernel
theorem dX4_rows_1 : decode cX4_rows 1 = .ok (.iconst 1, 1) := by decide +kernel
theorem dX4_rows_2 : decode cX4_rows 2 = .ok (.iconst 3, 1) := by decide +kernel
theorem dX4_rows_3 : decode cX4_rows 3 = .ok (.invokestatic 53, 3) := by decide +kernel
theorem dX4_rows_6 : decode cX4_rows 6 = .ok (.ifCond .eq 22, 3) := by decide +kernel
theorem dX4_rows_9 : decode cX4_rows 9 = .ok (.iload_n 1, 1) := by decide +kernel
theorem dX4_rows_10 : decode cX4_rows 10 = .ok (.aload_n 0, 1) := by decide +kernel
theorem dX4_rows_11 : decode cX4_rows 11 = .ok (.getfield 7, 3) := by decide +kernel
theorem dX4_rows_14 : decode cX4_rows 14 = .ok (.iconst 1, 1) := by decide +kernel
theorem dX4_rows_15 : decode cX4_rows 15 = .ok (.iaload, 1) := by decide +kernel
theorem dX4_rows_16 : decode cX4_rows 16 = .ok (.if_icmp .gt 12, 3) := by decide +kernel
theorem dX4_rows_19 : decode cX4_rows 19 = .ok (.iload_n 2, 1) := by decide +kernel
theorem dX4_rows_20 : decode cX4_rows 20 = .ok (.iconst 0, 1) := by decide +kernel
theorem dX4_rows_21 : decode cX4_rows 21 = .ok (.iconst 1, 1) := by decide +kernel
theorem dX4_rows_22 : decode cX4_rows 22 = .ok (.invokestatic 53, 3) := by decide +kernel
theorem dX4_rows_25 : decode cX4_rows 25 = .ok (.ifCond .ne 8, 3) := by decide +kernel
theorem dX4_rows_28 : decode cX4_rows 28 = .ok (.aload_n 0, 1) := by decide +kernel
theorem dX4_rows_29 : decode cX4_rows 29 = .ok (.invokevirtual 60, 3) := by decide +kernel
theorem dX4_rows_32 : decode cX4_rows 32 = .ok (.ireturn, 1) := by decide +kernel
theorem dX4_rows_33 : decode cX4_rows 33 = .ok (.iconst 0, 1) := by decide +kernel
theorem dX4_rows_34 : decode cX4_rows 34 = .ok (.istore_n 3, 1) := by decide +kernel
theorem dX4_rows_35 : decode cX4_rows 35 = .ok (.iload_n 3, 1) := by decide +kernel
theorem dX4_rows_36 : decode cX4_rows 36 = .ok (.sipush 1000, 3) := by decide +kernel
theorem dX4_rows_39 : decode cX4_rows 39 = .ok (.if_icmp .ge 16, 3) := by decide +kernel
theorem dX4_rows_42 : decode cX4_rows 42 = .ok (.aload_n 0, 1) := by decide +kernel
theorem dX4_rows_43 : decode cX4_rows 43 = .ok (.getfield 39, 3) := by decide +kernel
theorem dX4_rows_46 : decode cX4_rows 46 = .ok (.iload_n 3, 1) := by decide +kernel
theorem dX4_rows_47 : decode cX4_rows 47 = .ok (.iconst 0, 1) := by decide +kernel
theorem dX4_rows_48 : decode cX4_rows 48 = .ok (.bastore, 1) := by decide +kernel
theorem dX4_rows_49 : decode cX4_rows 49 = .ok (.iinc 3 1, 3) := by decide +kernel
theorem dX4_rows_52 : decode cX4_rows 52 = .ok (.goto (-17), 3) := by decide +kernel
theorem dX4_rows_55 : decode cX4_rows 55 = .ok (.iconst 0, 1) := by decide +kernel
theorem dX4_rows_56 : decode cX4_rows 56 = .ok (.istore_n 3, 1) := by decide +kernel
theorem dX4_rows_57 : decode cX4_rows 57 = .ok (.iload_n 3, 1) := by decide +kernel
theorem dX4_rows_58 : decode cX4_rows 58 = .ok (.iconst 1, 1) := by decide +kernel
theorem dX4_rows_59 : decode cX4_rows 59 = .ok (.iconst 3, 1) := by decide +kernel
theorem dX4_rows_60 : decode cX4_rows 60 = .ok (.iload_n 1, 1) := by decide +kernel
theorem dX4_rows_61 : decode cX4_rows 61 = .ok (.imul, 1) := by decide +kernel
theorem dX4_rows_62 : decode cX4_rows 62 = .ok (.ishl, 1) := by decide +kernel
theorem dX4_rows_63 : decode cX4_rows 63 = .ok (.if_icmp .ge 30, 3) := by decide +kernel
theorem dX4_rows_66 : decode cX4_rows 66 = .ok (.aload_n 0, 1) := by decide +kernel
theorem dX4_rows_67 : decode cX4_rows 67 = .ok (.iload_n 1, 1) := by decide +kernel
theorem dX4_rows_68 : decode cX4_rows 68 = .ok (.iload_n 3, 1) := by decide +kernel
theorem dX4_rows_69 : decode cX4_rows 69 = .ok (.invokevirtual 209, 3) := by decide +kernel
theorem dX4_rows_72 : decode cX4_rows 72 = .ok (.istore 4, 2) := by decide +kernel
theorem dX4_rows_74 : decode cX4_rows 74 = .ok (.iload 4, 2) := by decide +kernel
theorem dX4_rows_76 : decode cX4_rows 76 = .ok (.ifCond .lt 11, 3) := by decide +kernel
theorem dX4_rows_79 : decode cX4_rows 79 = .ok (.aload_n 0, 1) := by decide +kernel
theorem dX4_rows_80 : decode cX4_rows 80 = .ok (.getfield 39, 3) := by decide +kernel
theorem dX4_rows_83 : decode cX4_rows 83 = .ok (.iload 4, 2) := by decide +kernel
theorem dX4_rows_85 : decode cX4_rows 85 = .ok (.iconst 1, 1) := by decide +kernel
theorem dX4_rows_86 : decode cX4_rows 86 = .ok (.bastore, 1) := by decide +kernel
theorem dX4_rows_87 : decode cX4_rows 87 = .ok (.iinc 3 1, 3) := by decide +kernel
theorem dX4_rows_90 : decode cX4_rows 90 = .ok (.goto (-33), 3) := by decide +kernel
theorem dX4_rows_93 : decode cX4_rows 93 = .ok (.iconst 0, 1) := by decide +kernel
theorem dX4_rows_94 : decode cX4_rows 94 = .ok (.istore_n 3, 1) := by decide +kernel
theorem dX4_rows_95 : decode cX4_rows 95 = .ok (.iconst (-1), 1) := by decide +kernel
theorem dX4_rows_96 : decode cX4_rows 96 = .ok (.istore 4, 2) := by decide +kernel
theorem dX4_rows_98 : decode cX4_rows 98 = .ok (.iconst 0, 1) := by decide +kernel
theorem dX4_rows_99 : decode cX4_rows 99 = .ok (.istore 5, 2) := by decide +kernel
theorem dX4_rows_101 : decode cX4_rows 101 = .ok (.iload 5, 2) := by decide +kernel
theorem dX4_rows_103 : decode cX4_rows 103 = .ok (.sipush 1000, 3) := by decide +kernel
theorem dX4_rows_106 : decode cX4_rows 106 = .ok (.if_icmp .ge 46, 3) := by decide +kernel
theorem dX4_rows_109 : decode cX4_rows 109 = .ok (.iload_n 3, 1) := by decide +kernel
theorem dX4_rows_110 : decode cX4_rows 110 = .ok (.aload_n 0, 1) := by decide +kernel
theorem dX4_rows_111 : decode cX4_rows 111 = .ok (.getfield 39, 3) := by decide +kernel
theorem dX4_rows_114 : decode cX4_rows 114 = .ok (.iload 5, 2) := by decide +kernel
theorem dX4_rows_116 : decode cX4_rows 116 = .ok (.baload, 1) := by decide +kernel
theorem dX4_rows_117 : decode cX4_rows 117 = .ok (.ifCond .eq 7, 3) := by decide +kernel
theorem dX4_rows_120 : decode cX4_rows 120 = .ok (.iconst 1, 1) := by decide +kernel
theorem dX4_rows_121 : decode cX4_rows 121 = .ok (.goto 4, 3) := by decide +kernel
theorem dX4_rows_124 : decode cX4_rows 124 = .ok (.iconst 0, 1) := by decide +kernel
theorem dX4_rows_125 : decode cX4_rows 125 = .ok (.iadd, 1) := by decide +kernel
theorem dX4_rows_126 : decode cX4_rows 126 = .ok (.istore_n 3, 1) := by decide +kernel
theorem dX4_rows_127 : decode cX4_rows 127 = .ok (.aload_n 0, 1) := by decide +kernel
theorem dX4_rows_128 : decode cX4_rows 128 = .ok (.getfield 39, 3) := by decide +kernel
theorem dX4_rows_131 : decode cX4_rows 131 = .ok (.iload 5, 2) := by decide +kernel
theorem dX4_rows_133 : decode cX4_rows 133 = .ok (.baload, 1) := by decide +kernel
theorem dX4_rows_134 : decode cX4_rows 134 = .ok (.ifCond .eq 8, 3) := by decide +kernel
theorem dX4_rows_137 : decode cX4_rows 137 = .ok (.iload 5, 2) := by decide +kernel
theorem dX4_rows_139 : decode cX4_rows 139 = .ok (.goto 5, 3) := by decide +kernel
theorem dX4_rows_142 : decode cX4_rows 142 = .ok (.iload 4, 2) := by decide +kernel
theorem dX4_rows_144 : decode cX4_rows 144 = .ok (.istore 4, 2) := by decide +kernel
theorem dX4_rows_146 : decode cX4_rows 146 = .ok (.iinc 5 1, 3) := by decide +kernel
theorem dX4_rows_149 : decode cX4_rows 149 = .ok (.goto (-48), 3) := by decide +kernel
theorem dX4_rows_152 : decode cX4_rows 152 = .ok (.iload_n 2, 1) := by decide +kernel
theorem dX4_rows_153 : decode cX4_rows 153 = .ok (.ifCond .ne 7, 3) := by decide +kernel
theorem dX4_rows_156 : decode cX4_rows 156 = .ok (.iload_n 3, 1) := by decide +kernel
theorem dX4_rows_157 : decode cX4_rows 157 = .ok (.goto 5, 3) := by decide +kernel
theorem dX4_rows_160 : decode cX4_rows 160 = .ok (.iload 4, 2) := by decide +kernel
theorem dX4_rows_162 : decode cX4_rows 162 = .ok (.ireturn, 1) := by decide +kernel
theorem dX4_note_0 : decode cX4_note 0 = .ok (.iload_n 1, 1) := by decide +kernel
theorem dX4_note_1 : decode cX4_note 1 = .ok (.iconst 3, 1) := by decide +kernel
theorem dX4_note_2 : decode cX4_note 2 = .ok (.bipush 6, 2) := by decide +kernel
theorem dX4_note_4 : decode cX4_note 4 = .ok (.invokestatic 53, 3) := by decide +kernel
theorem dX4_note_7 : decode cX4_note 7 = .ok (.ifCond .eq 21, 3) := by decide +kernel
theorem dX4_note_10 : decode cX4_note 10 = .ok (.iload_n 2, 1) := by decide +kernel
theorem dX4_note_11 : decode cX4_note 11 = .ok (.iconst 0, 1) := by decide +kernel
theorem dX4_note_12 : decode cX4_note 12 = .ok (.iconst 5, 1) := by decide +kernel
theorem dX4_note_13 : decode cX4_note 13 = .ok (.invokestatic 53, 3) := by decide +kernel
theorem dX4_note_16 : decode cX4_note 16 = .ok (.ifCond .eq 12, 3) := by decide +kernel
theorem dX4_note_19 : decode cX4_note 19 = .ok (.iload_n 3, 1) := by decide +kernel
theorem dX4_note_20 : decode cX4_note 20 = .ok (.iconst 0, 1) := by decide +kernel
theorem dX4_note_21 : decode cX4_note 21 = .ok (.iconst 5, 1) := by decide +kernel
theorem dX4_note_22 : decode cX4_note 22 = .ok (.invokestatic 53, 3) := by decide +kernel
theorem dX4_note_25 : decode cX4_note 25 = .ok (.ifCond .ne 8, 3) := by decide +kernel
theorem dX4_note_28 : decode cX4_note 28 = .ok (.aload_n 0, 1) := by decide +kernel
theorem dX4_note_29 : decode cX4_note 29 = .ok (.invokevirtual 60, 3) := by decide +kernel
theorem dX4_note_32 : decode cX4_note 32 = .ok (.ireturn, 1) := by decide +kernel
theorem dX4_note_33 : decode cX4_note 33 = .ok (.aload_n 0, 1) := by decide +kernel
theorem dX4_note_34 : decode cX4_note 34 = .ok (.getfield 7, 3) := by decide +kernel
theorem dX4_note_37 : decode cX4_note 37 = .ok (.bipush 34, 2) := by decide +kernel
theorem dX4_note_39 : decode cX4_note 39 = .ok (.iaload, 1) := by decide +kernel
theorem dX4_note_40 : decode cX4_note 40 = .ok (.bipush 6, 2) := by decide +kernel
theorem dX4_note_42 : decode cX4_note 42 = .ok (.if_icmp .ne 8, 3) := by decide +kernel
theorem dX4_note_45 : decode cX4_note 45 = .ok (.aload_n 0, 1) := by decide +kernel
theorem dX4_note_46 : decode cX4_note 46 = .ok (.invokevirtual 71, 3) := by decide +kernel
theorem dX4_note_49 : decode cX4_note 49 = .ok (.ireturn, 1) := by decide +kernel
theorem dX4_note_50 : decode cX4_note 50 = .ok (.bipush 35, 2) := by decide +kernel
theorem dX4_note_52 : decode cX4_note 52 = .ok (.iconst 3, 1) := by decide +kernel
theorem dX4_note_53 : decode cX4_note 53 = .ok (.aload_n 0, 1) := by decide +kernel
theorem dX4_note_54 : decode cX4_note 54 = .ok (.getfield 7, 3) := by decide +kernel
theorem dX4_note_57 : decode cX4_note 57 = .ok (.bipush 34, 2) := by decide +kernel
theorem dX4_note_59 : decode cX4_note 59 = .ok (.iaload, 1) := by decide +kernel
theorem dX4_note_60 : decode cX4_note 60 = .ok (.imul, 1) := by decide +kernel
theorem dX4_note_61 : decode cX4_note 61 = .ok (.iadd, 1) := by decide +kernel
theorem dX4_note_62 : decode cX4_note 62 = .ok (.istore 4, 2) := by decide +kernel
theorem dX4_note_64 : decode cX4_note 64 = .ok (.aload_n 0, 1) := by decide +kernel
theorem dX4_note_65 : decode cX4_note 65 = .ok (.getfield 7, 3) := by decide +kernel
theorem dX4_note_68 : decode cX4_note 68 = .ok (.iload 4, 2) := by decide +kernel
theorem dX4_note_70 : decode cX4_note 70 = .ok (.iload_n 1, 1) := by decide +kernel
theorem dX4_note_71 : decode cX4_note 71 = .ok (.iastore, 1) := by decide +kernel
theorem dX4_note_72 : decode cX4_note 72 = .ok (.aload_n 0, 1) := by decide +kernel
theorem dX4_note_73 : decode cX4_note 73 = .ok (.getfield 7, 3) := by decide +kernel
theorem dX4_note_76 : decode cX4_note 76 = .ok (.iload 4, 2) := by decide +kernel
theorem dX4_note_78 : decode cX4_note 78 = .ok (.iconst 1, 1) := by decide +kernel
theorem dX4_note_79 : decode cX4_note 79 = .ok (.iadd, 1) := by decide +kernel
theorem dX4_note_80 : decode cX4_note 80 = .ok (.iload_n 2, 1) := by decide +kernel
theorem dX4_note_81 : decode cX4_note 81 = .ok (.iastore, 1) := by decide +kernel
theorem dX4_note_82 : decode cX4_note 82 = .ok (.aload_n 0, 1) := by decide +kernel
theorem dX4_note_83 : decode cX4_note 83 = .ok (.getfield 7, 3) := by decide +kernel
theorem dX4_note_86 : decode cX4_note 86 = .ok (.iload 4, 2) := by decide +kernel
theorem dX4_note_88 : decode cX4_note 88 = .ok (.iconst 2, 1) := by decide +kernel
theorem dX4_note_89 : decode cX4_note 89 = .ok (.iadd, 1) := by decide +kernel
theorem dX4_note_90 : decode cX4_note 90 = .ok (.iload_n 3, 1) := by decide +kernel
theorem dX4_note_91 : decode cX4_note 91 = .ok (.iastore, 1) := by decide +kernel
theorem dX4_note_92 : decode cX4_note 92 = .ok (.aload_n 0, 1) := by decide +kernel
theorem dX4_note_93 : decode cX4_note 93 = .ok (.getfield 7, 3) := by decide +kernel
theorem dX4_note_96 : decode cX4_note 96 = .ok (.bipush 34, 2) := by decide +kernel
theorem dX4_note_98 : decode cX4_note 98 = .ok (.dup2, 1) := by decide +kernel
theorem dX4_note_99 : decode cX4_note 99 = .ok (.iaload, 1) := by decide +kernel
theorem dX4_note_100 : decode cX4_note 100 = .ok (.iconst 1, 1) := by decide +kernel
theorem dX4_note_101 : decode cX4_note 101 = .ok (.iadd, 1) := by decide +kernel
theorem dX4_note_102 : decode cX4_note 102 = .ok (.iastore, 1) := by decide +kernel
theorem dX4_note_103 : decode cX4_note 103 = .ok (.aload_n 0, 1) := by decide +kernel
theorem dX4_note_104 : decode cX4_note 104 = .ok (.getfield 7, 3) := by decide +kernel
theorem dX4_note_107 : decode cX4_note 107 = .ok (.bipush 34, 2) := by decide +kernel
theorem dX4_note_109 : decode cX4_note 109 = .ok (.iaload, 1) := by decide +kernel
theorem dX4_note_110 : decode cX4_note 110 = .ok (.ireturn, 1) := by decide +kernel
theorem dX4_mark_0 : decode cX4_mark 0 = .ok (.aload_n 0, 1) := by decide +kernel
theorem dX4_mark_1 : decode cX4_mark 1 = .ok (.iload_n 1, 1) := by decide +kernel
theorem dX4_mark_2 : decode cX4_mark 2 = .ok (.invokevirtual 178, 3) := by decide +kernel
theorem dX4_mark_5 : decode cX4_mark 5 = .ok (.ifCond .eq 33, 3) := by decide +kernel
theorem dX4_mark_8 : decode cX4_mark 8 = .ok (.iload_n 2, 1) := by decide +kernel
theorem dX4_mark_9 : decode cX4_mark 9 = .ok (.iconst 3, 1) := by decide +kernel
theorem dX4_mark_10 : decode cX4_mark 10 = .ok (.bipush 6, 2) := by decide +kernel
theorem dX4_mark_12 : decode cX4_mark 12 = .ok (.invokestatic 53, 3) := by decide +kernel
theorem dX4_mark_15 : decode cX4_mark 15 = .ok (.ifCond .eq 23, 3) := by decide +kernel
theorem dX4_mark_18 : decode cX4_mark 18 = .ok (.iload_n 3, 1) := by decide +kernel
theorem dX4_mark_19 : decode cX4_mark 19 = .ok (.iconst 0, 1) := by decide +kernel
theorem dX4_mark_20 : decode cX4_mark 20 = .ok (.iconst 5, 1) := by decide +kernel
theorem dX4_mark_21 : decode cX4_mark 21 = .ok (.invokestatic 53, 3) := by decide +kernel
theorem dX4_mark_24 : decode cX4_mark 24 = .ok (.ifCond .eq 14, 3) := by decide +kernel
theorem dX4_mark_27 : decode cX4_mark 27 = .ok (.iload 4, 2) := by decide +kernel
theorem dX4_mark_29 : decode cX4_mark 29 = .ok (.iconst 0, 1) := by decide +kernel
theorem dX4_mark_30 : decode cX4_mark 30 = .ok (.bipush 20, 2) := by decide +kernel
theorem dX4_mark_32 : decode cX4_mark 32 = .ok (.invokestatic 53, 3) := by decide +kernel
theorem dX4_mark_35 : decode cX4_mark 35 = .ok (.ifCond .ne 8, 3) := by decide +kernel
theorem dX4_mark_38 : decode cX4_mark 38 = .ok (.aload_n 0, 1) := by decide +kernel
theorem dX4_mark_39 : decode cX4_mark 39 = .ok (.invokevirtual 60, 3) := by decide +kernel
theorem dX4_mark_42 : decode cX4_mark 42 = .ok (.ireturn, 1) := by decide +kernel
theorem dX4_mark_43 : decode cX4_mark 43 = .ok (.aload_n 0, 1) := by decide +kernel
theorem dX4_mark_44 : decode cX4_mark 44 = .ok (.getfield 7, 3) := by decide +kernel
theorem dX4_mark_47 : decode cX4_mark 47 = .ok (.bipush 53, 2) := by decide +kernel
theorem dX4_mark_49 : decode cX4_mark 49 = .ok (.iaload, 1) := by decide +kernel
theorem dX4_mark_50 : decode cX4_mark 50 = .ok (.bipush 6, 2) := by decide +kernel
theorem dX4_mark_52 : decode cX4_mark 52 = .ok (.if_icmp .ne 8, 3) := by decide +kernel
theorem dX4_mark_55 : decode cX4_mark 55 = .ok (.aload_n 0, 1) := by decide +kernel
theorem dX4_mark_56 : decode cX4_mark 56 = .ok (.invokevirtual 71, 3) := by decide +kernel
theorem dX4_mark_59 : decode cX4_mark 59 = .ok (.ireturn, 1) := by decide +kernel
theorem dX4_mark_60 : decode cX4_mark 60 = .ok (.bipush 54, 2) := by decide +kernel
theorem dX4_mark_62 : decode cX4_mark 62 = .ok (.iconst 4, 1) := by decide +kernel
theorem dX4_mark_63 : decode cX4_mark 63 = .ok (.aload_n 0, 1) := by decide +kernel
theorem dX4_mark_64 : decode cX4_mark 64 = .ok (.getfield 7, 3) := by decide +kernel
theorem dX4_mark_67 : decode cX4_mark 67 = .ok (.bipush 53, 2) := by decide +kernel
theorem dX4_mark_69 : decode cX4_mark 69 = .ok (.iaload, 1) := by decide +kernel
theorem dX4_mark_70 : decode cX4_mark 70 = .ok (.imul, 1) := by decide +kernel
theorem dX4_mark_71 : decode cX4_mark 71 = .ok (.iadd, 1) := by decide +kernel
theorem dX4_mark_72 : decode cX4_mark 72 = .ok (.istore 5, 2) := by decide +kernel
theorem dX4_mark_74 : decode cX4_mark 74 = .ok (.aload_n 0, 1) := by decide +kernel
theorem dX4_mark_75 : decode cX4_mark 75 = .ok (.getfield 7, 3) := by decide +kernel
theorem dX4_mark_78 : decode cX4_mark 78 = .ok (.iload 5, 2) := by decide +kernel
theorem dX4_mark_80 : decode cX4_mark 80 = .ok (.iload_n 1, 1) := by decide +kernel
theorem dX4_mark_81 : decode cX4_mark 81 = .ok (.iastore, 1) := by decide +kernel
theorem dX4_mark_82 : decode cX4_mark 82 = .ok (.aload_n 0, 1) := by decide +kernel
theorem dX4_mark_83 : decode cX4_mark 83 = .ok (.getfield 7, 3) := by decide +kernel
theorem dX4_mark_86 : decode cX4_mark 86 = .ok (.iload 5, 2) := by decide +kernel
theorem dX4_mark_88 : decode cX4_mark 88 = .ok (.iconst 1, 1) := by decide +kernel
theorem dX4_mark_89 : decode cX4_mark 89 = .ok (.iadd, 1) := by decide +kernel
theorem dX4_mark_90 : decode cX4_mark 90 = .ok (.iload_n 2, 1) := by decide +kernel
theorem dX4_mark_91 : decode cX4_mark 91 = .ok (.iastore, 1) := by decide +kernel
theorem dX4_mark_92 : decode cX4_mark 92 = .ok (.aload_n 0, 1) := by decide +kernel
theorem dX4_mark_93 : decode cX4_mark 93 = .ok (.getfield 7, 3) := by decide +kernel
theorem dX4_mark_96 : decode cX4_mark 96 = .ok (.iload 5, 2) := by decide +kernel
theorem dX4_mark_98 : decode cX4_mark 98 = .ok (.iconst 2, 1) := by decide +kernel
theorem dX4_mark_99 : decode cX4_mark 99 = .ok (.iadd, 1) := by decide +kernel
theorem dX4_mark_100 : decode cX4_mark 100 = .ok (.iload_n 3, 1) := by decide +kernel
theorem dX4_mark_101 : decode cX4_mark 101 = .ok (.iastore, 1) := by decide +kernel
theorem dX4_mark_102 : decode cX4_mark 102 = .ok (.aload_n 0, 1) := by decide +kernel
theorem dX4_mark_103 : decode cX4_mark 103 = .ok (.getfield 7, 3) := by decide +kernel
theorem dX4_mark_106 : decode cX4_mark 106 = .ok (.iload 5, 2) := by decide +kernel
theorem dX4_mark_108 : decode cX4_mark 108 = .ok (.iconst 3, 1) := by decide +kernel
theorem dX4_mark_109 : decode cX4_mark 109 = .ok (.iadd, 1) := by decide +kernel
theorem dX4_mark_110 : decode cX4_mark 110 = .ok (.iload 4, 2) := by decide +kernel
theorem dX4_mark_112 : decode cX4_mark 112 = .ok (.iastore, 1) := by decide +kernel
theorem dX4_mark_113 : decode cX4_mark 113 = .ok (.aload_n 0, 1) := by decide +kernel
theorem dX4_mark_114 : decode cX4_mark 114 = .ok (.getfield 7, 3) := by decide +kernel
theorem dX4_mark_117 : decode cX4_mark 117 = .ok (.bipush 53, 2) := by decide +kernel
theorem dX4_mark_119 : decode cX4_mark 119 = .ok (.dup2, 1) := by decide +kernel
theorem dX4_mark_120 : decode cX4_mark 120 = .ok (.iaload, 1) := by decide +kernel
theorem dX4_mark_121 : decode cX4_mark 121 = .ok (.iconst 1, 1) := by decide +kernel
theorem dX4_mark_122 : decode cX4_mark 122 = .ok (.iadd, 1) := by decide +kernel
theorem dX4_mark_123 : decode cX4_mark 123 = .ok (.iastore, 1) := by decide +kernel
theorem dX4_mark_124 : decode cX4_mark 124 = .ok (.aload_n 0, 1) := by decide +kernel
theorem dX4_mark_125 : decode cX4_mark 125 = .ok (.getfield 7, 3) := by decide +kernel
theorem dX4_mark_128 : decode cX4_mark 128 = .ok (.bipush 53, 2) := by decide +kernel
theorem dX4_mark_130 : decode cX4_mark 130 = .ok (.iaload, 1) := by decide +kernel
theorem dX4_mark_131 : decode cX4_mark 131 = .ok (.ireturn, 1) := by decide +kernel
theorem dX4_forget_0 : decode cX4_forget 0 = .ok (.iload_n 1, 1) := by decide +kernel
theorem dX4_forget_1 : decode cX4_forget 1 = .ok (.iconst 0, 1) := by decide +kernel
theorem dX4_forget_2 : decode cX4_forget 2 = .ok (.iconst 1, 1) := by decide +kernel
theorem dX4_forget_3 : decode cX4_forget 3 = .ok (.invokestatic 53, 3) := by decide +kernel
theorem dX4_forget_6 : decode cX4_forget 6 = .ok (.ifCond .ne 8, 3) := by decide +kernel
theorem dX4_forget_9 : decode cX4_forget 9 = .ok (.aload_n 0, 1) := by decide +kernel
theorem dX4_forget_10 : decode cX4_forget 10 = .ok (.invokevirtual 60, 3) := by decide +kernel
theorem dX4_forget_13 : decode cX4_forget 13 = .ok (.ireturn, 1) := by decide +kernel
theorem dX4_forget_14 : decode cX4_forget 14 = .ok (.iload_n 1, 1) := by decide +kernel
theorem dX4_forget_15 : decode cX4_forget 15 = .ok (.ifCond .ne 8, 3) := by decide +kernel
theorem dX4_forget_18 : decode cX4_forget 18 = .ok (.bipush 34, 2) := by decide +kernel
theorem dX4_forget_20 : decode cX4_forget 20 = .ok (.goto 5, 3) := by decide +kernel
theorem dX4_forget_23 : decode cX4_forget 23 = .ok (.bipush 53, 2) := by decide +kernel
theorem dX4_forget_25 : decode cX4_forget 25 = .ok (.istore_n 2, 1) := by decide +kernel
theorem dX4_forget_26 : decode cX4_forget 26 = .ok (.aload_n 0, 1) := by decide +kernel
theorem dX4_forget_27 : decode cX4_forget 27 = .ok (.getfield 7, 3) := by decide +kernel
theorem dX4_forget_30 : decode cX4_forget 30 = .ok (.iload_n 2, 1) := by decide +kernel
theorem dX4_forget_31 : decode cX4_forget 31 = .ok (.iaload, 1) := by decide +kernel
theorem dX4_forget_32 : decode cX4_forget 32 = .ok (.istore_n 3, 1) := by decide +kernel
theorem dX4_forget_33 : decode cX4_forget 33 = .ok (.aload_n 0, 1) := by decide +kernel
theorem dX4_forget_34 : decode cX4_forget 34 = .ok (.getfield 7, 3) := by decide +kernel
theorem dX4_forget_37 : decode cX4_forget 37 = .ok (.iload_n 2, 1) := by decide +kernel
theorem dX4_forget_38 : decode cX4_forget 38 = .ok (.iconst 0, 1) := by decide +kernel
theorem dX4_forget_39 : decode cX4_forget 39 = .ok (.iastore, 1) := by decide +kernel
theorem dX4_forget_40 : decode cX4_forget 40 = .ok (.iload_n 3, 1) := by decide +kernel
theorem dX4_forget_41 : decode cX4_forget 41 = .ok (.ireturn, 1) := by decide +kernel
theorem dX4_formsSeen_0 : decode cX4_formsSeen 0 = .ok (.iconst 0, 1) := by decide +kernel
theorem dX4_formsSeen_1 : decode cX4_formsSeen 1 = .ok (.istore_n 1, 1) := by decide +kernel
theorem dX4_formsSeen_2 : decode cX4_formsSeen 2 = .ok (.iconst 0, 1) := by decide +kernel
theorem dX4_formsSeen_3 : decode cX4_formsSeen 3 = .ok (.istore_n 2, 1) := by decide +kernel
theorem dX4_formsSeen_4 : decode cX4_formsSeen 4 = .ok (.iload_n 2, 1) := by decide +kernel
theorem dX4_formsSeen_5 : decode cX4_formsSeen 5 = .ok (.bipush 6, 2) := by decide +kernel
theorem dX4_formsSeen_7 : decode cX4_formsSeen 7 = .ok (.if_icmp .ge 97, 3) := by decide +kernel
theorem dX4_formsSeen_10 : decode cX4_formsSeen 10 = .ok (.iconst 1, 1) := by decide +kernel
theorem dX4_formsSeen_11 : decode cX4_formsSeen 11 = .ok (.istore_n 3, 1) := by decide +kernel
theorem dX4_formsSeen_12 : decode cX4_formsSeen 12 = .ok (.iconst 0, 1) := by decide +kernel
theorem dX4_formsSeen_13 : decode cX4_formsSeen 13 = .ok (.istore 4, 2) := by decide +kernel
theorem dX4_formsSeen_15 : decode cX4_formsSeen 15 = .ok (.iload 4, 2) := by decide +kernel
theorem dX4_formsSeen_17 : decode cX4_formsSeen 17 = .ok (.aload_n 0, 1) := by decide +kernel
theorem dX4_formsSeen_18 : decode cX4_formsSeen 18 = .ok (.getfield 7, 3) := by decide +kernel
theorem dX4_formsSeen_21 : decode cX4_formsSeen 21 = .ok (.bipush 34, 2) := by decide +kernel
theorem dX4_formsSeen_23 : decode cX4_formsSeen 23 = .ok (.iaload, 1) := by decide +kernel
theorem dX4_formsSeen_24 : decode cX4_formsSeen 24 = .ok (.if_icmp .ge 60, 3) := by decide +kernel
theorem dX4_formsSeen_27 : decode cX4_formsSeen 27 = .ok (.bipush 35, 2) := by decide +kernel
theorem dX4_formsSeen_29 : decode cX4_formsSeen 29 = .ok (.iconst 3, 1) := by decide +kernel
theorem dX4_formsSeen_30 : decode cX4_formsSeen 30 = .ok (.iload 4, 2) := by decide +kernel
theorem dX4_formsSeen_32 : decode cX4_formsSeen 32 = .ok (.imul, 1) := by decide +kernel
theorem dX4_formsSeen_33 : decode cX4_formsSeen 33 = .ok (.iadd, 1) := by decide +kernel
theorem dX4_formsSeen_34 : decode cX4_formsSeen 34 = .ok (.istore 5, 2) := by decide +kernel
theorem dX4_formsSeen_36 : decode cX4_formsSeen 36 = .ok (.iload_n 3, 1) := by decide +kernel
theorem dX4_formsSeen_37 : decode cX4_formsSeen 37 = .ok (.ifCond .eq 39, 3) := by decide +kernel
theorem dX4_formsSeen_40 : decode cX4_formsSeen 40 = .ok (.iload_n 2, 1) := by decide +kernel
theorem dX4_formsSeen_41 : decode cX4_formsSeen 41 = .ok (.aload_n 0, 1) := by decide +kernel
theorem dX4_formsSeen_42 : decode cX4_formsSeen 42 = .ok (.getfield 7, 3) := by decide +kernel
theorem dX4_formsSeen_45 : decode cX4_formsSeen 45 = .ok (.iload 5, 2) := by decide +kernel
theorem dX4_formsSeen_47 : decode cX4_formsSeen 47 = .ok (.iaload, 1) := by decide +kernel
theorem dX4_formsSeen_48 : decode cX4_formsSeen 48 = .ok (.aload_n 0, 1) := by decide +kernel
theorem dX4_formsSeen_49 : decode cX4_formsSeen 49 = .ok (.getfield 7, 3) := by decide +kernel
theorem dX4_formsSeen_52 : decode cX4_formsSeen 52 = .ok (.iload 5, 2) := by decide +kernel
theorem dX4_formsSeen_54 : decode cX4_formsSeen 54 = .ok (.iconst 1, 1) := by decide +kernel
theorem dX4_formsSeen_55 : decode cX4_formsSeen 55 = .ok (.iadd, 1) := by decide +kernel
theorem dX4_formsSeen_56 : decode cX4_formsSeen 56 = .ok (.iaload, 1) := by decide +kernel
theorem dX4_formsSeen_57 : decode cX4_formsSeen 57 = .ok (.invokestatic 156, 3) := by decide +kernel
theorem dX4_formsSeen_60 : decode cX4_formsSeen 60 = .ok (.aload_n 0, 1) := by decide +kernel
theorem dX4_formsSeen_61 : decode cX4_formsSeen 61 = .ok (.getfield 7, 3) := by decide +kernel
theorem dX4_formsSeen_64 : decode cX4_formsSeen 64 = .ok (.iload 5, 2) := by decide +kernel
theorem dX4_formsSeen_66 : decode cX4_formsSeen 66 = .ok (.iconst 2, 1) := by decide +kernel
theorem dX4_formsSeen_67 : decode cX4_formsSeen 67 = .ok (.iadd, 1) := by decide +kernel
theorem dX4_formsSeen_68 : decode cX4_formsSeen 68 = .ok (.iaload, 1) := by decide +kernel
theorem dX4_formsSeen_69 : decode cX4_formsSeen 69 = .ok (.if_icmp .ne 7, 3) := by decide +kernel
theorem dX4_formsSeen_72 : decode cX4_formsSeen 72 = .ok (.iconst 1, 1) := by decide +kernel
theorem dX4_formsSeen_73 : decode cX4_formsSeen 73 = .ok (.goto 4, 3) := by decide +kernel
theorem dX4_formsSeen_76 : decode cX4_formsSeen 76 = .ok (.iconst 0, 1) := by decide +kernel
theorem dX4_formsSeen_77 : decode cX4_formsSeen 77 = .ok (.istore_n 3, 1) := by decide +kernel
theorem dX4_formsSeen_78 : decode cX4_formsSeen 78 = .ok (.iinc 4 1, 3) := by decide +kernel
theorem dX4_formsSeen_81 : decode cX4_formsSeen 81 = .ok (.goto (-66), 3) := by decide +kernel
theorem dX4_formsSeen_84 : decode cX4_formsSeen 84 = .ok (.iload_n 1, 1) := by decide +kernel
theorem dX4_formsSeen_85 : decode cX4_formsSeen 85 = .ok (.iload_n 3, 1) := by decide +kernel
theorem dX4_formsSeen_86 : decode cX4_formsSeen 86 = .ok (.ifCond .eq 9, 3) := by decide +kernel
theorem dX4_formsSeen_89 : decode cX4_formsSeen 89 = .ok (.iconst 1, 1) := by decide +kernel
theorem dX4_formsSeen_90 : decode cX4_formsSeen 90 = .ok (.iload_n 2, 1) := by decide +kernel
theorem dX4_formsSeen_91 : decode cX4_formsSeen 91 = .ok (.ishl, 1) := by decide +kernel
theorem dX4_formsSeen_92 : decode cX4_formsSeen 92 = .ok (.goto 4, 3) := by decide +kernel
theorem dX4_formsSeen_95 : decode cX4_formsSeen 95 = .ok (.iconst 0, 1) := by decide +kernel
theorem dX4_formsSeen_96 : decode cX4_formsSeen 96 = .ok (.ior, 1) := by decide +kernel
theorem dX4_formsSeen_97 : decode cX4_formsSeen 97 = .ok (.istore_n 1, 1) := by decide +kernel
theorem dX4_formsSeen_98 : decode cX4_formsSeen 98 = .ok (.iinc 2 1, 3) := by decide +kernel
theorem dX4_formsSeen_101 : decode cX4_formsSeen 101 = .ok (.goto (-97), 3) := by decide +kernel
theorem dX4_formsSeen_104 : decode cX4_formsSeen 104 = .ok (.iload_n 1, 1) := by decide +kernel
theorem dX4_formsSeen_105 : decode cX4_formsSeen 105 = .ok (.ireturn, 1) := by decide +kernel
theorem dX4_kindsSeen_0 : decode cX4_kindsSeen 0 = .ok (.iconst 0, 1) := by decide +kernel
theorem dX4_kindsSeen_1 : decode cX4_kindsSeen 1 = .ok (.istore_n 2, 1) := by decide +kernel
theorem dX4_kindsSeen_2 : decode cX4_kindsSeen 2 = .ok (.iconst 0, 1) := by decide +kernel
theorem dX4_kindsSeen_3 : decode cX4_kindsSeen 3 = .ok (.istore_n 3, 1) := by decide +kernel
theorem dX4_kindsSeen_4 : decode cX4_kindsSeen 4 = .ok (.iload_n 3, 1) := by decide +kernel
theorem dX4_kindsSeen_5 : decode cX4_kindsSeen 5 = .ok (.bipush 6, 2) := by decide +kernel
theorem dX4_kindsSeen_7 : decode cX4_kindsSeen 7 = .ok (.if_icmp .ge 114, 3) := by decide +kernel
theorem dX4_kindsSeen_10 : decode cX4_kindsSeen 10 = .ok (.iconst 1, 1) := by decide +kernel
theorem dX4_kindsSeen_11 : decode cX4_kindsSeen 11 = .ok (.istore 4, 2) := by decide +kernel
theorem dX4_kindsSeen_13 : decode cX4_kindsSeen 13 = .ok (.iconst 0, 1) := by decide +kernel
theorem dX4_kindsSeen_14 : decode cX4_kindsSeen 14 = .ok (.istore 5, 2) := by decide +kernel
theorem dX4_kindsSeen_16 : decode cX4_kindsSeen 16 = .ok (.iload 5, 2) := by decide +kernel
theorem dX4_kindsSeen_18 : decode cX4_kindsSeen 18 = .ok (.aload_n 0, 1) := by decide +kernel
theorem dX4_kindsSeen_19 : decode cX4_kindsSeen 19 = .ok (.getfield 7, 3) := by decide +kernel
theorem dX4_kindsSeen_22 : decode cX4_kindsSeen 22 = .ok (.bipush 53, 2) := by decide +kernel
theorem dX4_kindsSeen_24 : decode cX4_kindsSeen 24 = .ok (.iaload, 1) := by decide +kernel
theorem dX4_kindsSeen_25 : decode cX4_kindsSeen 25 = .ok (.if_icmp .ge 75, 3) := by decide +kernel
theorem dX4_kindsSeen_28 : decode cX4_kindsSeen 28 = .ok (.bipush 54, 2) := by decide +kernel
theorem dX4_kindsSeen_30 : decode cX4_kindsSeen 30 = .ok (.iconst 4, 1) := by decide +kernel
theorem dX4_kindsSeen_31 : decode cX4_kindsSeen 31 = .ok (.iload 5, 2) := by decide +kernel
theorem dX4_kindsSeen_33 : decode cX4_kindsSeen 33 = .ok (.imul, 1) := by decide +kernel
theorem dX4_kindsSeen_34 : decode cX4_kindsSeen 34 = .ok (.iadd, 1) := by decide +kernel
theorem dX4_kindsSeen_35 : decode cX4_kindsSeen 35 = .ok (.istore 6, 2) := by decide +kernel
theorem dX4_kindsSeen_37 : decode cX4_kindsSeen 37 = .ok (.iload 4, 2) := by decide +kernel
theorem dX4_kindsSeen_39 : decode cX4_kindsSeen 39 = .ok (.ifCond .eq 52, 3) := by decide +kernel
theorem dX4_kindsSeen_42 : decode cX4_kindsSeen 42 = .ok (.aload_n 0, 1) := by decide +kernel
theorem dX4_kindsSeen_43 : decode cX4_kindsSeen 43 = .ok (.getfield 7, 3) := by decide +kernel
theorem dX4_kindsSeen_46 : decode cX4_kindsSeen 46 = .ok (.iload 6, 2) := by decide +kernel
theorem dX4_kindsSeen_48 : decode cX4_kindsSeen 48 = .ok (.iaload, 1) := by decide +kernel
theorem dX4_kindsSeen_49 : decode cX4_kindsSeen 49 = .ok (.iload_n 1, 1) := by decide +kernel
theorem dX4_kindsSeen_50 : decode cX4_kindsSeen 50 = .ok (.if_icmp .ne 37, 3) := by decide +kernel
theorem dX4_kindsSeen_53 : decode cX4_kindsSeen 53 = .ok (.iload_n 3, 1) := by decide +kernel
theorem dX4_kindsSeen_54 : decode cX4_kindsSeen 54 = .ok (.aload_n 0, 1) := by decide +kernel
theorem dX4_kindsSeen_55 : decode cX4_kindsSeen 55 = .ok (.getfield 7, 3) := by decide +kernel
theorem dX4_kindsSeen_58 : decode cX4_kindsSeen 58 = .ok (.iload 6, 2) := by decide +kernel
theorem dX4_kindsSeen_60 : decode cX4_kindsSeen 60 = .ok (.iconst 1, 1) := by decide +kernel
theorem dX4_kindsSeen_61 : decode cX4_kindsSeen 61 = .ok (.iadd, 1) := by decide +kernel
theorem dX4_kindsSeen_62 : decode cX4_kindsSeen 62 = .ok (.iaload, 1) := by decide +kernel
theorem dX4_kindsSeen_63 : decode cX4_kindsSeen 63 = .ok (.aload_n 0, 1) := by decide +kernel
theorem dX4_kindsSeen_64 : decode cX4_kindsSeen 64 = .ok (.getfield 7, 3) := by decide +kernel
theorem dX4_kindsSeen_67 : decode cX4_kindsSeen 67 = .ok (.iload 6, 2) := by decide +kernel
theorem dX4_kindsSeen_69 : decode cX4_kindsSeen 69 = .ok (.iconst 2, 1) := by decide +kernel
theorem dX4_kindsSeen_70 : decode cX4_kindsSeen 70 = .ok (.iadd, 1) := by decide +kernel
theorem dX4_kindsSeen_71 : decode cX4_kindsSeen 71 = .ok (.iaload, 1) := by decide +kernel
theorem dX4_kindsSeen_72 : decode cX4_kindsSeen 72 = .ok (.invokestatic 152, 3) := by decide +kernel
theorem dX4_kindsSeen_75 : decode cX4_kindsSeen 75 = .ok (.aload_n 0, 1) := by decide +kernel
theorem dX4_kindsSeen_76 : decode cX4_kindsSeen 76 = .ok (.getfield 7, 3) := by decide +kernel
theorem dX4_kindsSeen_79 : decode cX4_kindsSeen 79 = .ok (.iload 6, 2) := by decide +kernel
theorem dX4_kindsSeen_81 : decode cX4_kindsSeen 81 = .ok (.iconst 3, 1) := by decide +kernel
theorem dX4_kindsSeen_82 : decode cX4_kindsSeen 82 = .ok (.iadd, 1) := by decide +kernel
theorem dX4_kindsSeen_83 : decode cX4_kindsSeen 83 = .ok (.iaload, 1) := by decide +kernel
theorem dX4_kindsSeen_84 : decode cX4_kindsSeen 84 = .ok (.if_icmp .ne 7, 3) := by decide +kernel
theorem dX4_kindsSeen_87 : decode cX4_kindsSeen 87 = .ok (.iconst 1, 1) := by decide +kernel
theorem dX4_kindsSeen_88 : decode cX4_kindsSeen 88 = .ok (.goto 4, 3) := by decide +kernel
theorem dX4_kindsSeen_91 : decode cX4_kindsSeen 91 = .ok (.iconst 0, 1) := by decide +kernel
theorem dX4_kindsSeen_92 : decode cX4_kindsSeen 92 = .ok (.istore 4, 2) := by decide +kernel
theorem dX4_kindsSeen_94 : decode cX4_kindsSeen 94 = .ok (.iinc 5 1, 3) := by decide +kernel
theorem dX4_kindsSeen_97 : decode cX4_kindsSeen 97 = .ok (.goto (-81), 3) := by decide +kernel
theorem dX4_kindsSeen_100 : decode cX4_kindsSeen 100 = .ok (.iload_n 2, 1) := by decide +kernel
theorem dX4_kindsSeen_101 : decode cX4_kindsSeen 101 = .ok (.iload 4, 2) := by decide +kernel
theorem dX4_kindsSeen_103 : decode cX4_kindsSeen 103 = .ok (.ifCond .eq 9, 3) := by decide +kernel
theorem dX4_kindsSeen_106 : decode cX4_kindsSeen 106 = .ok (.iconst 1, 1) := by decide +kernel
theorem dX4_kindsSeen_107 : decode cX4_kindsSeen 107 = .ok (.iload_n 3, 1) := by decide +kernel
theorem dX4_kindsSeen_108 : decode cX4_kindsSeen 108 = .ok (.ishl, 1) := by decide +kernel
theorem dX4_kindsSeen_109 : decode cX4_kindsSeen 109 = .ok (.goto 4, 3) := by decide +kernel
theorem dX4_kindsSeen_112 : decode cX4_kindsSeen 112 = .ok (.iconst 0, 1) := by decide +kernel
theorem dX4_kindsSeen_113 : decode cX4_kindsSeen 113 = .ok (.ior, 1) := by decide +kernel
theorem dX4_kindsSeen_114 : decode cX4_kindsSeen 114 = .ok (.istore_n 2, 1) := by decide +kernel
theorem dX4_kindsSeen_115 : decode cX4_kindsSeen 115 = .ok (.iinc 3 1, 3) := by decide +kernel
theorem dX4_kindsSeen_118 : decode cX4_kindsSeen 118 = .ok (.goto (-114), 3) := by decide +kernel
theorem dX4_kindsSeen_121 : decode cX4_kindsSeen 121 = .ok (.iload_n 2, 1) := by decide +kernel
theorem dX4_kindsSeen_122 : decode cX4_kindsSeen 122 = .ok (.ireturn, 1) := by decide +kernel
theorem dX4_alike_0 : decode cX4_alike 0 = .ok (.iconst 0, 1) := by decide +kernel
theorem dX4_alike_1 : decode cX4_alike 1 = .ok (.istore 4, 2) := by decide +kernel
theorem dX4_alike_3 : decode cX4_alike 3 = .ok (.iconst 0, 1) := by decide +kernel
theorem dX4_alike_4 : decode cX4_alike 4 = .ok (.istore 5, 2) := by decide +kernel
theorem dX4_alike_6 : decode cX4_alike 6 = .ok (.iload 5, 2) := by decide +kernel
theorem dX4_alike_8 : decode cX4_alike 8 = .ok (.bipush 6, 2) := by decide +kernel
theorem dX4_alike_10 : decode cX4_alike 10 = .ok (.if_icmp .ge 125, 3) := by decide +kernel
theorem dX4_alike_13 : decode cX4_alike 13 = .ok (.iload_n 1, 1) := by decide +kernel
theorem dX4_alike_14 : decode cX4_alike 14 = .ok (.ifCond .eq 13, 3) := by decide +kernel
theorem dX4_alike_17 : decode cX4_alike 17 = .ok (.iload 5, 2) := by decide +kernel
theorem dX4_alike_19 : decode cX4_alike 19 = .ok (.iload_n 2, 1) := by decide +kernel
theorem dX4_alike_20 : decode cX4_alike 20 = .ok (.iload_n 3, 1) := by decide +kernel
theorem dX4_alike_21 : decode cX4_alike 21 = .ok (.invokestatic 156, 3) := by decide +kernel
theorem dX4_alike_24 : decode cX4_alike 24 = .ok (.goto 10, 3) := by decide +kernel
theorem dX4_alike_27 : decode cX4_alike 27 = .ok (.iload 5, 2) := by decide +kernel
theorem dX4_alike_29 : decode cX4_alike 29 = .ok (.iload_n 2, 1) := by decide +kernel
theorem dX4_alike_30 : decode cX4_alike 30 = .ok (.iload_n 3, 1) := by decide +kernel
theorem dX4_alike_31 : decode cX4_alike 31 = .ok (.invokestatic 152, 3) := by decide +kernel
theorem dX4_alike_34 : decode cX4_alike 34 = .ok (.istore 6, 2) := by decide +kernel
theorem dX4_alike_36 : decode cX4_alike 36 = .ok (.iconst 0, 1) := by decide +kernel
theorem dX4_alike_37 : decode cX4_alike 37 = .ok (.istore 7, 2) := by decide +kernel
theorem dX4_alike_39 : decode cX4_alike 39 = .ok (.iconst 0, 1) := by decide +kernel
theorem dX4_alike_40 : decode cX4_alike 40 = .ok (.istore 8, 2) := by decide +kernel
theorem dX4_alike_42 : decode cX4_alike 42 = .ok (.iload 8, 2) := by decide +kernel
theorem dX4_alike_44 : decode cX4_alike 44 = .ok (.bipush 6, 2) := by decide +kernel
theorem dX4_alike_46 : decode cX4_alike 46 = .ok (.if_icmp .ge 67, 3) := by decide +kernel
theorem dX4_alike_49 : decode cX4_alike 49 = .ok (.iload_n 1, 1) := by decide +kernel
theorem dX4_alike_50 : decode cX4_alike 50 = .ok (.ifCond .eq 13, 3) := by decide +kernel
theorem dX4_alike_53 : decode cX4_alike 53 = .ok (.iload 8, 2) := by decide +kernel
theorem dX4_alike_55 : decode cX4_alike 55 = .ok (.iload_n 2, 1) := by decide +kernel
theorem dX4_alike_56 : decode cX4_alike 56 = .ok (.iload_n 3, 1) := by decide +kernel
theorem dX4_alike_57 : decode cX4_alike 57 = .ok (.invokestatic 156, 3) := by decide +kernel
theorem dX4_alike_60 : decode cX4_alike 60 = .ok (.goto 10, 3) := by decide +kernel
theorem dX4_alike_63 : decode cX4_alike 63 = .ok (.iload 8, 2) := by decide +kernel
theorem dX4_alike_65 : decode cX4_alike 65 = .ok (.iload_n 2, 1) := by decide +kernel
theorem dX4_alike_66 : decode cX4_alike 66 = .ok (.iload_n 3, 1) := by decide +kernel
theorem dX4_alike_67 : decode cX4_alike 67 = .ok (.invokestatic 152, 3) := by decide +kernel
theorem dX4_alike_70 : decode cX4_alike 70 = .ok (.istore 9, 2) := by decide +kernel
theorem dX4_alike_72 : decode cX4_alike 72 = .ok (.iload 7, 2) := by decide +kernel
theorem dX4_alike_74 : decode cX4_alike 74 = .ok (.iload_n 0, 1) := by decide +kernel
theorem dX4_alike_75 : decode cX4_alike 75 = .ok (.iload 5, 2) := by decide +kernel
theorem dX4_alike_77 : decode cX4_alike 77 = .ok (.invokestatic 191, 3) := by decide +kernel
theorem dX4_alike_80 : decode cX4_alike 80 = .ok (.ifCond .eq 23, 3) := by decide +kernel
theorem dX4_alike_83 : decode cX4_alike 83 = .ok (.iload_n 0, 1) := by decide +kernel
theorem dX4_alike_84 : decode cX4_alike 84 = .ok (.iload 8, 2) := by decide +kernel
theorem dX4_alike_86 : decode cX4_alike 86 = .ok (.invokestatic 191, 3) := by decide +kernel
theorem dX4_alike_89 : decode cX4_alike 89 = .ok (.ifCond .eq 14, 3) := by decide +kernel
theorem dX4_alike_92 : decode cX4_alike 92 = .ok (.iload 6, 2) := by decide +kernel
theorem dX4_alike_94 : decode cX4_alike 94 = .ok (.iload 9, 2) := by decide +kernel
theorem dX4_alike_96 : decode cX4_alike 96 = .ok (.if_icmp .ne 7, 3) := by decide +kernel
theorem dX4_alike_99 : decode cX4_alike 99 = .ok (.iconst 1, 1) := by decide +kernel
theorem dX4_alike_100 : decode cX4_alike 100 = .ok (.goto 4, 3) := by decide +kernel
theorem dX4_alike_103 : decode cX4_alike 103 = .ok (.iconst 0, 1) := by decide +kernel
theorem dX4_alike_104 : decode cX4_alike 104 = .ok (.iadd, 1) := by decide +kernel
theorem dX4_alike_105 : decode cX4_alike 105 = .ok (.istore 7, 2) := by decide +kernel
theorem dX4_alike_107 : decode cX4_alike 107 = .ok (.iinc 8 1, 3) := by decide +kernel
theorem dX4_alike_110 : decode cX4_alike 110 = .ok (.goto (-68), 3) := by decide +kernel
theorem dX4_alike_113 : decode cX4_alike 113 = .ok (.iload 7, 2) := by decide +kernel
theorem dX4_alike_115 : decode cX4_alike 115 = .ok (.iload 4, 2) := by decide +kernel
theorem dX4_alike_117 : decode cX4_alike 117 = .ok (.if_icmp .le 8, 3) := by decide +kernel
theorem dX4_alike_120 : decode cX4_alike 120 = .ok (.iload 7, 2) := by decide +kernel
theorem dX4_alike_122 : decode cX4_alike 122 = .ok (.goto 5, 3) := by decide +kernel
theorem dX4_alike_125 : decode cX4_alike 125 = .ok (.iload 4, 2) := by decide +kernel
theorem dX4_alike_127 : decode cX4_alike 127 = .ok (.istore 4, 2) := by decide +kernel
theorem dX4_alike_129 : decode cX4_alike 129 = .ok (.iinc 5 1, 3) := by decide +kernel
theorem dX4_alike_132 : decode cX4_alike 132 = .ok (.goto (-126), 3) := by decide +kernel
theorem dX4_alike_135 : decode cX4_alike 135 = .ok (.iload 4, 2) := by decide +kernel
theorem dX4_alike_137 : decode cX4_alike 137 = .ok (.ireturn, 1) := by decide +kernel
theorem dX4_bestLook_0 : decode cX4_bestLook 0 = .ok (.iconst (-1), 1) := by decide +kernel
theorem dX4_bestLook_1 : decode cX4_bestLook 1 = .ok (.istore_n 2, 1) := by decide +kernel
theorem dX4_bestLook_2 : decode cX4_bestLook 2 = .ok (.bipush 7, 2) := by decide +kernel
theorem dX4_bestLook_4 : decode cX4_bestLook 4 = .ok (.istore_n 3, 1) := by decide +kernel
theorem dX4_bestLook_5 : decode cX4_bestLook 5 = .ok (.bipush 30, 2) := by decide +kernel
theorem dX4_bestLook_7 : decode cX4_bestLook 7 = .ok (.istore 4, 2) := by decide +kernel
theorem dX4_bestLook_9 : decode cX4_bestLook 9 = .ok (.iload 4, 2) := by decide +kernel
theorem dX4_bestLook_11 : decode cX4_bestLook 11 = .ok (.bipush 66, 2) := by decide +kernel
theorem dX4_bestLook_13 : decode cX4_bestLook 13 = .ok (.if_icmp .ge 70, 3) := by decide +kernel
theorem dX4_bestLook_16 : decode cX4_bestLook 16 = .ok (.iload_n 0, 1) := by decide +kernel
theorem dX4_bestLook_17 : decode cX4_bestLook 17 = .ok (.ifCond .eq 66, 3) := by decide +kernel
theorem dX4_bestLook_20 : decode cX4_bestLook 20 = .ok (.iload 4, 2) := by decide +kernel
theorem dX4_bestLook_22 : decode cX4_bestLook 22 = .ok (.bipush 10, 2) := by decide +kernel
theorem dX4_bestLook_24 : decode cX4_bestLook 24 = .ok (.irem, 1) := by decide +kernel
theorem dX4_bestLook_25 : decode cX4_bestLook 25 = .ok (.iconst 5, 1) := by decide +kernel
theorem dX4_bestLook_26 : decode cX4_bestLook 26 = .ok (.if_icmp .le 8, 3) := by decide +kernel
theorem dX4_bestLook_29 : decode cX4_bestLook 29 = .ok (.bipush 7, 2) := by decide +kernel
theorem dX4_bestLook_31 : decode cX4_bestLook 31 = .ok (.goto 18, 3) := by decide +kernel
theorem dX4_bestLook_34 : decode cX4_bestLook 34 = .ok (.iload_n 0, 1) := by decide +kernel
theorem dX4_bestLook_35 : decode cX4_bestLook 35 = .ok (.iload_n 1, 1) := by decide +kernel
theorem dX4_bestLook_36 : decode cX4_bestLook 36 = .ok (.iload 4, 2) := by decide +kernel
theorem dX4_bestLook_38 : decode cX4_bestLook 38 = .ok (.bipush 10, 2) := by decide +kernel
theorem dX4_bestLook_40 : decode cX4_bestLook 40 = .ok (.idiv, 1) := by decide +kernel
theorem dX4_bestLook_41 : decode cX4_bestLook 41 = .ok (.iload 4, 2) := by decide +kernel
theorem dX4_bestLook_43 : decode cX4_bestLook 43 = .ok (.bipush 10, 2) := by decide +kernel
theorem dX4_bestLook_45 : decode cX4_bestLook 45 = .ok (.irem, 1) := by decide +kernel
theorem dX4_bestLook_46 : decode cX4_bestLook 46 = .ok (.invokestatic 212, 3) := by decide +kernel
theorem dX4_bestLook_49 : decode cX4_bestLook 49 = .ok (.istore 5, 2) := by decide +kernel
theorem dX4_bestLook_51 : decode cX4_bestLook 51 = .ok (.iload 5, 2) := by decide +kernel
theorem dX4_bestLook_53 : decode cX4_bestLook 53 = .ok (.iload_n 3, 1) := by decide +kernel
theorem dX4_bestLook_54 : decode cX4_bestLook 54 = .ok (.if_icmp .ge 8, 3) := by decide +kernel
theorem dX4_bestLook_57 : decode cX4_bestLook 57 = .ok (.iload 4, 2) := by decide +kernel
theorem dX4_bestLook_59 : decode cX4_bestLook 59 = .ok (.goto 4, 3) := by decide +kernel
theorem dX4_bestLook_62 : decode cX4_bestLook 62 = .ok (.iload_n 2, 1) := by decide +kernel
theorem dX4_bestLook_63 : decode cX4_bestLook 63 = .ok (.istore_n 2, 1) := by decide +kernel
theorem dX4_bestLook_64 : decode cX4_bestLook 64 = .ok (.iload 5, 2) := by decide +kernel
theorem dX4_bestLook_66 : decode cX4_bestLook 66 = .ok (.iload_n 3, 1) := by decide +kernel
theorem dX4_bestLook_67 : decode cX4_bestLook 67 = .ok (.if_icmp .ge 8, 3) := by decide +kernel
theorem dX4_bestLook_70 : decode cX4_bestLook 70 = .ok (.iload 5, 2) := by decide +kernel
theorem dX4_bestLook_72 : decode cX4_bestLook 72 = .ok (.goto 4, 3) := by decide +kernel
theorem dX4_bestLook_75 : decode cX4_bestLook 75 = .ok (.iload_n 3, 1) := by decide +kernel
theorem dX4_bestLook_76 : decode cX4_bestLook 76 = .ok (.istore_n 3, 1) := by decide +kernel
theorem dX4_bestLook_77 : decode cX4_bestLook 77 = .ok (.iinc 4 1, 3) := by decide +kernel
theorem dX4_bestLook_80 : decode cX4_bestLook 80 = .ok (.goto (-71), 3) := by decide +kernel
theorem dX4_bestLook_83 : decode cX4_bestLook 83 = .ok (.iload_n 2, 1) := by decide +kernel
theorem dX4_bestLook_84 : decode cX4_bestLook 84 = .ok (.ireturn, 1) := by decide +kernel
theorem dX4_is_0 : decode cX4_is 0 = .ok (.aload_n 0, 1) := by decide +kernel
theorem dX4_is_1 : decode cX4_is 1 = .ok (.invokevirtual 216, 3) := by decide +kernel
theorem dX4_is_4 : decode cX4_is 4 = .ok (.ireturn, 1) := by decide +kernel
theorem dX4_look_0 : decode cX4_look 0 = .ok (.aload_n 0, 1) := by decide +kernel
theorem dX4_look_1 : decode cX4_look 1 = .ok (.invokevirtual 216, 3) := by decide +kernel
theorem dX4_look_4 : decode cX4_look 4 = .ok (.iconst 1, 1) := by decide +kernel
theorem dX4_look_5 : decode cX4_look 5 = .ok (.invokestatic 219, 3) := by decide +kernel
theorem dX4_look_8 : decode cX4_look 8 = .ok (.ireturn, 1) := by decide +kernel
theorem dX4_kinds_0 : decode cX4_kinds 0 = .ok (.aload_n 0, 1) := by decide +kernel
theorem dX4_kinds_1 : decode cX4_kinds 1 = .ok (.iload_n 1, 1) := by decide +kernel
theorem dX4_kinds_2 : decode cX4_kinds 2 = .ok (.invokevirtual 178, 3) := by decide +kernel
theorem dX4_kinds_5 : decode cX4_kinds 5 = .ok (.ifCond .eq 11, 3) := by decide +kernel
theorem dX4_kinds_8 : decode cX4_kinds 8 = .ok (.aload_n 0, 1) := by decide +kernel
theorem dX4_kinds_9 : decode cX4_kinds 9 = .ok (.iload_n 1, 1) := by decide +kernel
theorem dX4_kinds_10 : decode cX4_kinds 10 = .ok (.invokevirtual 222, 3) := by decide +kernel
theorem dX4_kinds_13 : decode cX4_kinds 13 = .ok (.goto 7, 3) := by decide +kernel
theorem dX4_kinds_16 : decode cX4_kinds 16 = .ok (.aload_n 0, 1) := by decide +kernel
theorem dX4_kinds_17 : decode cX4_kinds 17 = .ok (.invokevirtual 60, 3) := by decide +kernel
theorem dX4_kinds_20 : decode cX4_kinds 20 = .ok (.ireturn, 1) := by decide +kernel
theorem dX4_ask_0 : decode cX4_ask 0 = .ok (.aload_n 0, 1) := by decide +kernel
theorem dX4_ask_1 : decode cX4_ask 1 = .ok (.iload_n 1, 1) := by decide +kernel
theorem dX4_ask_2 : decode cX4_ask 2 = .ok (.invokevirtual 178, 3) := by decide +kernel
theorem dX4_ask_5 : decode cX4_ask 5 = .ok (.ifCond .eq 15, 3) := by decide +kernel
theorem dX4_ask_8 : decode cX4_ask 8 = .ok (.aload_n 0, 1) := by decide +kernel
theorem dX4_ask_9 : decode cX4_ask 9 = .ok (.iload_n 1, 1) := by decide +kernel
theorem dX4_ask_10 : decode cX4_ask 10 = .ok (.invokevirtual 222, 3) := by decide +kernel
theorem dX4_ask_13 : decode cX4_ask 13 = .ok (.iconst 0, 1) := by decide +kernel
theorem dX4_ask_14 : decode cX4_ask 14 = .ok (.invokestatic 219, 3) := by decide +kernel
theorem dX4_ask_17 : decode cX4_ask 17 = .ok (.goto 7, 3) := by decide +kernel
theorem dX4_ask_20 : decode cX4_ask 20 = .ok (.aload_n 0, 1) := by decide +kernel
theorem dX4_ask_21 : decode cX4_ask 21 = .ok (.invokevirtual 60, 3) := by decide +kernel
theorem dX4_ask_24 : decode cX4_ask 24 = .ok (.ireturn, 1) := by decide +kernel
theorem dX4_emptyLine_0 : decode cX4_emptyLine 0 = .ok (.iconst 0, 1) := by decide +kernel
theorem dX4_emptyLine_1 : decode cX4_emptyLine 1 = .ok (.istore_n 1, 1) := by decide +kernel
theorem dX4_emptyLine_2 : decode cX4_emptyLine 2 = .ok (.iload_n 1, 1) := by decide +kernel
theorem dX4_emptyLine_3 : decode cX4_emptyLine 3 = .ok (.aload_n 0, 1) := by decide +kernel
theorem dX4_emptyLine_4 : decode cX4_emptyLine 4 = .ok (.getfield 7, 3) := by decide +kernel
theorem dX4_emptyLine_7 : decode cX4_emptyLine 7 = .ok (.iconst 1, 1) := by decide +kernel
theorem dX4_emptyLine_8 : decode cX4_emptyLine 8 = .ok (.iaload, 1) := by decide +kernel
theorem dX4_emptyLine_9 : decode cX4_emptyLine 9 = .ok (.if_icmp .ge 24, 3) := by decide +kernel
theorem dX4_emptyLine_12 : decode cX4_emptyLine 12 = .ok (.aload_n 0, 1) := by decide +kernel
theorem dX4_emptyLine_13 : decode cX4_emptyLine 13 = .ok (.getfield 7, 3) := by decide +kernel
theorem dX4_emptyLine_16 : decode cX4_emptyLine 16 = .ok (.bipush 28, 2) := by decide +kernel
theorem dX4_emptyLine_18 : decode cX4_emptyLine 18 = .ok (.iload_n 1, 1) := by decide +kernel
theorem dX4_emptyLine_19 : decode cX4_emptyLine 19 = .ok (.iadd, 1) := by decide +kernel
theorem dX4_emptyLine_20 : decode cX4_emptyLine 20 = .ok (.iaload, 1) := by decide +kernel
theorem dX4_emptyLine_21 : decode cX4_emptyLine 21 = .ok (.iconst (-1), 1) := by decide +kernel
theorem dX4_emptyLine_22 : decode cX4_emptyLine 22 = .ok (.if_icmp .ne 5, 3) := by decide +kernel
theorem dX4_emptyLine_25 : decode cX4_emptyLine 25 = .ok (.iload_n 1, 1) := by decide +kernel
theorem dX4_emptyLine_26 : decode cX4_emptyLine 26 = .ok (.ireturn, 1) := by decide +kernel
theorem dX4_emptyLine_27 : decode cX4_emptyLine 27 = .ok (.iinc 1 1, 3) := by decide +kernel
theorem dX4_emptyLine_30 : decode cX4_emptyLine 30 = .ok (.goto (-28), 3) := by decide +kernel
theorem dX4_emptyLine_33 : decode cX4_emptyLine 33 = .ok (.iconst (-1), 1) := by decide +kernel
theorem dX4_emptyLine_34 : decode cX4_emptyLine 34 = .ok (.ireturn, 1) := by decide +kernel
theorem dX4_gets_0 : decode cX4_gets 0 = .ok (.iload_n 2, 1) := by decide +kernel
theorem dX4_gets_1 : decode cX4_gets 1 = .ok (.iload_n 3, 1) := by decide +kernel
theorem dX4_gets_2 : decode cX4_gets 2 = .ok (.if_icmp .ne 5, 3) := by decide +kernel
theorem dX4_gets_5 : decode cX4_gets 5 = .ok (.iconst (-1), 1) := by decide +kernel
theorem dX4_gets_6 : decode cX4_gets 6 = .ok (.ireturn, 1) := by decide +kernel
theorem dX4_gets_7 : decode cX4_gets 7 = .ok (.aload_n 0, 1) := by decide +kernel
theorem dX4_gets_8 : decode cX4_gets 8 = .ok (.aload_n 0, 1) := by decide +kernel
theorem dX4_gets_9 : decode cX4_gets 9 = .ok (.getfield 7, 3) := by decide +kernel
theorem dX4_gets_12 : decode cX4_gets 12 = .ok (.iconst 0, 1) := by decide +kernel
theorem dX4_gets_13 : decode cX4_gets 13 = .ok (.iaload, 1) := by decide +kernel
theorem dX4_gets_14 : decode cX4_gets 14 = .ok (.iload_n 2, 1) := by decide +kernel
theorem dX4_gets_15 : decode cX4_gets 15 = .ok (.iload_n 1, 1) := by decide +kernel
theorem dX4_gets_16 : decode cX4_gets 16 = .ok (.invokevirtual 168, 3) := by decide +kernel
theorem dX4_gets_19 : decode cX4_gets 19 = .ok (.istore 4, 2) := by decide +kernel
theorem dX4_gets_21 : decode cX4_gets 21 = .ok (.aload_n 0, 1) := by decide +kernel
theorem dX4_gets_22 : decode cX4_gets 22 = .ok (.aload_n 0, 1) := by decide +kernel
theorem dX4_gets_23 : decode cX4_gets 23 = .ok (.getfield 7, 3) := by decide +kernel
theorem dX4_gets_26 : decode cX4_gets 26 = .ok (.iconst 0, 1) := by decide +kernel
theorem dX4_gets_27 : decode cX4_gets 27 = .ok (.iaload, 1) := by decide +kernel
theorem dX4_gets_28 : decode cX4_gets 28 = .ok (.iload_n 3, 1) := by decide +kernel
theorem dX4_gets_29 : decode cX4_gets 29 = .ok (.iload_n 1, 1) := by decide +kernel
theorem dX4_gets_30 : decode cX4_gets 30 = .ok (.invokevirtual 168, 3) := by decide +kernel
theorem dX4_gets_33 : decode cX4_gets 33 = .ok (.istore 5, 2) := by decide +kernel
theorem dX4_gets_35 : decode cX4_gets 35 = .ok (.aload_n 0, 1) := by decide +kernel
theorem dX4_gets_36 : decode cX4_gets 36 = .ok (.iload_n 3, 1) := by decide +kernel
theorem dX4_gets_37 : decode cX4_gets 37 = .ok (.iload_n 1, 1) := by decide +kernel
theorem dX4_gets_38 : decode cX4_gets 38 = .ok (.invokevirtual 187, 3) := by decide +kernel
theorem dX4_gets_41 : decode cX4_gets 41 = .ok (.aload_n 0, 1) := by decide +kernel
theorem dX4_gets_42 : decode cX4_gets 42 = .ok (.iload_n 2, 1) := by decide +kernel
theorem dX4_gets_43 : decode cX4_gets 43 = .ok (.iload_n 1, 1) := by decide +kernel
theorem dX4_gets_44 : decode cX4_gets 44 = .ok (.invokevirtual 187, 3) := by decide +kernel
theorem dX4_gets_47 : decode cX4_gets 47 = .ok (.isub, 1) := by decide +kernel
theorem dX4_gets_48 : decode cX4_gets 48 = .ok (.istore 6, 2) := by decide +kernel
theorem dX4_gets_50 : decode cX4_gets 50 = .ok (.iload 4, 2) := by decide +kernel
theorem dX4_gets_52 : decode cX4_gets 52 = .ok (.ifCond .eq 27, 3) := by decide +kernel
theorem dX4_gets_55 : decode cX4_gets 55 = .ok (.iload 5, 2) := by decide +kernel
theorem dX4_gets_57 : decode cX4_gets 57 = .ok (.ifCond .eq 18, 3) := by decide +kernel
theorem dX4_gets_60 : decode cX4_gets 60 = .ok (.iload 6, 2) := by decide +kernel
theorem dX4_gets_62 : decode cX4_gets 62 = .ok (.ifCond .gt 13, 3) := by decide +kernel
theorem dX4_gets_65 : decode cX4_gets 65 = .ok (.iload 6, 2) := by decide +kernel
theorem dX4_gets_67 : decode cX4_gets 67 = .ok (.ifCond .ne 12, 3) := by decide +kernel
theorem dX4_gets_70 : decode cX4_gets 70 = .ok (.iload_n 2, 1) := by decide +kernel
theorem dX4_gets_71 : decode cX4_gets 71 = .ok (.iload_n 3, 1) := by decide +kernel
theorem dX4_gets_72 : decode cX4_gets 72 = .ok (.if_icmp .ge 7, 3) := by decide +kernel
theorem dX4_gets_75 : decode cX4_gets 75 = .ok (.iconst 1, 1) := by decide +kernel
theorem dX4_gets_76 : decode cX4_gets 76 = .ok (.goto 4, 3) := by decide +kernel
theorem dX4_gets_79 : decode cX4_gets 79 = .ok (.iconst 0, 1) := by decide +kernel
theorem dX4_gets_80 : decode cX4_gets 80 = .ok (.istore 7, 2) := by decide +kernel
theorem dX4_gets_82 : decode cX4_gets 82 = .ok (.iload 7, 2) := by decide +kernel
theorem dX4_gets_84 : decode cX4_gets 84 = .ok (.ifCond .eq 15, 3) := by decide +kernel
theorem dX4_gets_87 : decode cX4_gets 87 = .ok (.bipush 9, 2) := by decide +kernel
theorem dX4_gets_89 : decode cX4_gets 89 = .ok (.aload_n 0, 1) := by decide +kernel
theorem dX4_gets_90 : decode cX4_gets 90 = .ok (.iload_n 2, 1) := by decide +kernel
theorem dX4_gets_91 : decode cX4_gets 91 = .ok (.iload_n 1, 1) := by decide +kernel
theorem dX4_gets_92 : decode cX4_gets 92 = .ok (.invokevirtual 187, 3) := by decide +kernel
theorem dX4_gets_95 : decode cX4_gets 95 = .ok (.isub, 1) := by decide +kernel
theorem dX4_gets_96 : decode cX4_gets 96 = .ok (.goto 4, 3) := by decide +kernel
theorem dX4_gets_99 : decode cX4_gets 99 = .ok (.iconst 0, 1) := by decide +kernel
theorem dX4_gets_100 : decode cX4_gets 100 = .ok (.ireturn, 1) := by decide +kernel
theorem dX4_isRest_0 : decode cX4_isRest 0 = .ok (.iconst 1, 1) := by decide +kernel
theorem dX4_isRest_1 : decode cX4_isRest 1 = .ok (.istore 4, 2) := by decide +kernel
theorem dX4_isRest_3 : decode cX4_isRest 3 = .ok (.iconst 0, 1) := by decide +kernel
theorem dX4_isRest_4 : decode cX4_isRest 4 = .ok (.istore 5, 2) := by decide +kernel
theorem dX4_isRest_6 : decode cX4_isRest 6 = .ok (.iload 5, 2) := by decide +kernel
theorem dX4_isRest_8 : decode cX4_isRest 8 = .ok (.aload_n 0, 1) := by decide +kernel
theorem dX4_isRest_9 : decode cX4_isRest 9 = .ok (.getfield 7, 3) := by decide +kernel
theorem dX4_isRest_12 : decode cX4_isRest 12 = .ok (.iconst 3, 1) := by decide +kernel
theorem dX4_isRest_13 : decode cX4_isRest 13 = .ok (.iaload, 1) := by decide +kernel
theorem dX4_isRest_14 : decode cX4_isRest 14 = .ok (.if_icmp .ge 52, 3) := by decide +kernel
theorem dX4_isRest_17 : decode cX4_isRest 17 = .ok (.iload 4, 2) := by decide +kernel
theorem dX4_isRest_19 : decode cX4_isRest 19 = .ok (.ifCond .eq 38, 3) := by decide +kernel
theorem dX4_isRest_22 : decode cX4_isRest 22 = .ok (.aload_n 0, 1) := by decide +kernel
theorem dX4_isRest_23 : decode cX4_isRest 23 = .ok (.getfield 7, 3) := by decide +kernel
theorem dX4_isRest_26 : decode cX4_isRest 26 = .ok (.iload 5, 2) := by decide +kernel
theorem dX4_isRest_28 : decode cX4_isRest 28 = .ok (.invokestatic 114, 3) := by decide +kernel
theorem dX4_isRest_31 : decode cX4_isRest 31 = .ok (.iconst (-1), 1) := by decide +kernel
theorem dX4_isRest_32 : decode cX4_isRest 32 = .ok (.if_icmp .ne 21, 3) := by decide +kernel
theorem dX4_isRest_35 : decode cX4_isRest 35 = .ok (.aload_n 0, 1) := by decide +kernel
theorem dX4_isRest_36 : decode cX4_isRest 36 = .ok (.iload_n 1, 1) := by decide +kernel
theorem dX4_isRest_37 : decode cX4_isRest 37 = .ok (.iload 5, 2) := by decide +kernel
theorem dX4_isRest_39 : decode cX4_isRest 39 = .ok (.iload_n 3, 1) := by decide +kernel
theorem dX4_isRest_40 : decode cX4_isRest 40 = .ok (.invokevirtual 225, 3) := by decide +kernel
theorem dX4_isRest_43 : decode cX4_isRest 43 = .ok (.aload_n 0, 1) := by decide +kernel
theorem dX4_isRest_44 : decode cX4_isRest 44 = .ok (.iload_n 1, 1) := by decide +kernel
theorem dX4_isRest_45 : decode cX4_isRest 45 = .ok (.iload_n 2, 1) := by decide +kernel
theorem dX4_isRest_46 : decode cX4_isRest 46 = .ok (.iload_n 3, 1) := by decide +kernel
theorem dX4_isRest_47 : decode cX4_isRest 47 = .ok (.invokevirtual 225, 3) := by decide +kernel
theorem dX4_isRest_50 : decode cX4_isRest 50 = .ok (.if_icmp .gt 7, 3) := by decide +kernel
theorem dX4_isRest_53 : decode cX4_isRest 53 = .ok (.iconst 1, 1) := by decide +kernel
theorem dX4_isRest_54 : decode cX4_isRest 54 = .ok (.goto 4, 3) := by decide +kernel
theorem dX4_isRest_57 : decode cX4_isRest 57 = .ok (.iconst 0, 1) := by decide +kernel
theorem dX4_isRest_58 : decode cX4_isRest 58 = .ok (.istore 4, 2) := by decide +kernel
theorem dX4_isRest_60 : decode cX4_isRest 60 = .ok (.iinc 5 1, 3) := by decide +kernel
theorem dX4_isRest_63 : decode cX4_isRest 63 = .ok (.goto (-57), 3) := by decide +kernel
theorem dX4_isRest_66 : decode cX4_isRest 66 = .ok (.iload 4, 2) := by decide +kernel
theorem dX4_isRest_68 : decode cX4_isRest 68 = .ok (.ireturn, 1) := by decide +kernel
theorem dX4_poets_0 : decode cX4_poets 0 = .ok (.iload_n 1, 1) := by decide +kernel
theorem dX4_poets_1 : decode cX4_poets 1 = .ok (.iconst (-1), 1) := by decide +kernel
theorem dX4_poets_2 : decode cX4_poets 2 = .ok (.if_icmp .ge 10, 3) := by decide +kernel
theorem dX4_poets_5 : decode cX4_poets 5 = .ok (.aload_n 0, 1) := by decide +kernel
theorem dX4_poets_6 : decode cX4_poets 6 = .ok (.bipush (-10), 2) := by decide +kernel
theorem dX4_poets_8 : decode cX4_poets 8 = .ok (.invokevirtual 49, 3) := by decide +kernel
theorem dX4_poets_11 : decode cX4_poets 11 = .ok (.ireturn, 1) := by decide +kernel
theorem dX4_poets_12 : decode cX4_poets 12 = .ok (.aload_n 0, 1) := by decide +kernel
theorem dX4_poets_13 : decode cX4_poets 13 = .ok (.invokevirtual 228, 3) := by decide +kernel
theorem dX4_poets_16 : decode cX4_poets 16 = .ok (.istore_n 2, 1) := by decide +kernel
theorem dX4_poets_17 : decode cX4_poets 17 = .ok (.iconst 0, 1) := by decide +kernel
theorem dX4_poets_18 : decode cX4_poets 18 = .ok (.istore_n 3, 1) := by decide +kernel
theorem dX4_poets_19 : decode cX4_poets 19 = .ok (.iconst 0, 1) := by decide +kernel
theorem dX4_poets_20 : decode cX4_poets 20 = .ok (.istore 4, 2) := by decide +kernel
theorem dX4_poets_22 : decode cX4_poets 22 = .ok (.iload 4, 2) := by decide +kernel
theorem dX4_poets_24 : decode cX4_poets 24 = .ok (.bipush 78, 2) := by decide +kernel
theorem dX4_poets_26 : decode cX4_poets 26 = .ok (.if_icmp .ge 119, 3) := by decide +kernel
theorem dX4_poets_29 : decode cX4_poets 29 = .ok (.iload_n 2, 1) := by decide +kernel
theorem dX4_poets_30 : decode cX4_poets 30 = .ok (.iconst (-1), 1) := by decide +kernel
theorem dX4_poets_31 : decode cX4_poets 31 = .ok (.if_icmp .eq 114, 3) := by decide +kernel
theorem dX4_poets_34 : decode cX4_poets 34 = .ok (.iload 4, 2) := by decide +kernel
theorem dX4_poets_36 : decode cX4_poets 36 = .ok (.bipush 10, 2) := by decide +kernel
theorem dX4_poets_38 : decode cX4_poets 38 = .ok (.idiv, 1) := by decide +kernel
theorem dX4_poets_39 : decode cX4_poets 39 = .ok (.istore 5, 2) := by decide +kernel
theorem dX4_poets_41 : decode cX4_poets 41 = .ok (.iload 4, 2) := by decide +kernel
theorem dX4_poets_43 : decode cX4_poets 43 = .ok (.bipush 10, 2) := by decide +kernel
theorem dX4_poets_45 : decode cX4_poets 45 = .ok (.irem, 1) := by decide +kernel
theorem dX4_poets_46 : decode cX4_poets 46 = .ok (.istore 6, 2) := by decide +kernel
theorem dX4_poets_48 : decode cX4_poets 48 = .ok (.aload_n 0, 1) := by decide +kernel
theorem dX4_poets_49 : decode cX4_poets 49 = .ok (.iload 5, 2) := by decide +kernel
theorem dX4_poets_51 : decode cX4_poets 51 = .ok (.invokevirtual 178, 3) := by decide +kernel
theorem dX4_poets_54 : decode cX4_poets 54 = .ok (.ifCond .eq 42, 3) := by decide +kernel
theorem dX4_poets_57 : decode cX4_poets 57 = .ok (.aload_n 0, 1) := by decide +kernel
theorem dX4_poets_58 : decode cX4_poets 58 = .ok (.iload 6, 2) := by decide +kernel
theorem dX4_poets_60 : decode cX4_poets 60 = .ok (.invokevirtual 178, 3) := by decide +kernel
theorem dX4_poets_63 : decode cX4_poets 63 = .ok (.ifCond .eq 33, 3) := by decide +kernel
theorem dX4_poets_66 : decode cX4_poets 66 = .ok (.aload_n 0, 1) := by decide +kernel
theorem dX4_poets_67 : decode cX4_poets 67 = .ok (.getfield 7, 3) := by decide +kernel
theorem dX4_poets_70 : decode cX4_poets 70 = .ok (.iload 5, 2) := by decide +kernel
theorem dX4_poets_72 : decode cX4_poets 72 = .ok (.invokestatic 114, 3) := by decide +kernel
theorem dX4_poets_75 : decode cX4_poets 75 = .ok (.iconst (-1), 1) := by decide +kernel
theorem dX4_poets_76 : decode cX4_poets 76 = .ok (.if_icmp .ne 20, 3) := by decide +kernel
theorem dX4_poets_79 : decode cX4_poets 79 = .ok (.aload_n 0, 1) := by decide +kernel
theorem dX4_poets_80 : decode cX4_poets 80 = .ok (.getfield 7, 3) := by decide +kernel
theorem dX4_poets_83 : decode cX4_poets 83 = .ok (.iload 6, 2) := by decide +kernel
theorem dX4_poets_85 : decode cX4_poets 85 = .ok (.invokestatic 114, 3) := by decide +kernel
theorem dX4_poets_88 : decode cX4_poets 88 = .ok (.iconst (-1), 1) := by decide +kernel
theorem dX4_poets_89 : decode cX4_poets 89 = .ok (.if_icmp .ne 7, 3) := by decide +kernel
theorem dX4_poets_92 : decode cX4_poets 92 = .ok (.iconst 1, 1) := by decide +kernel
theorem dX4_poets_93 : decode cX4_poets 93 = .ok (.goto 4, 3) := by decide +kernel
theorem dX4_poets_96 : decode cX4_poets 96 = .ok (.iconst 0, 1) := by decide +kernel
theorem dX4_poets_97 : decode cX4_poets 97 = .ok (.istore 7, 2) := by decide +kernel
theorem dX4_poets_99 : decode cX4_poets 99 = .ok (.iload 7, 2) := by decide +kernel
theorem dX4_poets_101 : decode cX4_poets 101 = .ok (.ifCond .eq 38, 3) := by decide +kernel
theorem dX4_poets_104 : decode cX4_poets 104 = .ok (.aload_n 0, 1) := by decide +kernel
theorem dX4_poets_105 : decode cX4_poets 105 = .ok (.iload_n 2, 1) := by decide +kernel
theorem dX4_poets_106 : decode cX4_poets 106 = .ok (.iload 5, 2) := by decide +kernel
theorem dX4_poets_108 : decode cX4_poets 108 = .ok (.iload 6, 2) := by decide +kernel
theorem dX4_poets_110 : decode cX4_poets 110 = .ok (.invokevirtual 231, 3) := by decide +kernel
theorem dX4_poets_113 : decode cX4_poets 113 = .ok (.ifCond .eq 26, 3) := by decide +kernel
theorem dX4_poets_116 : decode cX4_poets 116 = .ok (.aload_n 0, 1) := by decide +kernel
theorem dX4_poets_117 : decode cX4_poets 117 = .ok (.iload_n 2, 1) := by decide +kernel
theorem dX4_poets_118 : decode cX4_poets 118 = .ok (.iload 6, 2) := by decide +kernel
theorem dX4_poets_120 : decode cX4_poets 120 = .ok (.iload 5, 2) := by decide +kernel
theorem dX4_poets_122 : decode cX4_poets 122 = .ok (.invokevirtual 231, 3) := by decide +kernel
theorem dX4_poets_125 : decode cX4_poets 125 = .ok (.ifCond .eq 14, 3) := by decide +kernel
theorem dX4_poets_128 : decode cX4_poets 128 = .ok (.iload_n 3, 1) := by decide +kernel
theorem dX4_poets_129 : decode cX4_poets 129 = .ok (.iload_n 1, 1) := by decide +kernel
theorem dX4_poets_130 : decode cX4_poets 130 = .ok (.if_icmp .ne 6, 3) := by decide +kernel
theorem dX4_poets_133 : decode cX4_poets 133 = .ok (.iload 4, 2) := by decide +kernel
theorem dX4_poets_135 : decode cX4_poets 135 = .ok (.ireturn, 1) := by decide +kernel
theorem dX4_poets_136 : decode cX4_poets 136 = .ok (.iinc 3 1, 3) := by decide +kernel
theorem dX4_poets_139 : decode cX4_poets 139 = .ok (.iinc 4 1, 3) := by decide +kernel
theorem dX4_poets_142 : decode cX4_poets 142 = .ok (.goto (-120), 3) := by decide +kernel
theorem dX4_poets_145 : decode cX4_poets 145 = .ok (.iload_n 1, 1) := by decide +kernel
theorem dX4_poets_146 : decode cX4_poets 146 = .ok (.iconst (-1), 1) := by decide +kernel
theorem dX4_poets_147 : decode cX4_poets 147 = .ok (.if_icmp .ne 7, 3) := by decide +kernel
theorem dX4_poets_150 : decode cX4_poets 150 = .ok (.iload_n 3, 1) := by decide +kernel
theorem dX4_poets_151 : decode cX4_poets 151 = .ok (.goto 5, 3) := by decide +kernel
theorem dX4_poets_154 : decode cX4_poets 154 = .ok (.bipush (-5), 2) := by decide +kernel
theorem dX4_poets_156 : decode cX4_poets 156 = .ok (.ireturn, 1) := by decide +kernel
theorem dX4_tells_0 : decode cX4_tells 0 = .ok (.lload_n 1, 1) := by decide +kernel
theorem dX4_tells_1 : decode cX4_tells 1 = .ok (.lstore 5, 2) := by decide +kernel
theorem dX4_tells_3 : decode cX4_tells 3 = .ok (.lload_n 3, 1) := by decide +kernel
theorem dX4_tells_4 : decode cX4_tells 4 = .ok (.lstore 7, 2) := by decide +kernel
theorem dX4_tells_6 : decode cX4_tells 6 = .ok (.lload 7, 2) := by decide +kernel
theorem dX4_tells_8 : decode cX4_tells 8 = .ok (.lconst 0, 1) := by decide +kernel
theorem dX4_tells_9 : decode cX4_tells 9 = .ok (.lcmp, 1) := by decide +kernel
theorem dX4_tells_10 : decode cX4_tells 10 = .ok (.ifCond .le 21, 3) := by decide +kernel
theorem dX4_tells_13 : decode cX4_tells 13 = .ok (.lload 5, 2) := by decide +kernel
theorem dX4_tells_15 : decode cX4_tells 15 = .ok (.lload 7, 2) := by decide +kernel
theorem dX4_tells_17 : decode cX4_tells 17 = .ok (.lrem, 1) := by decide +kernel
theorem dX4_tells_18 : decode cX4_tells 18 = .ok (.lstore 9, 2) := by decide +kernel
theorem dX4_tells_20 : decode cX4_tells 20 = .ok (.lload 7, 2) := by decide +kernel
theorem dX4_tells_22 : decode cX4_tells 22 = .ok (.lstore 5, 2) := by decide +kernel
theorem dX4_tells_24 : decode cX4_tells 24 = .ok (.lload 9, 2) := by decide +kernel
theorem dX4_tells_26 : decode cX4_tells 26 = .ok (.lstore 7, 2) := by decide +kernel
theorem dX4_tells_28 : decode cX4_tells 28 = .ok (.goto (-22), 3) := by decide +kernel
theorem dX4_tells_31 : decode cX4_tells 31 = .ok (.aload_n 0, 1) := by decide +kernel
theorem dX4_tells_32 : decode cX4_tells 32 = .ok (.lload_n 1, 1) := by decide +kernel
theorem dX4_tells_33 : decode cX4_tells 33 = .ok (.lload 5, 2) := by decide +kernel
theorem dX4_tells_35 : decode cX4_tells 35 = .ok (.ldiv, 1) := by decide +kernel
theorem dX4_tells_36 : decode cX4_tells 36 = .ok (.putfield 234, 3) := by decide +kernel
theorem dX4_tells_39 : decode cX4_tells 39 = .ok (.aload_n 0, 1) := by decide +kernel
theorem dX4_tells_40 : decode cX4_tells 40 = .ok (.lload_n 3, 1) := by decide +kernel
theorem dX4_tells_41 : decode cX4_tells 41 = .ok (.lload 5, 2) := by decide +kernel
theorem dX4_tells_43 : decode cX4_tells 43 = .ok (.ldiv, 1) := by decide +kernel
theorem dX4_tells_44 : decode cX4_tells 44 = .ok (.putfield 26, 3) := by decide +kernel
theorem dX4_tells_47 : decode cX4_tells 47 = .ok (.iconst 1, 1) := by decide +kernel
theorem dX4_tells_48 : decode cX4_tells 48 = .ok (.ireturn, 1) := by decide +kernel
theorem dX4_luck_0 : decode cX4_luck 0 = .ok (.aload_n 0, 1) := by decide +kernel
theorem dX4_luck_1 : decode cX4_luck 1 = .ok (.getfield 7, 3) := by decide +kernel
theorem dX4_luck_4 : decode cX4_luck 4 = .ok (.iconst 1, 1) := by decide +kernel
theorem dX4_luck_5 : decode cX4_luck 5 = .ok (.iaload, 1) := by decide +kernel
theorem dX4_luck_6 : decode cX4_luck 6 = .ok (.istore_n 1, 1) := by decide +kernel
theorem dX4_luck_7 : decode cX4_luck 7 = .ok (.aload_n 0, 1) := by decide +kernel
theorem dX4_luck_8 : decode cX4_luck 8 = .ok (.getfield 7, 3) := by decide +kernel
theorem dX4_luck_11 : decode cX4_luck 11 = .ok (.iconst 3, 1) := by decide +kernel
theorem dX4_luck_12 : decode cX4_luck 12 = .ok (.iaload, 1) := by decide +kernel
theorem dX4_luck_13 : decode cX4_luck 13 = .ok (.iload_n 1, 1) := by decide +kernel
theorem dX4_luck_14 : decode cX4_luck 14 = .ok (.if_icmp .ge 10, 3) := by decide +kernel
theorem dX4_luck_17 : decode cX4_luck 17 = .ok (.aload_n 0, 1) := by decide +kernel
theorem dX4_luck_18 : decode cX4_luck 18 = .ok (.lconst 0, 1) := by decide +kernel
theorem dX4_luck_19 : decode cX4_luck 19 = .ok (.lconst 1, 1) := by decide +kernel
theorem dX4_luck_20 : decode cX4_luck 20 = .ok (.invokevirtual 237, 3) := by decide +kernel
theorem dX4_luck_23 : decode cX4_luck 23 = .ok (.ireturn, 1) := by decide +kernel
theorem dX4_luck_24 : decode cX4_luck 24 = .ok (.lconst 1, 1) := by decide +kernel
theorem dX4_luck_25 : decode cX4_luck 25 = .ok (.lstore_n 2, 1) := by decide +kernel
theorem dX4_luck_26 : decode cX4_luck 26 = .ok (.iconst 0, 1) := by decide +kernel
theorem dX4_luck_27 : decode cX4_luck 27 = .ok (.istore 4, 2) := by decide +kernel
theorem dX4_luck_29 : decode cX4_luck 29 = .ok (.iload 4, 2) := by decide +kernel
theorem dX4_luck_31 : decode cX4_luck 31 = .ok (.iload_n 1, 1) := by decide +kernel
theorem dX4_luck_32 : decode cX4_luck 32 = .ok (.if_icmp .ge 22, 3) := by decide +kernel
theorem dX4_luck_35 : decode cX4_luck 35 = .ok (.lload_n 2, 1) := by decide +kernel
theorem dX4_luck_36 : decode cX4_luck 36 = .ok (.aload_n 0, 1) := by decide +kernel
theorem dX4_luck_37 : decode cX4_luck 37 = .ok (.getfield 7, 3) := by decide +kernel
theorem dX4_luck_40 : decode cX4_luck 40 = .ok (.iconst 3, 1) := by decide +kernel
theorem dX4_luck_41 : decode cX4_luck 41 = .ok (.iaload, 1) := by decide +kernel
theorem dX4_luck_42 : decode cX4_luck 42 = .ok (.iload 4, 2) := by decide +kernel
theorem dX4_luck_44 : decode cX4_luck 44 = .ok (.isub, 1) := by decide +kernel
theorem dX4_luck_45 : decode cX4_luck 45 = .ok (.i2l, 1) := by decide +kernel
theorem dX4_luck_46 : decode cX4_luck 46 = .ok (.lmul, 1) := by decide +kernel
theorem dX4_luck_47 : decode cX4_luck 47 = .ok (.lstore_n 2, 1) := by decide +kernel
theorem dX4_luck_48 : decode cX4_luck 48 = .ok (.iinc 4 1, 3) := by decide +kernel
theorem dX4_luck_51 : decode cX4_luck 51 = .ok (.goto (-22), 3) := by decide +kernel
theorem dX4_luck_54 : decode cX4_luck 54 = .ok (.aload_n 0, 1) := by decide +kernel
theorem dX4_luck_55 : decode cX4_luck 55 = .ok (.aload_n 0, 1) := by decide +kernel
theorem dX4_luck_56 : decode cX4_luck 56 = .ok (.getfield 7, 3) := by decide +kernel
theorem dX4_luck_59 : decode cX4_luck 59 = .ok (.iconst 0, 1) := by decide +kernel
theorem dX4_luck_60 : decode cX4_luck 60 = .ok (.iaload, 1) := by decide +kernel
theorem dX4_luck_61 : decode cX4_luck 61 = .ok (.iconst 0, 1) := by decide +kernel
theorem dX4_luck_62 : decode cX4_luck 62 = .ok (.invokevirtual 198, 3) := by decide +kernel
theorem dX4_luck_65 : decode cX4_luck 65 = .ok (.aload_n 0, 1) := by decide +kernel
theorem dX4_luck_66 : decode cX4_luck 66 = .ok (.aload_n 0, 1) := by decide +kernel
theorem dX4_luck_67 : decode cX4_luck 67 = .ok (.getfield 33, 3) := by decide +kernel
theorem dX4_luck_70 : decode cX4_luck 70 = .ok (.iconst 0, 1) := by decide +kernel
theorem dX4_luck_71 : decode cX4_luck 71 = .ok (.iaload, 1) := by decide +kernel
theorem dX4_luck_72 : decode cX4_luck 72 = .ok (.i2l, 1) := by decide +kernel
theorem dX4_luck_73 : decode cX4_luck 73 = .ok (.lload_n 2, 1) := by decide +kernel
theorem dX4_luck_74 : decode cX4_luck 74 = .ok (.invokevirtual 237, 3) := by decide +kernel
theorem dX4_luck_77 : decode cX4_luck 77 = .ok (.ireturn, 1) := by decide +kernel
theorem dX4_isOnEvening_0 : decode cX4_isOnEvening 0 = .ok (.iconst 0, 1) := by decide +kernel
theorem dX4_isOnEvening_1 : decode cX4_isOnEvening 1 = .ok (.istore_n 2, 1) := by decide +kernel
theorem dX4_isOnEvening_2 : decode cX4_isOnEvening 2 = .ok (.iconst 0, 1) := by decide +kernel
theorem dX4_isOnEvening_3 : decode cX4_isOnEvening 3 = .ok (.istore_n 3, 1) := by decide +kernel
theorem dX4_isOnEvening_4 : decode cX4_isOnEvening 4 = .ok (.iload_n 3, 1) := by decide +kernel
theorem dX4_isOnEvening_5 : decode cX4_isOnEvening 5 = .ok (.aload_n 0, 1) := by decide +kernel
theorem dX4_isOnEvening_6 : decode cX4_isOnEvening 6 = .ok (.getfield 7, 3) := by decide +kernel
theorem dX4_isOnEvening_9 : decode cX4_isOnEvening 9 = .ok (.iconst 1, 1) := by decide +kernel
theorem dX4_isOnEvening_10 : decode cX4_isOnEvening 10 = .ok (.iaload, 1) := by decide +kernel
theorem dX4_isOnEvening_11 : decode cX4_isOnEvening 11 = .ok (.if_icmp .ge 29, 3) := by decide +kernel
theorem dX4_isOnEvening_14 : decode cX4_isOnEvening 14 = .ok (.iload_n 2, 1) := by decide +kernel
theorem dX4_isOnEvening_15 : decode cX4_isOnEvening 15 = .ok (.ifCond .ne 13, 3) := by decide +kernel
theorem dX4_isOnEvening_18 : decode cX4_isOnEvening 18 = .ok (.aload_n 0, 1) := by decide +kernel
theorem dX4_isOnEvening_19 : decode cX4_isOnEvening 19 = .ok (.getfield 42, 3) := by decide +kernel
theorem dX4_isOnEvening_22 : decode cX4_isOnEvening 22 = .ok (.iload_n 3, 1) := by decide +kernel
theorem dX4_isOnEvening_23 : decode cX4_isOnEvening 23 = .ok (.iaload, 1) := by decide +kernel
theorem dX4_isOnEvening_24 : decode cX4_isOnEvening 24 = .ok (.iload_n 1, 1) := by decide +kernel
theorem dX4_isOnEvening_25 : decode cX4_isOnEvening 25 = .ok (.if_icmp .ne 7, 3) := by decide +kernel
theorem dX4_isOnEvening_28 : decode cX4_isOnEvening 28 = .ok (.iconst 1, 1) := by decide +kernel
theorem dX4_isOnEvening_29 : decode cX4_isOnEvening 29 = .ok (.goto 4, 3) := by decide +kernel
theorem dX4_isOnEvening_32 : decode cX4_isOnEvening 32 = .ok (.iconst 0, 1) := by decide +kernel
theorem dX4_isOnEvening_33 : decode cX4_isOnEvening 33 = .ok (.istore_n 2, 1) := by decide +kernel
theorem dX4_isOnEvening_34 : decode cX4_isOnEvening 34 = .ok (.iinc 3 1, 3) := by decide +kernel
theorem dX4_isOnEvening_37 : decode cX4_isOnEvening 37 = .ok (.goto (-33), 3) := by decide +kernel
theorem dX4_isOnEvening_40 : decode cX4_isOnEvening 40 = .ok (.iload_n 2, 1) := by decide +kernel
theorem dX4_isOnEvening_41 : decode cX4_isOnEvening 41 = .ok (.ireturn, 1) := by decide +kernel
theorem dX4_evenings_0 : decode cX4_evenings 0 = .ok (.iload_n 1, 1) := by decide +kernel
theorem dX4_evenings_1 : decode cX4_evenings 1 = .ok (.iconst 0, 1) := by decide +kernel
theorem dX4_evenings_2 : decode cX4_evenings 2 = .ok (.ldc 241, 2) := by decide +kernel
theorem dX4_evenings_4 : decode cX4_evenings 4 = .ok (.invokestatic 53, 3) := by decide +kernel
theorem dX4_evenings_7 : decode cX4_evenings 7 = .ok (.ifCond .eq 13, 3) := by decide +kernel
theorem dX4_evenings_10 : decode cX4_evenings 10 = .ok (.iload_n 2, 1) := by decide +kernel
theorem dX4_evenings_11 : decode cX4_evenings 11 = .ok (.iconst 0, 1) := by decide +kernel
theorem dX4_evenings_12 : decode cX4_evenings 12 = .ok (.bipush 60, 2) := by decide +kernel
theorem dX4_evenings_14 : decode cX4_evenings 14 = .ok (.invokestatic 53, 3) := by decide +kernel
theorem dX4_evenings_17 : decode cX4_evenings 17 = .ok (.ifCond .ne 8, 3) := by decide +kernel
theorem dX4_evenings_20 : decode cX4_evenings 20 = .ok (.aload_n 0, 1) := by decide +kernel
theorem dX4_evenings_21 : decode cX4_evenings 21 = .ok (.invokevirtual 60, 3) := by decide +kernel
theorem dX4_evenings_24 : decode cX4_evenings 24 = .ok (.ireturn, 1) := by decide +kernel
theorem dX4_evenings_25 : decode cX4_evenings 25 = .ok (.iconst 0, 1) := by decide +kernel
theorem dX4_evenings_26 : decode cX4_evenings 26 = .ok (.istore_n 3, 1) := by decide +kernel
theorem dX4_evenings_27 : decode cX4_evenings 27 = .ok (.iload_n 3, 1) := by decide +kernel
theorem dX4_evenings_28 : decode cX4_evenings 28 = .ok (.bipush 6, 2) := by decide +kernel
theorem dX4_evenings_30 : decode cX4_evenings 30 = .ok (.if_icmp .ge 16, 3) := by decide +kernel
theorem dX4_evenings_33 : decode cX4_evenings 33 = .ok (.aload_n 0, 1) := by decide +kernel
theorem dX4_evenings_34 : decode cX4_evenings 34 = .ok (.getfield 42, 3) := by decide +kernel
theorem dX4_evenings_37 : decode cX4_evenings 37 = .ok (.iload_n 3, 1) := by decide +kernel
theorem dX4_evenings_38 : decode cX4_evenings 38 = .ok (.iconst (-1), 1) := by decide +kernel
theorem dX4_evenings_39 : decode cX4_evenings 39 = .ok (.iastore, 1) := by decide +kernel
theorem dX4_evenings_40 : decode cX4_evenings 40 = .ok (.iinc 3 1, 3) := by decide +kernel
theorem dX4_evenings_43 : decode cX4_evenings 43 = .ok (.goto (-16), 3) := by decide +kernel
theorem dX4_evenings_46 : decode cX4_evenings 46 = .ok (.iload_n 1, 1) := by decide +kernel
theorem dX4_evenings_47 : decode cX4_evenings 47 = .ok (.i2l, 1) := by decide +kernel
theorem dX4_evenings_48 : decode cX4_evenings 48 = .ok (.lstore_n 3, 1) := by decide +kernel
theorem dX4_evenings_49 : decode cX4_evenings 49 = .ok (.iconst 0, 1) := by decide +kernel
theorem dX4_evenings_50 : decode cX4_evenings 50 = .ok (.istore 5, 2) := by decide +kernel
theorem dX4_evenings_52 : decode cX4_evenings 52 = .ok (.iconst 0, 1) := by decide +kernel
theorem dX4_evenings_53 : decode cX4_evenings 53 = .ok (.istore 6, 2) := by decide +kernel
theorem dX4_evenings_55 : decode cX4_evenings 55 = .ok (.iload 6, 2) := by decide +kernel
theorem dX4_evenings_57 : decode cX4_evenings 57 = .ok (.iload_n 2, 1) := by decide +kernel
theorem dX4_evenings_58 : decode cX4_evenings 58 = .ok (.if_icmp .ge 128, 3) := by decide +kernel
theorem dX4_evenings_61 : decode cX4_evenings 61 = .ok (.lload_n 3, 1) := by decide +kernel
theorem dX4_evenings_62 : decode cX4_evenings 62 = .ok (.ldc2_w 242, 3) := by decide +kernel
theorem dX4_evenings_65 : decode cX4_evenings 65 = .ok (.lmul, 1) := by decide +kernel
theorem dX4_evenings_66 : decode cX4_evenings 66 = .ok (.ldc2_w 244, 3) := by decide +kernel
theorem dX4_evenings_69 : decode cX4_evenings 69 = .ok (.ladd, 1) := by decide +kernel
theorem dX4_evenings_70 : decode cX4_evenings 70 = .ok (.ldc2_w 246, 3) := by decide +kernel
theorem dX4_evenings_73 : decode cX4_evenings 73 = .ok (.lrem, 1) := by decide +kernel
theorem dX4_evenings_74 : decode cX4_evenings 74 = .ok (.lstore_n 3, 1) := by decide +kernel
theorem dX4_evenings_75 : decode cX4_evenings 75 = .ok (.lload_n 3, 1) := by decide +kernel
theorem dX4_evenings_76 : decode cX4_evenings 76 = .ok (.ldc2_w 248, 3) := by decide +kernel
theorem dX4_evenings_79 : decode cX4_evenings 79 = .ok (.ldiv, 1) := by decide +kernel
theorem dX4_evenings_80 : decode cX4_evenings 80 = .ok (.aload_n 0, 1) := by decide +kernel
theorem dX4_evenings_81 : decode cX4_evenings 81 = .ok (.getfield 7, 3) := by decide +kernel
theorem dX4_evenings_84 : decode cX4_evenings 84 = .ok (.iconst 1, 1) := by decide +kernel
theorem dX4_evenings_85 : decode cX4_evenings 85 = .ok (.iaload, 1) := by decide +kernel
theorem dX4_evenings_86 : decode cX4_evenings 86 = .ok (.i2l, 1) := by decide +kernel
theorem dX4_evenings_87 : decode cX4_evenings 87 = .ok (.lrem, 1) := by decide +kernel
theorem dX4_evenings_88 : decode cX4_evenings 88 = .ok (.l2i, 1) := by decide +kernel
theorem dX4_evenings_89 : decode cX4_evenings 89 = .ok (.istore 7, 2) := by decide +kernel
theorem dX4_evenings_91 : decode cX4_evenings 91 = .ok (.lload_n 3, 1) := by decide +kernel
theorem dX4_evenings_92 : decode cX4_evenings 92 = .ok (.ldc2_w 250, 3) := by decide +kernel
theorem dX4_evenings_95 : decode cX4_evenings 95 = .ok (.ldiv, 1) := by decide +kernel
theorem dX4_evenings_96 : decode cX4_evenings 96 = .ok (.ldc2_w 252, 3) := by decide +kernel
theorem dX4_evenings_99 : decode cX4_evenings 99 = .ok (.lrem, 1) := by decide +kernel
theorem dX4_evenings_100 : decode cX4_evenings 100 = .ok (.l2i, 1) := by decide +kernel
theorem dX4_evenings_101 : decode cX4_evenings 101 = .ok (.istore 8, 2) := by decide +kernel
theorem dX4_evenings_103 : decode cX4_evenings 103 = .ok (.aload_n 0, 1) := by decide +kernel
theorem dX4_evenings_104 : decode cX4_evenings 104 = .ok (.getfield 42, 3) := by decide +kernel
theorem dX4_evenings_107 : decode cX4_evenings 107 = .ok (.iload 7, 2) := by decide +kernel
theorem dX4_evenings_109 : decode cX4_evenings 109 = .ok (.iaload, 1) := by decide +kernel
theorem dX4_evenings_110 : decode cX4_evenings 110 = .ok (.iconst (-1), 1) := by decide +kernel
theorem dX4_evenings_111 : decode cX4_evenings 111 = .ok (.if_icmp .eq 14, 3) := by decide +kernel
theorem dX4_evenings_114 : decode cX4_evenings 114 = .ok (.aload_n 0, 1) := by decide +kernel
theorem dX4_evenings_115 : decode cX4_evenings 115 = .ok (.getfield 42, 3) := by decide +kernel
theorem dX4_evenings_118 : decode cX4_evenings 118 = .ok (.iload 7, 2) := by decide +kernel
theorem dX4_evenings_120 : decode cX4_evenings 120 = .ok (.iconst (-1), 1) := by decide +kernel
theorem dX4_evenings_121 : decode cX4_evenings 121 = .ok (.iastore, 1) := by decide +kernel
theorem dX4_evenings_122 : decode cX4_evenings 122 = .ok (.goto 30, 3) := by decide +kernel
theorem dX4_evenings_125 : decode cX4_evenings 125 = .ok (.aload_n 0, 1) := by decide +kernel
theorem dX4_evenings_126 : decode cX4_evenings 126 = .ok (.iload 8, 2) := by decide +kernel
theorem dX4_evenings_128 : decode cX4_evenings 128 = .ok (.invokevirtual 178, 3) := by decide +kernel
theorem dX4_evenings_131 : decode cX4_evenings 131 = .ok (.ifCond .eq 21, 3) := by decide +kernel
theorem dX4_evenings_134 : decode cX4_evenings 134 = .ok (.aload_n 0, 1) := by decide +kernel
theorem dX4_evenings_135 : decode cX4_evenings 135 = .ok (.iload 8, 2) := by decide +kernel
theorem dX4_evenings_137 : decode cX4_evenings 137 = .ok (.invokevirtual 254, 3) := by decide +kernel
theorem dX4_evenings_140 : decode cX4_evenings 140 = .ok (.ifCond .ne 12, 3) := by decide +kernel
theorem dX4_evenings_143 : decode cX4_evenings 143 = .ok (.aload_n 0, 1) := by decide +kernel
theorem dX4_evenings_144 : decode cX4_evenings 144 = .ok (.getfield 42, 3) := by decide +kernel
theorem dX4_evenings_147 : decode cX4_evenings 147 = .ok (.iload 7, 2) := by decide +kernel
theorem dX4_evenings_149 : decode cX4_evenings 149 = .ok (.iload 8, 2) := by decide +kernel
theorem dX4_evenings_151 : decode cX4_evenings 151 = .ok (.iastore, 1) := by decide +kernel
theorem dX4_evenings_152 : decode cX4_evenings 152 = .ok (.iload 5, 2) := by decide +kernel
theorem dX4_evenings_154 : decode cX4_evenings 154 = .ok (.aload_n 0, 1) := by decide +kernel
theorem dX4_evenings_155 : decode cX4_evenings 155 = .ok (.aload_n 0, 1) := by decide +kernel
theorem dX4_evenings_156 : decode cX4_evenings 156 = .ok (.getfield 42, 3) := by decide +kernel
theorem dX4_evenings_159 : decode cX4_evenings 159 = .ok (.iconst 0, 1) := by decide +kernel
theorem dX4_evenings_160 : decode cX4_evenings 160 = .ok (.invokevirtual 184, 3) := by decide +kernel
theorem dX4_evenings_163 : decode cX4_evenings 163 = .ok (.aload_n 0, 1) := by decide +kernel
theorem dX4_evenings_164 : decode cX4_evenings 164 = .ok (.getfield 7, 3) := by decide +kernel
theorem dX4_evenings_167 : decode cX4_evenings 167 = .ok (.iconst 1, 1) := by decide +kernel
theorem dX4_evenings_168 : decode cX4_evenings 168 = .ok (.iaload, 1) := by decide +kernel
theorem dX4_evenings_169 : decode cX4_evenings 169 = .ok (.if_icmp .ne 7, 3) := by decide +kernel
theorem dX4_evenings_172 : decode cX4_evenings 172 = .ok (.iconst 1, 1) := by decide +kernel
theorem dX4_evenings_173 : decode cX4_evenings 173 = .ok (.goto 4, 3) := by decide +kernel
theorem dX4_evenings_176 : decode cX4_evenings 176 = .ok (.iconst 0, 1) := by decide +kernel
theorem dX4_evenings_177 : decode cX4_evenings 177 = .ok (.iadd, 1) := by decide +kernel
theorem dX4_evenings_178 : decode cX4_evenings 178 = .ok (.istore 5, 2) := by decide +kernel
theorem dX4_evenings_180 : decode cX4_evenings 180 = .ok (.iinc 6 1, 3) := by decide +kernel
theorem dX4_evenings_183 : decode cX4_evenings 183 = .ok (.goto (-128), 3) := by decide +kernel
theorem dX4_evenings_186 : decode cX4_evenings 186 = .ok (.iload 5, 2) := by decide +kernel
theorem dX4_evenings_188 : decode cX4_evenings 188 = .ok (.ireturn, 1) := by decide +kernel
theorem dX4_part_0 : decode cX4_part 0 = .ok (.iload_n 1, 1) := by decide +kernel
theorem dX4_part_1 : decode cX4_part 1 = .ok (.ifCond .ne 10, 3) := by decide +kernel
theorem dX4_part_4 : decode cX4_part 4 = .ok (.aload_n 0, 1) := by decide +kernel
theorem dX4_part_5 : decode cX4_part 5 = .ok (.getfield 234, 3) := by decide +kernel
theorem dX4_part_8 : decode cX4_part 8 = .ok (.goto 20, 3) := by decide +kernel
theorem dX4_part_11 : decode cX4_part 11 = .ok (.iload_n 1, 1) := by decide +kernel
theorem dX4_part_12 : decode cX4_part 12 = .ok (.iconst 1, 1) := by decide +kernel
theorem dX4_part_13 : decode cX4_part 13 = .ok (.if_icmp .ne 10, 3) := by decide +kernel
theorem dX4_part_16 : decode cX4_part 16 = .ok (.aload_n 0, 1) := by decide +kernel
theorem dX4_part_17 : decode cX4_part 17 = .ok (.getfield 26, 3) := by decide +kernel
theorem dX4_part_20 : decode cX4_part 20 = .ok (.goto 8, 3) := by decide +kernel
theorem dX4_part_23 : decode cX4_part 23 = .ok (.aload_n 0, 1) := by decide +kernel
theorem dX4_part_24 : decode cX4_part 24 = .ok (.invokevirtual 60, 3) := by decide +kernel
theorem dX4_part_27 : decode cX4_part 27 = .ok (.i2l, 1) := by decide +kernel
theorem dX4_part_28 : decode cX4_part 28 = .ok (.lreturn, 1) := by decide +kernel
theorem dX4_image_0 : decode cX4_image 0 = .ok (.iload_n 1, 1) := by decide +kernel
theorem dX4_image_1 : decode cX4_image 1 = .ok (.iconst 0, 1) := by decide +kernel
theorem dX4_image_2 : decode cX4_image 2 = .ok (.iconst 1, 1) := by decide +kernel
theorem dX4_image_3 : decode cX4_image 3 = .ok (.invokestatic 53, 3) := by decide +kernel
theorem dX4_image_6 : decode cX4_image 6 = .ok (.ifCond .ne 8, 3) := by decide +kernel
theorem dX4_image_9 : decode cX4_image 9 = .ok (.aload_n 0, 1) := by decide +kernel
theorem dX4_image_10 : decode cX4_image 10 = .ok (.invokevirtual 60, 3) := by decide +kernel
theorem dX4_image_13 : decode cX4_image 13 = .ok (.ireturn, 1) := by decide +kernel
theorem dX4_image_14 : decode cX4_image 14 = .ok (.aload_n 0, 1) := by decide +kernel
theorem dX4_image_15 : decode cX4_image 15 = .ok (.getfield 7, 3) := by decide +kernel
theorem dX4_image_18 : decode cX4_image 18 = .ok (.iconst 0, 1) := by decide +kernel
theorem dX4_image_19 : decode cX4_image 19 = .ok (.aload_n 0, 1) := by decide +kernel
theorem dX4_image_20 : decode cX4_image 20 = .ok (.getfield 16, 3) := by decide +kernel
theorem dX4_image_23 : decode cX4_image 23 = .ok (.bipush 127, 2) := by decide +kernel
theorem dX4_image_25 : decode cX4_image 25 = .ok (.iload_n 1, 1) := by decide +kernel
theorem dX4_image_26 : decode cX4_image 26 = .ok (.imul, 1) := by decide +kernel
theorem dX4_image_27 : decode cX4_image 27 = .ok (.bipush 127, 2) := by decide +kernel
theorem dX4_image_29 : decode cX4_image 29 = .ok (.invokestatic 148, 3) := by decide +kernel
theorem dX4_image_32 : decode cX4_image 32 = .ok (.aload_n 0, 1) := by decide +kernel
theorem dX4_image_33 : decode cX4_image 33 = .ok (.getfield 19, 3) := by decide +kernel
theorem dX4_image_36 : decode cX4_image 36 = .ok (.iload_n 1, 1) := by decide +kernel
theorem dX4_image_37 : decode cX4_image 37 = .ok (.iconst 1, 1) := by decide +kernel
theorem dX4_image_38 : decode cX4_image 38 = .ok (.bastore, 1) := by decide +kernel
theorem dX4_image_39 : decode cX4_image 39 = .ok (.iconst 1, 1) := by decide +kernel
theorem dX4_image_40 : decode cX4_image 40 = .ok (.ireturn, 1) := by decide +kernel
theorem dX4_from_0 : decode cX4_from 0 = .ok (.iload_n 1, 1) := by decide +kernel
theorem dX4_from_1 : decode cX4_from 1 = .ok (.iconst 0, 1) := by decide +kernel
theorem dX4_from_2 : decode cX4_from 2 = .ok (.iconst 1, 1) := by decide +kernel
theorem dX4_from_3 : decode cX4_from 3 = .ok (.invokestatic 53, 3) := by decide +kernel
theorem dX4_from_6 : decode cX4_from 6 = .ok (.ifCond .ne 8, 3) := by decide +kernel
theorem dX4_from_9 : decode cX4_from 9 = .ok (.aload_n 0, 1) := by decide +kernel
theorem dX4_from_10 : decode cX4_from 10 = .ok (.invokevirtual 60, 3) := by decide +kernel
theorem dX4_from_13 : decode cX4_from 13 = .ok (.ireturn, 1) := by decide +kernel
theorem dX4_from_14 : decode cX4_from 14 = .ok (.aload_n 0, 1) := by decide +kernel
theorem dX4_from_15 : decode cX4_from 15 = .ok (.getfield 19, 3) := by decide +kernel
theorem dX4_from_18 : decode cX4_from 18 = .ok (.iload_n 1, 1) := by decide +kernel
theorem dX4_from_19 : decode cX4_from 19 = .ok (.baload, 1) := by decide +kernel
theorem dX4_from_20 : decode cX4_from 20 = .ok (.ifCond .ne 8, 3) := by decide +kernel
theorem dX4_from_23 : decode cX4_from 23 = .ok (.aload_n 0, 1) := by decide +kernel
theorem dX4_from_24 : decode cX4_from 24 = .ok (.invokevirtual 68, 3) := by decide +kernel
theorem dX4_from_27 : decode cX4_from 27 = .ok (.ireturn, 1) := by decide +kernel
theorem dX4_from_28 : decode cX4_from 28 = .ok (.aload_n 0, 1) := by decide +kernel
theorem dX4_from_29 : decode cX4_from 29 = .ok (.getfield 16, 3) := by decide +kernel
theorem dX4_from_32 : decode cX4_from 32 = .ok (.bipush 127, 2) := by decide +kernel
theorem dX4_from_34 : decode cX4_from 34 = .ok (.iload_n 1, 1) := by decide +kernel
theorem dX4_from_35 : decode cX4_from 35 = .ok (.imul, 1) := by decide +kernel
theorem dX4_from_36 : decode cX4_from 36 = .ok (.aload_n 0, 1) := by decide +kernel
theorem dX4_from_37 : decode cX4_from 37 = .ok (.getfield 7, 3) := by decide +kernel
theorem dX4_from_40 : decode cX4_from 40 = .ok (.iconst 0, 1) := by decide +kernel
theorem dX4_from_41 : decode cX4_from 41 = .ok (.bipush 127, 2) := by decide +kernel
theorem dX4_from_43 : decode cX4_from 43 = .ok (.invokestatic 148, 3) := by decide +kernel
theorem dX4_from_46 : decode cX4_from 46 = .ok (.iconst 1, 1) := by decide +kernel
theorem dX4_from_47 : decode cX4_from 47 = .ok (.ireturn, 1) := by decide +kernel
theorem dX4_status_0 : decode cX4_status 0 = .ok (.iload_n 1, 1) := by decide +kernel
theorem dX4_status_1 : decode cX4_status 1 = .ok (.iconst 0, 1) := by decide +kernel
theorem dX4_status_2 : decode cX4_status 2 = .ok (.iconst 2, 1) := by decide +kernel
theorem dX4_status_3 : decode cX4_status 3 = .ok (.invokestatic 53, 3) := by decide +kernel
theorem dX4_status_6 : decode cX4_status 6 = .ok (.ifCond .eq 12, 3) := by decide +kernel
theorem dX4_status_9 : decode cX4_status 9 = .ok (.aload_n 0, 1) := by decide +kernel
theorem dX4_status_10 : decode cX4_status 10 = .ok (.getfield 23, 3) := by decide +kernel
theorem dX4_status_13 : decode cX4_status 13 = .ok (.iload_n 1, 1) := by decide +kernel
theorem dX4_status_14 : decode cX4_status 14 = .ok (.iaload, 1) := by decide +kernel
theorem dX4_status_15 : decode cX4_status 15 = .ok (.goto 8, 3) := by decide +kernel
theorem dX4_status_18 : decode cX4_status 18 = .ok (.aload_n 0, 1) := by decide +kernel
theorem dX4_status_19 : decode cX4_status 19 = .ok (.iconst (-1), 1) := by decide +kernel
theorem dX4_status_20 : decode cX4_status 20 = .ok (.invokevirtual 49, 3) := by decide +kernel
theorem dX4_status_23 : decode cX4_status 23 = .ok (.ireturn, 1) := by decide +kernel
theorem dX4_onLines_0 : decode cX4_onLines 0 = .ok (.iconst 0, 1) := by decide +kernel
theorem dX4_onLines_1 : decode cX4_onLines 1 = .ok (.istore_n 2, 1) := by decide +kernel
theorem dX4_onLines_2 : decode cX4_onLines 2 = .ok (.iconst 0, 1) := by decide +kernel
theorem dX4_onLines_3 : decode cX4_onLines 3 = .ok (.istore_n 3, 1) := by decide +kernel
theorem dX4_onLines_4 : decode cX4_onLines 4 = .ok (.iload_n 3, 1) := by decide +kernel
theorem dX4_onLines_5 : decode cX4_onLines 5 = .ok (.aload_n 0, 1) := by decide +kernel
theorem dX4_onLines_6 : decode cX4_onLines 6 = .ok (.getfield 7, 3) := by decide +kernel
theorem dX4_onLines_9 : decode cX4_onLines 9 = .ok (.iconst 1, 1) := by decide +kernel
theorem dX4_onLines_10 : decode cX4_onLines 10 = .ok (.iaload, 1) := by decide +kernel
theorem dX4_onLines_11 : decode cX4_onLines 11 = .ok (.if_icmp .ge 48, 3) := by decide +kernel
theorem dX4_onLines_14 : decode cX4_onLines 14 = .ok (.aload_n 0, 1) := by decide +kernel
theorem dX4_onLines_15 : decode cX4_onLines 15 = .ok (.getfield 7, 3) := by decide +kernel
theorem dX4_onLines_18 : decode cX4_onLines 18 = .ok (.bipush 28, 2) := by decide +kernel
theorem dX4_onLines_20 : decode cX4_onLines 20 = .ok (.iload_n 3, 1) := by decide +kernel
theorem dX4_onLines_21 : decode cX4_onLines 21 = .ok (.iadd, 1) := by decide +kernel
theorem dX4_onLines_22 : decode cX4_onLines 22 = .ok (.iaload, 1) := by decide +kernel
theorem dX4_onLines_23 : decode cX4_onLines 23 = .ok (.istore 4, 2) := by decide +kernel
theorem dX4_onLines_25 : decode cX4_onLines 25 = .ok (.iload_n 2, 1) := by decide +kernel
theorem dX4_onLines_26 : decode cX4_onLines 26 = .ok (.iload 4, 2) := by decide +kernel
theorem dX4_onLines_28 : decode cX4_onLines 28 = .ok (.iconst (-1), 1) := by decide +kernel
theorem dX4_onLines_29 : decode cX4_onLines 29 = .ok (.if_icmp .ne 7, 3) := by decide +kernel
theorem dX4_onLines_32 : decode cX4_onLines 32 = .ok (.iconst 0, 1) := by decide +kernel
theorem dX4_onLines_33 : decode cX4_onLines 33 = .ok (.goto 18, 3) := by decide +kernel
theorem dX4_onLines_36 : decode cX4_onLines 36 = .ok (.iload_n 1, 1) := by decide +kernel
theorem dX4_onLines_37 : decode cX4_onLines 37 = .ok (.ifCond .eq 13, 3) := by decide +kernel
theorem dX4_onLines_40 : decode cX4_onLines 40 = .ok (.aload_n 0, 1) := by decide +kernel
theorem dX4_onLines_41 : decode cX4_onLines 41 = .ok (.iload 4, 2) := by decide +kernel
theorem dX4_onLines_43 : decode cX4_onLines 43 = .ok (.iload_n 3, 1) := by decide +kernel
theorem dX4_onLines_44 : decode cX4_onLines 44 = .ok (.invokevirtual 187, 3) := by decide +kernel
theorem dX4_onLines_47 : decode cX4_onLines 47 = .ok (.goto 4, 3) := by decide +kernel
theorem dX4_onLines_50 : decode cX4_onLines 50 = .ok (.iconst 1, 1) := by decide +kernel
theorem dX4_onLines_51 : decode cX4_onLines 51 = .ok (.iadd, 1) := by decide +kernel
theorem dX4_onLines_52 : decode cX4_onLines 52 = .ok (.istore_n 2, 1) := by decide +kernel
theorem dX4_onLines_53 : decode cX4_onLines 53 = .ok (.iinc 3 1, 3) := by decide +kernel
theorem dX4_onLines_56 : decode cX4_onLines 56 = .ok (.goto (-52), 3) := by decide +kernel
theorem dX4_onLines_59 : decode cX4_onLines 59 = .ok (.iload_n 2, 1) := by decide +kernel
theorem dX4_onLines_60 : decode cX4_onLines 60 = .ok (.ireturn, 1) := by decide +kernel
theorem dX4_counted_0 : decode cX4_counted 0 = .ok (.iload_n 1, 1) := by decide +kernel
theorem dX4_counted_1 : decode cX4_counted 1 = .ok (.tableswitch 130 0 9 #[55, 62, 69, 76, 83, 89, 100, 106, 114, 122], 55) := by decide +kernel
theorem dX4_counted_56 : decode cX4_counted 56 = .ok (.aload_n 0, 1) := by decide +kernel
theorem dX4_counted_57 : decode cX4_counted 57 = .ok (.getfield 7, 3) := by decide +kernel
theorem dX4_counted_60 : decode cX4_counted 60 = .ok (.iconst 3, 1) := by decide +kernel
theorem dX4_counted_61 : decode cX4_counted 61 = .ok (.iaload, 1) := by decide +kernel
theorem dX4_counted_62 : decode cX4_counted 62 = .ok (.ireturn, 1) := by decide +kernel
theorem dX4_counted_63 : decode cX4_counted 63 = .ok (.aload_n 0, 1) := by decide +kernel
theorem dX4_counted_64 : decode cX4_counted 64 = .ok (.getfield 7, 3) := by decide +kernel
theorem dX4_counted_67 : decode cX4_counted 67 = .ok (.iconst 1, 1) := by decide +kernel
theorem dX4_counted_68 : decode cX4_counted 68 = .ok (.iaload, 1) := by decide +kernel
theorem dX4_counted_69 : decode cX4_counted 69 = .ok (.ireturn, 1) := by decide +kernel
theorem dX4_counted_70 : decode cX4_counted 70 = .ok (.aload_n 0, 1) := by decide +kernel
theorem dX4_counted_71 : decode cX4_counted 71 = .ok (.getfield 7, 3) := by decide +kernel
theorem dX4_counted_74 : decode cX4_counted 74 = .ok (.iconst 0, 1) := by decide +kernel
theorem dX4_counted_75 : decode cX4_counted 75 = .ok (.iaload, 1) := by decide +kernel
theorem dX4_counted_76 : decode cX4_counted 76 = .ok (.ireturn, 1) := by decide +kernel
theorem dX4_counted_77 : decode cX4_counted 77 = .ok (.aload_n 0, 1) := by decide +kernel
theorem dX4_counted_78 : decode cX4_counted 78 = .ok (.getfield 7, 3) := by decide +kernel
theorem dX4_counted_81 : decode cX4_counted 81 = .ok (.iconst 2, 1) := by decide +kernel
theorem dX4_counted_82 : decode cX4_counted 82 = .ok (.iaload, 1) := by decide +kernel
theorem dX4_counted_83 : decode cX4_counted 83 = .ok (.ireturn, 1) := by decide +kernel
theorem dX4_counted_84 : decode cX4_counted 84 = .ok (.aload_n 0, 1) := by decide +kernel
theorem dX4_counted_85 : decode cX4_counted 85 = .ok (.iconst 0, 1) := by decide +kernel
theorem dX4_counted_86 : decode cX4_counted 86 = .ok (.invokevirtual 257, 3) := by decide +kernel
theorem dX4_counted_89 : decode cX4_counted 89 = .ok (.ireturn, 1) := by decide +kernel
theorem dX4_counted_90 : decode cX4_counted 90 = .ok (.aload_n 0, 1) := by decide +kernel
theorem dX4_counted_91 : decode cX4_counted 91 = .ok (.aload_n 0, 1) := by decide +kernel
theorem dX4_counted_92 : decode cX4_counted 92 = .ok (.getfield 7, 3) := by decide +kernel
theorem dX4_counted_95 : decode cX4_counted 95 = .ok (.bipush 28, 2) := by decide +kernel
theorem dX4_counted_97 : decode cX4_counted 97 = .ok (.invokevirtual 184, 3) := by decide +kernel
theorem dX4_counted_100 : decode cX4_counted 100 = .ok (.ireturn, 1) := by decide +kernel
theorem dX4_counted_101 : decode cX4_counted 101 = .ok (.aload_n 0, 1) := by decide +kernel
theorem dX4_counted_102 : decode cX4_counted 102 = .ok (.iconst 1, 1) := by decide +kernel
theorem dX4_counted_103 : decode cX4_counted 103 = .ok (.invokevirtual 257, 3) := by decide +kernel
theorem dX4_counted_106 : decode cX4_counted 106 = .ok (.ireturn, 1) := by decide +kernel
theorem dX4_counted_107 : decode cX4_counted 107 = .ok (.aload_n 0, 1) := by decide +kernel
theorem dX4_counted_108 : decode cX4_counted 108 = .ok (.getfield 7, 3) := by decide +kernel
theorem dX4_counted_111 : decode cX4_counted 111 = .ok (.bipush 34, 2) := by decide +kernel
theorem dX4_counted_113 : decode cX4_counted 113 = .ok (.iaload, 1) := by decide +kernel
theorem dX4_counted_114 : decode cX4_counted 114 = .ok (.ireturn, 1) := by decide +kernel
theorem dX4_counted_115 : decode cX4_counted 115 = .ok (.aload_n 0, 1) := by decide +kernel
theorem dX4_counted_116 : decode cX4_counted 116 = .ok (.getfield 7, 3) := by decide +kernel
theorem dX4_counted_119 : decode cX4_counted 119 = .ok (.bipush 53, 2) := by decide +kernel
theorem dX4_counted_121 : decode cX4_counted 121 = .ok (.iaload, 1) := by decide +kernel
theorem dX4_counted_122 : decode cX4_counted 122 = .ok (.ireturn, 1) := by decide +kernel
theorem dX4_counted_123 : decode cX4_counted 123 = .ok (.aload_n 0, 1) := by decide +kernel
theorem dX4_counted_124 : decode cX4_counted 124 = .ok (.getfield 7, 3) := by decide +kernel
theorem dX4_counted_127 : decode cX4_counted 127 = .ok (.bipush 78, 2) := by decide +kernel
theorem dX4_counted_129 : decode cX4_counted 129 = .ok (.iaload, 1) := by decide +kernel
theorem dX4_counted_130 : decode cX4_counted 130 = .ok (.ireturn, 1) := by decide +kernel
theorem dX4_counted_131 : decode cX4_counted 131 = .ok (.aload_n 0, 1) := by decide +kernel
theorem dX4_counted_132 : decode cX4_counted 132 = .ok (.getfield 78, 3) := by decide +kernel
theorem dX4_counted_135 : decode cX4_counted 135 = .ok (.ireturn, 1) := by decide +kernel
theorem dX4_count_0 : decode cX4_count 0 = .ok (.iload_n 1, 1) := by decide +kernel
theorem dX4_count_1 : decode cX4_count 1 = .ok (.iconst 0, 1) := by decide +kernel
theorem dX4_count_2 : decode cX4_count 2 = .ok (.bipush 10, 2) := by decide +kernel
theorem dX4_count_4 : decode cX4_count 4 = .ok (.invokestatic 53, 3) := by decide +kernel
theorem dX4_count_7 : decode cX4_count 7 = .ok (.ifCond .eq 11, 3) := by decide +kernel
theorem dX4_count_10 : decode cX4_count 10 = .ok (.aload_n 0, 1) := by decide +kernel
theorem dX4_count_11 : decode cX4_count 11 = .ok (.iload_n 1, 1) := by decide +kernel
theorem dX4_count_12 : decode cX4_count 12 = .ok (.invokevirtual 261, 3) := by decide +kernel
theorem dX4_count_15 : decode cX4_count 15 = .ok (.goto 7, 3) := by decide +kernel
theorem dX4_count_18 : decode cX4_count 18 = .ok (.aload_n 0, 1) := by decide +kernel
theorem dX4_count_19 : decode cX4_count 19 = .ok (.invokevirtual 60, 3) := by decide +kernel
theorem dX4_count_22 : decode cX4_count 22 = .ok (.ireturn, 1) := by decide +kernel
theorem dX4_digest_0 : decode cX4_digest 0 = .ok (.ldc2_w 264, 3) := by decide +kernel
theorem dX4_digest_3 : decode cX4_digest 3 = .ok (.lstore_n 1, 1) := by decide +kernel
theorem dX4_digest_4 : decode cX4_digest 4 = .ok (.iconst 0, 1) := by decide +kernel
theorem dX4_digest_5 : decode cX4_digest 5 = .ok (.istore_n 3, 1) := by decide +kernel
theorem dX4_digest_6 : decode cX4_digest 6 = .ok (.iload_n 3, 1) := by decide +kernel
theorem dX4_digest_7 : decode cX4_digest 7 = .ok (.bipush 11, 2) := by decide +kernel
theorem dX4_digest_9 : decode cX4_digest 9 = .ok (.if_icmp .ge 22, 3) := by decide +kernel
theorem dX4_digest_12 : decode cX4_digest 12 = .ok (.ldc2_w 266, 3) := by decide +kernel
theorem dX4_digest_15 : decode cX4_digest 15 = .ok (.lload_n 1, 1) := by decide +kernel
theorem dX4_digest_16 : decode cX4_digest 16 = .ok (.lmul, 1) := by decide +kernel
theorem dX4_digest_17 : decode cX4_digest 17 = .ok (.aload_n 0, 1) := by decide +kernel
theorem dX4_digest_18 : decode cX4_digest 18 = .ok (.iload_n 3, 1) := by decide +kernel
theorem dX4_digest_19 : decode cX4_digest 19 = .ok (.invokevirtual 261, 3) := by decide +kernel
theorem dX4_digest_22 : decode cX4_digest 22 = .ok (.i2l, 1) := by decide +kernel
theorem dX4_digest_23 : decode cX4_digest 23 = .ok (.ladd, 1) := by decide +kernel
theorem dX4_digest_24 : decode cX4_digest 24 = .ok (.lstore_n 1, 1) := by decide +kernel
theorem dX4_digest_25 : decode cX4_digest 25 = .ok (.iinc 3 1, 3) := by decide +kernel
theorem dX4_digest_28 : decode cX4_digest 28 = .ok (.goto (-22), 3) := by decide +kernel
theorem dX4_digest_31 : decode cX4_digest 31 = .ok (.iconst 0, 1) := by decide +kernel
theorem dX4_digest_32 : decode cX4_digest 32 = .ok (.istore_n 3, 1) := by decide +kernel
theorem dX4_digest_33 : decode cX4_digest 33 = .ok (.iload_n 3, 1) := by decide +kernel
theorem dX4_digest_34 : decode cX4_digest 34 = .ok (.aload_n 0, 1) := by decide +kernel
theorem dX4_digest_35 : decode cX4_digest 35 = .ok (.getfield 7, 3) := by decide +kernel
theorem dX4_digest_38 : decode cX4_digest 38 = .ok (.iconst 3, 1) := by decide +kernel
theorem dX4_digest_39 : decode cX4_digest 39 = .ok (.iaload, 1) := by decide +kernel
theorem dX4_digest_40 : decode cX4_digest 40 = .ok (.if_icmp .ge 59, 3) := by decide +kernel
theorem dX4_digest_43 : decode cX4_digest 43 = .ok (.ldc2_w 266, 3) := by decide +kernel
theorem dX4_digest_46 : decode cX4_digest 46 = .ok (.lload_n 1, 1) := by decide +kernel
theorem dX4_digest_47 : decode cX4_digest 47 = .ok (.lmul, 1) := by decide +kernel
theorem dX4_digest_48 : decode cX4_digest 48 = .ok (.aload_n 0, 1) := by decide +kernel
theorem dX4_digest_49 : decode cX4_digest 49 = .ok (.getfield 7, 3) := by decide +kernel
theorem dX4_digest_52 : decode cX4_digest 52 = .ok (.iconst 4, 1) := by decide +kernel
theorem dX4_digest_53 : decode cX4_digest 53 = .ok (.iload_n 3, 1) := by decide +kernel
theorem dX4_digest_54 : decode cX4_digest 54 = .ok (.iadd, 1) := by decide +kernel
theorem dX4_digest_55 : decode cX4_digest 55 = .ok (.iaload, 1) := by decide +kernel
theorem dX4_digest_56 : decode cX4_digest 56 = .ok (.i2l, 1) := by decide +kernel
theorem dX4_digest_57 : decode cX4_digest 57 = .ok (.ladd, 1) := by decide +kernel
theorem dX4_digest_58 : decode cX4_digest 58 = .ok (.lstore_n 1, 1) := by decide +kernel
theorem dX4_digest_59 : decode cX4_digest 59 = .ok (.ldc2_w 266, 3) := by decide +kernel
theorem dX4_digest_62 : decode cX4_digest 62 = .ok (.lload_n 1, 1) := by decide +kernel
theorem dX4_digest_63 : decode cX4_digest 63 = .ok (.lmul, 1) := by decide +kernel
theorem dX4_digest_64 : decode cX4_digest 64 = .ok (.aload_n 0, 1) := by decide +kernel
theorem dX4_digest_65 : decode cX4_digest 65 = .ok (.getfield 7, 3) := by decide +kernel
theorem dX4_digest_68 : decode cX4_digest 68 = .ok (.bipush 12, 2) := by decide +kernel
theorem dX4_digest_70 : decode cX4_digest 70 = .ok (.iload_n 3, 1) := by decide +kernel
theorem dX4_digest_71 : decode cX4_digest 71 = .ok (.iadd, 1) := by decide +kernel
theorem dX4_digest_72 : decode cX4_digest 72 = .ok (.iaload, 1) := by decide +kernel
theorem dX4_digest_73 : decode cX4_digest 73 = .ok (.i2l, 1) := by decide +kernel
theorem dX4_digest_74 : decode cX4_digest 74 = .ok (.ladd, 1) := by decide +kernel
theorem dX4_digest_75 : decode cX4_digest 75 = .ok (.lstore_n 1, 1) := by decide +kernel
theorem dX4_digest_76 : decode cX4_digest 76 = .ok (.ldc2_w 266, 3) := by decide +kernel
theorem dX4_digest_79 : decode cX4_digest 79 = .ok (.lload_n 1, 1) := by decide +kernel
theorem dX4_digest_80 : decode cX4_digest 80 = .ok (.lmul, 1) := by decide +kernel
theorem dX4_digest_81 : decode cX4_digest 81 = .ok (.aload_n 0, 1) := by decide +kernel
theorem dX4_digest_82 : decode cX4_digest 82 = .ok (.getfield 7, 3) := by decide +kernel
theorem dX4_digest_85 : decode cX4_digest 85 = .ok (.bipush 20, 2) := by decide +kernel
theorem dX4_digest_87 : decode cX4_digest 87 = .ok (.iload_n 3, 1) := by decide +kernel
theorem dX4_digest_88 : decode cX4_digest 88 = .ok (.iadd, 1) := by decide +kernel
theorem dX4_digest_89 : decode cX4_digest 89 = .ok (.iaload, 1) := by decide +kernel
theorem dX4_digest_90 : decode cX4_digest 90 = .ok (.i2l, 1) := by decide +kernel
theorem dX4_digest_91 : decode cX4_digest 91 = .ok (.ladd, 1) := by decide +kernel
theorem dX4_digest_92 : decode cX4_digest 92 = .ok (.lstore_n 1, 1) := by decide +kernel
theorem dX4_digest_93 : decode cX4_digest 93 = .ok (.iinc 3 1, 3) := by decide +kernel
theorem dX4_digest_96 : decode cX4_digest 96 = .ok (.goto (-63), 3) := by decide +kernel
theorem dX4_digest_99 : decode cX4_digest 99 = .ok (.iconst 0, 1) := by decide +kernel
theorem dX4_digest_100 : decode cX4_digest 100 = .ok (.istore_n 3, 1) := by decide +kernel
theorem dX4_digest_101 : decode cX4_digest 101 = .ok (.iload_n 3, 1) := by decide +kernel
theorem dX4_digest_102 : decode cX4_digest 102 = .ok (.aload_n 0, 1) := by decide +kernel
theorem dX4_digest_103 : decode cX4_digest 103 = .ok (.getfield 7, 3) := by decide +kernel
theorem dX4_digest_106 : decode cX4_digest 106 = .ok (.iconst 1, 1) := by decide +kernel
theorem dX4_digest_107 : decode cX4_digest 107 = .ok (.iaload, 1) := by decide +kernel
theorem dX4_digest_108 : decode cX4_digest 108 = .ok (.if_icmp .ge 26, 3) := by decide +kernel
theorem dX4_digest_111 : decode cX4_digest 111 = .ok (.ldc2_w 266, 3) := by decide +kernel
theorem dX4_digest_114 : decode cX4_digest 114 = .ok (.lload_n 1, 1) := by decide +kernel
theorem dX4_digest_115 : decode cX4_digest 115 = .ok (.lmul, 1) := by decide +kernel
theorem dX4_digest_116 : decode cX4_digest 116 = .ok (.aload_n 0, 1) := by decide +kernel
theorem dX4_digest_117 : decode cX4_digest 117 = .ok (.getfield 7, 3) := by decide +kernel
theorem dX4_digest_120 : decode cX4_digest 120 = .ok (.bipush 28, 2) := by decide +kernel
theorem dX4_digest_122 : decode cX4_digest 122 = .ok (.iload_n 3, 1) := by decide +kernel
theorem dX4_digest_123 : decode cX4_digest 123 = .ok (.iadd, 1) := by decide +kernel
theorem dX4_digest_124 : decode cX4_digest 124 = .ok (.iaload, 1) := by decide +kernel
theorem dX4_digest_125 : decode cX4_digest 125 = .ok (.i2l, 1) := by decide +kernel
theorem dX4_digest_126 : decode cX4_digest 126 = .ok (.ladd, 1) := by decide +kernel
theorem dX4_digest_127 : decode cX4_digest 127 = .ok (.lstore_n 1, 1) := by decide +kernel
theorem dX4_digest_128 : decode cX4_digest 128 = .ok (.iinc 3 1, 3) := by decide +kernel
theorem dX4_digest_131 : decode cX4_digest 131 = .ok (.goto (-30), 3) := by decide +kernel
theorem dX4_digest_134 : decode cX4_digest 134 = .ok (.iconst 0, 1) := by decide +kernel
theorem dX4_digest_135 : decode cX4_digest 135 = .ok (.istore_n 3, 1) := by decide +kernel
theorem dX4_digest_136 : decode cX4_digest 136 = .ok (.iload_n 3, 1) := by decide +kernel
theorem dX4_digest_137 : decode cX4_digest 137 = .ok (.iconst 3, 1) := by decide +kernel
theorem dX4_digest_138 : decode cX4_digest 138 = .ok (.aload_n 0, 1) := by decide +kernel
theorem dX4_digest_139 : decode cX4_digest 139 = .ok (.getfield 7, 3) := by decide +kernel
theorem dX4_digest_142 : decode cX4_digest 142 = .ok (.bipush 34, 2) := by decide +kernel
theorem dX4_digest_144 : decode cX4_digest 144 = .ok (.iaload, 1) := by decide +kernel
theorem dX4_digest_145 : decode cX4_digest 145 = .ok (.imul, 1) := by decide +kernel
theorem dX4_digest_146 : decode cX4_digest 146 = .ok (.if_icmp .ge 26, 3) := by decide +kernel
theorem dX4_digest_149 : decode cX4_digest 149 = .ok (.ldc2_w 266, 3) := by decide +kernel
theorem dX4_digest_152 : decode cX4_digest 152 = .ok (.lload_n 1, 1) := by decide +kernel
theorem dX4_digest_153 : decode cX4_digest 153 = .ok (.lmul, 1) := by decide +kernel
theorem dX4_digest_154 : decode cX4_digest 154 = .ok (.aload_n 0, 1) := by decide +kernel
theorem dX4_digest_155 : decode cX4_digest 155 = .ok (.getfield 7, 3) := by decide +kernel
theorem dX4_digest_158 : decode cX4_digest 158 = .ok (.bipush 35, 2) := by decide +kernel
theorem dX4_digest_160 : decode cX4_digest 160 = .ok (.iload_n 3, 1) := by decide +kernel
theorem dX4_digest_161 : decode cX4_digest 161 = .ok (.iadd, 1) := by decide +kernel
theorem dX4_digest_162 : decode cX4_digest 162 = .ok (.iaload, 1) := by decide +kernel
theorem dX4_digest_163 : decode cX4_digest 163 = .ok (.i2l, 1) := by decide +kernel
theorem dX4_digest_164 : decode cX4_digest 164 = .ok (.ladd, 1) := by decide +kernel
theorem dX4_digest_165 : decode cX4_digest 165 = .ok (.lstore_n 1, 1) := by decide +kernel
theorem dX4_digest_166 : decode cX4_digest 166 = .ok (.iinc 3 1, 3) := by decide +kernel
theorem dX4_digest_169 : decode cX4_digest 169 = .ok (.goto (-33), 3) := by decide +kernel
theorem dX4_digest_172 : decode cX4_digest 172 = .ok (.iconst 0, 1) := by decide +kernel
theorem dX4_digest_173 : decode cX4_digest 173 = .ok (.istore_n 3, 1) := by decide +kernel
theorem dX4_digest_174 : decode cX4_digest 174 = .ok (.iload_n 3, 1) := by decide +kernel
theorem dX4_digest_175 : decode cX4_digest 175 = .ok (.iconst 4, 1) := by decide +kernel
theorem dX4_digest_176 : decode cX4_digest 176 = .ok (.aload_n 0, 1) := by decide +kernel
theorem dX4_digest_177 : decode cX4_digest 177 = .ok (.getfield 7, 3) := by decide +kernel
theorem dX4_digest_180 : decode cX4_digest 180 = .ok (.bipush 53, 2) := by decide +kernel
theorem dX4_digest_182 : decode cX4_digest 182 = .ok (.iaload, 1) := by decide +kernel
theorem dX4_digest_183 : decode cX4_digest 183 = .ok (.imul, 1) := by decide +kernel
theorem dX4_digest_184 : decode cX4_digest 184 = .ok (.if_icmp .ge 26, 3) := by decide +kernel
theorem dX4_digest_187 : decode cX4_digest 187 = .ok (.ldc2_w 266, 3) := by decide +kernel
theorem dX4_digest_190 : decode cX4_digest 190 = .ok (.lload_n 1, 1) := by decide +kernel
theorem dX4_digest_191 : decode cX4_digest 191 = .ok (.lmul, 1) := by decide +kernel
theorem dX4_digest_192 : decode cX4_digest 192 = .ok (.aload_n 0, 1) := by decide +kernel
theorem dX4_digest_193 : decode cX4_digest 193 = .ok (.getfield 7, 3) := by decide +kernel
theorem dX4_digest_196 : decode cX4_digest 196 = .ok (.bipush 54, 2) := by decide +kernel
theorem dX4_digest_198 : decode cX4_digest 198 = .ok (.iload_n 3, 1) := by decide +kernel
theorem dX4_digest_199 : decode cX4_digest 199 = .ok (.iadd, 1) := by decide +kernel
theorem dX4_digest_200 : decode cX4_digest 200 = .ok (.iaload, 1) := by decide +kernel
theorem dX4_digest_201 : decode cX4_digest 201 = .ok (.i2l, 1) := by decide +kernel
theorem dX4_digest_202 : decode cX4_digest 202 = .ok (.ladd, 1) := by decide +kernel
theorem dX4_digest_203 : decode cX4_digest 203 = .ok (.lstore_n 1, 1) := by decide +kernel
theorem dX4_digest_204 : decode cX4_digest 204 = .ok (.iinc 3 1, 3) := by decide +kernel
theorem dX4_digest_207 : decode cX4_digest 207 = .ok (.goto (-33), 3) := by decide +kernel
theorem dX4_digest_210 : decode cX4_digest 210 = .ok (.ldc2_w 266, 3) := by decide +kernel
theorem dX4_digest_213 : decode cX4_digest 213 = .ok (.ldc2_w 266, 3) := by decide +kernel
theorem dX4_digest_216 : decode cX4_digest 216 = .ok (.lload_n 1, 1) := by decide +kernel
theorem dX4_digest_217 : decode cX4_digest 217 = .ok (.lmul, 1) := by decide +kernel
theorem dX4_digest_218 : decode cX4_digest 218 = .ok (.aload_n 0, 1) := by decide +kernel
theorem dX4_digest_219 : decode cX4_digest 219 = .ok (.getfield 234, 3) := by decide +kernel
theorem dX4_digest_222 : decode cX4_digest 222 = .ok (.ladd, 1) := by decide +kernel
theorem dX4_digest_223 : decode cX4_digest 223 = .ok (.lmul, 1) := by decide +kernel
theorem dX4_digest_224 : decode cX4_digest 224 = .ok (.aload_n 0, 1) := by decide +kernel
theorem dX4_digest_225 : decode cX4_digest 225 = .ok (.getfield 26, 3) := by decide +kernel
theorem dX4_digest_228 : decode cX4_digest 228 = .ok (.ladd, 1) := by decide +kernel
theorem dX4_digest_229 : decode cX4_digest 229 = .ok (.lreturn, 1) := by decide +kernel
theorem dJ6_bitCount_0f7a4_0 : decode cJ6_bitCount_0f7a4 0 = .ok (.iload_n 0, 1) := by decide +kernel
theorem dJ6_bitCount_0f7a4_1 : decode cJ6_bitCount_0f7a4 1 = .ok (.iload_n 0, 1) := by decide +kernel
theorem dJ6_bitCount_0f7a4_2 : decode cJ6_bitCount_0f7a4 2 = .ok (.iconst 1, 1) := by decide +kernel
theorem dJ6_bitCount_0f7a4_3 : decode cJ6_bitCount_0f7a4 3 = .ok (.iushr, 1) := by decide +kernel
theorem dJ6_bitCount_0f7a4_4 : decode cJ6_bitCount_0f7a4 4 = .ok (.ldc_w 265, 3) := by decide +kernel
theorem dJ6_bitCount_0f7a4_7 : decode cJ6_bitCount_0f7a4 7 = .ok (.iand, 1) := by decide +kernel
theorem dJ6_bitCount_0f7a4_8 : decode cJ6_bitCount_0f7a4 8 = .ok (.isub, 1) := by decide +kernel
theorem dJ6_bitCount_0f7a4_9 : decode cJ6_bitCount_0f7a4 9 = .ok (.istore_n 0, 1) := by decide +kernel
theorem dJ6_bitCount_0f7a4_10 : decode cJ6_bitCount_0f7a4 10 = .ok (.iload_n 0, 1) := by decide +kernel
theorem dJ6_bitCount_0f7a4_11 : decode cJ6_bitCount_0f7a4 11 = .ok (.ldc_w 266, 3) := by decide +kernel
theorem dJ6_bitCount_0f7a4_14 : decode cJ6_bitCount_0f7a4 14 = .ok (.iand, 1) := by decide +kernel
theorem dJ6_bitCount_0f7a4_15 : decode cJ6_bitCount_0f7a4 15 = .ok (.iload_n 0, 1) := by decide +kernel
theorem dJ6_bitCount_0f7a4_16 : decode cJ6_bitCount_0f7a4 16 = .ok (.iconst 2, 1) := by decide +kernel
theorem dJ6_bitCount_0f7a4_17 : decode cJ6_bitCount_0f7a4 17 = .ok (.iushr, 1) := by decide +kernel
theorem dJ6_bitCount_0f7a4_18 : decode cJ6_bitCount_0f7a4 18 = .ok (.ldc_w 266, 3) := by decide +kernel
theorem dJ6_bitCount_0f7a4_21 : decode cJ6_bitCount_0f7a4 21 = .ok (.iand, 1) := by decide +kernel
theorem dJ6_bitCount_0f7a4_22 : decode cJ6_bitCount_0f7a4 22 = .ok (.iadd, 1) := by decide +kernel
theorem dJ6_bitCount_0f7a4_23 : decode cJ6_bitCount_0f7a4 23 = .ok (.istore_n 0, 1) := by decide +kernel
theorem dJ6_bitCount_0f7a4_24 : decode cJ6_bitCount_0f7a4 24 = .ok (.iload_n 0, 1) := by decide +kernel
theorem dJ6_bitCount_0f7a4_25 : decode cJ6_bitCount_0f7a4 25 = .ok (.iload_n 0, 1) := by decide +kernel
theorem dJ6_bitCount_0f7a4_26 : decode cJ6_bitCount_0f7a4 26 = .ok (.iconst 4, 1) := by decide +kernel
theorem dJ6_bitCount_0f7a4_27 : decode cJ6_bitCount_0f7a4 27 = .ok (.iushr, 1) := by decide +kernel
theorem dJ6_bitCount_0f7a4_28 : decode cJ6_bitCount_0f7a4 28 = .ok (.iadd, 1) := by decide +kernel
theorem dJ6_bitCount_0f7a4_29 : decode cJ6_bitCount_0f7a4 29 = .ok (.ldc_w 267, 3) := by decide +kernel
theorem dJ6_bitCount_0f7a4_32 : decode cJ6_bitCount_0f7a4 32 = .ok (.iand, 1) := by decide +kernel
theorem dJ6_bitCount_0f7a4_33 : decode cJ6_bitCount_0f7a4 33 = .ok (.istore_n 0, 1) := by decide +kernel
theorem dJ6_bitCount_0f7a4_34 : decode cJ6_bitCount_0f7a4 34 = .ok (.iload_n 0, 1) := by decide +kernel
theorem dJ6_bitCount_0f7a4_35 : decode cJ6_bitCount_0f7a4 35 = .ok (.iload_n 0, 1) := by decide +kernel
theorem dJ6_bitCount_0f7a4_36 : decode cJ6_bitCount_0f7a4 36 = .ok (.bipush 8, 2) := by decide +kernel
theorem dJ6_bitCount_0f7a4_38 : decode cJ6_bitCount_0f7a4 38 = .ok (.iushr, 1) := by decide +kernel
theorem dJ6_bitCount_0f7a4_39 : decode cJ6_bitCount_0f7a4 39 = .ok (.iadd, 1) := by decide +kernel
theorem dJ6_bitCount_0f7a4_40 : decode cJ6_bitCount_0f7a4 40 = .ok (.istore_n 0, 1) := by decide +kernel
theorem dJ6_bitCount_0f7a4_41 : decode cJ6_bitCount_0f7a4 41 = .ok (.iload_n 0, 1) := by decide +kernel
theorem dJ6_bitCount_0f7a4_42 : decode cJ6_bitCount_0f7a4 42 = .ok (.iload_n 0, 1) := by decide +kernel
theorem dJ6_bitCount_0f7a4_43 : decode cJ6_bitCount_0f7a4 43 = .ok (.bipush 16, 2) := by decide +kernel
theorem dJ6_bitCount_0f7a4_45 : decode cJ6_bitCount_0f7a4 45 = .ok (.iushr, 1) := by decide +kernel
theorem dJ6_bitCount_0f7a4_46 : decode cJ6_bitCount_0f7a4 46 = .ok (.iadd, 1) := by decide +kernel
theorem dJ6_bitCount_0f7a4_47 : decode cJ6_bitCount_0f7a4 47 = .ok (.istore_n 0, 1) := by decide +kernel
theorem dJ6_bitCount_0f7a4_48 : decode cJ6_bitCount_0f7a4 48 = .ok (.iload_n 0, 1) := by decide +kernel
theorem dJ6_bitCount_0f7a4_49 : decode cJ6_bitCount_0f7a4 49 = .ok (.bipush 63, 2) := by decide +kernel
theorem dJ6_bitCount_0f7a4_51 : decode cJ6_bitCount_0f7a4 51 = .ok (.iand, 1) := by decide +kernel
theorem dJ6_bitCount_0f7a4_52 : decode cJ6_bitCount_0f7a4 52 = .ok (.ireturn, 1) := by decide +kernel
theorem dJ9_max_7cf53_0 : decode cJ9_max_7cf53 0 = .ok (.iload_n 0, 1) := by decide +kernel
theorem dJ9_max_7cf53_1 : decode cJ9_max_7cf53 1 = .ok (.iload_n 1, 1) := by decide +kernel
theorem dJ9_max_7cf53_2 : decode cJ9_max_7cf53 2 = .ok (.if_icmp .lt 7, 3) := by decide +kernel
theorem dJ9_max_7cf53_5 : decode cJ9_max_7cf53 5 = .ok (.iload_n 0, 1) := by decide +kernel
theorem dJ9_max_7cf53_6 : decode cJ9_max_7cf53 6 = .ok (.goto 4, 3) := by decide +kernel
theorem dJ9_max_7cf53_9 : decode cJ9_max_7cf53 9 = .ok (.iload_n 1, 1) := by decide +kernel
theorem dJ9_max_7cf53_10 : decode cJ9_max_7cf53 10 = .ok (.ireturn, 1) := by decide +kernel
theorem dJ9_min_7cf53_0 : decode cJ9_min_7cf53 0 = .ok (.iload_n 0, 1) := by decide +kernel
theorem dJ9_min_7cf53_1 : decode cJ9_min_7cf53 1 = .ok (.iload_n 1, 1) := by decide +kernel
theorem dJ9_min_7cf53_2 : decode cJ9_min_7cf53 2 = .ok (.if_icmp .gt 7, 3) := by decide +kernel
theorem dJ9_min_7cf53_5 : decode cJ9_min_7cf53 5 = .ok (.iload_n 0, 1) := by decide +kernel
theorem dJ9_min_7cf53_6 : decode cJ9_min_7cf53 6 = .ok (.goto 4, 3) := by decide +kernel
theorem dJ9_min_7cf53_9 : decode cJ9_min_7cf53 9 = .ok (.iload_n 1, 1) := by decide +kernel
theorem dJ9_min_7cf53_10 : decode cJ9_min_7cf53 10 = .ok (.ireturn, 1) := by decide +kernel
theorem dJ0_length_8abf5_0 : decode cJ0_length_8abf5 0 = .ok (.aload_n 0, 1) := by decide +kernel
theorem dJ0_length_8abf5_1 : decode cJ0_length_8abf5 1 = .ok (.getfield 9, 3) := by decide +kernel
theorem dJ0_length_8abf5_4 : decode cJ0_length_8abf5 4 = .ok (.arraylength, 1) := by decide +kernel
theorem dJ0_length_8abf5_5 : decode cJ0_length_8abf5 5 = .ok (.aload_n 0, 1) := by decide +kernel
theorem dJ0_length_8abf5_6 : decode cJ0_length_8abf5 6 = .ok (.invokevirtual 335, 3) := by decide +kernel
theorem dJ0_length_8abf5_9 : decode cJ0_length_8abf5 9 = .ok (.ishr, 1) := by decide +kernel
theorem dJ0_length_8abf5_10 : decode cJ0_length_8abf5 10 = .ok (.ireturn, 1) := by decide +kernel
theorem dJ0_charAt_5068e_0 : decode cJ0_charAt_5068e 0 = .ok (.aload_n 0, 1) := by decide +kernel
theorem dJ0_charAt_5068e_1 : decode cJ0_charAt_5068e 1 = .ok (.invokevirtual 492, 3) := by decide +kernel
theorem dJ0_charAt_5068e_4 : decode cJ0_charAt_5068e 4 = .ok (.ifCond .eq 12, 3) := by decide +kernel
theorem dJ0_charAt_5068e_7 : decode cJ0_charAt_5068e 7 = .ok (.aload_n 0, 1) := by decide +kernel
theorem dJ0_charAt_5068e_8 : decode cJ0_charAt_5068e 8 = .ok (.getfield 9, 3) := by decide +kernel
theorem dJ0_charAt_5068e_11 : decode cJ0_charAt_5068e 11 = .ok (.iload_n 1, 1) := by decide +kernel
theorem dJ0_charAt_5068e_12 : decode cJ0_charAt_5068e 12 = .ok (.invokestatic 495, 3) := by decide +kernel
theorem dJ0_charAt_5068e_15 : decode cJ0_charAt_5068e 15 = .ok (.ireturn, 1) := by decide +kernel
theorem dJ0_charAt_5068e_16 : decode cJ0_charAt_5068e 16 = .ok (.aload_n 0, 1) := by decide +kernel
theorem dJ0_charAt_5068e_17 : decode cJ0_charAt_5068e 17 = .ok (.getfield 9, 3) := by decide +kernel
theorem dJ0_charAt_5068e_20 : decode cJ0_charAt_5068e 20 = .ok (.iload_n 1, 1) := by decide +kernel
theorem dJ0_charAt_5068e_21 : decode cJ0_charAt_5068e 21 = .ok (.invokestatic 498, 3) := by decide +kernel
theorem dJ0_charAt_5068e_24 : decode cJ0_charAt_5068e 24 = .ok (.ireturn, 1) := by decide +kernel
theorem dJ0_coder_7d493_0 : decode cJ0_coder_7d493 0 = .ok (.getstatic 38, 3) := by decide +kernel
theorem dJ0_coder_7d493_3 : decode cJ0_coder_7d493 3 = .ok (.ifCond .eq 10, 3) := by decide +kernel
theorem dJ0_coder_7d493_6 : decode cJ0_coder_7d493 6 = .ok (.aload_n 0, 1) := by decide +kernel
theorem dJ0_coder_7d493_7 : decode cJ0_coder_7d493 7 = .ok (.getfield 15, 3) := by decide +kernel
theorem dJ0_coder_7d493_10 : decode cJ0_coder_7d493 10 = .ok (.goto 4, 3) := by decide +kernel
theorem dJ0_coder_7d493_13 : decode cJ0_coder_7d493 13 = .ok (.iconst 1, 1) := by decide +kernel
theorem dJ0_coder_7d493_14 : decode cJ0_coder_7d493 14 = .ok (.ireturn, 1) := by decide +kernel
theorem dJ0_isLatin1_aae02_0 : decode cJ0_isLatin1_aae02 0 = .ok (.getstatic 38, 3) := by decide +kernel
theorem dJ0_isLatin1_aae02_3 : decode cJ0_isLatin1_aae02 3 = .ok (.ifCond .eq 14, 3) := by decide +kernel
theorem dJ0_isLatin1_aae02_6 : decode cJ0_isLatin1_aae02 6 = .ok (.aload_n 0, 1) := by decide +kernel
theorem dJ0_isLatin1_aae02_7 : decode cJ0_isLatin1_aae02 7 = .ok (.getfield 15, 3) := by decide +kernel
theorem dJ0_isLatin1_aae02_10 : decode cJ0_isLatin1_aae02 10 = .ok (.ifCond .ne 7, 3) := by decide +kernel
theorem dJ0_isLatin1_aae02_13 : decode cJ0_isLatin1_aae02 13 = .ok (.iconst 1, 1) := by decide +kernel
theorem dJ0_isLatin1_aae02_14 : decode cJ0_isLatin1_aae02 14 = .ok (.goto 4, 3) := by decide +kernel
theorem dJ0_isLatin1_aae02_17 : decode cJ0_isLatin1_aae02 17 = .ok (.iconst 0, 1) := by decide +kernel
theorem dJ0_isLatin1_aae02_18 : decode cJ0_isLatin1_aae02 18 = .ok (.ireturn, 1) := by decide +kernel
theorem dJ0_checkIndex_df160_0 : decode cJ0_checkIndex_df160 0 = .ok (.iload_n 0, 1) := by decide +kernel
theorem dJ0_checkIndex_df160_1 : decode cJ0_checkIndex_df160 1 = .ok (.iload_n 1, 1) := by decide +kernel
theorem dJ0_checkIndex_df160_2 : decode cJ0_checkIndex_df160 2 = .ok (.getstatic 1053, 3) := by decide +kernel
theorem dJ0_checkIndex_df160_5 : decode cJ0_checkIndex_df160 5 = .ok (.invokestatic 1059, 3) := by decide +kernel
theorem dJ0_checkIndex_df160_8 : decode cJ0_checkIndex_df160 8 = .ok (.pop, 1) := by decide +kernel
theorem dJ0_checkIndex_df160_9 : decode cJ0_checkIndex_df160 9 = .ok (.return_, 1) := by decide +kernel
theorem dJ1_charAt_3b067_0 : decode cJ1_charAt_3b067 0 = .ok (.iload_n 1, 1) := by decide +kernel
theorem dJ1_charAt_3b067_1 : decode cJ1_charAt_3b067 1 = .ok (.aload_n 0, 1) := by decide +kernel
theorem dJ1_charAt_3b067_2 : decode cJ1_charAt_3b067 2 = .ok (.arraylength, 1) := by decide +kernel
theorem dJ1_charAt_3b067_3 : decode cJ1_charAt_3b067 3 = .ok (.invokestatic 9, 3) := by decide +kernel
theorem dJ1_charAt_3b067_6 : decode cJ1_charAt_3b067 6 = .ok (.aload_n 0, 1) := by decide +kernel
theorem dJ1_charAt_3b067_7 : decode cJ1_charAt_3b067 7 = .ok (.iload_n 1, 1) := by decide +kernel
theorem dJ1_charAt_3b067_8 : decode cJ1_charAt_3b067 8 = .ok (.baload, 1) := by decide +kernel
theorem dJ1_charAt_3b067_9 : decode cJ1_charAt_3b067 9 = .ok (.sipush 255, 3) := by decide +kernel
theorem dJ1_charAt_3b067_12 : decode cJ1_charAt_3b067 12 = .ok (.iand, 1) := by decide +kernel
theorem dJ1_charAt_3b067_13 : decode cJ1_charAt_3b067 13 = .ok (.i2c, 1) := by decide +kernel
theorem dJ1_charAt_3b067_14 : decode cJ1_charAt_3b067 14 = .ok (.ireturn, 1) := by decide +kernel
theorem dJ2_getChar_3b067_0 : decode cJ2_getChar_3b067 0 = .ok (.getstatic 44, 3) := by decide +kernel
theorem dJ2_getChar_3b067_3 : decode cJ2_getChar_3b067 3 = .ok (.ifCond .ne 25, 3) := by decide +kernel
theorem dJ2_getChar_3b067_6 : decode cJ2_getChar_3b067 6 = .ok (.iload_n 1, 1) := by decide +kernel
theorem dJ2_getChar_3b067_7 : decode cJ2_getChar_3b067 7 = .ok (.ifCond .lt 11, 3) := by decide +kernel
theorem dJ2_getChar_3b067_10 : decode cJ2_getChar_3b067 10 = .ok (.iload_n 1, 1) := by decide +kernel
theorem dJ2_getChar_3b067_11 : decode cJ2_getChar_3b067 11 = .ok (.aload_n 0, 1) := by decide +kernel
theorem dJ2_getChar_3b067_12 : decode cJ2_getChar_3b067 12 = .ok (.invokestatic 48, 3) := by decide +kernel
theorem dJ2_getChar_3b067_15 : decode cJ2_getChar_3b067 15 = .ok (.if_icmp .lt 13, 3) := by decide +kernel
theorem dJ2_getChar_3b067_18 : decode cJ2_getChar_3b067 18 = .ok (.new 52, 3) := by decide +kernel
theorem dJ2_getChar_3b067_21 : decode cJ2_getChar_3b067 21 = .ok (.dup, 1) := by decide +kernel
theorem dJ2_getChar_3b067_22 : decode cJ2_getChar_3b067 22 = .ok (.ldc 54, 2) := by decide +kernel
theorem dJ2_getChar_3b067_24 : decode cJ2_getChar_3b067 24 = .ok (.invokespecial 56, 3) := by decide +kernel
theorem dJ2_getChar_3b067_27 : decode cJ2_getChar_3b067 27 = .ok (.athrow, 1) := by decide +kernel
theorem dJ2_getChar_3b067_28 : decode cJ2_getChar_3b067 28 = .ok (.iload_n 1, 1) := by decide +kernel
theorem dJ2_getChar_3b067_29 : decode cJ2_getChar_3b067 29 = .ok (.iconst 1, 1) := by decide +kernel
theorem dJ2_getChar_3b067_30 : decode cJ2_getChar_3b067 30 = .ok (.ishl, 1) := by decide +kernel
theorem dJ2_getChar_3b067_31 : decode cJ2_getChar_3b067 31 = .ok (.istore_n 1, 1) := by decide +kernel
theorem dJ2_getChar_3b067_32 : decode cJ2_getChar_3b067 32 = .ok (.aload_n 0, 1) := by decide +kernel
theorem dJ2_getChar_3b067_33 : decode cJ2_getChar_3b067 33 = .ok (.iload_n 1, 1) := by decide +kernel
theorem dJ2_getChar_3b067_34 : decode cJ2_getChar_3b067 34 = .ok (.iinc 1 1, 3) := by decide +kernel
theorem dJ2_getChar_3b067_37 : decode cJ2_getChar_3b067 37 = .ok (.baload, 1) := by decide +kernel
theorem dJ2_getChar_3b067_38 : decode cJ2_getChar_3b067 38 = .ok (.sipush 255, 3) := by decide +kernel
theorem dJ2_getChar_3b067_41 : decode cJ2_getChar_3b067 41 = .ok (.iand, 1) := by decide +kernel
theorem dJ2_getChar_3b067_42 : decode cJ2_getChar_3b067 42 = .ok (.getstatic 59, 3) := by decide +kernel
theorem dJ2_getChar_3b067_45 : decode cJ2_getChar_3b067 45 = .ok (.ishl, 1) := by decide +kernel
theorem dJ2_getChar_3b067_46 : decode cJ2_getChar_3b067 46 = .ok (.aload_n 0, 1) := by decide +kernel
theorem dJ2_getChar_3b067_47 : decode cJ2_getChar_3b067 47 = .ok (.iload_n 1, 1) := by decide +kernel
theorem dJ2_getChar_3b067_48 : decode cJ2_getChar_3b067 48 = .ok (.baload, 1) := by decide +kernel
theorem dJ2_getChar_3b067_49 : decode cJ2_getChar_3b067 49 = .ok (.sipush 255, 3) := by decide +kernel
theorem dJ2_getChar_3b067_52 : decode cJ2_getChar_3b067 52 = .ok (.iand, 1) := by decide +kernel
theorem dJ2_getChar_3b067_53 : decode cJ2_getChar_3b067 53 = .ok (.getstatic 63, 3) := by decide +kernel
theorem dJ2_getChar_3b067_56 : decode cJ2_getChar_3b067 56 = .ok (.ishl, 1) := by decide +kernel
theorem dJ2_getChar_3b067_57 : decode cJ2_getChar_3b067 57 = .ok (.ior, 1) := by decide +kernel
theorem dJ2_getChar_3b067_58 : decode cJ2_getChar_3b067 58 = .ok (.i2c, 1) := by decide +kernel
theorem dJ2_getChar_3b067_59 : decode cJ2_getChar_3b067 59 = .ok (.ireturn, 1) := by decide +kernel
theorem dJ2_length_9d52b_0 : decode cJ2_length_9d52b 0 = .ok (.aload_n 0, 1) := by decide +kernel
theorem dJ2_length_9d52b_1 : decode cJ2_length_9d52b 1 = .ok (.arraylength, 1) := by decide +kernel
theorem dJ2_length_9d52b_2 : decode cJ2_length_9d52b 2 = .ok (.iconst 1, 1) := by decide +kernel
theorem dJ2_length_9d52b_3 : decode cJ2_length_9d52b 3 = .ok (.ishr, 1) := by decide +kernel
theorem dJ2_length_9d52b_4 : decode cJ2_length_9d52b 4 = .ok (.ireturn, 1) := by decide +kernel
theorem dJ2_charAt_3b067_0 : decode cJ2_charAt_3b067 0 = .ok (.iload_n 1, 1) := by decide +kernel
theorem dJ2_charAt_3b067_1 : decode cJ2_charAt_3b067 1 = .ok (.aload_n 0, 1) := by decide +kernel
theorem dJ2_charAt_3b067_2 : decode cJ2_charAt_3b067 2 = .ok (.invokestatic 67, 3) := by decide +kernel
theorem dJ2_charAt_3b067_5 : decode cJ2_charAt_3b067 5 = .ok (.aload_n 0, 1) := by decide +kernel
theorem dJ2_charAt_3b067_6 : decode cJ2_charAt_3b067 6 = .ok (.iload_n 1, 1) := by decide +kernel
theorem dJ2_charAt_3b067_7 : decode cJ2_charAt_3b067 7 = .ok (.invokestatic 71, 3) := by decide +kernel
theorem dJ2_charAt_3b067_10 : decode cJ2_charAt_3b067 10 = .ok (.ireturn, 1) := by decide +kernel
theorem dJ2_checkIndex_2214a_0 : decode cJ2_checkIndex_2214a 0 = .ok (.iload_n 0, 1) := by decide +kernel
theorem dJ2_checkIndex_2214a_1 : decode cJ2_checkIndex_2214a 1 = .ok (.aload_n 1, 1) := by decide +kernel
theorem dJ2_checkIndex_2214a_2 : decode cJ2_checkIndex_2214a 2 = .ok (.invokestatic 48, 3) := by decide +kernel
theorem dJ2_checkIndex_2214a_5 : decode cJ2_checkIndex_2214a 5 = .ok (.invokestatic 414, 3) := by decide +kernel
theorem dJ2_checkIndex_2214a_8 : decode cJ2_checkIndex_2214a 8 = .ok (.return_, 1) := by decide +kernel
theorem dJ7_fill_53178_0 : decode cJ7_fill_53178 0 = .ok (.iconst 0, 1) := by decide +kernel
theorem dJ7_fill_53178_1 : decode cJ7_fill_53178 1 = .ok (.istore_n 2, 1) := by decide +kernel
theorem dJ7_fill_53178_2 : decode cJ7_fill_53178 2 = .ok (.aload_n 0, 1) := by decide +kernel
theorem dJ7_fill_53178_3 : decode cJ7_fill_53178 3 = .ok (.arraylength, 1) := by decide +kernel
theorem dJ7_fill_53178_4 : decode cJ7_fill_53178 4 = .ok (.istore_n 3, 1) := by decide +kernel
theorem dJ7_fill_53178_5 : decode cJ7_fill_53178 5 = .ok (.iload_n 2, 1) := by decide +kernel
theorem dJ7_fill_53178_6 : decode cJ7_fill_53178 6 = .ok (.iload_n 3, 1) := by decide +kernel
theorem dJ7_fill_53178_7 : decode cJ7_fill_53178 7 = .ok (.if_icmp .ge 13, 3) := by decide +kernel
theorem dJ7_fill_53178_10 : decode cJ7_fill_53178 10 = .ok (.aload_n 0, 1) := by decide +kernel
theorem dJ7_fill_53178_11 : decode cJ7_fill_53178 11 = .ok (.iload_n 2, 1) := by decide +kernel
theorem dJ7_fill_53178_12 : decode cJ7_fill_53178 12 = .ok (.iload_n 1, 1) := by decide +kernel
theorem dJ7_fill_53178_13 : decode cJ7_fill_53178 13 = .ok (.iastore, 1) := by decide +kernel
theorem dJ7_fill_53178_14 : decode cJ7_fill_53178 14 = .ok (.iinc 2 1, 3) := by decide +kernel
theorem dJ7_fill_53178_17 : decode cJ7_fill_53178 17 = .ok (.goto (-12), 3) := by decide +kernel
theorem dJ7_fill_53178_20 : decode cJ7_fill_53178 20 = .ok (.return_, 1) := by decide +kernel
theorem dJ3_checkIndex_8e157_0 : decode cJ3_checkIndex_8e157 0 = .ok (.iload_n 0, 1) := by decide +kernel
theorem dJ3_checkIndex_8e157_1 : decode cJ3_checkIndex_8e157 1 = .ok (.ifCond .lt 8, 3) := by decide +kernel
theorem dJ3_checkIndex_8e157_4 : decode cJ3_checkIndex_8e157 4 = .ok (.iload_n 0, 1) := by decide +kernel
theorem dJ3_checkIndex_8e157_5 : decode cJ3_checkIndex_8e157 5 = .ok (.iload_n 1, 1) := by decide +kernel
theorem dJ3_checkIndex_8e157_6 : decode cJ3_checkIndex_8e157 6 = .ok (.if_icmp .lt 10, 3) := by decide +kernel
theorem dJ3_checkIndex_8e157_9 : decode cJ3_checkIndex_8e157 9 = .ok (.aload_n 2, 1) := by decide +kernel
theorem dJ3_checkIndex_8e157_10 : decode cJ3_checkIndex_8e157 10 = .ok (.iload_n 0, 1) := by decide +kernel
theorem dJ3_checkIndex_8e157_11 : decode cJ3_checkIndex_8e157 11 = .ok (.iload_n 1, 1) := by decide +kernel
theorem dJ3_checkIndex_8e157_12 : decode cJ3_checkIndex_8e157 12 = .ok (.invokestatic 95, 3) := by decide +kernel
theorem dJ3_checkIndex_8e157_15 : decode cJ3_checkIndex_8e157 15 = .ok (.athrow, 1) := by decide +kernel
theorem dJ3_checkIndex_8e157_16 : decode cJ3_checkIndex_8e157 16 = .ok (.iload_n 0, 1) := by decide +kernel
theorem dJ3_checkIndex_8e157_17 : decode cJ3_checkIndex_8e157 17 = .ok (.ireturn, 1) := by decide +kernel
theorem dL_law_0 : decode cL_law 0 = .ok (.new 7, 3) := by decide +kernel
theorem dL_law_3 : decode cL_law 3 = .ok (.dup, 1) := by decide +kernel
theorem dL_law_4 : decode cL_law 4 = .ok (.invokespecial 9, 3) := by decide +kernel
theorem dL_law_7 : decode cL_law 7 = .ok (.astore_n 1, 1) := by decide +kernel
theorem dL_law_8 : decode cL_law 8 = .ok (.new 10, 3) := by decide +kernel
theorem dL_law_11 : decode cL_law 11 = .ok (.dup, 1) := by decide +kernel
theorem dL_law_12 : decode cL_law 12 = .ok (.invokespecial 12, 3) := by decide +kernel
theorem dL_law_15 : decode cL_law 15 = .ok (.astore_n 2, 1) := by decide +kernel
theorem dL_law_16 : decode cL_law 16 = .ok (.iconst 0, 1) := by decide +kernel
theorem dL_law_17 : decode cL_law 17 = .ok (.istore_n 3, 1) := by decide +kernel
theorem dL_law_18 : decode cL_law 18 = .ok (.iload_n 3, 1) := by decide +kernel
theorem dL_law_19 : decode cL_law 19 = .ok (.aload_n 0, 1) := by decide +kernel
theorem dL_law_20 : decode cL_law 20 = .ok (.arraylength, 1) := by decide +kernel
theorem dL_law_21 : decode cL_law 21 = .ok (.iconst 5, 1) := by decide +kernel
theorem dL_law_22 : decode cL_law 22 = .ok (.isub, 1) := by decide +kernel
theorem dL_law_23 : decode cL_law 23 = .ok (.if_icmp .gt 1082, 3) := by decide +kernel
theorem dL_law_26 : decode cL_law 26 = .ok (.aload_n 0, 1) := by decide +kernel
theorem dL_law_27 : decode cL_law 27 = .ok (.iload_n 3, 1) := by decide +kernel
theorem dL_law_28 : decode cL_law 28 = .ok (.iaload, 1) := by decide +kernel
theorem dL_law_29 : decode cL_law 29 = .ok (.bipush 63, 2) := by decide +kernel
theorem dL_law_31 : decode cL_law 31 = .ok (.iand, 1) := by decide +kernel
theorem dL_law_32 : decode cL_law 32 = .ok (.tableswitch 1067 0 36 #[164, 207, 230, 273, 296, 309, 322, 355, 378, 411, 424, 457, 490, 523, 536, 559, 582, 595, 618, 631, 644, 677, 720, 773, 796, 809, 822, 845, 868, 891, 904, 937, 961, 984, 1007, 1030, 1053], 164) := by decide +kernel
theorem dL_law_196 : decode cL_law 196 = .ok (.aload_n 1, 1) := by decide +kernel
theorem dL_law_197 : decode cL_law 197 = .ok (.aload_n 0, 1) := by decide +kernel
theorem dL_law_198 : decode cL_law 198 = .ok (.iload_n 3, 1) := by decide +kernel
theorem dL_law_199 : decode cL_law 199 = .ok (.iconst 1, 1) := by decide +kernel
theorem dL_law_200 : decode cL_law 200 = .ok (.iadd, 1) := by decide +kernel
theorem dL_law_201 : decode cL_law 201 = .ok (.iaload, 1) := by decide +kernel
theorem dL_law_202 : decode cL_law 202 = .ok (.aload_n 0, 1) := by decide +kernel
theorem dL_law_203 : decode cL_law 203 = .ok (.iload_n 3, 1) := by decide +kernel
theorem dL_law_204 : decode cL_law 204 = .ok (.iconst 2, 1) := by decide +kernel
theorem dL_law_205 : decode cL_law 205 = .ok (.iadd, 1) := by decide +kernel
theorem dL_law_206 : decode cL_law 206 = .ok (.iaload, 1) := by decide +kernel
theorem dL_law_207 : decode cL_law 207 = .ok (.aload_n 0, 1) := by decide +kernel
theorem dL_law_208 : decode cL_law 208 = .ok (.iload_n 3, 1) := by decide +kernel
theorem dL_law_209 : decode cL_law 209 = .ok (.iconst 3, 1) := by decide +kernel
theorem dL_law_210 : decode cL_law 210 = .ok (.iadd, 1) := by decide +kernel
theorem dL_law_211 : decode cL_law 211 = .ok (.iaload, 1) := by decide +kernel
theorem dL_law_212 : decode cL_law 212 = .ok (.invokevirtual 13, 3) := by decide +kernel
theorem dL_law_215 : decode cL_law 215 = .ok (.aload_n 2, 1) := by decide +kernel
theorem dL_law_216 : decode cL_law 216 = .ok (.aload_n 0, 1) := by decide +kernel
theorem dL_law_217 : decode cL_law 217 = .ok (.iload_n 3, 1) := by decide +kernel
theorem dL_law_218 : decode cL_law 218 = .ok (.iconst 1, 1) := by decide +kernel
theorem dL_law_219 : decode cL_law 219 = .ok (.iadd, 1) := by decide +kernel
theorem dL_law_220 : decode cL_law 220 = .ok (.iaload, 1) := by decide +kernel
theorem dL_law_221 : decode cL_law 221 = .ok (.aload_n 0, 1) := by decide +kernel
theorem dL_law_222 : decode cL_law 222 = .ok (.iload_n 3, 1) := by decide +kernel
theorem dL_law_223 : decode cL_law 223 = .ok (.iconst 2, 1) := by decide +kernel
theorem dL_law_224 : decode cL_law 224 = .ok (.iadd, 1) := by decide +kernel
theorem dL_law_225 : decode cL_law 225 = .ok (.iaload, 1) := by decide +kernel
theorem dL_law_226 : decode cL_law 226 = .ok (.aload_n 0, 1) := by decide +kernel
theorem dL_law_227 : decode cL_law 227 = .ok (.iload_n 3, 1) := by decide +kernel
theorem dL_law_228 : decode cL_law 228 = .ok (.iconst 3, 1) := by decide +kernel
theorem dL_law_229 : decode cL_law 229 = .ok (.iadd, 1) := by decide +kernel
theorem dL_law_230 : decode cL_law 230 = .ok (.iaload, 1) := by decide +kernel
theorem dL_law_231 : decode cL_law 231 = .ok (.invokevirtual 17, 3) := by decide +kernel
theorem dL_law_234 : decode cL_law 234 = .ok (.if_icmp .eq 865, 3) := by decide +kernel
theorem dL_law_237 : decode cL_law 237 = .ok (.iconst 0, 1) := by decide +kernel
theorem dL_law_238 : decode cL_law 238 = .ok (.ireturn, 1) := by decide +kernel
theorem dL_law_239 : decode cL_law 239 = .ok (.aload_n 1, 1) := by decide +kernel
theorem dL_law_240 : decode cL_law 240 = .ok (.aload_n 0, 1) := by decide +kernel
theorem dL_law_241 : decode cL_law 241 = .ok (.iload_n 3, 1) := by decide +kernel
theorem dL_law_242 : decode cL_law 242 = .ok (.iconst 1, 1) := by decide +kernel
theorem dL_law_243 : decode cL_law 243 = .ok (.iadd, 1) := by decide +kernel
theorem dL_law_244 : decode cL_law 244 = .ok (.iaload, 1) := by decide +kernel
theorem dL_law_245 : decode cL_law 245 = .ok (.invokevirtual 18, 3) := by decide +kernel
theorem dL_law_248 : decode cL_law 248 = .ok (.aload_n 2, 1) := by decide +kernel
theorem dL_law_249 : decode cL_law 249 = .ok (.aload_n 0, 1) := by decide +kernel
theorem dL_law_250 : decode cL_law 250 = .ok (.iload_n 3, 1) := by decide +kernel
theorem dL_law_251 : decode cL_law 251 = .ok (.iconst 1, 1) := by decide +kernel
theorem dL_law_252 : decode cL_law 252 = .ok (.iadd, 1) := by decide +kernel
theorem dL_law_253 : decode cL_law 253 = .ok (.iaload, 1) := by decide +kernel
theorem dL_law_254 : decode cL_law 254 = .ok (.invokevirtual 22, 3) := by decide +kernel
theorem dL_law_257 : decode cL_law 257 = .ok (.if_icmp .eq 842, 3) := by decide +kernel
theorem dL_law_260 : decode cL_law 260 = .ok (.iconst 0, 1) := by decide +kernel
theorem dL_law_261 : decode cL_law 261 = .ok (.ireturn, 1) := by decide +kernel
theorem dL_law_262 : decode cL_law 262 = .ok (.aload_n 1, 1) := by decide +kernel
theorem dL_law_263 : decode cL_law 263 = .ok (.aload_n 0, 1) := by decide +kernel
theorem dL_law_264 : decode cL_law 264 = .ok (.iload_n 3, 1) := by decide +kernel
theorem dL_law_265 : decode cL_law 265 = .ok (.iconst 1, 1) := by decide +kernel
theorem dL_law_266 : decode cL_law 266 = .ok (.iadd, 1) := by decide +kernel
theorem dL_law_267 : decode cL_law 267 = .ok (.iaload, 1) := by decide +kernel
theorem dL_law_268 : decode cL_law 268 = .ok (.aload_n 0, 1) := by decide +kernel
theorem dL_law_269 : decode cL_law 269 = .ok (.iload_n 3, 1) := by decide +kernel
theorem dL_law_270 : decode cL_law 270 = .ok (.iconst 2, 1) := by decide +kernel
theorem dL_law_271 : decode cL_law 271 = .ok (.iadd, 1) := by decide +kernel
theorem dL_law_272 : decode cL_law 272 = .ok (.iaload, 1) := by decide +kernel
theorem dL_law_273 : decode cL_law 273 = .ok (.aload_n 0, 1) := by decide +kernel
theorem dL_law_274 : decode cL_law 274 = .ok (.iload_n 3, 1) := by decide +kernel
theorem dL_law_275 : decode cL_law 275 = .ok (.iconst 3, 1) := by decide +kernel
theorem dL_law_276 : decode cL_law 276 = .ok (.iadd, 1) := by decide +kernel
theorem dL_law_277 : decode cL_law 277 = .ok (.iaload, 1) := by decide +kernel
theorem dL_law_278 : decode cL_law 278 = .ok (.invokevirtual 23, 3) := by decide +kernel
theorem dL_law_281 : decode cL_law 281 = .ok (.aload_n 2, 1) := by decide +kernel
theorem dL_law_282 : decode cL_law 282 = .ok (.aload_n 0, 1) := by decide +kernel
theorem dL_law_283 : decode cL_law 283 = .ok (.iload_n 3, 1) := by decide +kernel
theorem dL_law_284 : decode cL_law 284 = .ok (.iconst 1, 1) := by decide +kernel
theorem dL_law_285 : decode cL_law 285 = .ok (.iadd, 1) := by decide +kernel
theorem dL_law_286 : decode cL_law 286 = .ok (.iaload, 1) := by decide +kernel
theorem dL_law_287 : decode cL_law 287 = .ok (.aload_n 0, 1) := by decide +kernel
theorem dL_law_288 : decode cL_law 288 = .ok (.iload_n 3, 1) := by decide +kernel
theorem dL_law_289 : decode cL_law 289 = .ok (.iconst 2, 1) := by decide +kernel
theorem dL_law_290 : decode cL_law 290 = .ok (.iadd, 1) := by decide +kernel
theorem dL_law_291 : decode cL_law 291 = .ok (.iaload, 1) := by decide +kernel
theorem dL_law_292 : decode cL_law 292 = .ok (.aload_n 0, 1) := by decide +kernel
theorem dL_law_293 : decode cL_law 293 = .ok (.iload_n 3, 1) := by decide +kernel
theorem dL_law_294 : decode cL_law 294 = .ok (.iconst 3, 1) := by decide +kernel
theorem dL_law_295 : decode cL_law 295 = .ok (.iadd, 1) := by decide +kernel
theorem dL_law_296 : decode cL_law 296 = .ok (.iaload, 1) := by decide +kernel
theorem dL_law_297 : decode cL_law 297 = .ok (.invokevirtual 26, 3) := by decide +kernel
theorem dL_law_300 : decode cL_law 300 = .ok (.if_icmp .eq 799, 3) := by decide +kernel
theorem dL_law_303 : decode cL_law 303 = .ok (.iconst 0, 1) := by decide +kernel
theorem dL_law_304 : decode cL_law 304 = .ok (.ireturn, 1) := by decide +kernel
theorem dL_law_305 : decode cL_law 305 = .ok (.aload_n 1, 1) := by decide +kernel
theorem dL_law_306 : decode cL_law 306 = .ok (.aload_n 0, 1) := by decide +kernel
theorem dL_law_307 : decode cL_law 307 = .ok (.iload_n 3, 1) := by decide +kernel
theorem dL_law_308 : decode cL_law 308 = .ok (.iconst 1, 1) := by decide +kernel
theorem dL_law_309 : decode cL_law 309 = .ok (.iadd, 1) := by decide +kernel
theorem dL_law_310 : decode cL_law 310 = .ok (.iaload, 1) := by decide +kernel
theorem dL_law_311 : decode cL_law 311 = .ok (.invokevirtual 27, 3) := by decide +kernel
theorem dL_law_314 : decode cL_law 314 = .ok (.aload_n 2, 1) := by decide +kernel
theorem dL_law_315 : decode cL_law 315 = .ok (.aload_n 0, 1) := by decide +kernel
theorem dL_law_316 : decode cL_law 316 = .ok (.iload_n 3, 1) := by decide +kernel
theorem dL_law_317 : decode cL_law 317 = .ok (.iconst 1, 1) := by decide +kernel
theorem dL_law_318 : decode cL_law 318 = .ok (.iadd, 1) := by decide +kernel
theorem dL_law_319 : decode cL_law 319 = .ok (.iaload, 1) := by decide +kernel
theorem dL_law_320 : decode cL_law 320 = .ok (.invokevirtual 30, 3) := by decide +kernel
theorem dL_law_323 : decode cL_law 323 = .ok (.if_icmp .eq 776, 3) := by decide +kernel
theorem dL_law_326 : decode cL_law 326 = .ok (.iconst 0, 1) := by decide +kernel
theorem dL_law_327 : decode cL_law 327 = .ok (.ireturn, 1) := by decide +kernel
theorem dL_law_328 : decode cL_law 328 = .ok (.aload_n 1, 1) := by decide +kernel
theorem dL_law_329 : decode cL_law 329 = .ok (.invokevirtual 31, 3) := by decide +kernel
theorem dL_law_332 : decode cL_law 332 = .ok (.aload_n 2, 1) := by decide +kernel
theorem dL_law_333 : decode cL_law 333 = .ok (.invokevirtual 35, 3) := by decide +kernel
theorem dL_law_336 : decode cL_law 336 = .ok (.if_icmp .eq 763, 3) := by decide +kernel
theorem dL_law_339 : decode cL_law 339 = .ok (.iconst 0, 1) := by decide +kernel
theorem dL_law_340 : decode cL_law 340 = .ok (.ireturn, 1) := by decide +kernel
theorem dL_law_341 : decode cL_law 341 = .ok (.aload_n 1, 1) := by decide +kernel
theorem dL_law_342 : decode cL_law 342 = .ok (.invokevirtual 36, 3) := by decide +kernel
theorem dL_law_345 : decode cL_law 345 = .ok (.aload_n 2, 1) := by decide +kernel
theorem dL_law_346 : decode cL_law 346 = .ok (.invokevirtual 39, 3) := by decide +kernel
theorem dL_law_349 : decode cL_law 349 = .ok (.if_icmp .eq 750, 3) := by decide +kernel
theorem dL_law_352 : decode cL_law 352 = .ok (.iconst 0, 1) := by decide +kernel
theorem dL_law_353 : decode cL_law 353 = .ok (.ireturn, 1) := by decide +kernel
theorem dL_law_354 : decode cL_law 354 = .ok (.aload_n 1, 1) := by decide +kernel
theorem dL_law_355 : decode cL_law 355 = .ok (.aload_n 0, 1) := by decide +kernel
theorem dL_law_356 : decode cL_law 356 = .ok (.iload_n 3, 1) := by decide +kernel
theorem dL_law_357 : decode cL_law 357 = .ok (.iconst 1, 1) := by decide +kernel
theorem dL_law_358 : decode cL_law 358 = .ok (.iadd, 1) := by decide +kernel
theorem dL_law_359 : decode cL_law 359 = .ok (.iaload, 1) := by decide +kernel
theorem dL_law_360 : decode cL_law 360 = .ok (.aload_n 0, 1) := by decide +kernel
theorem dL_law_361 : decode cL_law 361 = .ok (.iload_n 3, 1) := by decide +kernel
theorem dL_law_362 : decode cL_law 362 = .ok (.iconst 2, 1) := by decide +kernel
theorem dL_law_363 : decode cL_law 363 = .ok (.iadd, 1) := by decide +kernel
theorem dL_law_364 : decode cL_law 364 = .ok (.iaload, 1) := by decide +kernel
theorem dL_law_365 : decode cL_law 365 = .ok (.invokevirtual 40, 3) := by decide +kernel
theorem dL_law_368 : decode cL_law 368 = .ok (.aload_n 2, 1) := by decide +kernel
theorem dL_law_369 : decode cL_law 369 = .ok (.aload_n 0, 1) := by decide +kernel
theorem dL_law_370 : decode cL_law 370 = .ok (.iload_n 3, 1) := by decide +kernel
theorem dL_law_371 : decode cL_law 371 = .ok (.iconst 1, 1) := by decide +kernel
theorem dL_law_372 : decode cL_law 372 = .ok (.iadd, 1) := by decide +kernel
theorem dL_law_373 : decode cL_law 373 = .ok (.iaload, 1) := by decide +kernel
theorem dL_law_374 : decode cL_law 374 = .ok (.aload_n 0, 1) := by decide +kernel
theorem dL_law_375 : decode cL_law 375 = .ok (.iload_n 3, 1) := by decide +kernel
theorem dL_law_376 : decode cL_law 376 = .ok (.iconst 2, 1) := by decide +kernel
theorem dL_law_377 : decode cL_law 377 = .ok (.iadd, 1) := by decide +kernel
theorem dL_law_378 : decode cL_law 378 = .ok (.iaload, 1) := by decide +kernel
theorem dL_law_379 : decode cL_law 379 = .ok (.invokevirtual 44, 3) := by decide +kernel
theorem dL_law_382 : decode cL_law 382 = .ok (.if_icmp .eq 717, 3) := by decide +kernel
theorem dL_law_385 : decode cL_law 385 = .ok (.iconst 0, 1) := by decide +kernel
theorem dL_law_386 : decode cL_law 386 = .ok (.ireturn, 1) := by decide +kernel
theorem dL_law_387 : decode cL_law 387 = .ok (.aload_n 1, 1) := by decide +kernel
theorem dL_law_388 : decode cL_law 388 = .ok (.aload_n 0, 1) := by decide +kernel
theorem dL_law_389 : decode cL_law 389 = .ok (.iload_n 3, 1) := by decide +kernel
theorem dL_law_390 : decode cL_law 390 = .ok (.iconst 1, 1) := by decide +kernel
theorem dL_law_391 : decode cL_law 391 = .ok (.iadd, 1) := by decide +kernel
theorem dL_law_392 : decode cL_law 392 = .ok (.iaload, 1) := by decide +kernel
theorem dL_law_393 : decode cL_law 393 = .ok (.invokevirtual 45, 3) := by decide +kernel
theorem dL_law_396 : decode cL_law 396 = .ok (.aload_n 2, 1) := by decide +kernel
theorem dL_law_397 : decode cL_law 397 = .ok (.aload_n 0, 1) := by decide +kernel
theorem dL_law_398 : decode cL_law 398 = .ok (.iload_n 3, 1) := by decide +kernel
theorem dL_law_399 : decode cL_law 399 = .ok (.iconst 1, 1) := by decide +kernel
theorem dL_law_400 : decode cL_law 400 = .ok (.iadd, 1) := by decide +kernel
theorem dL_law_401 : decode cL_law 401 = .ok (.iaload, 1) := by decide +kernel
theorem dL_law_402 : decode cL_law 402 = .ok (.invokevirtual 48, 3) := by decide +kernel
theorem dL_law_405 : decode cL_law 405 = .ok (.if_icmp .eq 694, 3) := by decide +kernel
theorem dL_law_408 : decode cL_law 408 = .ok (.iconst 0, 1) := by decide +kernel
theorem dL_law_409 : decode cL_law 409 = .ok (.ireturn, 1) := by decide +kernel
theorem dL_law_410 : decode cL_law 410 = .ok (.aload_n 1, 1) := by decide +kernel
theorem dL_law_411 : decode cL_law 411 = .ok (.aload_n 0, 1) := by decide +kernel
theorem dL_law_412 : decode cL_law 412 = .ok (.iload_n 3, 1) := by decide +kernel
theorem dL_law_413 : decode cL_law 413 = .ok (.iconst 1, 1) := by decide +kernel
theorem dL_law_414 : decode cL_law 414 = .ok (.iadd, 1) := by decide +kernel
theorem dL_law_415 : decode cL_law 415 = .ok (.iaload, 1) := by decide +kernel
theorem dL_law_416 : decode cL_law 416 = .ok (.aload_n 0, 1) := by decide +kernel
theorem dL_law_417 : decode cL_law 417 = .ok (.iload_n 3, 1) := by decide +kernel
theorem dL_law_418 : decode cL_law 418 = .ok (.iconst 2, 1) := by decide +kernel
theorem dL_law_419 : decode cL_law 419 = .ok (.iadd, 1) := by decide +kernel
theorem dL_law_420 : decode cL_law 420 = .ok (.iaload, 1) := by decide +kernel
theorem dL_law_421 : decode cL_law 421 = .ok (.invokevirtual 49, 3) := by decide +kernel
theorem dL_law_424 : decode cL_law 424 = .ok (.aload_n 2, 1) := by decide +kernel
theorem dL_law_425 : decode cL_law 425 = .ok (.aload_n 0, 1) := by decide +kernel
theorem dL_law_426 : decode cL_law 426 = .ok (.iload_n 3, 1) := by decide +kernel
theorem dL_law_427 : decode cL_law 427 = .ok (.iconst 1, 1) := by decide +kernel
theorem dL_law_428 : decode cL_law 428 = .ok (.iadd, 1) := by decide +kernel
theorem dL_law_429 : decode cL_law 429 = .ok (.iaload, 1) := by decide +kernel
theorem dL_law_430 : decode cL_law 430 = .ok (.aload_n 0, 1) := by decide +kernel
theorem dL_law_431 : decode cL_law 431 = .ok (.iload_n 3, 1) := by decide +kernel
theorem dL_law_432 : decode cL_law 432 = .ok (.iconst 2, 1) := by decide +kernel
theorem dL_law_433 : decode cL_law 433 = .ok (.iadd, 1) := by decide +kernel
theorem dL_law_434 : decode cL_law 434 = .ok (.iaload, 1) := by decide +kernel
theorem dL_law_435 : decode cL_law 435 = .ok (.invokevirtual 52, 3) := by decide +kernel
theorem dL_law_438 : decode cL_law 438 = .ok (.if_icmp .eq 661, 3) := by decide +kernel
theorem dL_law_441 : decode cL_law 441 = .ok (.iconst 0, 1) := by decide +kernel
theorem dL_law_442 : decode cL_law 442 = .ok (.ireturn, 1) := by decide +kernel
theorem dL_law_443 : decode cL_law 443 = .ok (.aload_n 1, 1) := by decide +kernel
theorem dL_law_444 : decode cL_law 444 = .ok (.invokevirtual 53, 3) := by decide +kernel
theorem dL_law_447 : decode cL_law 447 = .ok (.aload_n 2, 1) := by decide +kernel
theorem dL_law_448 : decode cL_law 448 = .ok (.invokevirtual 56, 3) := by decide +kernel
theorem dL_law_451 : decode cL_law 451 = .ok (.if_icmp .eq 648, 3) := by decide +kernel
theorem dL_law_454 : decode cL_law 454 = .ok (.iconst 0, 1) := by decide +kernel
theorem dL_law_455 : decode cL_law 455 = .ok (.ireturn, 1) := by decide +kernel
theorem dL_law_456 : decode cL_law 456 = .ok (.aload_n 1, 1) := by decide +kernel
theorem dL_law_457 : decode cL_law 457 = .ok (.aload_n 0, 1) := by decide +kernel
theorem dL_law_458 : decode cL_law 458 = .ok (.iload_n 3, 1) := by decide +kernel
theorem dL_law_459 : decode cL_law 459 = .ok (.iconst 1, 1) := by decide +kernel
theorem dL_law_460 : decode cL_law 460 = .ok (.iadd, 1) := by decide +kernel
theorem dL_law_461 : decode cL_law 461 = .ok (.iaload, 1) := by decide +kernel
theorem dL_law_462 : decode cL_law 462 = .ok (.aload_n 0, 1) := by decide +kernel
theorem dL_law_463 : decode cL_law 463 = .ok (.iload_n 3, 1) := by decide +kernel
theorem dL_law_464 : decode cL_law 464 = .ok (.iconst 2, 1) := by decide +kernel
theorem dL_law_465 : decode cL_law 465 = .ok (.iadd, 1) := by decide +kernel
theorem dL_law_466 : decode cL_law 466 = .ok (.iaload, 1) := by decide +kernel
theorem dL_law_467 : decode cL_law 467 = .ok (.invokevirtual 57, 3) := by decide +kernel
theorem dL_law_470 : decode cL_law 470 = .ok (.aload_n 2, 1) := by decide +kernel
theorem dL_law_471 : decode cL_law 471 = .ok (.aload_n 0, 1) := by decide +kernel
theorem dL_law_472 : decode cL_law 472 = .ok (.iload_n 3, 1) := by decide +kernel
theorem dL_law_473 : decode cL_law 473 = .ok (.iconst 1, 1) := by decide +kernel
theorem dL_law_474 : decode cL_law 474 = .ok (.iadd, 1) := by decide +kernel
theorem dL_law_475 : decode cL_law 475 = .ok (.iaload, 1) := by decide +kernel
theorem dL_law_476 : decode cL_law 476 = .ok (.aload_n 0, 1) := by decide +kernel
theorem dL_law_477 : decode cL_law 477 = .ok (.iload_n 3, 1) := by decide +kernel
theorem dL_law_478 : decode cL_law 478 = .ok (.iconst 2, 1) := by decide +kernel
theorem dL_law_479 : decode cL_law 479 = .ok (.iadd, 1) := by decide +kernel
theorem dL_law_480 : decode cL_law 480 = .ok (.iaload, 1) := by decide +kernel
theorem dL_law_481 : decode cL_law 481 = .ok (.invokevirtual 60, 3) := by decide +kernel
theorem dL_law_484 : decode cL_law 484 = .ok (.if_icmp .eq 615, 3) := by decide +kernel
theorem dL_law_487 : decode cL_law 487 = .ok (.iconst 0, 1) := by decide +kernel
theorem dL_law_488 : decode cL_law 488 = .ok (.ireturn, 1) := by decide +kernel
theorem dL_law_489 : decode cL_law 489 = .ok (.aload_n 1, 1) := by decide +kernel
theorem dL_law_490 : decode cL_law 490 = .ok (.aload_n 0, 1) := by decide +kernel
theorem dL_law_491 : decode cL_law 491 = .ok (.iload_n 3, 1) := by decide +kernel
theorem dL_law_492 : decode cL_law 492 = .ok (.iconst 1, 1) := by decide +kernel
theorem dL_law_493 : decode cL_law 493 = .ok (.iadd, 1) := by decide +kernel
theorem dL_law_494 : decode cL_law 494 = .ok (.iaload, 1) := by decide +kernel
theorem dL_law_495 : decode cL_law 495 = .ok (.aload_n 0, 1) := by decide +kernel
theorem dL_law_496 : decode cL_law 496 = .ok (.iload_n 3, 1) := by decide +kernel
theorem dL_law_497 : decode cL_law 497 = .ok (.iconst 2, 1) := by decide +kernel
theorem dL_law_498 : decode cL_law 498 = .ok (.iadd, 1) := by decide +kernel
theorem dL_law_499 : decode cL_law 499 = .ok (.iaload, 1) := by decide +kernel
theorem dL_law_500 : decode cL_law 500 = .ok (.invokevirtual 61, 3) := by decide +kernel
theorem dL_law_503 : decode cL_law 503 = .ok (.aload_n 2, 1) := by decide +kernel
theorem dL_law_504 : decode cL_law 504 = .ok (.aload_n 0, 1) := by decide +kernel
theorem dL_law_505 : decode cL_law 505 = .ok (.iload_n 3, 1) := by decide +kernel
theorem dL_law_506 : decode cL_law 506 = .ok (.iconst 1, 1) := by decide +kernel
theorem dL_law_507 : decode cL_law 507 = .ok (.iadd, 1) := by decide +kernel
theorem dL_law_508 : decode cL_law 508 = .ok (.iaload, 1) := by decide +kernel
theorem dL_law_509 : decode cL_law 509 = .ok (.aload_n 0, 1) := by decide +kernel
theorem dL_law_510 : decode cL_law 510 = .ok (.iload_n 3, 1) := by decide +kernel
theorem dL_law_511 : decode cL_law 511 = .ok (.iconst 2, 1) := by decide +kernel
theorem dL_law_512 : decode cL_law 512 = .ok (.iadd, 1) := by decide +kernel
theorem dL_law_513 : decode cL_law 513 = .ok (.iaload, 1) := by decide +kernel
theorem dL_law_514 : decode cL_law 514 = .ok (.invokevirtual 64, 3) := by decide +kernel
theorem dL_law_517 : decode cL_law 517 = .ok (.if_icmp .eq 582, 3) := by decide +kernel
theorem dL_law_520 : decode cL_law 520 = .ok (.iconst 0, 1) := by decide +kernel
theorem dL_law_521 : decode cL_law 521 = .ok (.ireturn, 1) := by decide +kernel
theorem dL_law_522 : decode cL_law 522 = .ok (.aload_n 1, 1) := by decide +kernel
theorem dL_law_523 : decode cL_law 523 = .ok (.aload_n 0, 1) := by decide +kernel
theorem dL_law_524 : decode cL_law 524 = .ok (.iload_n 3, 1) := by decide +kernel
theorem dL_law_525 : decode cL_law 525 = .ok (.iconst 1, 1) := by decide +kernel
theorem dL_law_526 : decode cL_law 526 = .ok (.iadd, 1) := by decide +kernel
theorem dL_law_527 : decode cL_law 527 = .ok (.iaload, 1) := by decide +kernel
theorem dL_law_528 : decode cL_law 528 = .ok (.aload_n 0, 1) := by decide +kernel
theorem dL_law_529 : decode cL_law 529 = .ok (.iload_n 3, 1) := by decide +kernel
theorem dL_law_530 : decode cL_law 530 = .ok (.iconst 2, 1) := by decide +kernel
theorem dL_law_531 : decode cL_law 531 = .ok (.iadd, 1) := by decide +kernel
theorem dL_law_532 : decode cL_law 532 = .ok (.iaload, 1) := by decide +kernel
theorem dL_law_533 : decode cL_law 533 = .ok (.invokevirtual 65, 3) := by decide +kernel
theorem dL_law_536 : decode cL_law 536 = .ok (.aload_n 2, 1) := by decide +kernel
theorem dL_law_537 : decode cL_law 537 = .ok (.aload_n 0, 1) := by decide +kernel
theorem dL_law_538 : decode cL_law 538 = .ok (.iload_n 3, 1) := by decide +kernel
theorem dL_law_539 : decode cL_law 539 = .ok (.iconst 1, 1) := by decide +kernel
theorem dL_law_540 : decode cL_law 540 = .ok (.iadd, 1) := by decide +kernel
theorem dL_law_541 : decode cL_law 541 = .ok (.iaload, 1) := by decide +kernel
theorem dL_law_542 : decode cL_law 542 = .ok (.aload_n 0, 1) := by decide +kernel
theorem dL_law_543 : decode cL_law 543 = .ok (.iload_n 3, 1) := by decide +kernel
theorem dL_law_544 : decode cL_law 544 = .ok (.iconst 2, 1) := by decide +kernel
theorem dL_law_545 : decode cL_law 545 = .ok (.iadd, 1) := by decide +kernel
theorem dL_law_546 : decode cL_law 546 = .ok (.iaload, 1) := by decide +kernel
theorem dL_law_547 : decode cL_law 547 = .ok (.invokevirtual 68, 3) := by decide +kernel
theorem dL_law_550 : decode cL_law 550 = .ok (.if_icmp .eq 549, 3) := by decide +kernel
theorem dL_law_553 : decode cL_law 553 = .ok (.iconst 0, 1) := by decide +kernel
theorem dL_law_554 : decode cL_law 554 = .ok (.ireturn, 1) := by decide +kernel
theorem dL_law_555 : decode cL_law 555 = .ok (.aload_n 1, 1) := by decide +kernel
theorem dL_law_556 : decode cL_law 556 = .ok (.invokevirtual 69, 3) := by decide +kernel
theorem dL_law_559 : decode cL_law 559 = .ok (.aload_n 2, 1) := by decide +kernel
theorem dL_law_560 : decode cL_law 560 = .ok (.invokevirtual 72, 3) := by decide +kernel
theorem dL_law_563 : decode cL_law 563 = .ok (.if_icmp .eq 536, 3) := by decide +kernel
theorem dL_law_566 : decode cL_law 566 = .ok (.iconst 0, 1) := by decide +kernel
theorem dL_law_567 : decode cL_law 567 = .ok (.ireturn, 1) := by decide +kernel
theorem dL_law_568 : decode cL_law 568 = .ok (.aload_n 1, 1) := by decide +kernel
theorem dL_law_569 : decode cL_law 569 = .ok (.aload_n 0, 1) := by decide +kernel
theorem dL_law_570 : decode cL_law 570 = .ok (.iload_n 3, 1) := by decide +kernel
theorem dL_law_571 : decode cL_law 571 = .ok (.iconst 1, 1) := by decide +kernel
theorem dL_law_572 : decode cL_law 572 = .ok (.iadd, 1) := by decide +kernel
theorem dL_law_573 : decode cL_law 573 = .ok (.iaload, 1) := by decide +kernel
theorem dL_law_574 : decode cL_law 574 = .ok (.invokevirtual 73, 3) := by decide +kernel
theorem dL_law_577 : decode cL_law 577 = .ok (.aload_n 2, 1) := by decide +kernel
theorem dL_law_578 : decode cL_law 578 = .ok (.aload_n 0, 1) := by decide +kernel
theorem dL_law_579 : decode cL_law 579 = .ok (.iload_n 3, 1) := by decide +kernel
theorem dL_law_580 : decode cL_law 580 = .ok (.iconst 1, 1) := by decide +kernel
theorem dL_law_581 : decode cL_law 581 = .ok (.iadd, 1) := by decide +kernel
theorem dL_law_582 : decode cL_law 582 = .ok (.iaload, 1) := by decide +kernel
theorem dL_law_583 : decode cL_law 583 = .ok (.invokevirtual 76, 3) := by decide +kernel
theorem dL_law_586 : decode cL_law 586 = .ok (.if_icmp .eq 513, 3) := by decide +kernel
theorem dL_law_589 : decode cL_law 589 = .ok (.iconst 0, 1) := by decide +kernel
theorem dL_law_590 : decode cL_law 590 = .ok (.ireturn, 1) := by decide +kernel
theorem dL_law_591 : decode cL_law 591 = .ok (.aload_n 1, 1) := by decide +kernel
theorem dL_law_592 : decode cL_law 592 = .ok (.aload_n 0, 1) := by decide +kernel
theorem dL_law_593 : decode cL_law 593 = .ok (.iload_n 3, 1) := by decide +kernel
theorem dL_law_594 : decode cL_law 594 = .ok (.iconst 1, 1) := by decide +kernel
theorem dL_law_595 : decode cL_law 595 = .ok (.iadd, 1) := by decide +kernel
theorem dL_law_596 : decode cL_law 596 = .ok (.iaload, 1) := by decide +kernel
theorem dL_law_597 : decode cL_law 597 = .ok (.invokevirtual 77, 3) := by decide +kernel
theorem dL_law_600 : decode cL_law 600 = .ok (.aload_n 2, 1) := by decide +kernel
theorem dL_law_601 : decode cL_law 601 = .ok (.aload_n 0, 1) := by decide +kernel
theorem dL_law_602 : decode cL_law 602 = .ok (.iload_n 3, 1) := by decide +kernel
theorem dL_law_603 : decode cL_law 603 = .ok (.iconst 1, 1) := by decide +kernel
theorem dL_law_604 : decode cL_law 604 = .ok (.iadd, 1) := by decide +kernel
theorem dL_law_605 : decode cL_law 605 = .ok (.iaload, 1) := by decide +kernel
theorem dL_law_606 : decode cL_law 606 = .ok (.invokevirtual 80, 3) := by decide +kernel
theorem dL_law_609 : decode cL_law 609 = .ok (.if_icmp .eq 490, 3) := by decide +kernel
theorem dL_law_612 : decode cL_law 612 = .ok (.iconst 0, 1) := by decide +kernel
theorem dL_law_613 : decode cL_law 613 = .ok (.ireturn, 1) := by decide +kernel
theorem dL_law_614 : decode cL_law 614 = .ok (.aload_n 1, 1) := by decide +kernel
theorem dL_law_615 : decode cL_law 615 = .ok (.invokevirtual 81, 3) := by decide +kernel
theorem dL_law_618 : decode cL_law 618 = .ok (.aload_n 2, 1) := by decide +kernel
theorem dL_law_619 : decode cL_law 619 = .ok (.invokevirtual 84, 3) := by decide +kernel
theorem dL_law_622 : decode cL_law 622 = .ok (.if_icmp .eq 477, 3) := by decide +kernel
theorem dL_law_625 : decode cL_law 625 = .ok (.iconst 0, 1) := by decide +kernel
theorem dL_law_626 : decode cL_law 626 = .ok (.ireturn, 1) := by decide +kernel
theorem dL_law_627 : decode cL_law 627 = .ok (.aload_n 1, 1) := by decide +kernel
theorem dL_law_628 : decode cL_law 628 = .ok (.aload_n 0, 1) := by decide +kernel
theorem dL_law_629 : decode cL_law 629 = .ok (.iload_n 3, 1) := by decide +kernel
theorem dL_law_630 : decode cL_law 630 = .ok (.iconst 1, 1) := by decide +kernel
theorem dL_law_631 : decode cL_law 631 = .ok (.iadd, 1) := by decide +kernel
theorem dL_law_632 : decode cL_law 632 = .ok (.iaload, 1) := by decide +kernel
theorem dL_law_633 : decode cL_law 633 = .ok (.invokevirtual 85, 3) := by decide +kernel
theorem dL_law_636 : decode cL_law 636 = .ok (.aload_n 2, 1) := by decide +kernel
theorem dL_law_637 : decode cL_law 637 = .ok (.aload_n 0, 1) := by decide +kernel
theorem dL_law_638 : decode cL_law 638 = .ok (.iload_n 3, 1) := by decide +kernel
theorem dL_law_639 : decode cL_law 639 = .ok (.iconst 1, 1) := by decide +kernel
theorem dL_law_640 : decode cL_law 640 = .ok (.iadd, 1) := by decide +kernel
theorem dL_law_641 : decode cL_law 641 = .ok (.iaload, 1) := by decide +kernel
theorem dL_law_642 : decode cL_law 642 = .ok (.invokevirtual 88, 3) := by decide +kernel
theorem dL_law_645 : decode cL_law 645 = .ok (.if_icmp .eq 454, 3) := by decide +kernel
theorem dL_law_648 : decode cL_law 648 = .ok (.iconst 0, 1) := by decide +kernel
theorem dL_law_649 : decode cL_law 649 = .ok (.ireturn, 1) := by decide +kernel
theorem dL_law_650 : decode cL_law 650 = .ok (.aload_n 1, 1) := by decide +kernel
theorem dL_law_651 : decode cL_law 651 = .ok (.invokevirtual 89, 3) := by decide +kernel
theorem dL_law_654 : decode cL_law 654 = .ok (.aload_n 2, 1) := by decide +kernel
theorem dL_law_655 : decode cL_law 655 = .ok (.invokevirtual 92, 3) := by decide +kernel
theorem dL_law_658 : decode cL_law 658 = .ok (.if_icmp .eq 441, 3) := by decide +kernel
theorem dL_law_661 : decode cL_law 661 = .ok (.iconst 0, 1) := by decide +kernel
theorem dL_law_662 : decode cL_law 662 = .ok (.ireturn, 1) := by decide +kernel
theorem dL_law_663 : decode cL_law 663 = .ok (.aload_n 1, 1) := by decide +kernel
theorem dL_law_664 : decode cL_law 664 = .ok (.invokevirtual 93, 3) := by decide +kernel
theorem dL_law_667 : decode cL_law 667 = .ok (.aload_n 2, 1) := by decide +kernel
theorem dL_law_668 : decode cL_law 668 = .ok (.invokevirtual 96, 3) := by decide +kernel
theorem dL_law_671 : decode cL_law 671 = .ok (.if_icmp .eq 428, 3) := by decide +kernel
theorem dL_law_674 : decode cL_law 674 = .ok (.iconst 0, 1) := by decide +kernel
theorem dL_law_675 : decode cL_law 675 = .ok (.ireturn, 1) := by decide +kernel
theorem dL_law_676 : decode cL_law 676 = .ok (.aload_n 1, 1) := by decide +kernel
theorem dL_law_677 : decode cL_law 677 = .ok (.aload_n 0, 1) := by decide +kernel
theorem dL_law_678 : decode cL_law 678 = .ok (.iload_n 3, 1) := by decide +kernel
theorem dL_law_679 : decode cL_law 679 = .ok (.iconst 1, 1) := by decide +kernel
theorem dL_law_680 : decode cL_law 680 = .ok (.iadd, 1) := by decide +kernel
theorem dL_law_681 : decode cL_law 681 = .ok (.iaload, 1) := by decide +kernel
theorem dL_law_682 : decode cL_law 682 = .ok (.aload_n 0, 1) := by decide +kernel
theorem dL_law_683 : decode cL_law 683 = .ok (.iload_n 3, 1) := by decide +kernel
theorem dL_law_684 : decode cL_law 684 = .ok (.iconst 2, 1) := by decide +kernel
theorem dL_law_685 : decode cL_law 685 = .ok (.iadd, 1) := by decide +kernel
theorem dL_law_686 : decode cL_law 686 = .ok (.iaload, 1) := by decide +kernel
theorem dL_law_687 : decode cL_law 687 = .ok (.invokevirtual 97, 3) := by decide +kernel
theorem dL_law_690 : decode cL_law 690 = .ok (.aload_n 2, 1) := by decide +kernel
theorem dL_law_691 : decode cL_law 691 = .ok (.aload_n 0, 1) := by decide +kernel
theorem dL_law_692 : decode cL_law 692 = .ok (.iload_n 3, 1) := by decide +kernel
theorem dL_law_693 : decode cL_law 693 = .ok (.iconst 1, 1) := by decide +kernel
theorem dL_law_694 : decode cL_law 694 = .ok (.iadd, 1) := by decide +kernel
theorem dL_law_695 : decode cL_law 695 = .ok (.iaload, 1) := by decide +kernel
theorem dL_law_696 : decode cL_law 696 = .ok (.aload_n 0, 1) := by decide +kernel
theorem dL_law_697 : decode cL_law 697 = .ok (.iload_n 3, 1) := by decide +kernel
theorem dL_law_698 : decode cL_law 698 = .ok (.iconst 2, 1) := by decide +kernel
theorem dL_law_699 : decode cL_law 699 = .ok (.iadd, 1) := by decide +kernel
theorem dL_law_700 : decode cL_law 700 = .ok (.iaload, 1) := by decide +kernel
theorem dL_law_701 : decode cL_law 701 = .ok (.invokevirtual 100, 3) := by decide +kernel
theorem dL_law_704 : decode cL_law 704 = .ok (.if_icmp .eq 395, 3) := by decide +kernel
theorem dL_law_707 : decode cL_law 707 = .ok (.iconst 0, 1) := by decide +kernel
theorem dL_law_708 : decode cL_law 708 = .ok (.ireturn, 1) := by decide +kernel
theorem dL_law_709 : decode cL_law 709 = .ok (.aload_n 1, 1) := by decide +kernel
theorem dL_law_710 : decode cL_law 710 = .ok (.aload_n 0, 1) := by decide +kernel
theorem dL_law_711 : decode cL_law 711 = .ok (.iload_n 3, 1) := by decide +kernel
theorem dL_law_712 : decode cL_law 712 = .ok (.iconst 1, 1) := by decide +kernel
theorem dL_law_713 : decode cL_law 713 = .ok (.iadd, 1) := by decide +kernel
theorem dL_law_714 : decode cL_law 714 = .ok (.iaload, 1) := by decide +kernel
theorem dL_law_715 : decode cL_law 715 = .ok (.aload_n 0, 1) := by decide +kernel
theorem dL_law_716 : decode cL_law 716 = .ok (.iload_n 3, 1) := by decide +kernel
theorem dL_law_717 : decode cL_law 717 = .ok (.iconst 2, 1) := by decide +kernel
theorem dL_law_718 : decode cL_law 718 = .ok (.iadd, 1) := by decide +kernel
theorem dL_law_719 : decode cL_law 719 = .ok (.iaload, 1) := by decide +kernel
theorem dL_law_720 : decode cL_law 720 = .ok (.aload_n 0, 1) := by decide +kernel
theorem dL_law_721 : decode cL_law 721 = .ok (.iload_n 3, 1) := by decide +kernel
theorem dL_law_722 : decode cL_law 722 = .ok (.iconst 3, 1) := by decide +kernel
theorem dL_law_723 : decode cL_law 723 = .ok (.iadd, 1) := by decide +kernel
theorem dL_law_724 : decode cL_law 724 = .ok (.iaload, 1) := by decide +kernel
theorem dL_law_725 : decode cL_law 725 = .ok (.invokevirtual 101, 3) := by decide +kernel
theorem dL_law_728 : decode cL_law 728 = .ok (.aload_n 2, 1) := by decide +kernel
theorem dL_law_729 : decode cL_law 729 = .ok (.aload_n 0, 1) := by decide +kernel
theorem dL_law_730 : decode cL_law 730 = .ok (.iload_n 3, 1) := by decide +kernel
theorem dL_law_731 : decode cL_law 731 = .ok (.iconst 1, 1) := by decide +kernel
theorem dL_law_732 : decode cL_law 732 = .ok (.iadd, 1) := by decide +kernel
theorem dL_law_733 : decode cL_law 733 = .ok (.iaload, 1) := by decide +kernel
theorem dL_law_734 : decode cL_law 734 = .ok (.aload_n 0, 1) := by decide +kernel
theorem dL_law_735 : decode cL_law 735 = .ok (.iload_n 3, 1) := by decide +kernel
theorem dL_law_736 : decode cL_law 736 = .ok (.iconst 2, 1) := by decide +kernel
theorem dL_law_737 : decode cL_law 737 = .ok (.iadd, 1) := by decide +kernel
theorem dL_law_738 : decode cL_law 738 = .ok (.iaload, 1) := by decide +kernel
theorem dL_law_739 : decode cL_law 739 = .ok (.aload_n 0, 1) := by decide +kernel
theorem dL_law_740 : decode cL_law 740 = .ok (.iload_n 3, 1) := by decide +kernel
theorem dL_law_741 : decode cL_law 741 = .ok (.iconst 3, 1) := by decide +kernel
theorem dL_law_742 : decode cL_law 742 = .ok (.iadd, 1) := by decide +kernel
theorem dL_law_743 : decode cL_law 743 = .ok (.iaload, 1) := by decide +kernel
theorem dL_law_744 : decode cL_law 744 = .ok (.invokevirtual 104, 3) := by decide +kernel
theorem dL_law_747 : decode cL_law 747 = .ok (.if_icmp .eq 352, 3) := by decide +kernel
theorem dL_law_750 : decode cL_law 750 = .ok (.iconst 0, 1) := by decide +kernel
theorem dL_law_751 : decode cL_law 751 = .ok (.ireturn, 1) := by decide +kernel
theorem dL_law_752 : decode cL_law 752 = .ok (.aload_n 1, 1) := by decide +kernel
theorem dL_law_753 : decode cL_law 753 = .ok (.aload_n 0, 1) := by decide +kernel
theorem dL_law_754 : decode cL_law 754 = .ok (.iload_n 3, 1) := by decide +kernel
theorem dL_law_755 : decode cL_law 755 = .ok (.iconst 1, 1) := by decide +kernel
theorem dL_law_756 : decode cL_law 756 = .ok (.iadd, 1) := by decide +kernel
theorem dL_law_757 : decode cL_law 757 = .ok (.iaload, 1) := by decide +kernel
theorem dL_law_758 : decode cL_law 758 = .ok (.aload_n 0, 1) := by decide +kernel
theorem dL_law_759 : decode cL_law 759 = .ok (.iload_n 3, 1) := by decide +kernel
theorem dL_law_760 : decode cL_law 760 = .ok (.iconst 2, 1) := by decide +kernel
theorem dL_law_761 : decode cL_law 761 = .ok (.iadd, 1) := by decide +kernel
theorem dL_law_762 : decode cL_law 762 = .ok (.iaload, 1) := by decide +kernel
theorem dL_law_763 : decode cL_law 763 = .ok (.aload_n 0, 1) := by decide +kernel
theorem dL_law_764 : decode cL_law 764 = .ok (.iload_n 3, 1) := by decide +kernel
theorem dL_law_765 : decode cL_law 765 = .ok (.iconst 3, 1) := by decide +kernel
theorem dL_law_766 : decode cL_law 766 = .ok (.iadd, 1) := by decide +kernel
theorem dL_law_767 : decode cL_law 767 = .ok (.iaload, 1) := by decide +kernel
theorem dL_law_768 : decode cL_law 768 = .ok (.aload_n 0, 1) := by decide +kernel
theorem dL_law_769 : decode cL_law 769 = .ok (.iload_n 3, 1) := by decide +kernel
theorem dL_law_770 : decode cL_law 770 = .ok (.iconst 4, 1) := by decide +kernel
theorem dL_law_771 : decode cL_law 771 = .ok (.iadd, 1) := by decide +kernel
theorem dL_law_772 : decode cL_law 772 = .ok (.iaload, 1) := by decide +kernel
theorem dL_law_773 : decode cL_law 773 = .ok (.invokevirtual 105, 3) := by decide +kernel
theorem dL_law_776 : decode cL_law 776 = .ok (.aload_n 2, 1) := by decide +kernel
theorem dL_law_777 : decode cL_law 777 = .ok (.aload_n 0, 1) := by decide +kernel
theorem dL_law_778 : decode cL_law 778 = .ok (.iload_n 3, 1) := by decide +kernel
theorem dL_law_779 : decode cL_law 779 = .ok (.iconst 1, 1) := by decide +kernel
theorem dL_law_780 : decode cL_law 780 = .ok (.iadd, 1) := by decide +kernel
theorem dL_law_781 : decode cL_law 781 = .ok (.iaload, 1) := by decide +kernel
theorem dL_law_782 : decode cL_law 782 = .ok (.aload_n 0, 1) := by decide +kernel
theorem dL_law_783 : decode cL_law 783 = .ok (.iload_n 3, 1) := by decide +kernel
theorem dL_law_784 : decode cL_law 784 = .ok (.iconst 2, 1) := by decide +kernel
theorem dL_law_785 : decode cL_law 785 = .ok (.iadd, 1) := by decide +kernel
theorem dL_law_786 : decode cL_law 786 = .ok (.iaload, 1) := by decide +kernel
theorem dL_law_787 : decode cL_law 787 = .ok (.aload_n 0, 1) := by decide +kernel
theorem dL_law_788 : decode cL_law 788 = .ok (.iload_n 3, 1) := by decide +kernel
theorem dL_law_789 : decode cL_law 789 = .ok (.iconst 3, 1) := by decide +kernel
theorem dL_law_790 : decode cL_law 790 = .ok (.iadd, 1) := by decide +kernel
theorem dL_law_791 : decode cL_law 791 = .ok (.iaload, 1) := by decide +kernel
theorem dL_law_792 : decode cL_law 792 = .ok (.aload_n 0, 1) := by decide +kernel
theorem dL_law_793 : decode cL_law 793 = .ok (.iload_n 3, 1) := by decide +kernel
theorem dL_law_794 : decode cL_law 794 = .ok (.iconst 4, 1) := by decide +kernel
theorem dL_law_795 : decode cL_law 795 = .ok (.iadd, 1) := by decide +kernel
theorem dL_law_796 : decode cL_law 796 = .ok (.iaload, 1) := by decide +kernel
theorem dL_law_797 : decode cL_law 797 = .ok (.invokevirtual 109, 3) := by decide +kernel
theorem dL_law_800 : decode cL_law 800 = .ok (.if_icmp .eq 299, 3) := by decide +kernel
theorem dL_law_803 : decode cL_law 803 = .ok (.iconst 0, 1) := by decide +kernel
theorem dL_law_804 : decode cL_law 804 = .ok (.ireturn, 1) := by decide +kernel
theorem dL_law_805 : decode cL_law 805 = .ok (.aload_n 1, 1) := by decide +kernel
theorem dL_law_806 : decode cL_law 806 = .ok (.aload_n 0, 1) := by decide +kernel
theorem dL_law_807 : decode cL_law 807 = .ok (.iload_n 3, 1) := by decide +kernel
theorem dL_law_808 : decode cL_law 808 = .ok (.iconst 1, 1) := by decide +kernel
theorem dL_law_809 : decode cL_law 809 = .ok (.iadd, 1) := by decide +kernel
theorem dL_law_810 : decode cL_law 810 = .ok (.iaload, 1) := by decide +kernel
theorem dL_law_811 : decode cL_law 811 = .ok (.invokevirtual 110, 3) := by decide +kernel
theorem dL_law_814 : decode cL_law 814 = .ok (.aload_n 2, 1) := by decide +kernel
theorem dL_law_815 : decode cL_law 815 = .ok (.aload_n 0, 1) := by decide +kernel
theorem dL_law_816 : decode cL_law 816 = .ok (.iload_n 3, 1) := by decide +kernel
theorem dL_law_817 : decode cL_law 817 = .ok (.iconst 1, 1) := by decide +kernel
theorem dL_law_818 : decode cL_law 818 = .ok (.iadd, 1) := by decide +kernel
theorem dL_law_819 : decode cL_law 819 = .ok (.iaload, 1) := by decide +kernel
theorem dL_law_820 : decode cL_law 820 = .ok (.invokevirtual 113, 3) := by decide +kernel
theorem dL_law_823 : decode cL_law 823 = .ok (.if_icmp .eq 276, 3) := by decide +kernel
theorem dL_law_826 : decode cL_law 826 = .ok (.iconst 0, 1) := by decide +kernel
theorem dL_law_827 : decode cL_law 827 = .ok (.ireturn, 1) := by decide +kernel
theorem dL_law_828 : decode cL_law 828 = .ok (.aload_n 1, 1) := by decide +kernel
theorem dL_law_829 : decode cL_law 829 = .ok (.invokevirtual 114, 3) := by decide +kernel
theorem dL_law_832 : decode cL_law 832 = .ok (.aload_n 2, 1) := by decide +kernel
theorem dL_law_833 : decode cL_law 833 = .ok (.invokevirtual 117, 3) := by decide +kernel
theorem dL_law_836 : decode cL_law 836 = .ok (.if_icmp .eq 263, 3) := by decide +kernel
theorem dL_law_839 : decode cL_law 839 = .ok (.iconst 0, 1) := by decide +kernel
theorem dL_law_840 : decode cL_law 840 = .ok (.ireturn, 1) := by decide +kernel
theorem dL_law_841 : decode cL_law 841 = .ok (.aload_n 1, 1) := by decide +kernel
theorem dL_law_842 : decode cL_law 842 = .ok (.invokevirtual 118, 3) := by decide +kernel
theorem dL_law_845 : decode cL_law 845 = .ok (.aload_n 2, 1) := by decide +kernel
theorem dL_law_846 : decode cL_law 846 = .ok (.invokevirtual 121, 3) := by decide +kernel
theorem dL_law_849 : decode cL_law 849 = .ok (.if_icmp .eq 250, 3) := by decide +kernel
theorem dL_law_852 : decode cL_law 852 = .ok (.iconst 0, 1) := by decide +kernel
theorem dL_law_853 : decode cL_law 853 = .ok (.ireturn, 1) := by decide +kernel
theorem dL_law_854 : decode cL_law 854 = .ok (.aload_n 1, 1) := by decide +kernel
theorem dL_law_855 : decode cL_law 855 = .ok (.aload_n 0, 1) := by decide +kernel
theorem dL_law_856 : decode cL_law 856 = .ok (.iload_n 3, 1) := by decide +kernel
theorem dL_law_857 : decode cL_law 857 = .ok (.iconst 1, 1) := by decide +kernel
theorem dL_law_858 : decode cL_law 858 = .ok (.iadd, 1) := by decide +kernel
theorem dL_law_859 : decode cL_law 859 = .ok (.iaload, 1) := by decide +kernel
theorem dL_law_860 : decode cL_law 860 = .ok (.invokevirtual 122, 3) := by decide +kernel
theorem dL_law_863 : decode cL_law 863 = .ok (.aload_n 2, 1) := by decide +kernel
theorem dL_law_864 : decode cL_law 864 = .ok (.aload_n 0, 1) := by decide +kernel
theorem dL_law_865 : decode cL_law 865 = .ok (.iload_n 3, 1) := by decide +kernel
theorem dL_law_866 : decode cL_law 866 = .ok (.iconst 1, 1) := by decide +kernel
theorem dL_law_867 : decode cL_law 867 = .ok (.iadd, 1) := by decide +kernel
theorem dL_law_868 : decode cL_law 868 = .ok (.iaload, 1) := by decide +kernel
theorem dL_law_869 : decode cL_law 869 = .ok (.invokevirtual 125, 3) := by decide +kernel
theorem dL_law_872 : decode cL_law 872 = .ok (.if_icmp .eq 227, 3) := by decide +kernel
theorem dL_law_875 : decode cL_law 875 = .ok (.iconst 0, 1) := by decide +kernel
theorem dL_law_876 : decode cL_law 876 = .ok (.ireturn, 1) := by decide +kernel
theorem dL_law_877 : decode cL_law 877 = .ok (.aload_n 1, 1) := by decide +kernel
theorem dL_law_878 : decode cL_law 878 = .ok (.aload_n 0, 1) := by decide +kernel
theorem dL_law_879 : decode cL_law 879 = .ok (.iload_n 3, 1) := by decide +kernel
theorem dL_law_880 : decode cL_law 880 = .ok (.iconst 1, 1) := by decide +kernel
theorem dL_law_881 : decode cL_law 881 = .ok (.iadd, 1) := by decide +kernel
theorem dL_law_882 : decode cL_law 882 = .ok (.iaload, 1) := by decide +kernel
theorem dL_law_883 : decode cL_law 883 = .ok (.invokevirtual 126, 3) := by decide +kernel
theorem dL_law_886 : decode cL_law 886 = .ok (.aload_n 2, 1) := by decide +kernel
theorem dL_law_887 : decode cL_law 887 = .ok (.aload_n 0, 1) := by decide +kernel
theorem dL_law_888 : decode cL_law 888 = .ok (.iload_n 3, 1) := by decide +kernel
theorem dL_law_889 : decode cL_law 889 = .ok (.iconst 1, 1) := by decide +kernel
theorem dL_law_890 : decode cL_law 890 = .ok (.iadd, 1) := by decide +kernel
theorem dL_law_891 : decode cL_law 891 = .ok (.iaload, 1) := by decide +kernel
theorem dL_law_892 : decode cL_law 892 = .ok (.invokevirtual 129, 3) := by decide +kernel
theorem dL_law_895 : decode cL_law 895 = .ok (.if_icmp .eq 204, 3) := by decide +kernel
theorem dL_law_898 : decode cL_law 898 = .ok (.iconst 0, 1) := by decide +kernel
theorem dL_law_899 : decode cL_law 899 = .ok (.ireturn, 1) := by decide +kernel
theorem dL_law_900 : decode cL_law 900 = .ok (.aload_n 1, 1) := by decide +kernel
theorem dL_law_901 : decode cL_law 901 = .ok (.aload_n 0, 1) := by decide +kernel
theorem dL_law_902 : decode cL_law 902 = .ok (.iload_n 3, 1) := by decide +kernel
theorem dL_law_903 : decode cL_law 903 = .ok (.iconst 1, 1) := by decide +kernel
theorem dL_law_904 : decode cL_law 904 = .ok (.iadd, 1) := by decide +kernel
theorem dL_law_905 : decode cL_law 905 = .ok (.iaload, 1) := by decide +kernel
theorem dL_law_906 : decode cL_law 906 = .ok (.invokevirtual 130, 3) := by decide +kernel
theorem dL_law_909 : decode cL_law 909 = .ok (.aload_n 2, 1) := by decide +kernel
theorem dL_law_910 : decode cL_law 910 = .ok (.aload_n 0, 1) := by decide +kernel
theorem dL_law_911 : decode cL_law 911 = .ok (.iload_n 3, 1) := by decide +kernel
theorem dL_law_912 : decode cL_law 912 = .ok (.iconst 1, 1) := by decide +kernel
theorem dL_law_913 : decode cL_law 913 = .ok (.iadd, 1) := by decide +kernel
theorem dL_law_914 : decode cL_law 914 = .ok (.iaload, 1) := by decide +kernel
theorem dL_law_915 : decode cL_law 915 = .ok (.invokevirtual 133, 3) := by decide +kernel
theorem dL_law_918 : decode cL_law 918 = .ok (.if_icmp .eq 181, 3) := by decide +kernel
theorem dL_law_921 : decode cL_law 921 = .ok (.iconst 0, 1) := by decide +kernel
theorem dL_law_922 : decode cL_law 922 = .ok (.ireturn, 1) := by decide +kernel
theorem dL_law_923 : decode cL_law 923 = .ok (.aload_n 1, 1) := by decide +kernel
theorem dL_law_924 : decode cL_law 924 = .ok (.invokevirtual 134, 3) := by decide +kernel
theorem dL_law_927 : decode cL_law 927 = .ok (.aload_n 2, 1) := by decide +kernel
theorem dL_law_928 : decode cL_law 928 = .ok (.invokevirtual 137, 3) := by decide +kernel
theorem dL_law_931 : decode cL_law 931 = .ok (.if_icmp .eq 168, 3) := by decide +kernel
theorem dL_law_934 : decode cL_law 934 = .ok (.iconst 0, 1) := by decide +kernel
theorem dL_law_935 : decode cL_law 935 = .ok (.ireturn, 1) := by decide +kernel
theorem dL_law_936 : decode cL_law 936 = .ok (.aload_n 1, 1) := by decide +kernel
theorem dL_law_937 : decode cL_law 937 = .ok (.aload_n 0, 1) := by decide +kernel
theorem dL_law_938 : decode cL_law 938 = .ok (.iload_n 3, 1) := by decide +kernel
theorem dL_law_939 : decode cL_law 939 = .ok (.iconst 1, 1) := by decide +kernel
theorem dL_law_940 : decode cL_law 940 = .ok (.iadd, 1) := by decide +kernel
theorem dL_law_941 : decode cL_law 941 = .ok (.iaload, 1) := by decide +kernel
theorem dL_law_942 : decode cL_law 942 = .ok (.aload_n 0, 1) := by decide +kernel
theorem dL_law_943 : decode cL_law 943 = .ok (.iload_n 3, 1) := by decide +kernel
theorem dL_law_944 : decode cL_law 944 = .ok (.iconst 2, 1) := by decide +kernel
theorem dL_law_945 : decode cL_law 945 = .ok (.iadd, 1) := by decide +kernel
theorem dL_law_946 : decode cL_law 946 = .ok (.iaload, 1) := by decide +kernel
theorem dL_law_947 : decode cL_law 947 = .ok (.invokevirtual 138, 3) := by decide +kernel
theorem dL_law_950 : decode cL_law 950 = .ok (.aload_n 2, 1) := by decide +kernel
theorem dL_law_951 : decode cL_law 951 = .ok (.aload_n 0, 1) := by decide +kernel
theorem dL_law_952 : decode cL_law 952 = .ok (.iload_n 3, 1) := by decide +kernel
theorem dL_law_953 : decode cL_law 953 = .ok (.iconst 1, 1) := by decide +kernel
theorem dL_law_954 : decode cL_law 954 = .ok (.iadd, 1) := by decide +kernel
theorem dL_law_955 : decode cL_law 955 = .ok (.iaload, 1) := by decide +kernel
theorem dL_law_956 : decode cL_law 956 = .ok (.aload_n 0, 1) := by decide +kernel
theorem dL_law_957 : decode cL_law 957 = .ok (.iload_n 3, 1) := by decide +kernel
theorem dL_law_958 : decode cL_law 958 = .ok (.iconst 2, 1) := by decide +kernel
theorem dL_law_959 : decode cL_law 959 = .ok (.iadd, 1) := by decide +kernel
theorem dL_law_960 : decode cL_law 960 = .ok (.iaload, 1) := by decide +kernel
theorem dL_law_961 : decode cL_law 961 = .ok (.invokevirtual 141, 3) := by decide +kernel
theorem dL_law_964 : decode cL_law 964 = .ok (.if_icmp .eq 135, 3) := by decide +kernel
theorem dL_law_967 : decode cL_law 967 = .ok (.iconst 0, 1) := by decide +kernel
theorem dL_law_968 : decode cL_law 968 = .ok (.ireturn, 1) := by decide +kernel
theorem dL_law_969 : decode cL_law 969 = .ok (.aload_n 1, 1) := by decide +kernel
theorem dL_law_970 : decode cL_law 970 = .ok (.aload_n 0, 1) := by decide +kernel
theorem dL_law_971 : decode cL_law 971 = .ok (.iload_n 3, 1) := by decide +kernel
theorem dL_law_972 : decode cL_law 972 = .ok (.iconst 1, 1) := by decide +kernel
theorem dL_law_973 : decode cL_law 973 = .ok (.iadd, 1) := by decide +kernel
theorem dL_law_974 : decode cL_law 974 = .ok (.iaload, 1) := by decide +kernel
theorem dL_law_975 : decode cL_law 975 = .ok (.invokevirtual 142, 3) := by decide +kernel
theorem dL_law_978 : decode cL_law 978 = .ok (.aload_n 2, 1) := by decide +kernel
theorem dL_law_979 : decode cL_law 979 = .ok (.aload_n 0, 1) := by decide +kernel
theorem dL_law_980 : decode cL_law 980 = .ok (.iload_n 3, 1) := by decide +kernel
theorem dL_law_981 : decode cL_law 981 = .ok (.iconst 1, 1) := by decide +kernel
theorem dL_law_982 : decode cL_law 982 = .ok (.iadd, 1) := by decide +kernel
theorem dL_law_983 : decode cL_law 983 = .ok (.iaload, 1) := by decide +kernel
theorem dL_law_984 : decode cL_law 984 = .ok (.invokevirtual 146, 3) := by decide +kernel
theorem dL_law_987 : decode cL_law 987 = .ok (.lcmp, 1) := by decide +kernel
theorem dL_law_988 : decode cL_law 988 = .ok (.ifCond .eq 111, 3) := by decide +kernel
theorem dL_law_991 : decode cL_law 991 = .ok (.iconst 0, 1) := by decide +kernel
theorem dL_law_992 : decode cL_law 992 = .ok (.ireturn, 1) := by decide +kernel
theorem dL_law_993 : decode cL_law 993 = .ok (.aload_n 1, 1) := by decide +kernel
theorem dL_law_994 : decode cL_law 994 = .ok (.aload_n 0, 1) := by decide +kernel
theorem dL_law_995 : decode cL_law 995 = .ok (.iload_n 3, 1) := by decide +kernel
theorem dL_law_996 : decode cL_law 996 = .ok (.iconst 1, 1) := by decide +kernel
theorem dL_law_997 : decode cL_law 997 = .ok (.iadd, 1) := by decide +kernel
theorem dL_law_998 : decode cL_law 998 = .ok (.iaload, 1) := by decide +kernel
theorem dL_law_999 : decode cL_law 999 = .ok (.invokevirtual 147, 3) := by decide +kernel
theorem dL_law_1002 : decode cL_law 1002 = .ok (.aload_n 2, 1) := by decide +kernel
theorem dL_law_1003 : decode cL_law 1003 = .ok (.aload_n 0, 1) := by decide +kernel
theorem dL_law_1004 : decode cL_law 1004 = .ok (.iload_n 3, 1) := by decide +kernel
theorem dL_law_1005 : decode cL_law 1005 = .ok (.iconst 1, 1) := by decide +kernel
theorem dL_law_1006 : decode cL_law 1006 = .ok (.iadd, 1) := by decide +kernel
theorem dL_law_1007 : decode cL_law 1007 = .ok (.iaload, 1) := by decide +kernel
theorem dL_law_1008 : decode cL_law 1008 = .ok (.invokevirtual 150, 3) := by decide +kernel
theorem dL_law_1011 : decode cL_law 1011 = .ok (.if_icmp .eq 88, 3) := by decide +kernel
theorem dL_law_1014 : decode cL_law 1014 = .ok (.iconst 0, 1) := by decide +kernel
theorem dL_law_1015 : decode cL_law 1015 = .ok (.ireturn, 1) := by decide +kernel
theorem dL_law_1016 : decode cL_law 1016 = .ok (.aload_n 1, 1) := by decide +kernel
theorem dL_law_1017 : decode cL_law 1017 = .ok (.aload_n 0, 1) := by decide +kernel
theorem dL_law_1018 : decode cL_law 1018 = .ok (.iload_n 3, 1) := by decide +kernel
theorem dL_law_1019 : decode cL_law 1019 = .ok (.iconst 1, 1) := by decide +kernel
theorem dL_law_1020 : decode cL_law 1020 = .ok (.iadd, 1) := by decide +kernel
theorem dL_law_1021 : decode cL_law 1021 = .ok (.iaload, 1) := by decide +kernel
theorem dL_law_1022 : decode cL_law 1022 = .ok (.invokevirtual 151, 3) := by decide +kernel
theorem dL_law_1025 : decode cL_law 1025 = .ok (.aload_n 2, 1) := by decide +kernel
theorem dL_law_1026 : decode cL_law 1026 = .ok (.aload_n 0, 1) := by decide +kernel
theorem dL_law_1027 : decode cL_law 1027 = .ok (.iload_n 3, 1) := by decide +kernel
theorem dL_law_1028 : decode cL_law 1028 = .ok (.iconst 1, 1) := by decide +kernel
theorem dL_law_1029 : decode cL_law 1029 = .ok (.iadd, 1) := by decide +kernel
theorem dL_law_1030 : decode cL_law 1030 = .ok (.iaload, 1) := by decide +kernel
theorem dL_law_1031 : decode cL_law 1031 = .ok (.invokevirtual 154, 3) := by decide +kernel
theorem dL_law_1034 : decode cL_law 1034 = .ok (.if_icmp .eq 65, 3) := by decide +kernel
theorem dL_law_1037 : decode cL_law 1037 = .ok (.iconst 0, 1) := by decide +kernel
theorem dL_law_1038 : decode cL_law 1038 = .ok (.ireturn, 1) := by decide +kernel
theorem dL_law_1039 : decode cL_law 1039 = .ok (.aload_n 1, 1) := by decide +kernel
theorem dL_law_1040 : decode cL_law 1040 = .ok (.aload_n 0, 1) := by decide +kernel
theorem dL_law_1041 : decode cL_law 1041 = .ok (.iload_n 3, 1) := by decide +kernel
theorem dL_law_1042 : decode cL_law 1042 = .ok (.iconst 1, 1) := by decide +kernel
theorem dL_law_1043 : decode cL_law 1043 = .ok (.iadd, 1) := by decide +kernel
theorem dL_law_1044 : decode cL_law 1044 = .ok (.iaload, 1) := by decide +kernel
theorem dL_law_1045 : decode cL_law 1045 = .ok (.invokevirtual 155, 3) := by decide +kernel
theorem dL_law_1048 : decode cL_law 1048 = .ok (.aload_n 2, 1) := by decide +kernel
theorem dL_law_1049 : decode cL_law 1049 = .ok (.aload_n 0, 1) := by decide +kernel
theorem dL_law_1050 : decode cL_law 1050 = .ok (.iload_n 3, 1) := by decide +kernel
theorem dL_law_1051 : decode cL_law 1051 = .ok (.iconst 1, 1) := by decide +kernel
theorem dL_law_1052 : decode cL_law 1052 = .ok (.iadd, 1) := by decide +kernel
theorem dL_law_1053 : decode cL_law 1053 = .ok (.iaload, 1) := by decide +kernel
theorem dL_law_1054 : decode cL_law 1054 = .ok (.invokevirtual 158, 3) := by decide +kernel
theorem dL_law_1057 : decode cL_law 1057 = .ok (.if_icmp .eq 42, 3) := by decide +kernel
theorem dL_law_1060 : decode cL_law 1060 = .ok (.iconst 0, 1) := by decide +kernel
theorem dL_law_1061 : decode cL_law 1061 = .ok (.ireturn, 1) := by decide +kernel
theorem dL_law_1062 : decode cL_law 1062 = .ok (.aload_n 1, 1) := by decide +kernel
theorem dL_law_1063 : decode cL_law 1063 = .ok (.aload_n 0, 1) := by decide +kernel
theorem dL_law_1064 : decode cL_law 1064 = .ok (.iload_n 3, 1) := by decide +kernel
theorem dL_law_1065 : decode cL_law 1065 = .ok (.iconst 1, 1) := by decide +kernel
theorem dL_law_1066 : decode cL_law 1066 = .ok (.iadd, 1) := by decide +kernel
theorem dL_law_1067 : decode cL_law 1067 = .ok (.iaload, 1) := by decide +kernel
theorem dL_law_1068 : decode cL_law 1068 = .ok (.invokevirtual 159, 3) := by decide +kernel
theorem dL_law_1071 : decode cL_law 1071 = .ok (.aload_n 2, 1) := by decide +kernel
theorem dL_law_1072 : decode cL_law 1072 = .ok (.aload_n 0, 1) := by decide +kernel
theorem dL_law_1073 : decode cL_law 1073 = .ok (.iload_n 3, 1) := by decide +kernel
theorem dL_law_1074 : decode cL_law 1074 = .ok (.iconst 1, 1) := by decide +kernel
theorem dL_law_1075 : decode cL_law 1075 = .ok (.iadd, 1) := by decide +kernel
theorem dL_law_1076 : decode cL_law 1076 = .ok (.iaload, 1) := by decide +kernel
theorem dL_law_1077 : decode cL_law 1077 = .ok (.invokevirtual 162, 3) := by decide +kernel
theorem dL_law_1080 : decode cL_law 1080 = .ok (.if_icmp .eq 19, 3) := by decide +kernel
theorem dL_law_1083 : decode cL_law 1083 = .ok (.iconst 0, 1) := by decide +kernel
theorem dL_law_1084 : decode cL_law 1084 = .ok (.ireturn, 1) := by decide +kernel
theorem dL_law_1085 : decode cL_law 1085 = .ok (.aload_n 1, 1) := by decide +kernel
theorem dL_law_1086 : decode cL_law 1086 = .ok (.invokevirtual 163, 3) := by decide +kernel
theorem dL_law_1089 : decode cL_law 1089 = .ok (.aload_n 2, 1) := by decide +kernel
theorem dL_law_1090 : decode cL_law 1090 = .ok (.invokevirtual 167, 3) := by decide +kernel
theorem dL_law_1093 : decode cL_law 1093 = .ok (.lcmp, 1) := by decide +kernel
theorem dL_law_1094 : decode cL_law 1094 = .ok (.ifCond .eq 5, 3) := by decide +kernel
theorem dL_law_1097 : decode cL_law 1097 = .ok (.iconst 0, 1) := by decide +kernel
theorem dL_law_1098 : decode cL_law 1098 = .ok (.ireturn, 1) := by decide +kernel
theorem dL_law_1099 : decode cL_law 1099 = .ok (.iinc 3 5, 3) := by decide +kernel
theorem dL_law_1102 : decode cL_law 1102 = .ok (.goto (-1084), 3) := by decide +kernel
theorem dL_law_1105 : decode cL_law 1105 = .ok (.iconst 1, 1) := by decide +kernel
theorem dL_law_1106 : decode cL_law 1106 = .ok (.ireturn, 1) := by decide +kernel
