theorem dX0_init_0 : decode cX0_init 0 = .ok (.aload_n 0, 1) := by decide +kernel
theorem dX0_init_1 : decode cX0_init 1 = .ok (.invokespecial 3, 3) := by decide +kernel
theorem dX0_init_4 : decode cX0_init 4 = .ok (.aload_n 0, 1) := by decide +kernel
theorem dX0_init_5 : decode cX0_init 5 = .ok (.bipush 6, 2) := by decide +kernel
theorem dX0_init_7 : decode cX0_init 7 = .ok (.newarray .int, 2) := by decide +kernel
theorem dX0_init_9 : decode cX0_init 9 = .ok (.putfield 9, 3) := by decide +kernel
theorem dX0_init_12 : decode cX0_init 12 = .ok (.return_, 1) := by decide +kernel
theorem dX0_find_0 : decode cX0_find 0 = .ok (.iconst 0, 1) := by decide +kernel
theorem dX0_find_1 : decode cX0_find 1 = .ok (.istore_n 2, 1) := by decide +kernel
theorem dX0_find_2 : decode cX0_find 2 = .ok (.iload_n 2, 1) := by decide +kernel
theorem dX0_find_3 : decode cX0_find 3 = .ok (.bipush 6, 2) := by decide +kernel
theorem dX0_find_5 : decode cX0_find 5 = .ok (.if_icmp .ge 17, 3) := by decide +kernel
theorem dX0_find_8 : decode cX0_find 8 = .ok (.aload_n 0, 1) := by decide +kernel
theorem dX0_find_9 : decode cX0_find 9 = .ok (.getfield 9, 3) := by decide +kernel
theorem dX0_find_12 : decode cX0_find 12 = .ok (.iload_n 2, 1) := by decide +kernel
theorem dX0_find_13 : decode cX0_find 13 = .ok (.bipush (-4), 2) := by decide +kernel
theorem dX0_find_15 : decode cX0_find 15 = .ok (.iastore, 1) := by decide +kernel
theorem dX0_find_16 : decode cX0_find 16 = .ok (.iinc 2 1, 3) := by decide +kernel
theorem dX0_find_19 : decode cX0_find 19 = .ok (.goto (-17), 3) := by decide +kernel
theorem dX0_find_22 : decode cX0_find 22 = .ok (.aload_n 1, 1) := by decide +kernel
theorem dX0_find_23 : decode cX0_find 23 = .ok (.aload_n 0, 1) := by decide +kernel
theorem dX0_find_24 : decode cX0_find 24 = .ok (.getfield 9, 3) := by decide +kernel
theorem dX0_find_27 : decode cX0_find 27 = .ok (.iconst 0, 1) := by decide +kernel
theorem dX0_find_28 : decode cX0_find 28 = .ok (.invokestatic 15, 3) := by decide +kernel
theorem dX0_find_31 : decode cX0_find 31 = .ok (.ireturn, 1) := by decide +kernel
theorem dX0_together_0 : decode cX0_together 0 = .ok (.iconst 0, 1) := by decide +kernel
theorem dX0_together_1 : decode cX0_together 1 = .ok (.istore_n 2, 1) := by decide +kernel
theorem dX0_together_2 : decode cX0_together 2 = .ok (.iconst 0, 1) := by decide +kernel
theorem dX0_together_3 : decode cX0_together 3 = .ok (.istore_n 3, 1) := by decide +kernel
theorem dX0_together_4 : decode cX0_together 4 = .ok (.iload_n 3, 1) := by decide +kernel
theorem dX0_together_5 : decode cX0_together 5 = .ok (.aload_n 1, 1) := by decide +kernel
theorem dX0_together_6 : decode cX0_together 6 = .ok (.getfield 19, 3) := by decide +kernel
theorem dX0_together_9 : decode cX0_together 9 = .ok (.if_icmp .ge 23, 3) := by decide +kernel
theorem dX0_together_12 : decode cX0_together 12 = .ok (.aload_n 0, 1) := by decide +kernel
theorem dX0_together_13 : decode cX0_together 13 = .ok (.getfield 9, 3) := by decide +kernel
theorem dX0_together_16 : decode cX0_together 16 = .ok (.iload_n 3, 1) := by decide +kernel
theorem dX0_together_17 : decode cX0_together 17 = .ok (.iaload, 1) := by decide +kernel
theorem dX0_together_18 : decode cX0_together 18 = .ok (.bipush (-4), 2) := by decide +kernel
theorem dX0_together_20 : decode cX0_together 20 = .ok (.if_icmp .eq 6, 3) := by decide +kernel
theorem dX0_together_23 : decode cX0_together 23 = .ok (.iinc 2 1, 3) := by decide +kernel
theorem dX0_together_26 : decode cX0_together 26 = .ok (.iinc 3 1, 3) := by decide +kernel
theorem dX0_together_29 : decode cX0_together 29 = .ok (.goto (-25), 3) := by decide +kernel
theorem dX0_together_32 : decode cX0_together 32 = .ok (.iload_n 2, 1) := by decide +kernel
theorem dX0_together_33 : decode cX0_together 33 = .ok (.ireturn, 1) := by decide +kernel
theorem dX0_pairFrom_0 : decode cX0_pairFrom 0 = .ok (.iload_n 2, 1) := by decide +kernel
theorem dX0_pairFrom_1 : decode cX0_pairFrom 1 = .ok (.aload_n 0, 1) := by decide +kernel
theorem dX0_pairFrom_2 : decode cX0_pairFrom 2 = .ok (.getfield 19, 3) := by decide +kernel
theorem dX0_pairFrom_5 : decode cX0_pairFrom 5 = .ok (.if_icmp .ge 9, 3) := by decide +kernel
theorem dX0_pairFrom_8 : decode cX0_pairFrom 8 = .ok (.iload_n 2, 1) := by decide +kernel
theorem dX0_pairFrom_9 : decode cX0_pairFrom 9 = .ok (.bipush 6, 2) := by decide +kernel
theorem dX0_pairFrom_11 : decode cX0_pairFrom 11 = .ok (.if_icmp .lt 9, 3) := by decide +kernel
theorem dX0_pairFrom_14 : decode cX0_pairFrom 14 = .ok (.aload_n 0, 1) := by decide +kernel
theorem dX0_pairFrom_15 : decode cX0_pairFrom 15 = .ok (.aload_n 1, 1) := by decide +kernel
theorem dX0_pairFrom_16 : decode cX0_pairFrom 16 = .ok (.invokestatic 25, 3) := by decide +kernel
theorem dX0_pairFrom_19 : decode cX0_pairFrom 19 = .ok (.ireturn, 1) := by decide +kernel
theorem dX0_pairFrom_20 : decode cX0_pairFrom 20 = .ok (.aload_n 1, 1) := by decide +kernel
theorem dX0_pairFrom_21 : decode cX0_pairFrom 21 = .ok (.iload_n 2, 1) := by decide +kernel
theorem dX0_pairFrom_22 : decode cX0_pairFrom 22 = .ok (.iaload, 1) := by decide +kernel
theorem dX0_pairFrom_23 : decode cX0_pairFrom 23 = .ok (.bipush (-4), 2) := by decide +kernel
theorem dX0_pairFrom_25 : decode cX0_pairFrom 25 = .ok (.if_icmp .eq 12, 3) := by decide +kernel
theorem dX0_pairFrom_28 : decode cX0_pairFrom 28 = .ok (.aload_n 0, 1) := by decide +kernel
theorem dX0_pairFrom_29 : decode cX0_pairFrom 29 = .ok (.aload_n 1, 1) := by decide +kernel
theorem dX0_pairFrom_30 : decode cX0_pairFrom 30 = .ok (.iload_n 2, 1) := by decide +kernel
theorem dX0_pairFrom_31 : decode cX0_pairFrom 31 = .ok (.iconst 1, 1) := by decide +kernel
theorem dX0_pairFrom_32 : decode cX0_pairFrom 32 = .ok (.iadd, 1) := by decide +kernel
theorem dX0_pairFrom_33 : decode cX0_pairFrom 33 = .ok (.invokestatic 15, 3) := by decide +kernel
theorem dX0_pairFrom_36 : decode cX0_pairFrom 36 = .ok (.ireturn, 1) := by decide +kernel
theorem dX0_pairFrom_37 : decode cX0_pairFrom 37 = .ok (.iload_n 2, 1) := by decide +kernel
theorem dX0_pairFrom_38 : decode cX0_pairFrom 38 = .ok (.iconst 1, 1) := by decide +kernel
theorem dX0_pairFrom_39 : decode cX0_pairFrom 39 = .ok (.iadd, 1) := by decide +kernel
theorem dX0_pairFrom_40 : decode cX0_pairFrom 40 = .ok (.istore_n 3, 1) := by decide +kernel
theorem dX0_pairFrom_41 : decode cX0_pairFrom 41 = .ok (.iload_n 3, 1) := by decide +kernel
theorem dX0_pairFrom_42 : decode cX0_pairFrom 42 = .ok (.aload_n 0, 1) := by decide +kernel
theorem dX0_pairFrom_43 : decode cX0_pairFrom 43 = .ok (.getfield 19, 3) := by decide +kernel
theorem dX0_pairFrom_46 : decode cX0_pairFrom 46 = .ok (.if_icmp .ge 69, 3) := by decide +kernel
theorem dX0_pairFrom_49 : decode cX0_pairFrom 49 = .ok (.aload_n 1, 1) := by decide +kernel
theorem dX0_pairFrom_50 : decode cX0_pairFrom 50 = .ok (.iload_n 3, 1) := by decide +kernel
theorem dX0_pairFrom_51 : decode cX0_pairFrom 51 = .ok (.iaload, 1) := by decide +kernel
theorem dX0_pairFrom_52 : decode cX0_pairFrom 52 = .ok (.bipush (-4), 2) := by decide +kernel
theorem dX0_pairFrom_54 : decode cX0_pairFrom 54 = .ok (.if_icmp .ne 55, 3) := by decide +kernel
theorem dX0_pairFrom_57 : decode cX0_pairFrom 57 = .ok (.aload_n 0, 1) := by decide +kernel
theorem dX0_pairFrom_58 : decode cX0_pairFrom 58 = .ok (.iload_n 2, 1) := by decide +kernel
theorem dX0_pairFrom_59 : decode cX0_pairFrom 59 = .ok (.iload_n 3, 1) := by decide +kernel
theorem dX0_pairFrom_60 : decode cX0_pairFrom 60 = .ok (.invokevirtual 29, 3) := by decide +kernel
theorem dX0_pairFrom_63 : decode cX0_pairFrom 63 = .ok (.ifCond .le 46, 3) := by decide +kernel
theorem dX0_pairFrom_66 : decode cX0_pairFrom 66 = .ok (.aload_n 0, 1) := by decide +kernel
theorem dX0_pairFrom_67 : decode cX0_pairFrom 67 = .ok (.iload_n 3, 1) := by decide +kernel
theorem dX0_pairFrom_68 : decode cX0_pairFrom 68 = .ok (.iload_n 2, 1) := by decide +kernel
theorem dX0_pairFrom_69 : decode cX0_pairFrom 69 = .ok (.invokevirtual 29, 3) := by decide +kernel
theorem dX0_pairFrom_72 : decode cX0_pairFrom 72 = .ok (.ifCond .gt 6, 3) := by decide +kernel
theorem dX0_pairFrom_75 : decode cX0_pairFrom 75 = .ok (.goto 34, 3) := by decide +kernel
theorem dX0_pairFrom_78 : decode cX0_pairFrom 78 = .ok (.aload_n 1, 1) := by decide +kernel
theorem dX0_pairFrom_79 : decode cX0_pairFrom 79 = .ok (.iload_n 2, 1) := by decide +kernel
theorem dX0_pairFrom_80 : decode cX0_pairFrom 80 = .ok (.iload_n 3, 1) := by decide +kernel
theorem dX0_pairFrom_81 : decode cX0_pairFrom 81 = .ok (.iastore, 1) := by decide +kernel
theorem dX0_pairFrom_82 : decode cX0_pairFrom 82 = .ok (.aload_n 1, 1) := by decide +kernel
theorem dX0_pairFrom_83 : decode cX0_pairFrom 83 = .ok (.iload_n 3, 1) := by decide +kernel
theorem dX0_pairFrom_84 : decode cX0_pairFrom 84 = .ok (.iload_n 2, 1) := by decide +kernel
theorem dX0_pairFrom_85 : decode cX0_pairFrom 85 = .ok (.iastore, 1) := by decide +kernel
theorem dX0_pairFrom_86 : decode cX0_pairFrom 86 = .ok (.aload_n 0, 1) := by decide +kernel
theorem dX0_pairFrom_87 : decode cX0_pairFrom 87 = .ok (.aload_n 1, 1) := by decide +kernel
theorem dX0_pairFrom_88 : decode cX0_pairFrom 88 = .ok (.iload_n 2, 1) := by decide +kernel
theorem dX0_pairFrom_89 : decode cX0_pairFrom 89 = .ok (.iconst 1, 1) := by decide +kernel
theorem dX0_pairFrom_90 : decode cX0_pairFrom 90 = .ok (.iadd, 1) := by decide +kernel
theorem dX0_pairFrom_91 : decode cX0_pairFrom 91 = .ok (.invokestatic 15, 3) := by decide +kernel
theorem dX0_pairFrom_94 : decode cX0_pairFrom 94 = .ok (.ifCond .eq 5, 3) := by decide +kernel
theorem dX0_pairFrom_97 : decode cX0_pairFrom 97 = .ok (.iconst 1, 1) := by decide +kernel
theorem dX0_pairFrom_98 : decode cX0_pairFrom 98 = .ok (.ireturn, 1) := by decide +kernel
theorem dX0_pairFrom_99 : decode cX0_pairFrom 99 = .ok (.aload_n 1, 1) := by decide +kernel
theorem dX0_pairFrom_100 : decode cX0_pairFrom 100 = .ok (.iload_n 2, 1) := by decide +kernel
theorem dX0_pairFrom_101 : decode cX0_pairFrom 101 = .ok (.bipush (-4), 2) := by decide +kernel
theorem dX0_pairFrom_103 : decode cX0_pairFrom 103 = .ok (.iastore, 1) := by decide +kernel
theorem dX0_pairFrom_104 : decode cX0_pairFrom 104 = .ok (.aload_n 1, 1) := by decide +kernel
theorem dX0_pairFrom_105 : decode cX0_pairFrom 105 = .ok (.iload_n 3, 1) := by decide +kernel
theorem dX0_pairFrom_106 : decode cX0_pairFrom 106 = .ok (.bipush (-4), 2) := by decide +kernel
theorem dX0_pairFrom_108 : decode cX0_pairFrom 108 = .ok (.iastore, 1) := by decide +kernel
theorem dX0_pairFrom_109 : decode cX0_pairFrom 109 = .ok (.iinc 3 1, 3) := by decide +kernel
theorem dX0_pairFrom_112 : decode cX0_pairFrom 112 = .ok (.goto (-71), 3) := by decide +kernel
theorem dX0_pairFrom_115 : decode cX0_pairFrom 115 = .ok (.aload_n 0, 1) := by decide +kernel
theorem dX0_pairFrom_116 : decode cX0_pairFrom 116 = .ok (.aload_n 1, 1) := by decide +kernel
theorem dX0_pairFrom_117 : decode cX0_pairFrom 117 = .ok (.iload_n 2, 1) := by decide +kernel
theorem dX0_pairFrom_118 : decode cX0_pairFrom 118 = .ok (.iconst 1, 1) := by decide +kernel
theorem dX0_pairFrom_119 : decode cX0_pairFrom 119 = .ok (.iadd, 1) := by decide +kernel
theorem dX0_pairFrom_120 : decode cX0_pairFrom 120 = .ok (.invokestatic 15, 3) := by decide +kernel
theorem dX0_pairFrom_123 : decode cX0_pairFrom 123 = .ok (.ireturn, 1) := by decide +kernel
theorem dX0_nobodyWouldLeave_0 : decode cX0_nobodyWouldLeave 0 = .ok (.iconst 0, 1) := by decide +kernel
theorem dX0_nobodyWouldLeave_1 : decode cX0_nobodyWouldLeave 1 = .ok (.istore_n 2, 1) := by decide +kernel
theorem dX0_nobodyWouldLeave_2 : decode cX0_nobodyWouldLeave 2 = .ok (.iload_n 2, 1) := by decide +kernel
theorem dX0_nobodyWouldLeave_3 : decode cX0_nobodyWouldLeave 3 = .ok (.aload_n 0, 1) := by decide +kernel
theorem dX0_nobodyWouldLeave_4 : decode cX0_nobodyWouldLeave 4 = .ok (.getfield 19, 3) := by decide +kernel
theorem dX0_nobodyWouldLeave_7 : decode cX0_nobodyWouldLeave 7 = .ok (.if_icmp .ge 56, 3) := by decide +kernel
theorem dX0_nobodyWouldLeave_10 : decode cX0_nobodyWouldLeave 10 = .ok (.iload_n 2, 1) := by decide +kernel
theorem dX0_nobodyWouldLeave_11 : decode cX0_nobodyWouldLeave 11 = .ok (.iconst 1, 1) := by decide +kernel
theorem dX0_nobodyWouldLeave_12 : decode cX0_nobodyWouldLeave 12 = .ok (.iadd, 1) := by decide +kernel
theorem dX0_nobodyWouldLeave_13 : decode cX0_nobodyWouldLeave 13 = .ok (.istore_n 3, 1) := by decide +kernel
theorem dX0_nobodyWouldLeave_14 : decode cX0_nobodyWouldLeave 14 = .ok (.iload_n 3, 1) := by decide +kernel
theorem dX0_nobodyWouldLeave_15 : decode cX0_nobodyWouldLeave 15 = .ok (.aload_n 0, 1) := by decide +kernel
theorem dX0_nobodyWouldLeave_16 : decode cX0_nobodyWouldLeave 16 = .ok (.getfield 19, 3) := by decide +kernel
theorem dX0_nobodyWouldLeave_19 : decode cX0_nobodyWouldLeave 19 = .ok (.if_icmp .ge 38, 3) := by decide +kernel
theorem dX0_nobodyWouldLeave_22 : decode cX0_nobodyWouldLeave 22 = .ok (.aload_n 1, 1) := by decide +kernel
theorem dX0_nobodyWouldLeave_23 : decode cX0_nobodyWouldLeave 23 = .ok (.iload_n 2, 1) := by decide +kernel
theorem dX0_nobodyWouldLeave_24 : decode cX0_nobodyWouldLeave 24 = .ok (.iaload, 1) := by decide +kernel
theorem dX0_nobodyWouldLeave_25 : decode cX0_nobodyWouldLeave 25 = .ok (.iload_n 3, 1) := by decide +kernel
theorem dX0_nobodyWouldLeave_26 : decode cX0_nobodyWouldLeave 26 = .ok (.if_icmp .eq 25, 3) := by decide +kernel
theorem dX0_nobodyWouldLeave_29 : decode cX0_nobodyWouldLeave 29 = .ok (.aload_n 0, 1) := by decide +kernel
theorem dX0_nobodyWouldLeave_30 : decode cX0_nobodyWouldLeave 30 = .ok (.aload_n 1, 1) := by decide +kernel
theorem dX0_nobodyWouldLeave_31 : decode cX0_nobodyWouldLeave 31 = .ok (.iload_n 2, 1) := by decide +kernel
theorem dX0_nobodyWouldLeave_32 : decode cX0_nobodyWouldLeave 32 = .ok (.iload_n 3, 1) := by decide +kernel
theorem dX0_nobodyWouldLeave_33 : decode cX0_nobodyWouldLeave 33 = .ok (.invokestatic 33, 3) := by decide +kernel
theorem dX0_nobodyWouldLeave_36 : decode cX0_nobodyWouldLeave 36 = .ok (.ifCond .eq 15, 3) := by decide +kernel
theorem dX0_nobodyWouldLeave_39 : decode cX0_nobodyWouldLeave 39 = .ok (.aload_n 0, 1) := by decide +kernel
theorem dX0_nobodyWouldLeave_40 : decode cX0_nobodyWouldLeave 40 = .ok (.aload_n 1, 1) := by decide +kernel
theorem dX0_nobodyWouldLeave_41 : decode cX0_nobodyWouldLeave 41 = .ok (.iload_n 3, 1) := by decide +kernel
theorem dX0_nobodyWouldLeave_42 : decode cX0_nobodyWouldLeave 42 = .ok (.iload_n 2, 1) := by decide +kernel
theorem dX0_nobodyWouldLeave_43 : decode cX0_nobodyWouldLeave 43 = .ok (.invokestatic 33, 3) := by decide +kernel
theorem dX0_nobodyWouldLeave_46 : decode cX0_nobodyWouldLeave 46 = .ok (.ifCond .eq 5, 3) := by decide +kernel
theorem dX0_nobodyWouldLeave_49 : decode cX0_nobodyWouldLeave 49 = .ok (.iconst 0, 1) := by decide +kernel
theorem dX0_nobodyWouldLeave_50 : decode cX0_nobodyWouldLeave 50 = .ok (.ireturn, 1) := by decide +kernel
theorem dX0_nobodyWouldLeave_51 : decode cX0_nobodyWouldLeave 51 = .ok (.iinc 3 1, 3) := by decide +kernel
theorem dX0_nobodyWouldLeave_54 : decode cX0_nobodyWouldLeave 54 = .ok (.goto (-40), 3) := by decide +kernel
theorem dX0_nobodyWouldLeave_57 : decode cX0_nobodyWouldLeave 57 = .ok (.iinc 2 1, 3) := by decide +kernel
theorem dX0_nobodyWouldLeave_60 : decode cX0_nobodyWouldLeave 60 = .ok (.goto (-58), 3) := by decide +kernel
theorem dX0_nobodyWouldLeave_63 : decode cX0_nobodyWouldLeave 63 = .ok (.iconst 1, 1) := by decide +kernel
theorem dX0_nobodyWouldLeave_64 : decode cX0_nobodyWouldLeave 64 = .ok (.ireturn, 1) := by decide +kernel
theorem dX0_wouldRather_0 : decode cX0_wouldRather 0 = .ok (.aload_n 1, 1) := by decide +kernel
theorem dX0_wouldRather_1 : decode cX0_wouldRather 1 = .ok (.iload_n 2, 1) := by decide +kernel
theorem dX0_wouldRather_2 : decode cX0_wouldRather 2 = .ok (.iaload, 1) := by decide +kernel
theorem dX0_wouldRather_3 : decode cX0_wouldRather 3 = .ok (.bipush (-4), 2) := by decide +kernel
theorem dX0_wouldRather_5 : decode cX0_wouldRather 5 = .ok (.if_icmp .ne 7, 3) := by decide +kernel
theorem dX0_wouldRather_8 : decode cX0_wouldRather 8 = .ok (.iconst 0, 1) := by decide +kernel
theorem dX0_wouldRather_9 : decode cX0_wouldRather 9 = .ok (.goto 11, 3) := by decide +kernel
theorem dX0_wouldRather_12 : decode cX0_wouldRather 12 = .ok (.aload_n 0, 1) := by decide +kernel
theorem dX0_wouldRather_13 : decode cX0_wouldRather 13 = .ok (.iload_n 2, 1) := by decide +kernel
theorem dX0_wouldRather_14 : decode cX0_wouldRather 14 = .ok (.aload_n 1, 1) := by decide +kernel
theorem dX0_wouldRather_15 : decode cX0_wouldRather 15 = .ok (.iload_n 2, 1) := by decide +kernel
theorem dX0_wouldRather_16 : decode cX0_wouldRather 16 = .ok (.iaload, 1) := by decide +kernel
theorem dX0_wouldRather_17 : decode cX0_wouldRather 17 = .ok (.invokevirtual 29, 3) := by decide +kernel
theorem dX0_wouldRather_20 : decode cX0_wouldRather 20 = .ok (.istore 4, 2) := by decide +kernel
theorem dX0_wouldRather_22 : decode cX0_wouldRather 22 = .ok (.aload_n 0, 1) := by decide +kernel
theorem dX0_wouldRather_23 : decode cX0_wouldRather 23 = .ok (.iload_n 2, 1) := by decide +kernel
theorem dX0_wouldRather_24 : decode cX0_wouldRather 24 = .ok (.iload_n 3, 1) := by decide +kernel
theorem dX0_wouldRather_25 : decode cX0_wouldRather 25 = .ok (.invokevirtual 29, 3) := by decide +kernel
theorem dX0_wouldRather_28 : decode cX0_wouldRather 28 = .ok (.iload 4, 2) := by decide +kernel
theorem dX0_wouldRather_30 : decode cX0_wouldRather 30 = .ok (.if_icmp .le 7, 3) := by decide +kernel
theorem dX0_wouldRather_33 : decode cX0_wouldRather 33 = .ok (.iconst 1, 1) := by decide +kernel
theorem dX0_wouldRather_34 : decode cX0_wouldRather 34 = .ok (.goto 4, 3) := by decide +kernel
theorem dX0_wouldRather_37 : decode cX0_wouldRather 37 = .ok (.iconst 0, 1) := by decide +kernel
theorem dX0_wouldRather_38 : decode cX0_wouldRather 38 = .ok (.ireturn, 1) := by decide +kernel
theorem dX1_init_0 : decode cX1_init 0 = .ok (.aload_n 0, 1) := by decide +kernel
theorem dX1_init_1 : decode cX1_init 1 = .ok (.invokespecial 3, 3) := by decide +kernel
theorem dX1_init_4 : decode cX1_init 4 = .ok (.aload_n 0, 1) := by decide +kernel
theorem dX1_init_5 : decode cX1_init 5 = .ok (.bipush 8, 2) := by decide +kernel
theorem dX1_init_7 : decode cX1_init 7 = .ok (.anewarray 9, 3) := by decide +kernel
theorem dX1_init_10 : decode cX1_init 10 = .ok (.putfield 11, 3) := by decide +kernel
theorem dX1_init_13 : decode cX1_init 13 = .ok (.aload_n 0, 1) := by decide +kernel
theorem dX1_init_14 : decode cX1_init 14 = .ok (.iconst 0, 1) := by decide +kernel
theorem dX1_init_15 : decode cX1_init 15 = .ok (.putfield 17, 3) := by decide +kernel
theorem dX1_init_18 : decode cX1_init 18 = .ok (.aload_n 0, 1) := by decide +kernel
theorem dX1_init_19 : decode cX1_init 19 = .ok (.iconst 0, 1) := by decide +kernel
theorem dX1_init_20 : decode cX1_init 20 = .ok (.putfield 21, 3) := by decide +kernel
theorem dX1_init_23 : decode cX1_init 23 = .ok (.iconst 0, 1) := by decide +kernel
theorem dX1_init_24 : decode cX1_init 24 = .ok (.istore_n 1, 1) := by decide +kernel
theorem dX1_init_25 : decode cX1_init 25 = .ok (.iload_n 1, 1) := by decide +kernel
theorem dX1_init_26 : decode cX1_init 26 = .ok (.bipush 8, 2) := by decide +kernel
theorem dX1_init_28 : decode cX1_init 28 = .ok (.if_icmp .ge 22, 3) := by decide +kernel
theorem dX1_init_31 : decode cX1_init 31 = .ok (.aload_n 0, 1) := by decide +kernel
theorem dX1_init_32 : decode cX1_init 32 = .ok (.getfield 11, 3) := by decide +kernel
theorem dX1_init_35 : decode cX1_init 35 = .ok (.iload_n 1, 1) := by decide +kernel
theorem dX1_init_36 : decode cX1_init 36 = .ok (.new 9, 3) := by decide +kernel
theorem dX1_init_39 : decode cX1_init 39 = .ok (.dup, 1) := by decide +kernel
theorem dX1_init_40 : decode cX1_init 40 = .ok (.invokespecial 24, 3) := by decide +kernel
theorem dX1_init_43 : decode cX1_init 43 = .ok (.aastore, 1) := by decide +kernel
theorem dX1_init_44 : decode cX1_init 44 = .ok (.iinc 1 1, 3) := by decide +kernel
theorem dX1_init_47 : decode cX1_init 47 = .ok (.goto (-22), 3) := by decide +kernel
theorem dX1_init_50 : decode cX1_init 50 = .ok (.return_, 1) := by decide +kernel
theorem dX1_clear_0 : decode cX1_clear 0 = .ok (.aload_n 0, 1) := by decide +kernel
theorem dX1_clear_1 : decode cX1_clear 1 = .ok (.iconst 0, 1) := by decide +kernel
theorem dX1_clear_2 : decode cX1_clear 2 = .ok (.putfield 21, 3) := by decide +kernel
theorem dX1_clear_5 : decode cX1_clear 5 = .ok (.return_, 1) := by decide +kernel
theorem dX1_remember_0 : decode cX1_remember 0 = .ok (.aload_n 0, 1) := by decide +kernel
theorem dX1_remember_1 : decode cX1_remember 1 = .ok (.getfield 11, 3) := by decide +kernel
theorem dX1_remember_4 : decode cX1_remember 4 = .ok (.aload_n 0, 1) := by decide +kernel
theorem dX1_remember_5 : decode cX1_remember 5 = .ok (.getfield 17, 3) := by decide +kernel
theorem dX1_remember_8 : decode cX1_remember 8 = .ok (.aaload, 1) := by decide +kernel
theorem dX1_remember_9 : decode cX1_remember 9 = .ok (.aload_n 1, 1) := by decide +kernel
theorem dX1_remember_10 : decode cX1_remember 10 = .ok (.invokevirtual 25, 3) := by decide +kernel
theorem dX1_remember_13 : decode cX1_remember 13 = .ok (.aload_n 0, 1) := by decide +kernel
theorem dX1_remember_14 : decode cX1_remember 14 = .ok (.aload_n 0, 1) := by decide +kernel
theorem dX1_remember_15 : decode cX1_remember 15 = .ok (.getfield 17, 3) := by decide +kernel
theorem dX1_remember_18 : decode cX1_remember 18 = .ok (.iconst 1, 1) := by decide +kernel
theorem dX1_remember_19 : decode cX1_remember 19 = .ok (.iadd, 1) := by decide +kernel
theorem dX1_remember_20 : decode cX1_remember 20 = .ok (.bipush 8, 2) := by decide +kernel
theorem dX1_remember_22 : decode cX1_remember 22 = .ok (.irem, 1) := by decide +kernel
theorem dX1_remember_23 : decode cX1_remember 23 = .ok (.putfield 17, 3) := by decide +kernel
theorem dX1_remember_26 : decode cX1_remember 26 = .ok (.aload_n 0, 1) := by decide +kernel
theorem dX1_remember_27 : decode cX1_remember 27 = .ok (.aload_n 0, 1) := by decide +kernel
theorem dX1_remember_28 : decode cX1_remember 28 = .ok (.getfield 21, 3) := by decide +kernel
theorem dX1_remember_31 : decode cX1_remember 31 = .ok (.iconst 1, 1) := by decide +kernel
theorem dX1_remember_32 : decode cX1_remember 32 = .ok (.iadd, 1) := by decide +kernel
theorem dX1_remember_33 : decode cX1_remember 33 = .ok (.bipush 8, 2) := by decide +kernel
theorem dX1_remember_35 : decode cX1_remember 35 = .ok (.invokestatic 29, 3) := by decide +kernel
theorem dX1_remember_38 : decode cX1_remember 38 = .ok (.putfield 21, 3) := by decide +kernel
theorem dX1_remember_41 : decode cX1_remember 41 = .ok (.return_, 1) := by decide +kernel
theorem dX1_restoreLatest_0 : decode cX1_restoreLatest 0 = .ok (.aload_n 0, 1) := by decide +kernel
theorem dX1_restoreLatest_1 : decode cX1_restoreLatest 1 = .ok (.getfield 21, 3) := by decide +kernel
theorem dX1_restoreLatest_4 : decode cX1_restoreLatest 4 = .ok (.iconst 1, 1) := by decide +kernel
theorem dX1_restoreLatest_5 : decode cX1_restoreLatest 5 = .ok (.if_icmp .ge 4, 3) := by decide +kernel
theorem dX1_restoreLatest_8 : decode cX1_restoreLatest 8 = .ok (.return_, 1) := by decide +kernel
theorem dX1_restoreLatest_9 : decode cX1_restoreLatest 9 = .ok (.aload_n 0, 1) := by decide +kernel
theorem dX1_restoreLatest_10 : decode cX1_restoreLatest 10 = .ok (.aload_n 0, 1) := by decide +kernel
theorem dX1_restoreLatest_11 : decode cX1_restoreLatest 11 = .ok (.getfield 17, 3) := by decide +kernel
theorem dX1_restoreLatest_14 : decode cX1_restoreLatest 14 = .ok (.bipush 8, 2) := by decide +kernel
theorem dX1_restoreLatest_16 : decode cX1_restoreLatest 16 = .ok (.iadd, 1) := by decide +kernel
theorem dX1_restoreLatest_17 : decode cX1_restoreLatest 17 = .ok (.iconst 1, 1) := by decide +kernel
theorem dX1_restoreLatest_18 : decode cX1_restoreLatest 18 = .ok (.isub, 1) := by decide +kernel
theorem dX1_restoreLatest_19 : decode cX1_restoreLatest 19 = .ok (.bipush 8, 2) := by decide +kernel
theorem dX1_restoreLatest_21 : decode cX1_restoreLatest 21 = .ok (.irem, 1) := by decide +kernel
theorem dX1_restoreLatest_22 : decode cX1_restoreLatest 22 = .ok (.putfield 17, 3) := by decide +kernel
theorem dX1_restoreLatest_25 : decode cX1_restoreLatest 25 = .ok (.aload_n 1, 1) := by decide +kernel
theorem dX1_restoreLatest_26 : decode cX1_restoreLatest 26 = .ok (.aload_n 0, 1) := by decide +kernel
theorem dX1_restoreLatest_27 : decode cX1_restoreLatest 27 = .ok (.getfield 11, 3) := by decide +kernel
theorem dX1_restoreLatest_30 : decode cX1_restoreLatest 30 = .ok (.aload_n 0, 1) := by decide +kernel
theorem dX1_restoreLatest_31 : decode cX1_restoreLatest 31 = .ok (.getfield 17, 3) := by decide +kernel
theorem dX1_restoreLatest_34 : decode cX1_restoreLatest 34 = .ok (.aaload, 1) := by decide +kernel
theorem dX1_restoreLatest_35 : decode cX1_restoreLatest 35 = .ok (.invokevirtual 25, 3) := by decide +kernel
theorem dX1_restoreLatest_38 : decode cX1_restoreLatest 38 = .ok (.aload_n 0, 1) := by decide +kernel
theorem dX1_restoreLatest_39 : decode cX1_restoreLatest 39 = .ok (.dup, 1) := by decide +kernel
theorem dX1_restoreLatest_40 : decode cX1_restoreLatest 40 = .ok (.getfield 21, 3) := by decide +kernel
theorem dX1_restoreLatest_43 : decode cX1_restoreLatest 43 = .ok (.iconst 1, 1) := by decide +kernel
theorem dX1_restoreLatest_44 : decode cX1_restoreLatest 44 = .ok (.isub, 1) := by decide +kernel
theorem dX1_restoreLatest_45 : decode cX1_restoreLatest 45 = .ok (.putfield 21, 3) := by decide +kernel
theorem dX1_restoreLatest_48 : decode cX1_restoreLatest 48 = .ok (.return_, 1) := by decide +kernel
theorem dX2_init_0 : decode cX2_init 0 = .ok (.aload_n 0, 1) := by decide +kernel
theorem dX2_init_1 : decode cX2_init 1 = .ok (.invokespecial 3, 3) := by decide +kernel
theorem dX2_init_4 : decode cX2_init 4 = .ok (.aload_n 0, 1) := by decide +kernel
theorem dX2_init_5 : decode cX2_init 5 = .ok (.iconst 4, 1) := by decide +kernel
theorem dX2_init_6 : decode cX2_init 6 = .ok (.newarray .int, 2) := by decide +kernel
theorem dX2_init_8 : decode cX2_init 8 = .ok (.putfield 11, 3) := by decide +kernel
theorem dX2_init_11 : decode cX2_init 11 = .ok (.return_, 1) := by decide +kernel
theorem dX2_readInto_0 : decode cX2_readInto 0 = .ok (.aload_n 1, 1) := by decide +kernel
theorem dX2_readInto_1 : decode cX2_readInto 1 = .ok (.invokevirtual 15, 3) := by decide +kernel
theorem dX2_readInto_4 : decode cX2_readInto 4 = .ok (.iconst 1, 1) := by decide +kernel
theorem dX2_readInto_5 : decode cX2_readInto 5 = .ok (.istore_n 3, 1) := by decide +kernel
theorem dX2_readInto_6 : decode cX2_readInto 6 = .ok (.iconst 0, 1) := by decide +kernel
theorem dX2_readInto_7 : decode cX2_readInto 7 = .ok (.istore 4, 2) := by decide +kernel
theorem dX2_readInto_9 : decode cX2_readInto 9 = .ok (.iconst 0, 1) := by decide +kernel
theorem dX2_readInto_10 : decode cX2_readInto 10 = .ok (.istore 5, 2) := by decide +kernel
theorem dX2_readInto_12 : decode cX2_readInto 12 = .ok (.iload 5, 2) := by decide +kernel
theorem dX2_readInto_14 : decode cX2_readInto 14 = .ok (.sipush 200, 3) := by decide +kernel
theorem dX2_readInto_17 : decode cX2_readInto 17 = .ok (.if_icmp .ge 90, 3) := by decide +kernel
theorem dX2_readInto_20 : decode cX2_readInto 20 = .ok (.iload 4, 2) := by decide +kernel
theorem dX2_readInto_22 : decode cX2_readInto 22 = .ok (.aload_n 2, 1) := by decide +kernel
theorem dX2_readInto_23 : decode cX2_readInto 23 = .ok (.getfield 20, 3) := by decide +kernel
theorem dX2_readInto_26 : decode cX2_readInto 26 = .ok (.if_icmp .ge 81, 3) := by decide +kernel
theorem dX2_readInto_29 : decode cX2_readInto 29 = .ok (.aload_n 2, 1) := by decide +kernel
theorem dX2_readInto_30 : decode cX2_readInto 30 = .ok (.iload 4, 2) := by decide +kernel
theorem dX2_readInto_32 : decode cX2_readInto 32 = .ok (.invokevirtual 26, 3) := by decide +kernel
theorem dX2_readInto_35 : decode cX2_readInto 35 = .ok (.istore 6, 2) := by decide +kernel
theorem dX2_readInto_37 : decode cX2_readInto 37 = .ok (.aload_n 0, 1) := by decide +kernel
theorem dX2_readInto_38 : decode cX2_readInto 38 = .ok (.aload_n 2, 1) := by decide +kernel
theorem dX2_readInto_39 : decode cX2_readInto 39 = .ok (.iload 4, 2) := by decide +kernel
theorem dX2_readInto_41 : decode cX2_readInto 41 = .ok (.iconst 1, 1) := by decide +kernel
theorem dX2_readInto_42 : decode cX2_readInto 42 = .ok (.iadd, 1) := by decide +kernel
theorem dX2_readInto_43 : decode cX2_readInto 43 = .ok (.iload 6, 2) := by decide +kernel
theorem dX2_readInto_45 : decode cX2_readInto 45 = .ok (.invokestatic 30, 3) := by decide +kernel
theorem dX2_readInto_48 : decode cX2_readInto 48 = .ok (.invokevirtual 33, 3) := by decide +kernel
theorem dX2_readInto_51 : decode cX2_readInto 51 = .ok (.istore 7, 2) := by decide +kernel
theorem dX2_readInto_53 : decode cX2_readInto 53 = .ok (.iload 7, 2) := by decide +kernel
theorem dX2_readInto_55 : decode cX2_readInto 55 = .ok (.bipush (-4), 2) := by decide +kernel
theorem dX2_readInto_57 : decode cX2_readInto 57 = .ok (.if_icmp .eq 24, 3) := by decide +kernel
theorem dX2_readInto_60 : decode cX2_readInto 60 = .ok (.iload 6, 2) := by decide +kernel
theorem dX2_readInto_62 : decode cX2_readInto 62 = .ok (.bipush 114, 2) := by decide +kernel
theorem dX2_readInto_64 : decode cX2_readInto 64 = .ok (.if_icmp .ne 7, 3) := by decide +kernel
theorem dX2_readInto_67 : decode cX2_readInto 67 = .ok (.iload_n 3, 1) := by decide +kernel
theorem dX2_readInto_68 : decode cX2_readInto 68 = .ok (.ifCond .eq 13, 3) := by decide +kernel
theorem dX2_readInto_71 : decode cX2_readInto 71 = .ok (.aload_n 0, 1) := by decide +kernel
theorem dX2_readInto_72 : decode cX2_readInto 72 = .ok (.aload_n 1, 1) := by decide +kernel
theorem dX2_readInto_73 : decode cX2_readInto 73 = .ok (.iload 6, 2) := by decide +kernel
theorem dX2_readInto_75 : decode cX2_readInto 75 = .ok (.invokevirtual 37, 3) := by decide +kernel
theorem dX2_readInto_78 : decode cX2_readInto 78 = .ok (.ifCond .ne 6, 3) := by decide +kernel
theorem dX2_readInto_81 : decode cX2_readInto 81 = .ok (.iload 4, 2) := by decide +kernel
theorem dX2_readInto_83 : decode cX2_readInto 83 = .ok (.ireturn, 1) := by decide +kernel
theorem dX2_readInto_84 : decode cX2_readInto 84 = .ok (.iload 6, 2) := by decide +kernel
theorem dX2_readInto_86 : decode cX2_readInto 86 = .ok (.bipush 114, 2) := by decide +kernel
theorem dX2_readInto_88 : decode cX2_readInto 88 = .ok (.if_icmp .ne 7, 3) := by decide +kernel
theorem dX2_readInto_91 : decode cX2_readInto 91 = .ok (.iconst 1, 1) := by decide +kernel
theorem dX2_readInto_92 : decode cX2_readInto 92 = .ok (.goto 4, 3) := by decide +kernel
theorem dX2_readInto_95 : decode cX2_readInto 95 = .ok (.iconst 0, 1) := by decide +kernel
theorem dX2_readInto_96 : decode cX2_readInto 96 = .ok (.istore_n 3, 1) := by decide +kernel
theorem dX2_readInto_97 : decode cX2_readInto 97 = .ok (.iload 7, 2) := by decide +kernel
theorem dX2_readInto_99 : decode cX2_readInto 99 = .ok (.istore 4, 2) := by decide +kernel
theorem dX2_readInto_101 : decode cX2_readInto 101 = .ok (.iinc 5 1, 3) := by decide +kernel
theorem dX2_readInto_104 : decode cX2_readInto 104 = .ok (.goto (-92), 3) := by decide +kernel
theorem dX2_readInto_107 : decode cX2_readInto 107 = .ok (.bipush (-4), 2) := by decide +kernel
theorem dX2_readInto_109 : decode cX2_readInto 109 = .ok (.ireturn, 1) := by decide +kernel
theorem dX2_numbersOf_0 : decode cX2_numbersOf 0 = .ok (.iload_n 0, 1) := by decide +kernel
theorem dX2_numbersOf_1 : decode cX2_numbersOf 1 = .ok (.lookupswitch 41 #[(108, 39), (112, 37), (114, 35)], 35) := by decide +kernel
theorem dX2_numbersOf_36 : decode cX2_numbersOf 36 = .ok (.iconst 2, 1) := by decide +kernel
theorem dX2_numbersOf_37 : decode cX2_numbersOf 37 = .ok (.ireturn, 1) := by decide +kernel
theorem dX2_numbersOf_38 : decode cX2_numbersOf 38 = .ok (.iconst 3, 1) := by decide +kernel
theorem dX2_numbersOf_39 : decode cX2_numbersOf 39 = .ok (.ireturn, 1) := by decide +kernel
theorem dX2_numbersOf_40 : decode cX2_numbersOf 40 = .ok (.iconst 4, 1) := by decide +kernel
theorem dX2_numbersOf_41 : decode cX2_numbersOf 41 = .ok (.ireturn, 1) := by decide +kernel
theorem dX2_numbersOf_42 : decode cX2_numbersOf 42 = .ok (.iconst 0, 1) := by decide +kernel
theorem dX2_numbersOf_43 : decode cX2_numbersOf 43 = .ok (.ireturn, 1) := by decide +kernel
theorem dX2_readNumbers_0 : decode cX2_readNumbers 0 = .ok (.iload_n 3, 1) := by decide +kernel
theorem dX2_readNumbers_1 : decode cX2_readNumbers 1 = .ok (.iconst 1, 1) := by decide +kernel
theorem dX2_readNumbers_2 : decode cX2_readNumbers 2 = .ok (.if_icmp .lt 8, 3) := by decide +kernel
theorem dX2_readNumbers_5 : decode cX2_readNumbers 5 = .ok (.iload_n 3, 1) := by decide +kernel
theorem dX2_readNumbers_6 : decode cX2_readNumbers 6 = .ok (.iconst 4, 1) := by decide +kernel
theorem dX2_readNumbers_7 : decode cX2_readNumbers 7 = .ok (.if_icmp .le 6, 3) := by decide +kernel
theorem dX2_readNumbers_10 : decode cX2_readNumbers 10 = .ok (.bipush (-4), 2) := by decide +kernel
theorem dX2_readNumbers_12 : decode cX2_readNumbers 12 = .ok (.ireturn, 1) := by decide +kernel
theorem dX2_readNumbers_13 : decode cX2_readNumbers 13 = .ok (.iload_n 2, 1) := by decide +kernel
theorem dX2_readNumbers_14 : decode cX2_readNumbers 14 = .ok (.istore 4, 2) := by decide +kernel
theorem dX2_readNumbers_16 : decode cX2_readNumbers 16 = .ok (.iconst 0, 1) := by decide +kernel
theorem dX2_readNumbers_17 : decode cX2_readNumbers 17 = .ok (.istore 5, 2) := by decide +kernel
theorem dX2_readNumbers_19 : decode cX2_readNumbers 19 = .ok (.iload 5, 2) := by decide +kernel
theorem dX2_readNumbers_21 : decode cX2_readNumbers 21 = .ok (.iload_n 3, 1) := by decide +kernel
theorem dX2_readNumbers_22 : decode cX2_readNumbers 22 = .ok (.if_icmp .ge 103, 3) := by decide +kernel
theorem dX2_readNumbers_25 : decode cX2_readNumbers 25 = .ok (.aload_n 1, 1) := by decide +kernel
theorem dX2_readNumbers_26 : decode cX2_readNumbers 26 = .ok (.iload 4, 2) := by decide +kernel
theorem dX2_readNumbers_28 : decode cX2_readNumbers 28 = .ok (.invokevirtual 41, 3) := by decide +kernel
theorem dX2_readNumbers_31 : decode cX2_readNumbers 31 = .ok (.ifCond .ne 6, 3) := by decide +kernel
theorem dX2_readNumbers_34 : decode cX2_readNumbers 34 = .ok (.bipush (-4), 2) := by decide +kernel
theorem dX2_readNumbers_36 : decode cX2_readNumbers 36 = .ok (.ireturn, 1) := by decide +kernel
theorem dX2_readNumbers_37 : decode cX2_readNumbers 37 = .ok (.aload_n 1, 1) := by decide +kernel
theorem dX2_readNumbers_38 : decode cX2_readNumbers 38 = .ok (.iload 4, 2) := by decide +kernel
theorem dX2_readNumbers_40 : decode cX2_readNumbers 40 = .ok (.invokevirtual 26, 3) := by decide +kernel
theorem dX2_readNumbers_43 : decode cX2_readNumbers 43 = .ok (.bipush 48, 2) := by decide +kernel
theorem dX2_readNumbers_45 : decode cX2_readNumbers 45 = .ok (.isub, 1) := by decide +kernel
theorem dX2_readNumbers_46 : decode cX2_readNumbers 46 = .ok (.istore 6, 2) := by decide +kernel
theorem dX2_readNumbers_48 : decode cX2_readNumbers 48 = .ok (.iinc 4 1, 3) := by decide +kernel
theorem dX2_readNumbers_51 : decode cX2_readNumbers 51 = .ok (.aload_n 1, 1) := by decide +kernel
theorem dX2_readNumbers_52 : decode cX2_readNumbers 52 = .ok (.iload 4, 2) := by decide +kernel
theorem dX2_readNumbers_54 : decode cX2_readNumbers 54 = .ok (.invokevirtual 41, 3) := by decide +kernel
theorem dX2_readNumbers_57 : decode cX2_readNumbers 57 = .ok (.ifCond .eq 23, 3) := by decide +kernel
theorem dX2_readNumbers_60 : decode cX2_readNumbers 60 = .ok (.bipush 10, 2) := by decide +kernel
theorem dX2_readNumbers_62 : decode cX2_readNumbers 62 = .ok (.iload 6, 2) := by decide +kernel
theorem dX2_readNumbers_64 : decode cX2_readNumbers 64 = .ok (.imul, 1) := by decide +kernel
theorem dX2_readNumbers_65 : decode cX2_readNumbers 65 = .ok (.aload_n 1, 1) := by decide +kernel
theorem dX2_readNumbers_66 : decode cX2_readNumbers 66 = .ok (.iload 4, 2) := by decide +kernel
theorem dX2_readNumbers_68 : decode cX2_readNumbers 68 = .ok (.invokevirtual 26, 3) := by decide +kernel
theorem dX2_readNumbers_71 : decode cX2_readNumbers 71 = .ok (.iadd, 1) := by decide +kernel
theorem dX2_readNumbers_72 : decode cX2_readNumbers 72 = .ok (.bipush 48, 2) := by decide +kernel
theorem dX2_readNumbers_74 : decode cX2_readNumbers 74 = .ok (.isub, 1) := by decide +kernel
theorem dX2_readNumbers_75 : decode cX2_readNumbers 75 = .ok (.istore 6, 2) := by decide +kernel
theorem dX2_readNumbers_77 : decode cX2_readNumbers 77 = .ok (.iinc 4 1, 3) := by decide +kernel
theorem dX2_readNumbers_80 : decode cX2_readNumbers 80 = .ok (.aload_n 1, 1) := by decide +kernel
theorem dX2_readNumbers_81 : decode cX2_readNumbers 81 = .ok (.iload 4, 2) := by decide +kernel
theorem dX2_readNumbers_83 : decode cX2_readNumbers 83 = .ok (.invokevirtual 26, 3) := by decide +kernel
theorem dX2_readNumbers_86 : decode cX2_readNumbers 86 = .ok (.iload 5, 2) := by decide +kernel
theorem dX2_readNumbers_88 : decode cX2_readNumbers 88 = .ok (.iconst 1, 1) := by decide +kernel
theorem dX2_readNumbers_89 : decode cX2_readNumbers 89 = .ok (.iadd, 1) := by decide +kernel
theorem dX2_readNumbers_90 : decode cX2_readNumbers 90 = .ok (.iload_n 3, 1) := by decide +kernel
theorem dX2_readNumbers_91 : decode cX2_readNumbers 91 = .ok (.if_icmp .ge 8, 3) := by decide +kernel
theorem dX2_readNumbers_94 : decode cX2_readNumbers 94 = .ok (.bipush 44, 2) := by decide +kernel
theorem dX2_readNumbers_96 : decode cX2_readNumbers 96 = .ok (.goto 5, 3) := by decide +kernel
theorem dX2_readNumbers_99 : decode cX2_readNumbers 99 = .ok (.bipush 59, 2) := by decide +kernel
theorem dX2_readNumbers_101 : decode cX2_readNumbers 101 = .ok (.if_icmp .eq 6, 3) := by decide +kernel
theorem dX2_readNumbers_104 : decode cX2_readNumbers 104 = .ok (.bipush (-4), 2) := by decide +kernel
theorem dX2_readNumbers_106 : decode cX2_readNumbers 106 = .ok (.ireturn, 1) := by decide +kernel
theorem dX2_readNumbers_107 : decode cX2_readNumbers 107 = .ok (.aload_n 0, 1) := by decide +kernel
theorem dX2_readNumbers_108 : decode cX2_readNumbers 108 = .ok (.getfield 11, 3) := by decide +kernel
theorem dX2_readNumbers_111 : decode cX2_readNumbers 111 = .ok (.iload 5, 2) := by decide +kernel
theorem dX2_readNumbers_113 : decode cX2_readNumbers 113 = .ok (.iload 6, 2) := by decide +kernel
theorem dX2_readNumbers_115 : decode cX2_readNumbers 115 = .ok (.iastore, 1) := by decide +kernel
theorem dX2_readNumbers_116 : decode cX2_readNumbers 116 = .ok (.iinc 4 1, 3) := by decide +kernel
theorem dX2_readNumbers_119 : decode cX2_readNumbers 119 = .ok (.iinc 5 1, 3) := by decide +kernel
theorem dX2_readNumbers_122 : decode cX2_readNumbers 122 = .ok (.goto (-103), 3) := by decide +kernel
theorem dX2_readNumbers_125 : decode cX2_readNumbers 125 = .ok (.iload 4, 2) := by decide +kernel
theorem dX2_readNumbers_127 : decode cX2_readNumbers 127 = .ok (.ireturn, 1) := by decide +kernel
theorem dX2_take_0 : decode cX2_take 0 = .ok (.iload_n 2, 1) := by decide +kernel
theorem dX2_take_1 : decode cX2_take 1 = .ok (.lookupswitch 53 #[(108, 47), (112, 41), (114, 35)], 35) := by decide +kernel
theorem dX2_take_36 : decode cX2_take 36 = .ok (.aload_n 0, 1) := by decide +kernel
theorem dX2_take_37 : decode cX2_take 37 = .ok (.aload_n 1, 1) := by decide +kernel
theorem dX2_take_38 : decode cX2_take 38 = .ok (.invokevirtual 45, 3) := by decide +kernel
theorem dX2_take_41 : decode cX2_take 41 = .ok (.ireturn, 1) := by decide +kernel
theorem dX2_take_42 : decode cX2_take 42 = .ok (.aload_n 0, 1) := by decide +kernel
theorem dX2_take_43 : decode cX2_take 43 = .ok (.aload_n 1, 1) := by decide +kernel
theorem dX2_take_44 : decode cX2_take 44 = .ok (.invokevirtual 49, 3) := by decide +kernel
theorem dX2_take_47 : decode cX2_take 47 = .ok (.ireturn, 1) := by decide +kernel
theorem dX2_take_48 : decode cX2_take 48 = .ok (.aload_n 0, 1) := by decide +kernel
theorem dX2_take_49 : decode cX2_take 49 = .ok (.aload_n 1, 1) := by decide +kernel
theorem dX2_take_50 : decode cX2_take 50 = .ok (.invokevirtual 52, 3) := by decide +kernel
theorem dX2_take_53 : decode cX2_take 53 = .ok (.ireturn, 1) := by decide +kernel
theorem dX2_take_54 : decode cX2_take 54 = .ok (.iconst 0, 1) := by decide +kernel
theorem dX2_take_55 : decode cX2_take 55 = .ok (.ireturn, 1) := by decide +kernel
theorem dX2_takeWalls_0 : decode cX2_takeWalls 0 = .ok (.aload_n 0, 1) := by decide +kernel
theorem dX2_takeWalls_1 : decode cX2_takeWalls 1 = .ok (.getfield 11, 3) := by decide +kernel
theorem dX2_takeWalls_4 : decode cX2_takeWalls 4 = .ok (.iconst 0, 1) := by decide +kernel
theorem dX2_takeWalls_5 : decode cX2_takeWalls 5 = .ok (.iaload, 1) := by decide +kernel
theorem dX2_takeWalls_6 : decode cX2_takeWalls 6 = .ok (.iconst 1, 1) := by decide +kernel
theorem dX2_takeWalls_7 : decode cX2_takeWalls 7 = .ok (.if_icmp .lt 35, 3) := by decide +kernel
theorem dX2_takeWalls_10 : decode cX2_takeWalls 10 = .ok (.aload_n 0, 1) := by decide +kernel
theorem dX2_takeWalls_11 : decode cX2_takeWalls 11 = .ok (.getfield 11, 3) := by decide +kernel
theorem dX2_takeWalls_14 : decode cX2_takeWalls 14 = .ok (.iconst 0, 1) := by decide +kernel
theorem dX2_takeWalls_15 : decode cX2_takeWalls 15 = .ok (.iaload, 1) := by decide +kernel
theorem dX2_takeWalls_16 : decode cX2_takeWalls 16 = .ok (.bipush 9, 2) := by decide +kernel
theorem dX2_takeWalls_18 : decode cX2_takeWalls 18 = .ok (.if_icmp .gt 24, 3) := by decide +kernel
theorem dX2_takeWalls_21 : decode cX2_takeWalls 21 = .ok (.aload_n 0, 1) := by decide +kernel
theorem dX2_takeWalls_22 : decode cX2_takeWalls 22 = .ok (.getfield 11, 3) := by decide +kernel
theorem dX2_takeWalls_25 : decode cX2_takeWalls 25 = .ok (.iconst 1, 1) := by decide +kernel
theorem dX2_takeWalls_26 : decode cX2_takeWalls 26 = .ok (.iaload, 1) := by decide +kernel
theorem dX2_takeWalls_27 : decode cX2_takeWalls 27 = .ok (.iconst 1, 1) := by decide +kernel
theorem dX2_takeWalls_28 : decode cX2_takeWalls 28 = .ok (.if_icmp .lt 14, 3) := by decide +kernel
theorem dX2_takeWalls_31 : decode cX2_takeWalls 31 = .ok (.aload_n 0, 1) := by decide +kernel
theorem dX2_takeWalls_32 : decode cX2_takeWalls 32 = .ok (.getfield 11, 3) := by decide +kernel
theorem dX2_takeWalls_35 : decode cX2_takeWalls 35 = .ok (.iconst 1, 1) := by decide +kernel
theorem dX2_takeWalls_36 : decode cX2_takeWalls 36 = .ok (.iaload, 1) := by decide +kernel
theorem dX2_takeWalls_37 : decode cX2_takeWalls 37 = .ok (.bipush 9, 2) := by decide +kernel
theorem dX2_takeWalls_39 : decode cX2_takeWalls 39 = .ok (.if_icmp .le 5, 3) := by decide +kernel
theorem dX2_takeWalls_42 : decode cX2_takeWalls 42 = .ok (.iconst 0, 1) := by decide +kernel
theorem dX2_takeWalls_43 : decode cX2_takeWalls 43 = .ok (.ireturn, 1) := by decide +kernel
theorem dX2_takeWalls_44 : decode cX2_takeWalls 44 = .ok (.aload_n 1, 1) := by decide +kernel
theorem dX2_takeWalls_45 : decode cX2_takeWalls 45 = .ok (.aload_n 0, 1) := by decide +kernel
theorem dX2_takeWalls_46 : decode cX2_takeWalls 46 = .ok (.getfield 11, 3) := by decide +kernel
theorem dX2_takeWalls_49 : decode cX2_takeWalls 49 = .ok (.iconst 0, 1) := by decide +kernel
theorem dX2_takeWalls_50 : decode cX2_takeWalls 50 = .ok (.iaload, 1) := by decide +kernel
theorem dX2_takeWalls_51 : decode cX2_takeWalls 51 = .ok (.putfield 55, 3) := by decide +kernel
theorem dX2_takeWalls_54 : decode cX2_takeWalls 54 = .ok (.aload_n 1, 1) := by decide +kernel
theorem dX2_takeWalls_55 : decode cX2_takeWalls 55 = .ok (.aload_n 0, 1) := by decide +kernel
theorem dX2_takeWalls_56 : decode cX2_takeWalls 56 = .ok (.getfield 11, 3) := by decide +kernel
theorem dX2_takeWalls_59 : decode cX2_takeWalls 59 = .ok (.iconst 1, 1) := by decide +kernel
theorem dX2_takeWalls_60 : decode cX2_takeWalls 60 = .ok (.iaload, 1) := by decide +kernel
theorem dX2_takeWalls_61 : decode cX2_takeWalls 61 = .ok (.putfield 58, 3) := by decide +kernel
theorem dX2_takeWalls_64 : decode cX2_takeWalls 64 = .ok (.iconst 1, 1) := by decide +kernel
theorem dX2_takeWalls_65 : decode cX2_takeWalls 65 = .ok (.ireturn, 1) := by decide +kernel
theorem dX2_takePerson_0 : decode cX2_takePerson 0 = .ok (.aload_n 1, 1) := by decide +kernel
theorem dX2_takePerson_1 : decode cX2_takePerson 1 = .ok (.getfield 61, 3) := by decide +kernel
theorem dX2_takePerson_4 : decode cX2_takePerson 4 = .ok (.bipush 6, 2) := by decide +kernel
theorem dX2_takePerson_6 : decode cX2_takePerson 6 = .ok (.if_icmp .ge 32, 3) := by decide +kernel
theorem dX2_takePerson_9 : decode cX2_takePerson 9 = .ok (.aload_n 0, 1) := by decide +kernel
theorem dX2_takePerson_10 : decode cX2_takePerson 10 = .ok (.getfield 11, 3) := by decide +kernel
theorem dX2_takePerson_13 : decode cX2_takePerson 13 = .ok (.iconst 0, 1) := by decide +kernel
theorem dX2_takePerson_14 : decode cX2_takePerson 14 = .ok (.iaload, 1) := by decide +kernel
theorem dX2_takePerson_15 : decode cX2_takePerson 15 = .ok (.iconst 4, 1) := by decide +kernel
theorem dX2_takePerson_16 : decode cX2_takePerson 16 = .ok (.if_icmp .ge 22, 3) := by decide +kernel
theorem dX2_takePerson_19 : decode cX2_takePerson 19 = .ok (.aload_n 1, 1) := by decide +kernel
theorem dX2_takePerson_20 : decode cX2_takePerson 20 = .ok (.aload_n 0, 1) := by decide +kernel
theorem dX2_takePerson_21 : decode cX2_takePerson 21 = .ok (.getfield 11, 3) := by decide +kernel
theorem dX2_takePerson_24 : decode cX2_takePerson 24 = .ok (.iconst 1, 1) := by decide +kernel
theorem dX2_takePerson_25 : decode cX2_takePerson 25 = .ok (.iaload, 1) := by decide +kernel
theorem dX2_takePerson_26 : decode cX2_takePerson 26 = .ok (.aload_n 0, 1) := by decide +kernel
theorem dX2_takePerson_27 : decode cX2_takePerson 27 = .ok (.getfield 11, 3) := by decide +kernel
theorem dX2_takePerson_30 : decode cX2_takePerson 30 = .ok (.iconst 2, 1) := by decide +kernel
theorem dX2_takePerson_31 : decode cX2_takePerson 31 = .ok (.iaload, 1) := by decide +kernel
theorem dX2_takePerson_32 : decode cX2_takePerson 32 = .ok (.invokevirtual 64, 3) := by decide +kernel
theorem dX2_takePerson_35 : decode cX2_takePerson 35 = .ok (.ifCond .ne 5, 3) := by decide +kernel
theorem dX2_takePerson_38 : decode cX2_takePerson 38 = .ok (.iconst 0, 1) := by decide +kernel
theorem dX2_takePerson_39 : decode cX2_takePerson 39 = .ok (.ireturn, 1) := by decide +kernel
theorem dX2_takePerson_40 : decode cX2_takePerson 40 = .ok (.aload_n 1, 1) := by decide +kernel
theorem dX2_takePerson_41 : decode cX2_takePerson 41 = .ok (.aload_n 0, 1) := by decide +kernel
theorem dX2_takePerson_42 : decode cX2_takePerson 42 = .ok (.getfield 11, 3) := by decide +kernel
theorem dX2_takePerson_45 : decode cX2_takePerson 45 = .ok (.iconst 1, 1) := by decide +kernel
theorem dX2_takePerson_46 : decode cX2_takePerson 46 = .ok (.iaload, 1) := by decide +kernel
theorem dX2_takePerson_47 : decode cX2_takePerson 47 = .ok (.aload_n 0, 1) := by decide +kernel
theorem dX2_takePerson_48 : decode cX2_takePerson 48 = .ok (.getfield 11, 3) := by decide +kernel
theorem dX2_takePerson_51 : decode cX2_takePerson 51 = .ok (.iconst 2, 1) := by decide +kernel
theorem dX2_takePerson_52 : decode cX2_takePerson 52 = .ok (.iaload, 1) := by decide +kernel
theorem dX2_takePerson_53 : decode cX2_takePerson 53 = .ok (.invokevirtual 68, 3) := by decide +kernel
theorem dX2_takePerson_56 : decode cX2_takePerson 56 = .ok (.bipush (-4), 2) := by decide +kernel
theorem dX2_takePerson_58 : decode cX2_takePerson 58 = .ok (.if_icmp .eq 5, 3) := by decide +kernel
theorem dX2_takePerson_61 : decode cX2_takePerson 61 = .ok (.iconst 0, 1) := by decide +kernel
theorem dX2_takePerson_62 : decode cX2_takePerson 62 = .ok (.ireturn, 1) := by decide +kernel
theorem dX2_takePerson_63 : decode cX2_takePerson 63 = .ok (.aload_n 1, 1) := by decide +kernel
theorem dX2_takePerson_64 : decode cX2_takePerson 64 = .ok (.aload_n 0, 1) := by decide +kernel
theorem dX2_takePerson_65 : decode cX2_takePerson 65 = .ok (.getfield 11, 3) := by decide +kernel
theorem dX2_takePerson_68 : decode cX2_takePerson 68 = .ok (.iconst 0, 1) := by decide +kernel
theorem dX2_takePerson_69 : decode cX2_takePerson 69 = .ok (.iaload, 1) := by decide +kernel
theorem dX2_takePerson_70 : decode cX2_takePerson 70 = .ok (.aload_n 0, 1) := by decide +kernel
theorem dX2_takePerson_71 : decode cX2_takePerson 71 = .ok (.getfield 11, 3) := by decide +kernel
theorem dX2_takePerson_74 : decode cX2_takePerson 74 = .ok (.iconst 1, 1) := by decide +kernel
theorem dX2_takePerson_75 : decode cX2_takePerson 75 = .ok (.iaload, 1) := by decide +kernel
theorem dX2_takePerson_76 : decode cX2_takePerson 76 = .ok (.aload_n 0, 1) := by decide +kernel
theorem dX2_takePerson_77 : decode cX2_takePerson 77 = .ok (.getfield 11, 3) := by decide +kernel
theorem dX2_takePerson_80 : decode cX2_takePerson 80 = .ok (.iconst 2, 1) := by decide +kernel
theorem dX2_takePerson_81 : decode cX2_takePerson 81 = .ok (.iaload, 1) := by decide +kernel
theorem dX2_takePerson_82 : decode cX2_takePerson 82 = .ok (.invokevirtual 72, 3) := by decide +kernel
theorem dX2_takePerson_85 : decode cX2_takePerson 85 = .ok (.iconst 1, 1) := by decide +kernel
theorem dX2_takePerson_86 : decode cX2_takePerson 86 = .ok (.ireturn, 1) := by decide +kernel
theorem dX2_takeLeaning_0 : decode cX2_takeLeaning 0 = .ok (.aload_n 1, 1) := by decide +kernel
theorem dX2_takeLeaning_1 : decode cX2_takeLeaning 1 = .ok (.aload_n 0, 1) := by decide +kernel
theorem dX2_takeLeaning_2 : decode cX2_takeLeaning 2 = .ok (.getfield 11, 3) := by decide +kernel
theorem dX2_takeLeaning_5 : decode cX2_takeLeaning 5 = .ok (.iconst 0, 1) := by decide +kernel
theorem dX2_takeLeaning_6 : decode cX2_takeLeaning 6 = .ok (.iaload, 1) := by decide +kernel
theorem dX2_takeLeaning_7 : decode cX2_takeLeaning 7 = .ok (.aload_n 0, 1) := by decide +kernel
theorem dX2_takeLeaning_8 : decode cX2_takeLeaning 8 = .ok (.getfield 11, 3) := by decide +kernel
theorem dX2_takeLeaning_11 : decode cX2_takeLeaning 11 = .ok (.iconst 1, 1) := by decide +kernel
theorem dX2_takeLeaning_12 : decode cX2_takeLeaning 12 = .ok (.iaload, 1) := by decide +kernel
theorem dX2_takeLeaning_13 : decode cX2_takeLeaning 13 = .ok (.invokevirtual 76, 3) := by decide +kernel
theorem dX2_takeLeaning_16 : decode cX2_takeLeaning 16 = .ok (.ifCond .eq 24, 3) := by decide +kernel
theorem dX2_takeLeaning_19 : decode cX2_takeLeaning 19 = .ok (.aload_n 0, 1) := by decide +kernel
theorem dX2_takeLeaning_20 : decode cX2_takeLeaning 20 = .ok (.getfield 11, 3) := by decide +kernel
theorem dX2_takeLeaning_23 : decode cX2_takeLeaning 23 = .ok (.iconst 2, 1) := by decide +kernel
theorem dX2_takeLeaning_24 : decode cX2_takeLeaning 24 = .ok (.iaload, 1) := by decide +kernel
theorem dX2_takeLeaning_25 : decode cX2_takeLeaning 25 = .ok (.iconst 1, 1) := by decide +kernel
theorem dX2_takeLeaning_26 : decode cX2_takeLeaning 26 = .ok (.if_icmp .gt 14, 3) := by decide +kernel
theorem dX2_takeLeaning_29 : decode cX2_takeLeaning 29 = .ok (.aload_n 0, 1) := by decide +kernel
theorem dX2_takeLeaning_30 : decode cX2_takeLeaning 30 = .ok (.getfield 11, 3) := by decide +kernel
theorem dX2_takeLeaning_33 : decode cX2_takeLeaning 33 = .ok (.iconst 3, 1) := by decide +kernel
theorem dX2_takeLeaning_34 : decode cX2_takeLeaning 34 = .ok (.iaload, 1) := by decide +kernel
theorem dX2_takeLeaning_35 : decode cX2_takeLeaning 35 = .ok (.bipush 20, 2) := by decide +kernel
theorem dX2_takeLeaning_37 : decode cX2_takeLeaning 37 = .ok (.if_icmp .le 5, 3) := by decide +kernel
theorem dX2_takeLeaning_40 : decode cX2_takeLeaning 40 = .ok (.iconst 0, 1) := by decide +kernel
theorem dX2_takeLeaning_41 : decode cX2_takeLeaning 41 = .ok (.ireturn, 1) := by decide +kernel
theorem dX2_takeLeaning_42 : decode cX2_takeLeaning 42 = .ok (.aload_n 1, 1) := by decide +kernel
theorem dX2_takeLeaning_43 : decode cX2_takeLeaning 43 = .ok (.aload_n 0, 1) := by decide +kernel
theorem dX2_takeLeaning_44 : decode cX2_takeLeaning 44 = .ok (.getfield 11, 3) := by decide +kernel
theorem dX2_takeLeaning_47 : decode cX2_takeLeaning 47 = .ok (.iconst 0, 1) := by decide +kernel
theorem dX2_takeLeaning_48 : decode cX2_takeLeaning 48 = .ok (.iaload, 1) := by decide +kernel
theorem dX2_takeLeaning_49 : decode cX2_takeLeaning 49 = .ok (.aload_n 0, 1) := by decide +kernel
theorem dX2_takeLeaning_50 : decode cX2_takeLeaning 50 = .ok (.getfield 11, 3) := by decide +kernel
theorem dX2_takeLeaning_53 : decode cX2_takeLeaning 53 = .ok (.iconst 1, 1) := by decide +kernel
theorem dX2_takeLeaning_54 : decode cX2_takeLeaning 54 = .ok (.iaload, 1) := by decide +kernel
theorem dX2_takeLeaning_55 : decode cX2_takeLeaning 55 = .ok (.aload_n 0, 1) := by decide +kernel
theorem dX2_takeLeaning_56 : decode cX2_takeLeaning 56 = .ok (.getfield 11, 3) := by decide +kernel
theorem dX2_takeLeaning_59 : decode cX2_takeLeaning 59 = .ok (.iconst 2, 1) := by decide +kernel
theorem dX2_takeLeaning_60 : decode cX2_takeLeaning 60 = .ok (.iaload, 1) := by decide +kernel
theorem dX2_takeLeaning_61 : decode cX2_takeLeaning 61 = .ok (.ifCond .ne 12, 3) := by decide +kernel
theorem dX2_takeLeaning_64 : decode cX2_takeLeaning 64 = .ok (.aload_n 0, 1) := by decide +kernel
theorem dX2_takeLeaning_65 : decode cX2_takeLeaning 65 = .ok (.getfield 11, 3) := by decide +kernel
theorem dX2_takeLeaning_68 : decode cX2_takeLeaning 68 = .ok (.iconst 3, 1) := by decide +kernel
theorem dX2_takeLeaning_69 : decode cX2_takeLeaning 69 = .ok (.iaload, 1) := by decide +kernel
theorem dX2_takeLeaning_70 : decode cX2_takeLeaning 70 = .ok (.goto 10, 3) := by decide +kernel
theorem dX2_takeLeaning_73 : decode cX2_takeLeaning 73 = .ok (.aload_n 0, 1) := by decide +kernel
theorem dX2_takeLeaning_74 : decode cX2_takeLeaning 74 = .ok (.getfield 11, 3) := by decide +kernel
theorem dX2_takeLeaning_77 : decode cX2_takeLeaning 77 = .ok (.iconst 3, 1) := by decide +kernel
theorem dX2_takeLeaning_78 : decode cX2_takeLeaning 78 = .ok (.iaload, 1) := by decide +kernel
theorem dX2_takeLeaning_79 : decode cX2_takeLeaning 79 = .ok (.ineg, 1) := by decide +kernel
theorem dX2_takeLeaning_80 : decode cX2_takeLeaning 80 = .ok (.invokevirtual 79, 3) := by decide +kernel
theorem dX2_takeLeaning_83 : decode cX2_takeLeaning 83 = .ok (.iconst 1, 1) := by decide +kernel
theorem dX2_takeLeaning_84 : decode cX2_takeLeaning 84 = .ok (.ireturn, 1) := by decide +kernel
theorem dX3_init_0 : decode cX3_init 0 = .ok (.aload_n 0, 1) := by decide +kernel
theorem dX3_init_1 : decode cX3_init 1 = .ok (.invokespecial 3, 3) := by decide +kernel
theorem dX3_init_4 : decode cX3_init 4 = .ok (.aload_n 0, 1) := by decide +kernel
theorem dX3_init_5 : decode cX3_init 5 = .ok (.bipush 6, 2) := by decide +kernel
theorem dX3_init_7 : decode cX3_init 7 = .ok (.newarray .int, 2) := by decide +kernel
theorem dX3_init_9 : decode cX3_init 9 = .ok (.putfield 9, 3) := by decide +kernel
theorem dX3_init_12 : decode cX3_init 12 = .ok (.aload_n 0, 1) := by decide +kernel
theorem dX3_init_13 : decode cX3_init 13 = .ok (.bipush 6, 2) := by decide +kernel
theorem dX3_init_15 : decode cX3_init 15 = .ok (.newarray .int, 2) := by decide +kernel
theorem dX3_init_17 : decode cX3_init 17 = .ok (.putfield 15, 3) := by decide +kernel
theorem dX3_init_20 : decode cX3_init 20 = .ok (.aload_n 0, 1) := by decide +kernel
theorem dX3_init_21 : decode cX3_init 21 = .ok (.bipush 6, 2) := by decide +kernel
theorem dX3_init_23 : decode cX3_init 23 = .ok (.newarray .int, 2) := by decide +kernel
theorem dX3_init_25 : decode cX3_init 25 = .ok (.putfield 18, 3) := by decide +kernel
theorem dX3_init_28 : decode cX3_init 28 = .ok (.aload_n 0, 1) := by decide +kernel
theorem dX3_init_29 : decode cX3_init 29 = .ok (.bipush 6, 2) := by decide +kernel
theorem dX3_init_31 : decode cX3_init 31 = .ok (.newarray .int, 2) := by decide +kernel
theorem dX3_init_33 : decode cX3_init 33 = .ok (.putfield 21, 3) := by decide +kernel
theorem dX3_init_36 : decode cX3_init 36 = .ok (.aload_n 0, 1) := by decide +kernel
theorem dX3_init_37 : decode cX3_init 37 = .ok (.bipush 36, 2) := by decide +kernel
theorem dX3_init_39 : decode cX3_init 39 = .ok (.newarray .int, 2) := by decide +kernel
theorem dX3_init_41 : decode cX3_init 41 = .ok (.putfield 24, 3) := by decide +kernel
theorem dX3_init_44 : decode cX3_init 44 = .ok (.aload_n 0, 1) := by decide +kernel
theorem dX3_init_45 : decode cX3_init 45 = .ok (.bipush 6, 2) := by decide +kernel
theorem dX3_init_47 : decode cX3_init 47 = .ok (.putfield 27, 3) := by decide +kernel
theorem dX3_init_50 : decode cX3_init 50 = .ok (.aload_n 0, 1) := by decide +kernel
theorem dX3_init_51 : decode cX3_init 51 = .ok (.bipush 6, 2) := by decide +kernel
theorem dX3_init_53 : decode cX3_init 53 = .ok (.putfield 31, 3) := by decide +kernel
theorem dX3_init_56 : decode cX3_init 56 = .ok (.aload_n 0, 1) := by decide +kernel
theorem dX3_init_57 : decode cX3_init 57 = .ok (.iconst 0, 1) := by decide +kernel
theorem dX3_init_58 : decode cX3_init 58 = .ok (.putfield 34, 3) := by decide +kernel
theorem dX3_init_61 : decode cX3_init 61 = .ok (.aload_n 0, 1) := by decide +kernel
theorem dX3_init_62 : decode cX3_init 62 = .ok (.iconst 0, 1) := by decide +kernel
theorem dX3_init_63 : decode cX3_init 63 = .ok (.putfield 37, 3) := by decide +kernel
theorem dX3_init_66 : decode cX3_init 66 = .ok (.return_, 1) := by decide +kernel
theorem dX3_clear_0 : decode cX3_clear 0 = .ok (.aload_n 0, 1) := by decide +kernel
theorem dX3_clear_1 : decode cX3_clear 1 = .ok (.bipush 6, 2) := by decide +kernel
theorem dX3_clear_3 : decode cX3_clear 3 = .ok (.putfield 27, 3) := by decide +kernel
theorem dX3_clear_6 : decode cX3_clear 6 = .ok (.aload_n 0, 1) := by decide +kernel
theorem dX3_clear_7 : decode cX3_clear 7 = .ok (.bipush 6, 2) := by decide +kernel
theorem dX3_clear_9 : decode cX3_clear 9 = .ok (.putfield 31, 3) := by decide +kernel
theorem dX3_clear_12 : decode cX3_clear 12 = .ok (.aload_n 0, 1) := by decide +kernel
theorem dX3_clear_13 : decode cX3_clear 13 = .ok (.iconst 0, 1) := by decide +kernel
theorem dX3_clear_14 : decode cX3_clear 14 = .ok (.putfield 34, 3) := by decide +kernel
theorem dX3_clear_17 : decode cX3_clear 17 = .ok (.aload_n 0, 1) := by decide +kernel
theorem dX3_clear_18 : decode cX3_clear 18 = .ok (.iconst 0, 1) := by decide +kernel
theorem dX3_clear_19 : decode cX3_clear 19 = .ok (.putfield 37, 3) := by decide +kernel
theorem dX3_clear_22 : decode cX3_clear 22 = .ok (.iconst 0, 1) := by decide +kernel
theorem dX3_clear_23 : decode cX3_clear 23 = .ok (.istore_n 1, 1) := by decide +kernel
theorem dX3_clear_24 : decode cX3_clear 24 = .ok (.iload_n 1, 1) := by decide +kernel
theorem dX3_clear_25 : decode cX3_clear 25 = .ok (.aload_n 0, 1) := by decide +kernel
theorem dX3_clear_26 : decode cX3_clear 26 = .ok (.getfield 24, 3) := by decide +kernel
theorem dX3_clear_29 : decode cX3_clear 29 = .ok (.arraylength, 1) := by decide +kernel
theorem dX3_clear_30 : decode cX3_clear 30 = .ok (.if_icmp .ge 16, 3) := by decide +kernel
theorem dX3_clear_33 : decode cX3_clear 33 = .ok (.aload_n 0, 1) := by decide +kernel
theorem dX3_clear_34 : decode cX3_clear 34 = .ok (.getfield 24, 3) := by decide +kernel
theorem dX3_clear_37 : decode cX3_clear 37 = .ok (.iload_n 1, 1) := by decide +kernel
theorem dX3_clear_38 : decode cX3_clear 38 = .ok (.iconst 0, 1) := by decide +kernel
theorem dX3_clear_39 : decode cX3_clear 39 = .ok (.iastore, 1) := by decide +kernel
theorem dX3_clear_40 : decode cX3_clear 40 = .ok (.iinc 1 1, 3) := by decide +kernel
theorem dX3_clear_43 : decode cX3_clear 43 = .ok (.goto (-19), 3) := by decide +kernel
theorem dX3_clear_46 : decode cX3_clear 46 = .ok (.return_, 1) := by decide +kernel
theorem dX3_copyFrom_0 : decode cX3_copyFrom 0 = .ok (.aload_n 0, 1) := by decide +kernel
theorem dX3_copyFrom_1 : decode cX3_copyFrom 1 = .ok (.aload_n 1, 1) := by decide +kernel
theorem dX3_copyFrom_2 : decode cX3_copyFrom 2 = .ok (.getfield 27, 3) := by decide +kernel
theorem dX3_copyFrom_5 : decode cX3_copyFrom 5 = .ok (.putfield 27, 3) := by decide +kernel
theorem dX3_copyFrom_8 : decode cX3_copyFrom 8 = .ok (.aload_n 0, 1) := by decide +kernel
theorem dX3_copyFrom_9 : decode cX3_copyFrom 9 = .ok (.aload_n 1, 1) := by decide +kernel
theorem dX3_copyFrom_10 : decode cX3_copyFrom 10 = .ok (.getfield 31, 3) := by decide +kernel
theorem dX3_copyFrom_13 : decode cX3_copyFrom 13 = .ok (.putfield 31, 3) := by decide +kernel
theorem dX3_copyFrom_16 : decode cX3_copyFrom 16 = .ok (.aload_n 0, 1) := by decide +kernel
theorem dX3_copyFrom_17 : decode cX3_copyFrom 17 = .ok (.aload_n 1, 1) := by decide +kernel
theorem dX3_copyFrom_18 : decode cX3_copyFrom 18 = .ok (.getfield 34, 3) := by decide +kernel
theorem dX3_copyFrom_21 : decode cX3_copyFrom 21 = .ok (.putfield 34, 3) := by decide +kernel
theorem dX3_copyFrom_24 : decode cX3_copyFrom 24 = .ok (.aload_n 0, 1) := by decide +kernel
theorem dX3_copyFrom_25 : decode cX3_copyFrom 25 = .ok (.aload_n 1, 1) := by decide +kernel
theorem dX3_copyFrom_26 : decode cX3_copyFrom 26 = .ok (.getfield 37, 3) := by decide +kernel
theorem dX3_copyFrom_29 : decode cX3_copyFrom 29 = .ok (.putfield 37, 3) := by decide +kernel
theorem dX3_copyFrom_32 : decode cX3_copyFrom 32 = .ok (.aload_n 1, 1) := by decide +kernel
theorem dX3_copyFrom_33 : decode cX3_copyFrom 33 = .ok (.getfield 9, 3) := by decide +kernel
theorem dX3_copyFrom_36 : decode cX3_copyFrom 36 = .ok (.iconst 0, 1) := by decide +kernel
theorem dX3_copyFrom_37 : decode cX3_copyFrom 37 = .ok (.aload_n 0, 1) := by decide +kernel
theorem dX3_copyFrom_38 : decode cX3_copyFrom 38 = .ok (.getfield 9, 3) := by decide +kernel
theorem dX3_copyFrom_41 : decode cX3_copyFrom 41 = .ok (.iconst 0, 1) := by decide +kernel
theorem dX3_copyFrom_42 : decode cX3_copyFrom 42 = .ok (.bipush 6, 2) := by decide +kernel
theorem dX3_copyFrom_44 : decode cX3_copyFrom 44 = .ok (.invokestatic 40, 3) := by decide +kernel
theorem dX3_copyFrom_47 : decode cX3_copyFrom 47 = .ok (.aload_n 1, 1) := by decide +kernel
theorem dX3_copyFrom_48 : decode cX3_copyFrom 48 = .ok (.getfield 15, 3) := by decide +kernel
theorem dX3_copyFrom_51 : decode cX3_copyFrom 51 = .ok (.iconst 0, 1) := by decide +kernel
theorem dX3_copyFrom_52 : decode cX3_copyFrom 52 = .ok (.aload_n 0, 1) := by decide +kernel
theorem dX3_copyFrom_53 : decode cX3_copyFrom 53 = .ok (.getfield 15, 3) := by decide +kernel
theorem dX3_copyFrom_56 : decode cX3_copyFrom 56 = .ok (.iconst 0, 1) := by decide +kernel
theorem dX3_copyFrom_57 : decode cX3_copyFrom 57 = .ok (.bipush 6, 2) := by decide +kernel
theorem dX3_copyFrom_59 : decode cX3_copyFrom 59 = .ok (.invokestatic 40, 3) := by decide +kernel
theorem dX3_copyFrom_62 : decode cX3_copyFrom 62 = .ok (.aload_n 1, 1) := by decide +kernel
theorem dX3_copyFrom_63 : decode cX3_copyFrom 63 = .ok (.getfield 18, 3) := by decide +kernel
theorem dX3_copyFrom_66 : decode cX3_copyFrom 66 = .ok (.iconst 0, 1) := by decide +kernel
theorem dX3_copyFrom_67 : decode cX3_copyFrom 67 = .ok (.aload_n 0, 1) := by decide +kernel
theorem dX3_copyFrom_68 : decode cX3_copyFrom 68 = .ok (.getfield 18, 3) := by decide +kernel
theorem dX3_copyFrom_71 : decode cX3_copyFrom 71 = .ok (.iconst 0, 1) := by decide +kernel
theorem dX3_copyFrom_72 : decode cX3_copyFrom 72 = .ok (.bipush 6, 2) := by decide +kernel
theorem dX3_copyFrom_74 : decode cX3_copyFrom 74 = .ok (.invokestatic 40, 3) := by decide +kernel
theorem dX3_copyFrom_77 : decode cX3_copyFrom 77 = .ok (.aload_n 1, 1) := by decide +kernel
theorem dX3_copyFrom_78 : decode cX3_copyFrom 78 = .ok (.getfield 21, 3) := by decide +kernel
theorem dX3_copyFrom_81 : decode cX3_copyFrom 81 = .ok (.iconst 0, 1) := by decide +kernel
theorem dX3_copyFrom_82 : decode cX3_copyFrom 82 = .ok (.aload_n 0, 1) := by decide +kernel
theorem dX3_copyFrom_83 : decode cX3_copyFrom 83 = .ok (.getfield 21, 3) := by decide +kernel
theorem dX3_copyFrom_86 : decode cX3_copyFrom 86 = .ok (.iconst 0, 1) := by decide +kernel
theorem dX3_copyFrom_87 : decode cX3_copyFrom 87 = .ok (.bipush 6, 2) := by decide +kernel
theorem dX3_copyFrom_89 : decode cX3_copyFrom 89 = .ok (.invokestatic 40, 3) := by decide +kernel
theorem dX3_copyFrom_92 : decode cX3_copyFrom 92 = .ok (.aload_n 1, 1) := by decide +kernel
theorem dX3_copyFrom_93 : decode cX3_copyFrom 93 = .ok (.getfield 24, 3) := by decide +kernel
theorem dX3_copyFrom_96 : decode cX3_copyFrom 96 = .ok (.iconst 0, 1) := by decide +kernel
theorem dX3_copyFrom_97 : decode cX3_copyFrom 97 = .ok (.aload_n 0, 1) := by decide +kernel
theorem dX3_copyFrom_98 : decode cX3_copyFrom 98 = .ok (.getfield 24, 3) := by decide +kernel
theorem dX3_copyFrom_101 : decode cX3_copyFrom 101 = .ok (.iconst 0, 1) := by decide +kernel
theorem dX3_copyFrom_102 : decode cX3_copyFrom 102 = .ok (.bipush 36, 2) := by decide +kernel
theorem dX3_copyFrom_104 : decode cX3_copyFrom 104 = .ok (.invokestatic 40, 3) := by decide +kernel
theorem dX3_copyFrom_107 : decode cX3_copyFrom 107 = .ok (.return_, 1) := by decide +kernel
theorem dX3_has_0 : decode cX3_has 0 = .ok (.iload_n 1, 1) := by decide +kernel
theorem dX3_has_1 : decode cX3_has 1 = .ok (.aload_n 0, 1) := by decide +kernel
theorem dX3_has_2 : decode cX3_has 2 = .ok (.getfield 34, 3) := by decide +kernel
theorem dX3_has_5 : decode cX3_has 5 = .ok (.invokestatic 46, 3) := by decide +kernel
theorem dX3_has_8 : decode cX3_has 8 = .ok (.ireturn, 1) := by decide +kernel
theorem dX3_hasTwo_0 : decode cX3_hasTwo 0 = .ok (.aload_n 0, 1) := by decide +kernel
theorem dX3_hasTwo_1 : decode cX3_hasTwo 1 = .ok (.iload_n 1, 1) := by decide +kernel
theorem dX3_hasTwo_2 : decode cX3_hasTwo 2 = .ok (.invokevirtual 50, 3) := by decide +kernel
theorem dX3_hasTwo_5 : decode cX3_hasTwo 5 = .ok (.ifCond .eq 20, 3) := by decide +kernel
theorem dX3_hasTwo_8 : decode cX3_hasTwo 8 = .ok (.aload_n 0, 1) := by decide +kernel
theorem dX3_hasTwo_9 : decode cX3_hasTwo 9 = .ok (.iload_n 2, 1) := by decide +kernel
theorem dX3_hasTwo_10 : decode cX3_hasTwo 10 = .ok (.invokevirtual 50, 3) := by decide +kernel
theorem dX3_hasTwo_13 : decode cX3_hasTwo 13 = .ok (.ifCond .eq 12, 3) := by decide +kernel
theorem dX3_hasTwo_16 : decode cX3_hasTwo 16 = .ok (.iload_n 1, 1) := by decide +kernel
theorem dX3_hasTwo_17 : decode cX3_hasTwo 17 = .ok (.iload_n 2, 1) := by decide +kernel
theorem dX3_hasTwo_18 : decode cX3_hasTwo 18 = .ok (.if_icmp .eq 7, 3) := by decide +kernel
theorem dX3_hasTwo_21 : decode cX3_hasTwo 21 = .ok (.iconst 1, 1) := by decide +kernel
theorem dX3_hasTwo_22 : decode cX3_hasTwo 22 = .ok (.goto 4, 3) := by decide +kernel
theorem dX3_hasTwo_25 : decode cX3_hasTwo 25 = .ok (.iconst 0, 1) := by decide +kernel
theorem dX3_hasTwo_26 : decode cX3_hasTwo 26 = .ok (.ireturn, 1) := by decide +kernel
theorem dX3_reaches_0 : decode cX3_reaches 0 = .ok (.iload_n 1, 1) := by decide +kernel
theorem dX3_reaches_1 : decode cX3_reaches 1 = .ok (.aload_n 0, 1) := by decide +kernel
theorem dX3_reaches_2 : decode cX3_reaches 2 = .ok (.getfield 27, 3) := by decide +kernel
theorem dX3_reaches_5 : decode cX3_reaches 5 = .ok (.invokestatic 46, 3) := by decide +kernel
theorem dX3_reaches_8 : decode cX3_reaches 8 = .ok (.ifCond .eq 18, 3) := by decide +kernel
theorem dX3_reaches_11 : decode cX3_reaches 11 = .ok (.iload_n 2, 1) := by decide +kernel
theorem dX3_reaches_12 : decode cX3_reaches 12 = .ok (.aload_n 0, 1) := by decide +kernel
theorem dX3_reaches_13 : decode cX3_reaches 13 = .ok (.getfield 31, 3) := by decide +kernel
theorem dX3_reaches_16 : decode cX3_reaches 16 = .ok (.invokestatic 46, 3) := by decide +kernel
theorem dX3_reaches_19 : decode cX3_reaches 19 = .ok (.ifCond .eq 7, 3) := by decide +kernel
theorem dX3_reaches_22 : decode cX3_reaches 22 = .ok (.iconst 1, 1) := by decide +kernel
theorem dX3_reaches_23 : decode cX3_reaches 23 = .ok (.goto 4, 3) := by decide +kernel
theorem dX3_reaches_26 : decode cX3_reaches 26 = .ok (.iconst 0, 1) := by decide +kernel
theorem dX3_reaches_27 : decode cX3_reaches 27 = .ok (.ireturn, 1) := by decide +kernel
theorem dX3_whoIsAt_0 : decode cX3_whoIsAt 0 = .ok (.iconst 0, 1) := by decide +kernel
theorem dX3_whoIsAt_1 : decode cX3_whoIsAt 1 = .ok (.istore_n 3, 1) := by decide +kernel
theorem dX3_whoIsAt_2 : decode cX3_whoIsAt 2 = .ok (.iload_n 3, 1) := by decide +kernel
theorem dX3_whoIsAt_3 : decode cX3_whoIsAt 3 = .ok (.aload_n 0, 1) := by decide +kernel
theorem dX3_whoIsAt_4 : decode cX3_whoIsAt 4 = .ok (.getfield 34, 3) := by decide +kernel
theorem dX3_whoIsAt_7 : decode cX3_whoIsAt 7 = .ok (.if_icmp .ge 31, 3) := by decide +kernel
theorem dX3_whoIsAt_10 : decode cX3_whoIsAt 10 = .ok (.aload_n 0, 1) := by decide +kernel
theorem dX3_whoIsAt_11 : decode cX3_whoIsAt 11 = .ok (.getfield 15, 3) := by decide +kernel
theorem dX3_whoIsAt_14 : decode cX3_whoIsAt 14 = .ok (.iload_n 3, 1) := by decide +kernel
theorem dX3_whoIsAt_15 : decode cX3_whoIsAt 15 = .ok (.iaload, 1) := by decide +kernel
theorem dX3_whoIsAt_16 : decode cX3_whoIsAt 16 = .ok (.iload_n 1, 1) := by decide +kernel
theorem dX3_whoIsAt_17 : decode cX3_whoIsAt 17 = .ok (.if_icmp .ne 15, 3) := by decide +kernel
theorem dX3_whoIsAt_20 : decode cX3_whoIsAt 20 = .ok (.aload_n 0, 1) := by decide +kernel
theorem dX3_whoIsAt_21 : decode cX3_whoIsAt 21 = .ok (.getfield 18, 3) := by decide +kernel
theorem dX3_whoIsAt_24 : decode cX3_whoIsAt 24 = .ok (.iload_n 3, 1) := by decide +kernel
theorem dX3_whoIsAt_25 : decode cX3_whoIsAt 25 = .ok (.iaload, 1) := by decide +kernel
theorem dX3_whoIsAt_26 : decode cX3_whoIsAt 26 = .ok (.iload_n 2, 1) := by decide +kernel
theorem dX3_whoIsAt_27 : decode cX3_whoIsAt 27 = .ok (.if_icmp .ne 5, 3) := by decide +kernel
theorem dX3_whoIsAt_30 : decode cX3_whoIsAt 30 = .ok (.iload_n 3, 1) := by decide +kernel
theorem dX3_whoIsAt_31 : decode cX3_whoIsAt 31 = .ok (.ireturn, 1) := by decide +kernel
theorem dX3_whoIsAt_32 : decode cX3_whoIsAt 32 = .ok (.iinc 3 1, 3) := by decide +kernel
theorem dX3_whoIsAt_35 : decode cX3_whoIsAt 35 = .ok (.goto (-33), 3) := by decide +kernel
theorem dX3_whoIsAt_38 : decode cX3_whoIsAt 38 = .ok (.bipush (-4), 2) := by decide +kernel
theorem dX3_whoIsAt_40 : decode cX3_whoIsAt 40 = .ok (.ireturn, 1) := by decide +kernel
theorem dX3_isFreeFor_0 : decode cX3_isFreeFor 0 = .ok (.aload_n 0, 1) := by decide +kernel
theorem dX3_isFreeFor_1 : decode cX3_isFreeFor 1 = .ok (.iload_n 2, 1) := by decide +kernel
theorem dX3_isFreeFor_2 : decode cX3_isFreeFor 2 = .ok (.iload_n 3, 1) := by decide +kernel
theorem dX3_isFreeFor_3 : decode cX3_isFreeFor 3 = .ok (.invokevirtual 54, 3) := by decide +kernel
theorem dX3_isFreeFor_6 : decode cX3_isFreeFor 6 = .ok (.istore 4, 2) := by decide +kernel
theorem dX3_isFreeFor_8 : decode cX3_isFreeFor 8 = .ok (.iload 4, 2) := by decide +kernel
theorem dX3_isFreeFor_10 : decode cX3_isFreeFor 10 = .ok (.bipush (-4), 2) := by decide +kernel
theorem dX3_isFreeFor_12 : decode cX3_isFreeFor 12 = .ok (.if_icmp .eq 9, 3) := by decide +kernel
theorem dX3_isFreeFor_15 : decode cX3_isFreeFor 15 = .ok (.iload 4, 2) := by decide +kernel
theorem dX3_isFreeFor_17 : decode cX3_isFreeFor 17 = .ok (.iload_n 1, 1) := by decide +kernel
theorem dX3_isFreeFor_18 : decode cX3_isFreeFor 18 = .ok (.if_icmp .ne 7, 3) := by decide +kernel
theorem dX3_isFreeFor_21 : decode cX3_isFreeFor 21 = .ok (.iconst 1, 1) := by decide +kernel
theorem dX3_isFreeFor_22 : decode cX3_isFreeFor 22 = .ok (.goto 4, 3) := by decide +kernel
theorem dX3_isFreeFor_25 : decode cX3_isFreeFor 25 = .ok (.iconst 0, 1) := by decide +kernel
theorem dX3_isFreeFor_26 : decode cX3_isFreeFor 26 = .ok (.ireturn, 1) := by decide +kernel
theorem dX3_add_0 : decode cX3_add 0 = .ok (.aload_n 0, 1) := by decide +kernel
theorem dX3_add_1 : decode cX3_add 1 = .ok (.getfield 34, 3) := by decide +kernel
theorem dX3_add_4 : decode cX3_add 4 = .ok (.bipush 6, 2) := by decide +kernel
theorem dX3_add_6 : decode cX3_add 6 = .ok (.if_icmp .lt 4, 3) := by decide +kernel
theorem dX3_add_9 : decode cX3_add 9 = .ok (.return_, 1) := by decide +kernel
theorem dX3_add_10 : decode cX3_add 10 = .ok (.aload_n 0, 1) := by decide +kernel
theorem dX3_add_11 : decode cX3_add 11 = .ok (.getfield 9, 3) := by decide +kernel
theorem dX3_add_14 : decode cX3_add 14 = .ok (.aload_n 0, 1) := by decide +kernel
theorem dX3_add_15 : decode cX3_add 15 = .ok (.getfield 34, 3) := by decide +kernel
theorem dX3_add_18 : decode cX3_add 18 = .ok (.iload_n 1, 1) := by decide +kernel
theorem dX3_add_19 : decode cX3_add 19 = .ok (.iastore, 1) := by decide +kernel
theorem dX3_add_20 : decode cX3_add 20 = .ok (.aload_n 0, 1) := by decide +kernel
theorem dX3_add_21 : decode cX3_add 21 = .ok (.getfield 21, 3) := by decide +kernel
theorem dX3_add_24 : decode cX3_add 24 = .ok (.aload_n 0, 1) := by decide +kernel
theorem dX3_add_25 : decode cX3_add 25 = .ok (.getfield 34, 3) := by decide +kernel
theorem dX3_add_28 : decode cX3_add 28 = .ok (.iconst 0, 1) := by decide +kernel
theorem dX3_add_29 : decode cX3_add 29 = .ok (.iastore, 1) := by decide +kernel
theorem dX3_add_30 : decode cX3_add 30 = .ok (.aload_n 0, 1) := by decide +kernel
theorem dX3_add_31 : decode cX3_add 31 = .ok (.getfield 15, 3) := by decide +kernel
theorem dX3_add_34 : decode cX3_add 34 = .ok (.aload_n 0, 1) := by decide +kernel
theorem dX3_add_35 : decode cX3_add 35 = .ok (.getfield 34, 3) := by decide +kernel
theorem dX3_add_38 : decode cX3_add 38 = .ok (.iload_n 2, 1) := by decide +kernel
theorem dX3_add_39 : decode cX3_add 39 = .ok (.iastore, 1) := by decide +kernel
theorem dX3_add_40 : decode cX3_add 40 = .ok (.aload_n 0, 1) := by decide +kernel
theorem dX3_add_41 : decode cX3_add 41 = .ok (.getfield 18, 3) := by decide +kernel
theorem dX3_add_44 : decode cX3_add 44 = .ok (.aload_n 0, 1) := by decide +kernel
theorem dX3_add_45 : decode cX3_add 45 = .ok (.getfield 34, 3) := by decide +kernel
theorem dX3_add_48 : decode cX3_add 48 = .ok (.iload_n 3, 1) := by decide +kernel
theorem dX3_add_49 : decode cX3_add 49 = .ok (.iastore, 1) := by decide +kernel
theorem dX3_add_50 : decode cX3_add 50 = .ok (.aload_n 0, 1) := by decide +kernel
theorem dX3_add_51 : decode cX3_add 51 = .ok (.dup, 1) := by decide +kernel
theorem dX3_add_52 : decode cX3_add 52 = .ok (.getfield 34, 3) := by decide +kernel
theorem dX3_add_55 : decode cX3_add 55 = .ok (.iconst 1, 1) := by decide +kernel
theorem dX3_add_56 : decode cX3_add 56 = .ok (.iadd, 1) := by decide +kernel
theorem dX3_add_57 : decode cX3_add 57 = .ok (.putfield 34, 3) := by decide +kernel
theorem dX3_add_60 : decode cX3_add 60 = .ok (.return_, 1) := by decide +kernel
theorem dX3_put_0 : decode cX3_put 0 = .ok (.aload_n 0, 1) := by decide +kernel
theorem dX3_put_1 : decode cX3_put 1 = .ok (.getfield 15, 3) := by decide +kernel
theorem dX3_put_4 : decode cX3_put 4 = .ok (.iload_n 1, 1) := by decide +kernel
theorem dX3_put_5 : decode cX3_put 5 = .ok (.iload_n 2, 1) := by decide +kernel
theorem dX3_put_6 : decode cX3_put 6 = .ok (.iastore, 1) := by decide +kernel
theorem dX3_put_7 : decode cX3_put 7 = .ok (.aload_n 0, 1) := by decide +kernel
theorem dX3_put_8 : decode cX3_put 8 = .ok (.getfield 18, 3) := by decide +kernel
theorem dX3_put_11 : decode cX3_put 11 = .ok (.iload_n 1, 1) := by decide +kernel
theorem dX3_put_12 : decode cX3_put 12 = .ok (.iload_n 3, 1) := by decide +kernel
theorem dX3_put_13 : decode cX3_put 13 = .ok (.iastore, 1) := by decide +kernel
theorem dX3_put_14 : decode cX3_put 14 = .ok (.return_, 1) := by decide +kernel
theorem dX3_canStep_0 : decode cX3_canStep 0 = .ok (.aload_n 0, 1) := by decide +kernel
theorem dX3_canStep_1 : decode cX3_canStep 1 = .ok (.getfield 15, 3) := by decide +kernel
theorem dX3_canStep_4 : decode cX3_canStep 4 = .ok (.iload_n 1, 1) := by decide +kernel
theorem dX3_canStep_5 : decode cX3_canStep 5 = .ok (.iaload, 1) := by decide +kernel
theorem dX3_canStep_6 : decode cX3_canStep 6 = .ok (.getstatic 58, 3) := by decide +kernel
theorem dX3_canStep_9 : decode cX3_canStep 9 = .ok (.iload_n 2, 1) := by decide +kernel
theorem dX3_canStep_10 : decode cX3_canStep 10 = .ok (.iaload, 1) := by decide +kernel
theorem dX3_canStep_11 : decode cX3_canStep 11 = .ok (.iadd, 1) := by decide +kernel
theorem dX3_canStep_12 : decode cX3_canStep 12 = .ok (.istore_n 3, 1) := by decide +kernel
theorem dX3_canStep_13 : decode cX3_canStep 13 = .ok (.aload_n 0, 1) := by decide +kernel
theorem dX3_canStep_14 : decode cX3_canStep 14 = .ok (.getfield 18, 3) := by decide +kernel
theorem dX3_canStep_17 : decode cX3_canStep 17 = .ok (.iload_n 1, 1) := by decide +kernel
theorem dX3_canStep_18 : decode cX3_canStep 18 = .ok (.iaload, 1) := by decide +kernel
theorem dX3_canStep_19 : decode cX3_canStep 19 = .ok (.getstatic 61, 3) := by decide +kernel
theorem dX3_canStep_22 : decode cX3_canStep 22 = .ok (.iload_n 2, 1) := by decide +kernel
theorem dX3_canStep_23 : decode cX3_canStep 23 = .ok (.iaload, 1) := by decide +kernel
theorem dX3_canStep_24 : decode cX3_canStep 24 = .ok (.iadd, 1) := by decide +kernel
theorem dX3_canStep_25 : decode cX3_canStep 25 = .ok (.istore 4, 2) := by decide +kernel
theorem dX3_canStep_27 : decode cX3_canStep 27 = .ok (.aload_n 0, 1) := by decide +kernel
theorem dX3_canStep_28 : decode cX3_canStep 28 = .ok (.iload_n 3, 1) := by decide +kernel
theorem dX3_canStep_29 : decode cX3_canStep 29 = .ok (.iload 4, 2) := by decide +kernel
theorem dX3_canStep_31 : decode cX3_canStep 31 = .ok (.invokevirtual 64, 3) := by decide +kernel
theorem dX3_canStep_34 : decode cX3_canStep 34 = .ok (.ifCond .eq 19, 3) := by decide +kernel
theorem dX3_canStep_37 : decode cX3_canStep 37 = .ok (.aload_n 0, 1) := by decide +kernel
theorem dX3_canStep_38 : decode cX3_canStep 38 = .ok (.iload_n 3, 1) := by decide +kernel
theorem dX3_canStep_39 : decode cX3_canStep 39 = .ok (.iload 4, 2) := by decide +kernel
theorem dX3_canStep_41 : decode cX3_canStep 41 = .ok (.invokevirtual 54, 3) := by decide +kernel
theorem dX3_canStep_44 : decode cX3_canStep 44 = .ok (.bipush (-4), 2) := by decide +kernel
theorem dX3_canStep_46 : decode cX3_canStep 46 = .ok (.if_icmp .ne 7, 3) := by decide +kernel
theorem dX3_canStep_49 : decode cX3_canStep 49 = .ok (.iconst 1, 1) := by decide +kernel
theorem dX3_canStep_50 : decode cX3_canStep 50 = .ok (.goto 4, 3) := by decide +kernel
theorem dX3_canStep_53 : decode cX3_canStep 53 = .ok (.iconst 0, 1) := by decide +kernel
theorem dX3_canStep_54 : decode cX3_canStep 54 = .ok (.ireturn, 1) := by decide +kernel
theorem dX3_step_0 : decode cX3_step 0 = .ok (.aload_n 0, 1) := by decide +kernel
theorem dX3_step_1 : decode cX3_step 1 = .ok (.iload_n 1, 1) := by decide +kernel
theorem dX3_step_2 : decode cX3_step 2 = .ok (.aload_n 0, 1) := by decide +kernel
theorem dX3_step_3 : decode cX3_step 3 = .ok (.getfield 15, 3) := by decide +kernel
theorem dX3_step_6 : decode cX3_step 6 = .ok (.iload_n 1, 1) := by decide +kernel
theorem dX3_step_7 : decode cX3_step 7 = .ok (.iaload, 1) := by decide +kernel
theorem dX3_step_8 : decode cX3_step 8 = .ok (.getstatic 58, 3) := by decide +kernel
theorem dX3_step_11 : decode cX3_step 11 = .ok (.iload_n 2, 1) := by decide +kernel
theorem dX3_step_12 : decode cX3_step 12 = .ok (.iaload, 1) := by decide +kernel
theorem dX3_step_13 : decode cX3_step 13 = .ok (.iadd, 1) := by decide +kernel
theorem dX3_step_14 : decode cX3_step 14 = .ok (.aload_n 0, 1) := by decide +kernel
theorem dX3_step_15 : decode cX3_step 15 = .ok (.getfield 18, 3) := by decide +kernel
theorem dX3_step_18 : decode cX3_step 18 = .ok (.iload_n 1, 1) := by decide +kernel
theorem dX3_step_19 : decode cX3_step 19 = .ok (.iaload, 1) := by decide +kernel
theorem dX3_step_20 : decode cX3_step 20 = .ok (.getstatic 61, 3) := by decide +kernel
theorem dX3_step_23 : decode cX3_step 23 = .ok (.iload_n 2, 1) := by decide +kernel
theorem dX3_step_24 : decode cX3_step 24 = .ok (.iaload, 1) := by decide +kernel
theorem dX3_step_25 : decode cX3_step 25 = .ok (.iadd, 1) := by decide +kernel
theorem dX3_step_26 : decode cX3_step 26 = .ok (.invokevirtual 67, 3) := by decide +kernel
theorem dX3_step_29 : decode cX3_step 29 = .ok (.return_, 1) := by decide +kernel
theorem dX3_leaningOf_0 : decode cX3_leaningOf 0 = .ok (.aload_n 0, 1) := by decide +kernel
theorem dX3_leaningOf_1 : decode cX3_leaningOf 1 = .ok (.getfield 24, 3) := by decide +kernel
theorem dX3_leaningOf_4 : decode cX3_leaningOf 4 = .ok (.bipush 6, 2) := by decide +kernel
theorem dX3_leaningOf_6 : decode cX3_leaningOf 6 = .ok (.iload_n 1, 1) := by decide +kernel
theorem dX3_leaningOf_7 : decode cX3_leaningOf 7 = .ok (.imul, 1) := by decide +kernel
theorem dX3_leaningOf_8 : decode cX3_leaningOf 8 = .ok (.iload_n 2, 1) := by decide +kernel
theorem dX3_leaningOf_9 : decode cX3_leaningOf 9 = .ok (.iadd, 1) := by decide +kernel
theorem dX3_leaningOf_10 : decode cX3_leaningOf 10 = .ok (.iaload, 1) := by decide +kernel
theorem dX3_leaningOf_11 : decode cX3_leaningOf 11 = .ok (.ireturn, 1) := by decide +kernel
theorem dX3_setLeaning_0 : decode cX3_setLeaning 0 = .ok (.aload_n 0, 1) := by decide +kernel
theorem dX3_setLeaning_1 : decode cX3_setLeaning 1 = .ok (.getfield 24, 3) := by decide +kernel
theorem dX3_setLeaning_4 : decode cX3_setLeaning 4 = .ok (.bipush 6, 2) := by decide +kernel
theorem dX3_setLeaning_6 : decode cX3_setLeaning 6 = .ok (.iload_n 1, 1) := by decide +kernel
theorem dX3_setLeaning_7 : decode cX3_setLeaning 7 = .ok (.imul, 1) := by decide +kernel
theorem dX3_setLeaning_8 : decode cX3_setLeaning 8 = .ok (.iload_n 2, 1) := by decide +kernel
theorem dX3_setLeaning_9 : decode cX3_setLeaning 9 = .ok (.iadd, 1) := by decide +kernel
theorem dX3_setLeaning_10 : decode cX3_setLeaning 10 = .ok (.iload_n 3, 1) := by decide +kernel
theorem dX3_setLeaning_11 : decode cX3_setLeaning 11 = .ok (.iastore, 1) := by decide +kernel
theorem dX3_setLeaning_12 : decode cX3_setLeaning 12 = .ok (.return_, 1) := by decide +kernel
theorem dX3_leanTowardAlone_0 : decode cX3_leanTowardAlone 0 = .ok (.iconst 0, 1) := by decide +kernel
theorem dX3_leanTowardAlone_1 : decode cX3_leanTowardAlone 1 = .ok (.istore_n 3, 1) := by decide +kernel
theorem dX3_leanTowardAlone_2 : decode cX3_leanTowardAlone 2 = .ok (.iload_n 3, 1) := by decide +kernel
theorem dX3_leanTowardAlone_3 : decode cX3_leanTowardAlone 3 = .ok (.aload_n 0, 1) := by decide +kernel
theorem dX3_leanTowardAlone_4 : decode cX3_leanTowardAlone 4 = .ok (.getfield 34, 3) := by decide +kernel
theorem dX3_leanTowardAlone_7 : decode cX3_leanTowardAlone 7 = .ok (.if_icmp .ge 25, 3) := by decide +kernel
theorem dX3_leanTowardAlone_10 : decode cX3_leanTowardAlone 10 = .ok (.aload_n 0, 1) := by decide +kernel
theorem dX3_leanTowardAlone_11 : decode cX3_leanTowardAlone 11 = .ok (.iload_n 1, 1) := by decide +kernel
theorem dX3_leanTowardAlone_12 : decode cX3_leanTowardAlone 12 = .ok (.iload_n 3, 1) := by decide +kernel
theorem dX3_leanTowardAlone_13 : decode cX3_leanTowardAlone 13 = .ok (.iload_n 3, 1) := by decide +kernel
theorem dX3_leanTowardAlone_14 : decode cX3_leanTowardAlone 14 = .ok (.iload_n 2, 1) := by decide +kernel
theorem dX3_leanTowardAlone_15 : decode cX3_leanTowardAlone 15 = .ok (.if_icmp .ne 7, 3) := by decide +kernel
theorem dX3_leanTowardAlone_18 : decode cX3_leanTowardAlone 18 = .ok (.iconst 1, 1) := by decide +kernel
theorem dX3_leanTowardAlone_19 : decode cX3_leanTowardAlone 19 = .ok (.goto 4, 3) := by decide +kernel
theorem dX3_leanTowardAlone_22 : decode cX3_leanTowardAlone 22 = .ok (.iconst 0, 1) := by decide +kernel
theorem dX3_leanTowardAlone_23 : decode cX3_leanTowardAlone 23 = .ok (.invokevirtual 71, 3) := by decide +kernel
theorem dX3_leanTowardAlone_26 : decode cX3_leanTowardAlone 26 = .ok (.iinc 3 1, 3) := by decide +kernel
theorem dX3_leanTowardAlone_29 : decode cX3_leanTowardAlone 29 = .ok (.goto (-27), 3) := by decide +kernel
theorem dX3_leanTowardAlone_32 : decode cX3_leanTowardAlone 32 = .ok (.return_, 1) := by decide +kernel
theorem dX3_pull_0 : decode cX3_pull 0 = .ok (.aload_n 0, 1) := by decide +kernel
theorem dX3_pull_1 : decode cX3_pull 1 = .ok (.getfield 15, 3) := by decide +kernel
theorem dX3_pull_4 : decode cX3_pull 4 = .ok (.iload_n 2, 1) := by decide +kernel
theorem dX3_pull_5 : decode cX3_pull 5 = .ok (.iaload, 1) := by decide +kernel
theorem dX3_pull_6 : decode cX3_pull 6 = .ok (.aload_n 0, 1) := by decide +kernel
theorem dX3_pull_7 : decode cX3_pull 7 = .ok (.getfield 15, 3) := by decide +kernel
theorem dX3_pull_10 : decode cX3_pull 10 = .ok (.iload_n 1, 1) := by decide +kernel
theorem dX3_pull_11 : decode cX3_pull 11 = .ok (.iaload, 1) := by decide +kernel
theorem dX3_pull_12 : decode cX3_pull 12 = .ok (.isub, 1) := by decide +kernel
theorem dX3_pull_13 : decode cX3_pull 13 = .ok (.invokestatic 74, 3) := by decide +kernel
theorem dX3_pull_16 : decode cX3_pull 16 = .ok (.aload_n 0, 1) := by decide +kernel
theorem dX3_pull_17 : decode cX3_pull 17 = .ok (.getfield 18, 3) := by decide +kernel
theorem dX3_pull_20 : decode cX3_pull 20 = .ok (.iload_n 2, 1) := by decide +kernel
theorem dX3_pull_21 : decode cX3_pull 21 = .ok (.iaload, 1) := by decide +kernel
theorem dX3_pull_22 : decode cX3_pull 22 = .ok (.aload_n 0, 1) := by decide +kernel
theorem dX3_pull_23 : decode cX3_pull 23 = .ok (.getfield 18, 3) := by decide +kernel
theorem dX3_pull_26 : decode cX3_pull 26 = .ok (.iload_n 1, 1) := by decide +kernel
theorem dX3_pull_27 : decode cX3_pull 27 = .ok (.iaload, 1) := by decide +kernel
theorem dX3_pull_28 : decode cX3_pull 28 = .ok (.isub, 1) := by decide +kernel
theorem dX3_pull_29 : decode cX3_pull 29 = .ok (.invokestatic 74, 3) := by decide +kernel
theorem dX3_pull_32 : decode cX3_pull 32 = .ok (.iadd, 1) := by decide +kernel
theorem dX3_pull_33 : decode cX3_pull 33 = .ok (.istore_n 3, 1) := by decide +kernel
theorem dX3_pull_34 : decode cX3_pull 34 = .ok (.iload_n 3, 1) := by decide +kernel
theorem dX3_pull_35 : decode cX3_pull 35 = .ok (.bipush 12, 2) := by decide +kernel
theorem dX3_pull_37 : decode cX3_pull 37 = .ok (.if_icmp .lt 7, 3) := by decide +kernel
theorem dX3_pull_40 : decode cX3_pull 40 = .ok (.iconst 0, 1) := by decide +kernel
theorem dX3_pull_41 : decode cX3_pull 41 = .ok (.goto 14, 3) := by decide +kernel
theorem dX3_pull_44 : decode cX3_pull 44 = .ok (.aload_n 0, 1) := by decide +kernel
theorem dX3_pull_45 : decode cX3_pull 45 = .ok (.iload_n 1, 1) := by decide +kernel
theorem dX3_pull_46 : decode cX3_pull 46 = .ok (.iload_n 2, 1) := by decide +kernel
theorem dX3_pull_47 : decode cX3_pull 47 = .ok (.invokevirtual 80, 3) := by decide +kernel
theorem dX3_pull_50 : decode cX3_pull 50 = .ok (.bipush 12, 2) := by decide +kernel
theorem dX3_pull_52 : decode cX3_pull 52 = .ok (.iload_n 3, 1) := by decide +kernel
theorem dX3_pull_53 : decode cX3_pull 53 = .ok (.isub, 1) := by decide +kernel
theorem dX3_pull_54 : decode cX3_pull 54 = .ok (.imul, 1) := by decide +kernel
theorem dX3_pull_55 : decode cX3_pull 55 = .ok (.ireturn, 1) := by decide +kernel
theorem dX3_feltEast_0 : decode cX3_feltEast 0 = .ok (.iconst 0, 1) := by decide +kernel
theorem dX3_feltEast_1 : decode cX3_feltEast 1 = .ok (.istore_n 3, 1) := by decide +kernel
theorem dX3_feltEast_2 : decode cX3_feltEast 2 = .ok (.iconst 0, 1) := by decide +kernel
theorem dX3_feltEast_3 : decode cX3_feltEast 3 = .ok (.istore 4, 2) := by decide +kernel
theorem dX3_feltEast_5 : decode cX3_feltEast 5 = .ok (.iload 4, 2) := by decide +kernel
theorem dX3_feltEast_7 : decode cX3_feltEast 7 = .ok (.aload_n 0, 1) := by decide +kernel
theorem dX3_feltEast_8 : decode cX3_feltEast 8 = .ok (.getfield 34, 3) := by decide +kernel
theorem dX3_feltEast_11 : decode cX3_feltEast 11 = .ok (.if_icmp .ge 50, 3) := by decide +kernel
theorem dX3_feltEast_14 : decode cX3_feltEast 14 = .ok (.iload 4, 2) := by decide +kernel
theorem dX3_feltEast_16 : decode cX3_feltEast 16 = .ok (.iload_n 1, 1) := by decide +kernel
theorem dX3_feltEast_17 : decode cX3_feltEast 17 = .ok (.if_icmp .eq 38, 3) := by decide +kernel
theorem dX3_feltEast_20 : decode cX3_feltEast 20 = .ok (.iload_n 2, 1) := by decide +kernel
theorem dX3_feltEast_21 : decode cX3_feltEast 21 = .ok (.iload 4, 2) := by decide +kernel
theorem dX3_feltEast_23 : decode cX3_feltEast 23 = .ok (.ishr, 1) := by decide +kernel
theorem dX3_feltEast_24 : decode cX3_feltEast 24 = .ok (.iconst 1, 1) := by decide +kernel
theorem dX3_feltEast_25 : decode cX3_feltEast 25 = .ok (.iand, 1) := by decide +kernel
theorem dX3_feltEast_26 : decode cX3_feltEast 26 = .ok (.iconst 1, 1) := by decide +kernel
theorem dX3_feltEast_27 : decode cX3_feltEast 27 = .ok (.if_icmp .ne 28, 3) := by decide +kernel
theorem dX3_feltEast_30 : decode cX3_feltEast 30 = .ok (.iload_n 3, 1) := by decide +kernel
theorem dX3_feltEast_31 : decode cX3_feltEast 31 = .ok (.aload_n 0, 1) := by decide +kernel
theorem dX3_feltEast_32 : decode cX3_feltEast 32 = .ok (.iload_n 1, 1) := by decide +kernel
theorem dX3_feltEast_33 : decode cX3_feltEast 33 = .ok (.iload 4, 2) := by decide +kernel
theorem dX3_feltEast_35 : decode cX3_feltEast 35 = .ok (.invokevirtual 83, 3) := by decide +kernel
theorem dX3_feltEast_38 : decode cX3_feltEast 38 = .ok (.aload_n 0, 1) := by decide +kernel
theorem dX3_feltEast_39 : decode cX3_feltEast 39 = .ok (.getfield 15, 3) := by decide +kernel
theorem dX3_feltEast_42 : decode cX3_feltEast 42 = .ok (.iload 4, 2) := by decide +kernel
theorem dX3_feltEast_44 : decode cX3_feltEast 44 = .ok (.iaload, 1) := by decide +kernel
theorem dX3_feltEast_45 : decode cX3_feltEast 45 = .ok (.aload_n 0, 1) := by decide +kernel
theorem dX3_feltEast_46 : decode cX3_feltEast 46 = .ok (.getfield 15, 3) := by decide +kernel
theorem dX3_feltEast_49 : decode cX3_feltEast 49 = .ok (.iload_n 1, 1) := by decide +kernel
theorem dX3_feltEast_50 : decode cX3_feltEast 50 = .ok (.iaload, 1) := by decide +kernel
theorem dX3_feltEast_51 : decode cX3_feltEast 51 = .ok (.isub, 1) := by decide +kernel
theorem dX3_feltEast_52 : decode cX3_feltEast 52 = .ok (.imul, 1) := by decide +kernel
theorem dX3_feltEast_53 : decode cX3_feltEast 53 = .ok (.iadd, 1) := by decide +kernel
theorem dX3_feltEast_54 : decode cX3_feltEast 54 = .ok (.istore_n 3, 1) := by decide +kernel
theorem dX3_feltEast_55 : decode cX3_feltEast 55 = .ok (.iinc 4 1, 3) := by decide +kernel
theorem dX3_feltEast_58 : decode cX3_feltEast 58 = .ok (.goto (-53), 3) := by decide +kernel
theorem dX3_feltEast_61 : decode cX3_feltEast 61 = .ok (.iload_n 3, 1) := by decide +kernel
theorem dX3_feltEast_62 : decode cX3_feltEast 62 = .ok (.ireturn, 1) := by decide +kernel
theorem dX3_feltSouth_0 : decode cX3_feltSouth 0 = .ok (.iconst 0, 1) := by decide +kernel
theorem dX3_feltSouth_1 : decode cX3_feltSouth 1 = .ok (.istore_n 3, 1) := by decide +kernel
theorem dX3_feltSouth_2 : decode cX3_feltSouth 2 = .ok (.iconst 0, 1) := by decide +kernel
theorem dX3_feltSouth_3 : decode cX3_feltSouth 3 = .ok (.istore 4, 2) := by decide +kernel
theorem dX3_feltSouth_5 : decode cX3_feltSouth 5 = .ok (.iload 4, 2) := by decide +kernel
theorem dX3_feltSouth_7 : decode cX3_feltSouth 7 = .ok (.aload_n 0, 1) := by decide +kernel
theorem dX3_feltSouth_8 : decode cX3_feltSouth 8 = .ok (.getfield 34, 3) := by decide +kernel
theorem dX3_feltSouth_11 : decode cX3_feltSouth 11 = .ok (.if_icmp .ge 50, 3) := by decide +kernel
theorem dX3_feltSouth_14 : decode cX3_feltSouth 14 = .ok (.iload 4, 2) := by decide +kernel
theorem dX3_feltSouth_16 : decode cX3_feltSouth 16 = .ok (.iload_n 1, 1) := by decide +kernel
theorem dX3_feltSouth_17 : decode cX3_feltSouth 17 = .ok (.if_icmp .eq 38, 3) := by decide +kernel
theorem dX3_feltSouth_20 : decode cX3_feltSouth 20 = .ok (.iload_n 2, 1) := by decide +kernel
theorem dX3_feltSouth_21 : decode cX3_feltSouth 21 = .ok (.iload 4, 2) := by decide +kernel
theorem dX3_feltSouth_23 : decode cX3_feltSouth 23 = .ok (.ishr, 1) := by decide +kernel
theorem dX3_feltSouth_24 : decode cX3_feltSouth 24 = .ok (.iconst 1, 1) := by decide +kernel
theorem dX3_feltSouth_25 : decode cX3_feltSouth 25 = .ok (.iand, 1) := by decide +kernel
theorem dX3_feltSouth_26 : decode cX3_feltSouth 26 = .ok (.iconst 1, 1) := by decide +kernel
theorem dX3_feltSouth_27 : decode cX3_feltSouth 27 = .ok (.if_icmp .ne 28, 3) := by decide +kernel
theorem dX3_feltSouth_30 : decode cX3_feltSouth 30 = .ok (.iload_n 3, 1) := by decide +kernel
theorem dX3_feltSouth_31 : decode cX3_feltSouth 31 = .ok (.aload_n 0, 1) := by decide +kernel
theorem dX3_feltSouth_32 : decode cX3_feltSouth 32 = .ok (.iload_n 1, 1) := by decide +kernel
theorem dX3_feltSouth_33 : decode cX3_feltSouth 33 = .ok (.iload 4, 2) := by decide +kernel
theorem dX3_feltSouth_35 : decode cX3_feltSouth 35 = .ok (.invokevirtual 83, 3) := by decide +kernel
theorem dX3_feltSouth_38 : decode cX3_feltSouth 38 = .ok (.aload_n 0, 1) := by decide +kernel
theorem dX3_feltSouth_39 : decode cX3_feltSouth 39 = .ok (.getfield 18, 3) := by decide +kernel
theorem dX3_feltSouth_42 : decode cX3_feltSouth 42 = .ok (.iload 4, 2) := by decide +kernel
theorem dX3_feltSouth_44 : decode cX3_feltSouth 44 = .ok (.iaload, 1) := by decide +kernel
theorem dX3_feltSouth_45 : decode cX3_feltSouth 45 = .ok (.aload_n 0, 1) := by decide +kernel
theorem dX3_feltSouth_46 : decode cX3_feltSouth 46 = .ok (.getfield 18, 3) := by decide +kernel
theorem dX3_feltSouth_49 : decode cX3_feltSouth 49 = .ok (.iload_n 1, 1) := by decide +kernel
theorem dX3_feltSouth_50 : decode cX3_feltSouth 50 = .ok (.iaload, 1) := by decide +kernel
theorem dX3_feltSouth_51 : decode cX3_feltSouth 51 = .ok (.isub, 1) := by decide +kernel
theorem dX3_feltSouth_52 : decode cX3_feltSouth 52 = .ok (.imul, 1) := by decide +kernel
theorem dX3_feltSouth_53 : decode cX3_feltSouth 53 = .ok (.iadd, 1) := by decide +kernel
theorem dX3_feltSouth_54 : decode cX3_feltSouth 54 = .ok (.istore_n 3, 1) := by decide +kernel
theorem dX3_feltSouth_55 : decode cX3_feltSouth 55 = .ok (.iinc 4 1, 3) := by decide +kernel
theorem dX3_feltSouth_58 : decode cX3_feltSouth 58 = .ok (.goto (-53), 3) := by decide +kernel
theorem dX3_feltSouth_61 : decode cX3_feltSouth 61 = .ok (.iload_n 3, 1) := by decide +kernel
theorem dX3_feltSouth_62 : decode cX3_feltSouth 62 = .ok (.ireturn, 1) := by decide +kernel
theorem dX3_draftAmong_0 : decode cX3_draftAmong 0 = .ok (.aload_n 0, 1) := by decide +kernel
theorem dX3_draftAmong_1 : decode cX3_draftAmong 1 = .ok (.iload_n 1, 1) := by decide +kernel
theorem dX3_draftAmong_2 : decode cX3_draftAmong 2 = .ok (.iload_n 2, 1) := by decide +kernel
theorem dX3_draftAmong_3 : decode cX3_draftAmong 3 = .ok (.invokevirtual 86, 3) := by decide +kernel
theorem dX3_draftAmong_6 : decode cX3_draftAmong 6 = .ok (.aload_n 0, 1) := by decide +kernel
theorem dX3_draftAmong_7 : decode cX3_draftAmong 7 = .ok (.iload_n 1, 1) := by decide +kernel
theorem dX3_draftAmong_8 : decode cX3_draftAmong 8 = .ok (.iload_n 2, 1) := by decide +kernel
theorem dX3_draftAmong_9 : decode cX3_draftAmong 9 = .ok (.invokevirtual 89, 3) := by decide +kernel
theorem dX3_draftAmong_12 : decode cX3_draftAmong 12 = .ok (.invokestatic 92, 3) := by decide +kernel
theorem dX3_draftAmong_15 : decode cX3_draftAmong 15 = .ok (.ireturn, 1) := by decide +kernel
theorem dX3_draft_0 : decode cX3_draft 0 = .ok (.aload_n 0, 1) := by decide +kernel
theorem dX3_draft_1 : decode cX3_draft 1 = .ok (.iload_n 1, 1) := by decide +kernel
theorem dX3_draft_2 : decode cX3_draft 2 = .ok (.bipush 63, 2) := by decide +kernel
theorem dX3_draft_4 : decode cX3_draft 4 = .ok (.invokevirtual 95, 3) := by decide +kernel
theorem dX3_draft_7 : decode cX3_draft 7 = .ok (.ireturn, 1) := by decide +kernel
theorem dX3_passHour_0 : decode cX3_passHour 0 = .ok (.iconst 0, 1) := by decide +kernel
theorem dX3_passHour_1 : decode cX3_passHour 1 = .ok (.istore_n 1, 1) := by decide +kernel
theorem dX3_passHour_2 : decode cX3_passHour 2 = .ok (.iconst 0, 1) := by decide +kernel
theorem dX3_passHour_3 : decode cX3_passHour 3 = .ok (.istore_n 2, 1) := by decide +kernel
theorem dX3_passHour_4 : decode cX3_passHour 4 = .ok (.iload_n 2, 1) := by decide +kernel
theorem dX3_passHour_5 : decode cX3_passHour 5 = .ok (.aload_n 0, 1) := by decide +kernel
theorem dX3_passHour_6 : decode cX3_passHour 6 = .ok (.getfield 34, 3) := by decide +kernel
theorem dX3_passHour_9 : decode cX3_passHour 9 = .ok (.if_icmp .ge 50, 3) := by decide +kernel
theorem dX3_passHour_12 : decode cX3_passHour 12 = .ok (.aload_n 0, 1) := by decide +kernel
theorem dX3_passHour_13 : decode cX3_passHour 13 = .ok (.getfield 9, 3) := by decide +kernel
theorem dX3_passHour_16 : decode cX3_passHour 16 = .ok (.iload_n 2, 1) := by decide +kernel
theorem dX3_passHour_17 : decode cX3_passHour 17 = .ok (.iaload, 1) := by decide +kernel
theorem dX3_passHour_18 : decode cX3_passHour 18 = .ok (.aload_n 0, 1) := by decide +kernel
theorem dX3_passHour_19 : decode cX3_passHour 19 = .ok (.getfield 21, 3) := by decide +kernel
theorem dX3_passHour_22 : decode cX3_passHour 22 = .ok (.iload_n 2, 1) := by decide +kernel
theorem dX3_passHour_23 : decode cX3_passHour 23 = .ok (.iaload, 1) := by decide +kernel
theorem dX3_passHour_24 : decode cX3_passHour 24 = .ok (.aload_n 0, 1) := by decide +kernel
theorem dX3_passHour_25 : decode cX3_passHour 25 = .ok (.iload_n 2, 1) := by decide +kernel
theorem dX3_passHour_26 : decode cX3_passHour 26 = .ok (.invokevirtual 98, 3) := by decide +kernel
theorem dX3_passHour_29 : decode cX3_passHour 29 = .ok (.invokestatic 101, 3) := by decide +kernel
theorem dX3_passHour_32 : decode cX3_passHour 32 = .ok (.istore_n 3, 1) := by decide +kernel
theorem dX3_passHour_33 : decode cX3_passHour 33 = .ok (.iload_n 3, 1) := by decide +kernel
theorem dX3_passHour_34 : decode cX3_passHour 34 = .ok (.aload_n 0, 1) := by decide +kernel
theorem dX3_passHour_35 : decode cX3_passHour 35 = .ok (.getfield 21, 3) := by decide +kernel
theorem dX3_passHour_38 : decode cX3_passHour 38 = .ok (.iload_n 2, 1) := by decide +kernel
theorem dX3_passHour_39 : decode cX3_passHour 39 = .ok (.iaload, 1) := by decide +kernel
theorem dX3_passHour_40 : decode cX3_passHour 40 = .ok (.if_icmp .eq 6, 3) := by decide +kernel
theorem dX3_passHour_43 : decode cX3_passHour 43 = .ok (.iinc 1 1, 3) := by decide +kernel
theorem dX3_passHour_46 : decode cX3_passHour 46 = .ok (.aload_n 0, 1) := by decide +kernel
theorem dX3_passHour_47 : decode cX3_passHour 47 = .ok (.getfield 21, 3) := by decide +kernel
theorem dX3_passHour_50 : decode cX3_passHour 50 = .ok (.iload_n 2, 1) := by decide +kernel
theorem dX3_passHour_51 : decode cX3_passHour 51 = .ok (.iload_n 3, 1) := by decide +kernel
theorem dX3_passHour_52 : decode cX3_passHour 52 = .ok (.iastore, 1) := by decide +kernel
theorem dX3_passHour_53 : decode cX3_passHour 53 = .ok (.iinc 2 1, 3) := by decide +kernel
theorem dX3_passHour_56 : decode cX3_passHour 56 = .ok (.goto (-52), 3) := by decide +kernel
theorem dX3_passHour_59 : decode cX3_passHour 59 = .ok (.aload_n 0, 1) := by decide +kernel
theorem dX3_passHour_60 : decode cX3_passHour 60 = .ok (.dup, 1) := by decide +kernel
theorem dX3_passHour_61 : decode cX3_passHour 61 = .ok (.getfield 37, 3) := by decide +kernel
theorem dX3_passHour_64 : decode cX3_passHour 64 = .ok (.iconst 1, 1) := by decide +kernel
theorem dX3_passHour_65 : decode cX3_passHour 65 = .ok (.iadd, 1) := by decide +kernel
theorem dX3_passHour_66 : decode cX3_passHour 66 = .ok (.putfield 37, 3) := by decide +kernel
theorem dX3_passHour_69 : decode cX3_passHour 69 = .ok (.iload_n 1, 1) := by decide +kernel
theorem dX3_passHour_70 : decode cX3_passHour 70 = .ok (.ireturn, 1) := by decide +kernel
theorem dX3_actBy_0 : decode cX3_actBy 0 = .ok (.aload_n 0, 1) := by decide +kernel
theorem dX3_actBy_1 : decode cX3_actBy 1 = .ok (.getfield 34, 3) := by decide +kernel
theorem dX3_actBy_4 : decode cX3_actBy 4 = .ok (.iconst 1, 1) := by decide +kernel
theorem dX3_actBy_5 : decode cX3_actBy 5 = .ok (.if_icmp .ge 4, 3) := by decide +kernel
theorem dX3_actBy_8 : decode cX3_actBy 8 = .ok (.return_, 1) := by decide +kernel
theorem dX3_actBy_9 : decode cX3_actBy 9 = .ok (.iload_n 1, 1) := by decide +kernel
theorem dX3_actBy_10 : decode cX3_actBy 10 = .ok (.bipush 8, 2) := by decide +kernel
theorem dX3_actBy_12 : decode cX3_actBy 12 = .ok (.idiv, 1) := by decide +kernel
theorem dX3_actBy_13 : decode cX3_actBy 13 = .ok (.aload_n 0, 1) := by decide +kernel
theorem dX3_actBy_14 : decode cX3_actBy 14 = .ok (.getfield 34, 3) := by decide +kernel
theorem dX3_actBy_17 : decode cX3_actBy 17 = .ok (.irem, 1) := by decide +kernel
theorem dX3_actBy_18 : decode cX3_actBy 18 = .ok (.istore_n 2, 1) := by decide +kernel
theorem dX3_actBy_19 : decode cX3_actBy 19 = .ok (.iload_n 1, 1) := by decide +kernel
theorem dX3_actBy_20 : decode cX3_actBy 20 = .ok (.bipush 8, 2) := by decide +kernel
theorem dX3_actBy_22 : decode cX3_actBy 22 = .ok (.irem, 1) := by decide +kernel
theorem dX3_actBy_23 : decode cX3_actBy 23 = .ok (.istore_n 3, 1) := by decide +kernel
theorem dX3_actBy_24 : decode cX3_actBy 24 = .ok (.iload_n 3, 1) := by decide +kernel
theorem dX3_actBy_25 : decode cX3_actBy 25 = .ok (.iconst 4, 1) := by decide +kernel
theorem dX3_actBy_26 : decode cX3_actBy 26 = .ok (.if_icmp .ge 31, 3) := by decide +kernel
theorem dX3_actBy_29 : decode cX3_actBy 29 = .ok (.iload_n 1, 1) := by decide +kernel
theorem dX3_actBy_30 : decode cX3_actBy 30 = .ok (.bipush 64, 2) := by decide +kernel
theorem dX3_actBy_32 : decode cX3_actBy 32 = .ok (.idiv, 1) := by decide +kernel
theorem dX3_actBy_33 : decode cX3_actBy 33 = .ok (.iconst 4, 1) := by decide +kernel
theorem dX3_actBy_34 : decode cX3_actBy 34 = .ok (.irem, 1) := by decide +kernel
theorem dX3_actBy_35 : decode cX3_actBy 35 = .ok (.istore 4, 2) := by decide +kernel
theorem dX3_actBy_37 : decode cX3_actBy 37 = .ok (.aload_n 0, 1) := by decide +kernel
theorem dX3_actBy_38 : decode cX3_actBy 38 = .ok (.iload_n 2, 1) := by decide +kernel
theorem dX3_actBy_39 : decode cX3_actBy 39 = .ok (.iload 4, 2) := by decide +kernel
theorem dX3_actBy_41 : decode cX3_actBy 41 = .ok (.invokevirtual 105, 3) := by decide +kernel
theorem dX3_actBy_44 : decode cX3_actBy 44 = .ok (.ifCond .eq 10, 3) := by decide +kernel
theorem dX3_actBy_47 : decode cX3_actBy 47 = .ok (.aload_n 0, 1) := by decide +kernel
theorem dX3_actBy_48 : decode cX3_actBy 48 = .ok (.iload_n 2, 1) := by decide +kernel
theorem dX3_actBy_49 : decode cX3_actBy 49 = .ok (.iload 4, 2) := by decide +kernel
theorem dX3_actBy_51 : decode cX3_actBy 51 = .ok (.invokevirtual 108, 3) := by decide +kernel
theorem dX3_actBy_54 : decode cX3_actBy 54 = .ok (.goto 43, 3) := by decide +kernel
theorem dX3_actBy_57 : decode cX3_actBy 57 = .ok (.iload_n 3, 1) := by decide +kernel
theorem dX3_actBy_58 : decode cX3_actBy 58 = .ok (.iconst 4, 1) := by decide +kernel
theorem dX3_actBy_59 : decode cX3_actBy 59 = .ok (.if_icmp .ne 38, 3) := by decide +kernel
theorem dX3_actBy_62 : decode cX3_actBy 62 = .ok (.iload_n 1, 1) := by decide +kernel
theorem dX3_actBy_63 : decode cX3_actBy 63 = .ok (.bipush 64, 2) := by decide +kernel
theorem dX3_actBy_65 : decode cX3_actBy 65 = .ok (.idiv, 1) := by decide +kernel
theorem dX3_actBy_66 : decode cX3_actBy 66 = .ok (.aload_n 0, 1) := by decide +kernel
theorem dX3_actBy_67 : decode cX3_actBy 67 = .ok (.getfield 34, 3) := by decide +kernel
theorem dX3_actBy_70 : decode cX3_actBy 70 = .ok (.irem, 1) := by decide +kernel
theorem dX3_actBy_71 : decode cX3_actBy 71 = .ok (.istore 4, 2) := by decide +kernel
theorem dX3_actBy_73 : decode cX3_actBy 73 = .ok (.iload 4, 2) := by decide +kernel
theorem dX3_actBy_75 : decode cX3_actBy 75 = .ok (.iload_n 2, 1) := by decide +kernel
theorem dX3_actBy_76 : decode cX3_actBy 76 = .ok (.if_icmp .eq 21, 3) := by decide +kernel
theorem dX3_actBy_79 : decode cX3_actBy 79 = .ok (.aload_n 0, 1) := by decide +kernel
theorem dX3_actBy_80 : decode cX3_actBy 80 = .ok (.iload_n 2, 1) := by decide +kernel
theorem dX3_actBy_81 : decode cX3_actBy 81 = .ok (.iload 4, 2) := by decide +kernel
theorem dX3_actBy_83 : decode cX3_actBy 83 = .ok (.iload_n 1, 1) := by decide +kernel
theorem dX3_actBy_84 : decode cX3_actBy 84 = .ok (.sipush 512, 3) := by decide +kernel
theorem dX3_actBy_87 : decode cX3_actBy 87 = .ok (.idiv, 1) := by decide +kernel
theorem dX3_actBy_88 : decode cX3_actBy 88 = .ok (.bipush 41, 2) := by decide +kernel
theorem dX3_actBy_90 : decode cX3_actBy 90 = .ok (.irem, 1) := by decide +kernel
theorem dX3_actBy_91 : decode cX3_actBy 91 = .ok (.bipush 20, 2) := by decide +kernel
theorem dX3_actBy_93 : decode cX3_actBy 93 = .ok (.isub, 1) := by decide +kernel
theorem dX3_actBy_94 : decode cX3_actBy 94 = .ok (.invokevirtual 71, 3) := by decide +kernel
theorem dX3_actBy_97 : decode cX3_actBy 97 = .ok (.return_, 1) := by decide +kernel
theorem dX3_tellsToward_0 : decode cX3_tellsToward 0 = .ok (.iload_n 1, 1) := by decide +kernel
theorem dX3_tellsToward_1 : decode cX3_tellsToward 1 = .ok (.iload_n 2, 1) := by decide +kernel
theorem dX3_tellsToward_2 : decode cX3_tellsToward 2 = .ok (.if_icmp .eq 45, 3) := by decide +kernel
theorem dX3_tellsToward_5 : decode cX3_tellsToward 5 = .ok (.aload_n 0, 1) := by decide +kernel
theorem dX3_tellsToward_6 : decode cX3_tellsToward 6 = .ok (.getfield 15, 3) := by decide +kernel
theorem dX3_tellsToward_9 : decode cX3_tellsToward 9 = .ok (.iload_n 2, 1) := by decide +kernel
theorem dX3_tellsToward_10 : decode cX3_tellsToward 10 = .ok (.iaload, 1) := by decide +kernel
theorem dX3_tellsToward_11 : decode cX3_tellsToward 11 = .ok (.aload_n 0, 1) := by decide +kernel
theorem dX3_tellsToward_12 : decode cX3_tellsToward 12 = .ok (.getfield 15, 3) := by decide +kernel
theorem dX3_tellsToward_15 : decode cX3_tellsToward 15 = .ok (.iload_n 1, 1) := by decide +kernel
theorem dX3_tellsToward_16 : decode cX3_tellsToward 16 = .ok (.iaload, 1) := by decide +kernel
theorem dX3_tellsToward_17 : decode cX3_tellsToward 17 = .ok (.isub, 1) := by decide +kernel
theorem dX3_tellsToward_18 : decode cX3_tellsToward 18 = .ok (.aload_n 0, 1) := by decide +kernel
theorem dX3_tellsToward_19 : decode cX3_tellsToward 19 = .ok (.getfield 18, 3) := by decide +kernel
theorem dX3_tellsToward_22 : decode cX3_tellsToward 22 = .ok (.iload_n 2, 1) := by decide +kernel
theorem dX3_tellsToward_23 : decode cX3_tellsToward 23 = .ok (.iaload, 1) := by decide +kernel
theorem dX3_tellsToward_24 : decode cX3_tellsToward 24 = .ok (.aload_n 0, 1) := by decide +kernel
theorem dX3_tellsToward_25 : decode cX3_tellsToward 25 = .ok (.getfield 18, 3) := by decide +kernel
theorem dX3_tellsToward_28 : decode cX3_tellsToward 28 = .ok (.iload_n 1, 1) := by decide +kernel
theorem dX3_tellsToward_29 : decode cX3_tellsToward 29 = .ok (.iaload, 1) := by decide +kernel
theorem dX3_tellsToward_30 : decode cX3_tellsToward 30 = .ok (.isub, 1) := by decide +kernel
theorem dX3_tellsToward_31 : decode cX3_tellsToward 31 = .ok (.invokestatic 92, 3) := by decide +kernel
theorem dX3_tellsToward_34 : decode cX3_tellsToward 34 = .ok (.aload_n 0, 1) := by decide +kernel
theorem dX3_tellsToward_35 : decode cX3_tellsToward 35 = .ok (.getfield 21, 3) := by decide +kernel
theorem dX3_tellsToward_38 : decode cX3_tellsToward 38 = .ok (.iload_n 1, 1) := by decide +kernel
theorem dX3_tellsToward_39 : decode cX3_tellsToward 39 = .ok (.iaload, 1) := by decide +kernel
theorem dX3_tellsToward_40 : decode cX3_tellsToward 40 = .ok (.if_icmp .ne 7, 3) := by decide +kernel
theorem dX3_tellsToward_43 : decode cX3_tellsToward 43 = .ok (.iconst 1, 1) := by decide +kernel
theorem dX3_tellsToward_44 : decode cX3_tellsToward 44 = .ok (.goto 4, 3) := by decide +kernel
theorem dX3_tellsToward_47 : decode cX3_tellsToward 47 = .ok (.iconst 0, 1) := by decide +kernel
theorem dX3_tellsToward_48 : decode cX3_tellsToward 48 = .ok (.ireturn, 1) := by decide +kernel
theorem dX3_lookersAt_0 : decode cX3_lookersAt 0 = .ok (.iconst 0, 1) := by decide +kernel
theorem dX3_lookersAt_1 : decode cX3_lookersAt 1 = .ok (.istore_n 2, 1) := by decide +kernel
theorem dX3_lookersAt_2 : decode cX3_lookersAt 2 = .ok (.iconst 0, 1) := by decide +kernel
theorem dX3_lookersAt_3 : decode cX3_lookersAt 3 = .ok (.istore_n 3, 1) := by decide +kernel
theorem dX3_lookersAt_4 : decode cX3_lookersAt 4 = .ok (.iload_n 3, 1) := by decide +kernel
theorem dX3_lookersAt_5 : decode cX3_lookersAt 5 = .ok (.aload_n 0, 1) := by decide +kernel
theorem dX3_lookersAt_6 : decode cX3_lookersAt 6 = .ok (.getfield 34, 3) := by decide +kernel
theorem dX3_lookersAt_9 : decode cX3_lookersAt 9 = .ok (.if_icmp .ge 21, 3) := by decide +kernel
theorem dX3_lookersAt_12 : decode cX3_lookersAt 12 = .ok (.aload_n 0, 1) := by decide +kernel
theorem dX3_lookersAt_13 : decode cX3_lookersAt 13 = .ok (.iload_n 3, 1) := by decide +kernel
theorem dX3_lookersAt_14 : decode cX3_lookersAt 14 = .ok (.iload_n 1, 1) := by decide +kernel
theorem dX3_lookersAt_15 : decode cX3_lookersAt 15 = .ok (.invokevirtual 112, 3) := by decide +kernel
theorem dX3_lookersAt_18 : decode cX3_lookersAt 18 = .ok (.ifCond .eq 6, 3) := by decide +kernel
theorem dX3_lookersAt_21 : decode cX3_lookersAt 21 = .ok (.iinc 2 1, 3) := by decide +kernel
theorem dX3_lookersAt_24 : decode cX3_lookersAt 24 = .ok (.iinc 3 1, 3) := by decide +kernel
theorem dX3_lookersAt_27 : decode cX3_lookersAt 27 = .ok (.goto (-23), 3) := by decide +kernel
theorem dX3_lookersAt_30 : decode cX3_lookersAt 30 = .ok (.iload_n 2, 1) := by decide +kernel
theorem dX3_lookersAt_31 : decode cX3_lookersAt 31 = .ok (.ireturn, 1) := by decide +kernel
theorem dX3_sumOfVanes_0 : decode cX3_sumOfVanes 0 = .ok (.iconst 0, 1) := by decide +kernel
theorem dX3_sumOfVanes_1 : decode cX3_sumOfVanes 1 = .ok (.istore_n 1, 1) := by decide +kernel
theorem dX3_sumOfVanes_2 : decode cX3_sumOfVanes 2 = .ok (.iconst 0, 1) := by decide +kernel
theorem dX3_sumOfVanes_3 : decode cX3_sumOfVanes 3 = .ok (.istore_n 2, 1) := by decide +kernel
theorem dX3_sumOfVanes_4 : decode cX3_sumOfVanes 4 = .ok (.iload_n 2, 1) := by decide +kernel
theorem dX3_sumOfVanes_5 : decode cX3_sumOfVanes 5 = .ok (.aload_n 0, 1) := by decide +kernel
theorem dX3_sumOfVanes_6 : decode cX3_sumOfVanes 6 = .ok (.getfield 34, 3) := by decide +kernel
theorem dX3_sumOfVanes_9 : decode cX3_sumOfVanes 9 = .ok (.if_icmp .ge 18, 3) := by decide +kernel
theorem dX3_sumOfVanes_12 : decode cX3_sumOfVanes 12 = .ok (.iload_n 1, 1) := by decide +kernel
theorem dX3_sumOfVanes_13 : decode cX3_sumOfVanes 13 = .ok (.aload_n 0, 1) := by decide +kernel
theorem dX3_sumOfVanes_14 : decode cX3_sumOfVanes 14 = .ok (.getfield 21, 3) := by decide +kernel
theorem dX3_sumOfVanes_17 : decode cX3_sumOfVanes 17 = .ok (.iload_n 2, 1) := by decide +kernel
theorem dX3_sumOfVanes_18 : decode cX3_sumOfVanes 18 = .ok (.iaload, 1) := by decide +kernel
theorem dX3_sumOfVanes_19 : decode cX3_sumOfVanes 19 = .ok (.iadd, 1) := by decide +kernel
theorem dX3_sumOfVanes_20 : decode cX3_sumOfVanes 20 = .ok (.istore_n 1, 1) := by decide +kernel
theorem dX3_sumOfVanes_21 : decode cX3_sumOfVanes 21 = .ok (.iinc 2 1, 3) := by decide +kernel
theorem dX3_sumOfVanes_24 : decode cX3_sumOfVanes 24 = .ok (.goto (-20), 3) := by decide +kernel
theorem dX3_sumOfVanes_27 : decode cX3_sumOfVanes 27 = .ok (.iload_n 1, 1) := by decide +kernel
theorem dX3_sumOfVanes_28 : decode cX3_sumOfVanes 28 = .ok (.ireturn, 1) := by decide +kernel
theorem dX3_howManyFeelADraft_0 : decode cX3_howManyFeelADraft 0 = .ok (.iconst 0, 1) := by decide +kernel
theorem dX3_howManyFeelADraft_1 : decode cX3_howManyFeelADraft 1 = .ok (.istore_n 1, 1) := by decide +kernel
theorem dX3_howManyFeelADraft_2 : decode cX3_howManyFeelADraft 2 = .ok (.iconst 0, 1) := by decide +kernel
theorem dX3_howManyFeelADraft_3 : decode cX3_howManyFeelADraft 3 = .ok (.istore_n 2, 1) := by decide +kernel
theorem dX3_howManyFeelADraft_4 : decode cX3_howManyFeelADraft 4 = .ok (.iload_n 2, 1) := by decide +kernel
theorem dX3_howManyFeelADraft_5 : decode cX3_howManyFeelADraft 5 = .ok (.aload_n 0, 1) := by decide +kernel
theorem dX3_howManyFeelADraft_6 : decode cX3_howManyFeelADraft 6 = .ok (.getfield 34, 3) := by decide +kernel
theorem dX3_howManyFeelADraft_9 : decode cX3_howManyFeelADraft 9 = .ok (.if_icmp .ge 22, 3) := by decide +kernel
theorem dX3_howManyFeelADraft_12 : decode cX3_howManyFeelADraft 12 = .ok (.aload_n 0, 1) := by decide +kernel
theorem dX3_howManyFeelADraft_13 : decode cX3_howManyFeelADraft 13 = .ok (.iload_n 2, 1) := by decide +kernel
theorem dX3_howManyFeelADraft_14 : decode cX3_howManyFeelADraft 14 = .ok (.invokevirtual 98, 3) := by decide +kernel
theorem dX3_howManyFeelADraft_17 : decode cX3_howManyFeelADraft 17 = .ok (.bipush (-4), 2) := by decide +kernel
theorem dX3_howManyFeelADraft_19 : decode cX3_howManyFeelADraft 19 = .ok (.if_icmp .eq 6, 3) := by decide +kernel
theorem dX3_howManyFeelADraft_22 : decode cX3_howManyFeelADraft 22 = .ok (.iinc 1 1, 3) := by decide +kernel
theorem dX3_howManyFeelADraft_25 : decode cX3_howManyFeelADraft 25 = .ok (.iinc 2 1, 3) := by decide +kernel
theorem dX3_howManyFeelADraft_28 : decode cX3_howManyFeelADraft 28 = .ok (.goto (-24), 3) := by decide +kernel
theorem dX3_howManyFeelADraft_31 : decode cX3_howManyFeelADraft 31 = .ok (.iload_n 1, 1) := by decide +kernel
theorem dX3_howManyFeelADraft_32 : decode cX3_howManyFeelADraft 32 = .ok (.ireturn, 1) := by decide +kernel
theorem dX3_howManyLeanings_0 : decode cX3_howManyLeanings 0 = .ok (.iconst 0, 1) := by decide +kernel
theorem dX3_howManyLeanings_1 : decode cX3_howManyLeanings 1 = .ok (.istore_n 1, 1) := by decide +kernel
theorem dX3_howManyLeanings_2 : decode cX3_howManyLeanings 2 = .ok (.iconst 0, 1) := by decide +kernel
theorem dX3_howManyLeanings_3 : decode cX3_howManyLeanings 3 = .ok (.istore_n 2, 1) := by decide +kernel
theorem dX3_howManyLeanings_4 : decode cX3_howManyLeanings 4 = .ok (.iload_n 2, 1) := by decide +kernel
theorem dX3_howManyLeanings_5 : decode cX3_howManyLeanings 5 = .ok (.aload_n 0, 1) := by decide +kernel
theorem dX3_howManyLeanings_6 : decode cX3_howManyLeanings 6 = .ok (.getfield 24, 3) := by decide +kernel
theorem dX3_howManyLeanings_9 : decode cX3_howManyLeanings 9 = .ok (.arraylength, 1) := by decide +kernel
theorem dX3_howManyLeanings_10 : decode cX3_howManyLeanings 10 = .ok (.if_icmp .ge 21, 3) := by decide +kernel
theorem dX3_howManyLeanings_13 : decode cX3_howManyLeanings 13 = .ok (.aload_n 0, 1) := by decide +kernel
theorem dX3_howManyLeanings_14 : decode cX3_howManyLeanings 14 = .ok (.getfield 24, 3) := by decide +kernel
theorem dX3_howManyLeanings_17 : decode cX3_howManyLeanings 17 = .ok (.iload_n 2, 1) := by decide +kernel
theorem dX3_howManyLeanings_18 : decode cX3_howManyLeanings 18 = .ok (.iaload, 1) := by decide +kernel
theorem dX3_howManyLeanings_19 : decode cX3_howManyLeanings 19 = .ok (.ifCond .eq 6, 3) := by decide +kernel
theorem dX3_howManyLeanings_22 : decode cX3_howManyLeanings 22 = .ok (.iinc 1 1, 3) := by decide +kernel
theorem dX3_howManyLeanings_25 : decode cX3_howManyLeanings 25 = .ok (.iinc 2 1, 3) := by decide +kernel
theorem dX3_howManyLeanings_28 : decode cX3_howManyLeanings 28 = .ok (.goto (-24), 3) := by decide +kernel
theorem dX3_howManyLeanings_31 : decode cX3_howManyLeanings 31 = .ok (.iload_n 1, 1) := by decide +kernel
theorem dX3_howManyLeanings_32 : decode cX3_howManyLeanings 32 = .ok (.ireturn, 1) := by decide +kernel
theorem dX4_init_0 : decode cX4_init 0 = .ok (.aload_n 0, 1) := by decide +kernel
theorem dX4_init_1 : decode cX4_init 1 = .ok (.invokespecial 3, 3) := by decide +kernel
theorem dX4_init_4 : decode cX4_init 4 = .ok (.aload_n 0, 1) := by decide +kernel
theorem dX4_init_5 : decode cX4_init 5 = .ok (.bipush 81, 2) := by decide +kernel
theorem dX4_init_7 : decode cX4_init 7 = .ok (.newarray .int, 2) := by decide +kernel
theorem dX4_init_9 : decode cX4_init 9 = .ok (.putfield 9, 3) := by decide +kernel
theorem dX4_init_12 : decode cX4_init 12 = .ok (.aload_n 0, 1) := by decide +kernel
theorem dX4_init_13 : decode cX4_init 13 = .ok (.bipush 81, 2) := by decide +kernel
theorem dX4_init_15 : decode cX4_init 15 = .ok (.newarray .int, 2) := by decide +kernel
theorem dX4_init_17 : decode cX4_init 17 = .ok (.putfield 15, 3) := by decide +kernel
theorem dX4_init_20 : decode cX4_init 20 = .ok (.aload_n 0, 1) := by decide +kernel
theorem dX4_init_21 : decode cX4_init 21 = .ok (.bipush 81, 2) := by decide +kernel
theorem dX4_init_23 : decode cX4_init 23 = .ok (.newarray .int, 2) := by decide +kernel
theorem dX4_init_25 : decode cX4_init 25 = .ok (.putfield 18, 3) := by decide +kernel
theorem dX4_init_28 : decode cX4_init 28 = .ok (.aload_n 0, 1) := by decide +kernel
theorem dX4_init_29 : decode cX4_init 29 = .ok (.bipush 81, 2) := by decide +kernel
theorem dX4_init_31 : decode cX4_init 31 = .ok (.newarray .int, 2) := by decide +kernel
theorem dX4_init_33 : decode cX4_init 33 = .ok (.putfield 21, 3) := by decide +kernel
theorem dX4_init_36 : decode cX4_init 36 = .ok (.aload_n 0, 1) := by decide +kernel
theorem dX4_init_37 : decode cX4_init 37 = .ok (.bipush 81, 2) := by decide +kernel
theorem dX4_init_39 : decode cX4_init 39 = .ok (.newarray .int, 2) := by decide +kernel
theorem dX4_init_41 : decode cX4_init 41 = .ok (.putfield 24, 3) := by decide +kernel
theorem dX4_init_44 : decode cX4_init 44 = .ok (.aload_n 0, 1) := by decide +kernel
theorem dX4_init_45 : decode cX4_init 45 = .ok (.bipush (-4), 2) := by decide +kernel
theorem dX4_init_47 : decode cX4_init 47 = .ok (.putfield 27, 3) := by decide +kernel
theorem dX4_init_50 : decode cX4_init 50 = .ok (.return_, 1) := by decide +kernel
theorem dX4_run_0 : decode cX4_run 0 = .ok (.iconst 0, 1) := by decide +kernel
theorem dX4_run_1 : decode cX4_run 1 = .ok (.istore 4, 2) := by decide +kernel
theorem dX4_run_3 : decode cX4_run 3 = .ok (.iload 4, 2) := by decide +kernel
theorem dX4_run_5 : decode cX4_run 5 = .ok (.bipush 81, 2) := by decide +kernel
theorem dX4_run_7 : decode cX4_run 7 = .ok (.if_icmp .ge 18, 3) := by decide +kernel
theorem dX4_run_10 : decode cX4_run 10 = .ok (.aload_n 0, 1) := by decide +kernel
theorem dX4_run_11 : decode cX4_run 11 = .ok (.getfield 21, 3) := by decide +kernel
theorem dX4_run_14 : decode cX4_run 14 = .ok (.iload 4, 2) := by decide +kernel
theorem dX4_run_16 : decode cX4_run 16 = .ok (.bipush (-4), 2) := by decide +kernel
theorem dX4_run_18 : decode cX4_run 18 = .ok (.iastore, 1) := by decide +kernel
theorem dX4_run_19 : decode cX4_run 19 = .ok (.iinc 4 1, 3) := by decide +kernel
theorem dX4_run_22 : decode cX4_run 22 = .ok (.goto (-19), 3) := by decide +kernel
theorem dX4_run_25 : decode cX4_run 25 = .ok (.aload_n 0, 1) := by decide +kernel
theorem dX4_run_26 : decode cX4_run 26 = .ok (.bipush (-4), 2) := by decide +kernel
theorem dX4_run_28 : decode cX4_run 28 = .ok (.putfield 27, 3) := by decide +kernel
theorem dX4_run_31 : decode cX4_run 31 = .ok (.aload_n 0, 1) := by decide +kernel
theorem dX4_run_32 : decode cX4_run 32 = .ok (.getfield 9, 3) := by decide +kernel
theorem dX4_run_35 : decode cX4_run 35 = .ok (.iconst 0, 1) := by decide +kernel
theorem dX4_run_36 : decode cX4_run 36 = .ok (.aload_n 1, 1) := by decide +kernel
theorem dX4_run_37 : decode cX4_run 37 = .ok (.getfield 31, 3) := by decide +kernel
theorem dX4_run_40 : decode cX4_run 40 = .ok (.iload_n 2, 1) := by decide +kernel
theorem dX4_run_41 : decode cX4_run 41 = .ok (.iaload, 1) := by decide +kernel
theorem dX4_run_42 : decode cX4_run 42 = .ok (.bipush 9, 2) := by decide +kernel
theorem dX4_run_44 : decode cX4_run 44 = .ok (.imul, 1) := by decide +kernel
theorem dX4_run_45 : decode cX4_run 45 = .ok (.aload_n 1, 1) := by decide +kernel
theorem dX4_run_46 : decode cX4_run 46 = .ok (.getfield 36, 3) := by decide +kernel
theorem dX4_run_49 : decode cX4_run 49 = .ok (.iload_n 2, 1) := by decide +kernel
theorem dX4_run_50 : decode cX4_run 50 = .ok (.iaload, 1) := by decide +kernel
theorem dX4_run_51 : decode cX4_run 51 = .ok (.iadd, 1) := by decide +kernel
theorem dX4_run_52 : decode cX4_run 52 = .ok (.iastore, 1) := by decide +kernel
theorem dX4_run_53 : decode cX4_run 53 = .ok (.aload_n 0, 1) := by decide +kernel
theorem dX4_run_54 : decode cX4_run 54 = .ok (.getfield 21, 3) := by decide +kernel
theorem dX4_run_57 : decode cX4_run 57 = .ok (.aload_n 0, 1) := by decide +kernel
theorem dX4_run_58 : decode cX4_run 58 = .ok (.getfield 9, 3) := by decide +kernel
theorem dX4_run_61 : decode cX4_run 61 = .ok (.iconst 0, 1) := by decide +kernel
theorem dX4_run_62 : decode cX4_run 62 = .ok (.iaload, 1) := by decide +kernel
theorem dX4_run_63 : decode cX4_run 63 = .ok (.iconst 0, 1) := by decide +kernel
theorem dX4_run_64 : decode cX4_run 64 = .ok (.iastore, 1) := by decide +kernel
theorem dX4_run_65 : decode cX4_run 65 = .ok (.iconst 1, 1) := by decide +kernel
theorem dX4_run_66 : decode cX4_run 66 = .ok (.istore 4, 2) := by decide +kernel
theorem dX4_run_68 : decode cX4_run 68 = .ok (.iconst 0, 1) := by decide +kernel
theorem dX4_run_69 : decode cX4_run 69 = .ok (.istore 5, 2) := by decide +kernel
theorem dX4_run_71 : decode cX4_run 71 = .ok (.iload 5, 2) := by decide +kernel
theorem dX4_run_73 : decode cX4_run 73 = .ok (.iload 4, 2) := by decide +kernel
theorem dX4_run_75 : decode cX4_run 75 = .ok (.if_icmp .ge 60, 3) := by decide +kernel
theorem dX4_run_78 : decode cX4_run 78 = .ok (.iload 5, 2) := by decide +kernel
theorem dX4_run_80 : decode cX4_run 80 = .ok (.bipush 81, 2) := by decide +kernel
theorem dX4_run_82 : decode cX4_run 82 = .ok (.if_icmp .ge 53, 3) := by decide +kernel
theorem dX4_run_85 : decode cX4_run 85 = .ok (.aload_n 0, 1) := by decide +kernel
theorem dX4_run_86 : decode cX4_run 86 = .ok (.getfield 9, 3) := by decide +kernel
theorem dX4_run_89 : decode cX4_run 89 = .ok (.iload 5, 2) := by decide +kernel
theorem dX4_run_91 : decode cX4_run 91 = .ok (.iaload, 1) := by decide +kernel
theorem dX4_run_92 : decode cX4_run 92 = .ok (.istore 6, 2) := by decide +kernel
theorem dX4_run_94 : decode cX4_run 94 = .ok (.aload_n 1, 1) := by decide +kernel
theorem dX4_run_95 : decode cX4_run 95 = .ok (.iload_n 2, 1) := by decide +kernel
theorem dX4_run_96 : decode cX4_run 96 = .ok (.iload 6, 2) := by decide +kernel
theorem dX4_run_98 : decode cX4_run 98 = .ok (.invokestatic 39, 3) := by decide +kernel
theorem dX4_run_101 : decode cX4_run 101 = .ok (.aload_n 1, 1) := by decide +kernel
theorem dX4_run_102 : decode cX4_run 102 = .ok (.iload_n 2, 1) := by decide +kernel
theorem dX4_run_103 : decode cX4_run 103 = .ok (.invokevirtual 43, 3) := by decide +kernel
theorem dX4_run_106 : decode cX4_run 106 = .ok (.iload_n 3, 1) := by decide +kernel
theorem dX4_run_107 : decode cX4_run 107 = .ok (.if_icmp .ne 10, 3) := by decide +kernel
theorem dX4_run_110 : decode cX4_run 110 = .ok (.aload_n 0, 1) := by decide +kernel
theorem dX4_run_111 : decode cX4_run 111 = .ok (.iload 6, 2) := by decide +kernel
theorem dX4_run_113 : decode cX4_run 113 = .ok (.invokevirtual 47, 3) := by decide +kernel
theorem dX4_run_116 : decode cX4_run 116 = .ok (.return_, 1) := by decide +kernel
theorem dX4_run_117 : decode cX4_run 117 = .ok (.aload_n 0, 1) := by decide +kernel
theorem dX4_run_118 : decode cX4_run 118 = .ok (.aload_n 1, 1) := by decide +kernel
theorem dX4_run_119 : decode cX4_run 119 = .ok (.iload_n 2, 1) := by decide +kernel
theorem dX4_run_120 : decode cX4_run 120 = .ok (.iload 6, 2) := by decide +kernel
theorem dX4_run_122 : decode cX4_run 122 = .ok (.iload 4, 2) := by decide +kernel
theorem dX4_run_124 : decode cX4_run 124 = .ok (.invokevirtual 51, 3) := by decide +kernel
theorem dX4_run_127 : decode cX4_run 127 = .ok (.istore 4, 2) := by decide +kernel
theorem dX4_run_129 : decode cX4_run 129 = .ok (.iinc 5 1, 3) := by decide +kernel
theorem dX4_run_132 : decode cX4_run 132 = .ok (.goto (-61), 3) := by decide +kernel
theorem dX4_run_135 : decode cX4_run 135 = .ok (.return_, 1) := by decide +kernel
theorem dX4_sideAt_0 : decode cX4_sideAt 0 = .ok (.iload_n 1, 1) := by decide +kernel
theorem dX4_sideAt_1 : decode cX4_sideAt 1 = .ok (.aload_n 0, 1) := by decide +kernel
theorem dX4_sideAt_2 : decode cX4_sideAt 2 = .ok (.getfield 27, 3) := by decide +kernel
theorem dX4_sideAt_5 : decode cX4_sideAt 5 = .ok (.invokestatic 55, 3) := by decide +kernel
theorem dX4_sideAt_8 : decode cX4_sideAt 8 = .ok (.ifCond .eq 12, 3) := by decide +kernel
theorem dX4_sideAt_11 : decode cX4_sideAt 11 = .ok (.aload_n 0, 1) := by decide +kernel
theorem dX4_sideAt_12 : decode cX4_sideAt 12 = .ok (.getfield 24, 3) := by decide +kernel
theorem dX4_sideAt_15 : decode cX4_sideAt 15 = .ok (.iload_n 1, 1) := by decide +kernel
theorem dX4_sideAt_16 : decode cX4_sideAt 16 = .ok (.iaload, 1) := by decide +kernel
theorem dX4_sideAt_17 : decode cX4_sideAt 17 = .ok (.goto 5, 3) := by decide +kernel
theorem dX4_sideAt_20 : decode cX4_sideAt 20 = .ok (.bipush (-4), 2) := by decide +kernel
theorem dX4_sideAt_22 : decode cX4_sideAt 22 = .ok (.ireturn, 1) := by decide +kernel
theorem dX4_goTo_0 : decode cX4_goTo 0 = .ok (.aload_n 0, 1) := by decide +kernel
theorem dX4_goTo_1 : decode cX4_goTo 1 = .ok (.iload_n 1, 1) := by decide +kernel
theorem dX4_goTo_2 : decode cX4_goTo 2 = .ok (.iload_n 2, 1) := by decide +kernel
theorem dX4_goTo_3 : decode cX4_goTo 3 = .ok (.bipush 9, 2) := by decide +kernel
theorem dX4_goTo_5 : decode cX4_goTo 5 = .ok (.idiv, 1) := by decide +kernel
theorem dX4_goTo_6 : decode cX4_goTo 6 = .ok (.iload_n 2, 1) := by decide +kernel
theorem dX4_goTo_7 : decode cX4_goTo 7 = .ok (.bipush 9, 2) := by decide +kernel
theorem dX4_goTo_9 : decode cX4_goTo 9 = .ok (.irem, 1) := by decide +kernel
theorem dX4_goTo_10 : decode cX4_goTo 10 = .ok (.invokevirtual 59, 3) := by decide +kernel
theorem dX4_goTo_13 : decode cX4_goTo 13 = .ok (.return_, 1) := by decide +kernel
theorem dX4_findNext_0 : decode cX4_findNext 0 = .ok (.iload 4, 2) := by decide +kernel
theorem dX4_findNext_2 : decode cX4_findNext 2 = .ok (.istore 5, 2) := by decide +kernel
theorem dX4_findNext_4 : decode cX4_findNext 4 = .ok (.iconst 0, 1) := by decide +kernel
theorem dX4_findNext_5 : decode cX4_findNext 5 = .ok (.istore 6, 2) := by decide +kernel
theorem dX4_findNext_7 : decode cX4_findNext 7 = .ok (.iload 6, 2) := by decide +kernel
theorem dX4_findNext_9 : decode cX4_findNext 9 = .ok (.iconst 4, 1) := by decide +kernel
theorem dX4_findNext_10 : decode cX4_findNext 10 = .ok (.if_icmp .ge 115, 3) := by decide +kernel
theorem dX4_findNext_13 : decode cX4_findNext 13 = .ok (.aload_n 1, 1) := by decide +kernel
theorem dX4_findNext_14 : decode cX4_findNext 14 = .ok (.iload_n 2, 1) := by decide +kernel
theorem dX4_findNext_15 : decode cX4_findNext 15 = .ok (.iload 6, 2) := by decide +kernel
theorem dX4_findNext_17 : decode cX4_findNext 17 = .ok (.invokevirtual 63, 3) := by decide +kernel
theorem dX4_findNext_20 : decode cX4_findNext 20 = .ok (.ifCond .ne 6, 3) := by decide +kernel
theorem dX4_findNext_23 : decode cX4_findNext 23 = .ok (.goto 96, 3) := by decide +kernel
theorem dX4_findNext_26 : decode cX4_findNext 26 = .ok (.iload_n 3, 1) := by decide +kernel
theorem dX4_findNext_27 : decode cX4_findNext 27 = .ok (.getstatic 66, 3) := by decide +kernel
theorem dX4_findNext_30 : decode cX4_findNext 30 = .ok (.iload 6, 2) := by decide +kernel
theorem dX4_findNext_32 : decode cX4_findNext 32 = .ok (.iaload, 1) := by decide +kernel
theorem dX4_findNext_33 : decode cX4_findNext 33 = .ok (.bipush 9, 2) := by decide +kernel
theorem dX4_findNext_35 : decode cX4_findNext 35 = .ok (.imul, 1) := by decide +kernel
theorem dX4_findNext_36 : decode cX4_findNext 36 = .ok (.iadd, 1) := by decide +kernel
theorem dX4_findNext_37 : decode cX4_findNext 37 = .ok (.getstatic 69, 3) := by decide +kernel
theorem dX4_findNext_40 : decode cX4_findNext 40 = .ok (.iload 6, 2) := by decide +kernel
theorem dX4_findNext_42 : decode cX4_findNext 42 = .ok (.iaload, 1) := by decide +kernel
theorem dX4_findNext_43 : decode cX4_findNext 43 = .ok (.iadd, 1) := by decide +kernel
theorem dX4_findNext_44 : decode cX4_findNext 44 = .ok (.istore 7, 2) := by decide +kernel
theorem dX4_findNext_46 : decode cX4_findNext 46 = .ok (.iload 7, 2) := by decide +kernel
theorem dX4_findNext_48 : decode cX4_findNext 48 = .ok (.bipush 81, 2) := by decide +kernel
theorem dX4_findNext_50 : decode cX4_findNext 50 = .ok (.invokestatic 55, 3) := by decide +kernel
theorem dX4_findNext_53 : decode cX4_findNext 53 = .ok (.ifCond .eq 66, 3) := by decide +kernel
theorem dX4_findNext_56 : decode cX4_findNext 56 = .ok (.aload_n 0, 1) := by decide +kernel
theorem dX4_findNext_57 : decode cX4_findNext 57 = .ok (.getfield 21, 3) := by decide +kernel
theorem dX4_findNext_60 : decode cX4_findNext 60 = .ok (.iload 7, 2) := by decide +kernel
theorem dX4_findNext_62 : decode cX4_findNext 62 = .ok (.iaload, 1) := by decide +kernel
theorem dX4_findNext_63 : decode cX4_findNext 63 = .ok (.bipush (-4), 2) := by decide +kernel
theorem dX4_findNext_65 : decode cX4_findNext 65 = .ok (.if_icmp .ne 54, 3) := by decide +kernel
theorem dX4_findNext_68 : decode cX4_findNext 68 = .ok (.iload 5, 2) := by decide +kernel
theorem dX4_findNext_70 : decode cX4_findNext 70 = .ok (.bipush 81, 2) := by decide +kernel
theorem dX4_findNext_72 : decode cX4_findNext 72 = .ok (.if_icmp .ge 47, 3) := by decide +kernel
theorem dX4_findNext_75 : decode cX4_findNext 75 = .ok (.aload_n 0, 1) := by decide +kernel
theorem dX4_findNext_76 : decode cX4_findNext 76 = .ok (.getfield 21, 3) := by decide +kernel
theorem dX4_findNext_79 : decode cX4_findNext 79 = .ok (.iload 7, 2) := by decide +kernel
theorem dX4_findNext_81 : decode cX4_findNext 81 = .ok (.aload_n 0, 1) := by decide +kernel
theorem dX4_findNext_82 : decode cX4_findNext 82 = .ok (.getfield 21, 3) := by decide +kernel
theorem dX4_findNext_85 : decode cX4_findNext 85 = .ok (.iload_n 3, 1) := by decide +kernel
theorem dX4_findNext_86 : decode cX4_findNext 86 = .ok (.iaload, 1) := by decide +kernel
theorem dX4_findNext_87 : decode cX4_findNext 87 = .ok (.iconst 1, 1) := by decide +kernel
theorem dX4_findNext_88 : decode cX4_findNext 88 = .ok (.iadd, 1) := by decide +kernel
theorem dX4_findNext_89 : decode cX4_findNext 89 = .ok (.iastore, 1) := by decide +kernel
theorem dX4_findNext_90 : decode cX4_findNext 90 = .ok (.aload_n 0, 1) := by decide +kernel
theorem dX4_findNext_91 : decode cX4_findNext 91 = .ok (.getfield 15, 3) := by decide +kernel
theorem dX4_findNext_94 : decode cX4_findNext 94 = .ok (.iload 7, 2) := by decide +kernel
theorem dX4_findNext_96 : decode cX4_findNext 96 = .ok (.iload_n 3, 1) := by decide +kernel
theorem dX4_findNext_97 : decode cX4_findNext 97 = .ok (.iastore, 1) := by decide +kernel
theorem dX4_findNext_98 : decode cX4_findNext 98 = .ok (.aload_n 0, 1) := by decide +kernel
theorem dX4_findNext_99 : decode cX4_findNext 99 = .ok (.getfield 18, 3) := by decide +kernel
theorem dX4_findNext_102 : decode cX4_findNext 102 = .ok (.iload 7, 2) := by decide +kernel
theorem dX4_findNext_104 : decode cX4_findNext 104 = .ok (.iload 6, 2) := by decide +kernel
theorem dX4_findNext_106 : decode cX4_findNext 106 = .ok (.iastore, 1) := by decide +kernel
theorem dX4_findNext_107 : decode cX4_findNext 107 = .ok (.aload_n 0, 1) := by decide +kernel
theorem dX4_findNext_108 : decode cX4_findNext 108 = .ok (.getfield 9, 3) := by decide +kernel
theorem dX4_findNext_111 : decode cX4_findNext 111 = .ok (.iload 5, 2) := by decide +kernel
theorem dX4_findNext_113 : decode cX4_findNext 113 = .ok (.iload 7, 2) := by decide +kernel
theorem dX4_findNext_115 : decode cX4_findNext 115 = .ok (.iastore, 1) := by decide +kernel
theorem dX4_findNext_116 : decode cX4_findNext 116 = .ok (.iinc 5 1, 3) := by decide +kernel
theorem dX4_findNext_119 : decode cX4_findNext 119 = .ok (.iinc 6 1, 3) := by decide +kernel
theorem dX4_findNext_122 : decode cX4_findNext 122 = .ok (.goto (-115), 3) := by decide +kernel
theorem dX4_findNext_125 : decode cX4_findNext 125 = .ok (.iload 5, 2) := by decide +kernel
theorem dX4_findNext_127 : decode cX4_findNext 127 = .ok (.ireturn, 1) := by decide +kernel
theorem dX4_noteRow_0 : decode cX4_noteRow 0 = .ok (.aload_n 0, 1) := by decide +kernel
theorem dX4_noteRow_1 : decode cX4_noteRow 1 = .ok (.aload_n 0, 1) := by decide +kernel
theorem dX4_noteRow_2 : decode cX4_noteRow 2 = .ok (.getfield 21, 3) := by decide +kernel
theorem dX4_noteRow_5 : decode cX4_noteRow 5 = .ok (.iload_n 1, 1) := by decide +kernel
theorem dX4_noteRow_6 : decode cX4_noteRow 6 = .ok (.iaload, 1) := by decide +kernel
theorem dX4_noteRow_7 : decode cX4_noteRow 7 = .ok (.putfield 27, 3) := by decide +kernel
theorem dX4_noteRow_10 : decode cX4_noteRow 10 = .ok (.iload_n 1, 1) := by decide +kernel
theorem dX4_noteRow_11 : decode cX4_noteRow 11 = .ok (.istore_n 2, 1) := by decide +kernel
theorem dX4_noteRow_12 : decode cX4_noteRow 12 = .ok (.aload_n 0, 1) := by decide +kernel
theorem dX4_noteRow_13 : decode cX4_noteRow 13 = .ok (.getfield 27, 3) := by decide +kernel
theorem dX4_noteRow_16 : decode cX4_noteRow 16 = .ok (.iconst 1, 1) := by decide +kernel
theorem dX4_noteRow_17 : decode cX4_noteRow 17 = .ok (.isub, 1) := by decide +kernel
theorem dX4_noteRow_18 : decode cX4_noteRow 18 = .ok (.istore_n 3, 1) := by decide +kernel
theorem dX4_noteRow_19 : decode cX4_noteRow 19 = .ok (.iload_n 3, 1) := by decide +kernel
theorem dX4_noteRow_20 : decode cX4_noteRow 20 = .ok (.ifCond .lt 28, 3) := by decide +kernel
theorem dX4_noteRow_23 : decode cX4_noteRow 23 = .ok (.aload_n 0, 1) := by decide +kernel
theorem dX4_noteRow_24 : decode cX4_noteRow 24 = .ok (.getfield 24, 3) := by decide +kernel
theorem dX4_noteRow_27 : decode cX4_noteRow 27 = .ok (.iload_n 3, 1) := by decide +kernel
theorem dX4_noteRow_28 : decode cX4_noteRow 28 = .ok (.aload_n 0, 1) := by decide +kernel
theorem dX4_noteRow_29 : decode cX4_noteRow 29 = .ok (.getfield 18, 3) := by decide +kernel
theorem dX4_noteRow_32 : decode cX4_noteRow 32 = .ok (.iload_n 2, 1) := by decide +kernel
theorem dX4_noteRow_33 : decode cX4_noteRow 33 = .ok (.iaload, 1) := by decide +kernel
theorem dX4_noteRow_34 : decode cX4_noteRow 34 = .ok (.iastore, 1) := by decide +kernel
theorem dX4_noteRow_35 : decode cX4_noteRow 35 = .ok (.aload_n 0, 1) := by decide +kernel
theorem dX4_noteRow_36 : decode cX4_noteRow 36 = .ok (.getfield 15, 3) := by decide +kernel
theorem dX4_noteRow_39 : decode cX4_noteRow 39 = .ok (.iload_n 2, 1) := by decide +kernel
theorem dX4_noteRow_40 : decode cX4_noteRow 40 = .ok (.iaload, 1) := by decide +kernel
theorem dX4_noteRow_41 : decode cX4_noteRow 41 = .ok (.istore_n 2, 1) := by decide +kernel
theorem dX4_noteRow_42 : decode cX4_noteRow 42 = .ok (.iinc 3 (-1), 3) := by decide +kernel
theorem dX4_noteRow_45 : decode cX4_noteRow 45 = .ok (.goto (-26), 3) := by decide +kernel
theorem dX4_noteRow_48 : decode cX4_noteRow 48 = .ok (.return_, 1) := by decide +kernel
theorem dX5_init_0 : decode cX5_init 0 = .ok (.aload_n 0, 1) := by decide +kernel
theorem dX5_init_1 : decode cX5_init 1 = .ok (.invokespecial 3, 3) := by decide +kernel
theorem dX5_init_4 : decode cX5_init 4 = .ok (.aload_n 0, 1) := by decide +kernel
theorem dX5_init_5 : decode cX5_init 5 = .ok (.bipush 6, 2) := by decide +kernel
theorem dX5_init_7 : decode cX5_init 7 = .ok (.newarray .int, 2) := by decide +kernel
theorem dX5_init_9 : decode cX5_init 9 = .ok (.putfield 9, 3) := by decide +kernel
theorem dX5_init_12 : decode cX5_init 12 = .ok (.aload_n 0, 1) := by decide +kernel
theorem dX5_init_13 : decode cX5_init 13 = .ok (.bipush 6, 2) := by decide +kernel
theorem dX5_init_15 : decode cX5_init 15 = .ok (.newarray .int, 2) := by decide +kernel
theorem dX5_init_17 : decode cX5_init 17 = .ok (.putfield 15, 3) := by decide +kernel
theorem dX5_init_20 : decode cX5_init 20 = .ok (.aload_n 0, 1) := by decide +kernel
theorem dX5_init_21 : decode cX5_init 21 = .ok (.bipush 6, 2) := by decide +kernel
theorem dX5_init_23 : decode cX5_init 23 = .ok (.newarray .int, 2) := by decide +kernel
theorem dX5_init_25 : decode cX5_init 25 = .ok (.putfield 18, 3) := by decide +kernel
theorem dX5_init_28 : decode cX5_init 28 = .ok (.aload_n 0, 1) := by decide +kernel
theorem dX5_init_29 : decode cX5_init 29 = .ok (.iconst 0, 1) := by decide +kernel
theorem dX5_init_30 : decode cX5_init 30 = .ok (.putfield 21, 3) := by decide +kernel
theorem dX5_init_33 : decode cX5_init 33 = .ok (.return_, 1) := by decide +kernel
theorem dX5_clear_0 : decode cX5_clear 0 = .ok (.aload_n 0, 1) := by decide +kernel
theorem dX5_clear_1 : decode cX5_clear 1 = .ok (.iconst 0, 1) := by decide +kernel
theorem dX5_clear_2 : decode cX5_clear 2 = .ok (.putfield 21, 3) := by decide +kernel
theorem dX5_clear_5 : decode cX5_clear 5 = .ok (.return_, 1) := by decide +kernel
theorem dX5_add_0 : decode cX5_add 0 = .ok (.aload_n 0, 1) := by decide +kernel
theorem dX5_add_1 : decode cX5_add 1 = .ok (.getfield 21, 3) := by decide +kernel
theorem dX5_add_4 : decode cX5_add 4 = .ok (.bipush 6, 2) := by decide +kernel
theorem dX5_add_6 : decode cX5_add 6 = .ok (.if_icmp .lt 4, 3) := by decide +kernel
theorem dX5_add_9 : decode cX5_add 9 = .ok (.return_, 1) := by decide +kernel
theorem dX5_add_10 : decode cX5_add 10 = .ok (.aload_n 0, 1) := by decide +kernel
theorem dX5_add_11 : decode cX5_add 11 = .ok (.getfield 9, 3) := by decide +kernel
theorem dX5_add_14 : decode cX5_add 14 = .ok (.aload_n 0, 1) := by decide +kernel
theorem dX5_add_15 : decode cX5_add 15 = .ok (.getfield 21, 3) := by decide +kernel
theorem dX5_add_18 : decode cX5_add 18 = .ok (.iload_n 1, 1) := by decide +kernel
theorem dX5_add_19 : decode cX5_add 19 = .ok (.iastore, 1) := by decide +kernel
theorem dX5_add_20 : decode cX5_add 20 = .ok (.aload_n 0, 1) := by decide +kernel
theorem dX5_add_21 : decode cX5_add 21 = .ok (.getfield 15, 3) := by decide +kernel
theorem dX5_add_24 : decode cX5_add 24 = .ok (.aload_n 0, 1) := by decide +kernel
theorem dX5_add_25 : decode cX5_add 25 = .ok (.getfield 21, 3) := by decide +kernel
theorem dX5_add_28 : decode cX5_add 28 = .ok (.iload_n 2, 1) := by decide +kernel
theorem dX5_add_29 : decode cX5_add 29 = .ok (.iastore, 1) := by decide +kernel
theorem dX5_add_30 : decode cX5_add 30 = .ok (.aload_n 0, 1) := by decide +kernel
theorem dX5_add_31 : decode cX5_add 31 = .ok (.getfield 18, 3) := by decide +kernel
theorem dX5_add_34 : decode cX5_add 34 = .ok (.aload_n 0, 1) := by decide +kernel
theorem dX5_add_35 : decode cX5_add 35 = .ok (.getfield 21, 3) := by decide +kernel
theorem dX5_add_38 : decode cX5_add 38 = .ok (.iload_n 3, 1) := by decide +kernel
theorem dX5_add_39 : decode cX5_add 39 = .ok (.iastore, 1) := by decide +kernel
theorem dX5_add_40 : decode cX5_add 40 = .ok (.aload_n 0, 1) := by decide +kernel
theorem dX5_add_41 : decode cX5_add 41 = .ok (.dup, 1) := by decide +kernel
theorem dX5_add_42 : decode cX5_add 42 = .ok (.getfield 21, 3) := by decide +kernel
theorem dX5_add_45 : decode cX5_add 45 = .ok (.iconst 1, 1) := by decide +kernel
theorem dX5_add_46 : decode cX5_add 46 = .ok (.iadd, 1) := by decide +kernel
theorem dX5_add_47 : decode cX5_add 47 = .ok (.putfield 21, 3) := by decide +kernel
theorem dX5_add_50 : decode cX5_add 50 = .ok (.return_, 1) := by decide +kernel
theorem dX5_wouldHold_0 : decode cX5_wouldHold 0 = .ok (.iconst 0, 1) := by decide +kernel
theorem dX5_wouldHold_1 : decode cX5_wouldHold 1 = .ok (.istore 5, 2) := by decide +kernel
theorem dX5_wouldHold_3 : decode cX5_wouldHold 3 = .ok (.iload 5, 2) := by decide +kernel
theorem dX5_wouldHold_5 : decode cX5_wouldHold 5 = .ok (.aload_n 0, 1) := by decide +kernel
theorem dX5_wouldHold_6 : decode cX5_wouldHold 6 = .ok (.getfield 21, 3) := by decide +kernel
theorem dX5_wouldHold_9 : decode cX5_wouldHold 9 = .ok (.if_icmp .ge 46, 3) := by decide +kernel
theorem dX5_wouldHold_12 : decode cX5_wouldHold 12 = .ok (.aload_n 0, 1) := by decide +kernel
theorem dX5_wouldHold_13 : decode cX5_wouldHold 13 = .ok (.getfield 9, 3) := by decide +kernel
theorem dX5_wouldHold_16 : decode cX5_wouldHold 16 = .ok (.iload 5, 2) := by decide +kernel
theorem dX5_wouldHold_18 : decode cX5_wouldHold 18 = .ok (.iaload, 1) := by decide +kernel
theorem dX5_wouldHold_19 : decode cX5_wouldHold 19 = .ok (.iload_n 1, 1) := by decide +kernel
theorem dX5_wouldHold_20 : decode cX5_wouldHold 20 = .ok (.if_icmp .ne 29, 3) := by decide +kernel
theorem dX5_wouldHold_23 : decode cX5_wouldHold 23 = .ok (.iload_n 2, 1) := by decide +kernel
theorem dX5_wouldHold_24 : decode cX5_wouldHold 24 = .ok (.iload_n 3, 1) := by decide +kernel
theorem dX5_wouldHold_25 : decode cX5_wouldHold 25 = .ok (.iload 4, 2) := by decide +kernel
theorem dX5_wouldHold_27 : decode cX5_wouldHold 27 = .ok (.aload_n 0, 1) := by decide +kernel
theorem dX5_wouldHold_28 : decode cX5_wouldHold 28 = .ok (.getfield 15, 3) := by decide +kernel
theorem dX5_wouldHold_31 : decode cX5_wouldHold 31 = .ok (.iload 5, 2) := by decide +kernel
theorem dX5_wouldHold_33 : decode cX5_wouldHold 33 = .ok (.iaload, 1) := by decide +kernel
theorem dX5_wouldHold_34 : decode cX5_wouldHold 34 = .ok (.invokestatic 25, 3) := by decide +kernel
theorem dX5_wouldHold_37 : decode cX5_wouldHold 37 = .ok (.aload_n 0, 1) := by decide +kernel
theorem dX5_wouldHold_38 : decode cX5_wouldHold 38 = .ok (.getfield 18, 3) := by decide +kernel
theorem dX5_wouldHold_41 : decode cX5_wouldHold 41 = .ok (.iload 5, 2) := by decide +kernel
theorem dX5_wouldHold_43 : decode cX5_wouldHold 43 = .ok (.iaload, 1) := by decide +kernel
theorem dX5_wouldHold_44 : decode cX5_wouldHold 44 = .ok (.if_icmp .eq 5, 3) := by decide +kernel
theorem dX5_wouldHold_47 : decode cX5_wouldHold 47 = .ok (.iconst 0, 1) := by decide +kernel
theorem dX5_wouldHold_48 : decode cX5_wouldHold 48 = .ok (.ireturn, 1) := by decide +kernel
theorem dX5_wouldHold_49 : decode cX5_wouldHold 49 = .ok (.iinc 5 1, 3) := by decide +kernel
theorem dX5_wouldHold_52 : decode cX5_wouldHold 52 = .ok (.goto (-49), 3) := by decide +kernel
theorem dX5_wouldHold_55 : decode cX5_wouldHold 55 = .ok (.iconst 1, 1) := by decide +kernel
theorem dX5_wouldHold_56 : decode cX5_wouldHold 56 = .ok (.ireturn, 1) := by decide +kernel
theorem dX6_init_0 : decode cX6_init 0 = .ok (.aload_n 0, 1) := by decide +kernel
theorem dX6_init_1 : decode cX6_init 1 = .ok (.invokespecial 3, 3) := by decide +kernel
theorem dX6_init_4 : decode cX6_init 4 = .ok (.aload_n 0, 1) := by decide +kernel
theorem dX6_init_5 : decode cX6_init 5 = .ok (.sipush 200, 3) := by decide +kernel
theorem dX6_init_8 : decode cX6_init 8 = .ok (.newarray .int, 2) := by decide +kernel
theorem dX6_init_10 : decode cX6_init 10 = .ok (.putfield 9, 3) := by decide +kernel
theorem dX6_init_13 : decode cX6_init 13 = .ok (.aload_n 0, 1) := by decide +kernel
theorem dX6_init_14 : decode cX6_init 14 = .ok (.iconst 0, 1) := by decide +kernel
theorem dX6_init_15 : decode cX6_init 15 = .ok (.putfield 15, 3) := by decide +kernel
theorem dX6_init_18 : decode cX6_init 18 = .ok (.return_, 1) := by decide +kernel
theorem dX6_append_0 : decode cX6_append 0 = .ok (.aload_n 0, 1) := by decide +kernel
theorem dX6_append_1 : decode cX6_append 1 = .ok (.getfield 15, 3) := by decide +kernel
theorem dX6_append_4 : decode cX6_append 4 = .ok (.sipush 200, 3) := by decide +kernel
theorem dX6_append_7 : decode cX6_append 7 = .ok (.if_icmp .ge 23, 3) := by decide +kernel
theorem dX6_append_10 : decode cX6_append 10 = .ok (.aload_n 0, 1) := by decide +kernel
theorem dX6_append_11 : decode cX6_append 11 = .ok (.getfield 9, 3) := by decide +kernel
theorem dX6_append_14 : decode cX6_append 14 = .ok (.aload_n 0, 1) := by decide +kernel
theorem dX6_append_15 : decode cX6_append 15 = .ok (.getfield 15, 3) := by decide +kernel
theorem dX6_append_18 : decode cX6_append 18 = .ok (.iload_n 1, 1) := by decide +kernel
theorem dX6_append_19 : decode cX6_append 19 = .ok (.iastore, 1) := by decide +kernel
theorem dX6_append_20 : decode cX6_append 20 = .ok (.aload_n 0, 1) := by decide +kernel
theorem dX6_append_21 : decode cX6_append 21 = .ok (.dup, 1) := by decide +kernel
theorem dX6_append_22 : decode cX6_append 22 = .ok (.getfield 15, 3) := by decide +kernel
theorem dX6_append_25 : decode cX6_append 25 = .ok (.iconst 1, 1) := by decide +kernel
theorem dX6_append_26 : decode cX6_append 26 = .ok (.iadd, 1) := by decide +kernel
theorem dX6_append_27 : decode cX6_append 27 = .ok (.putfield 15, 3) := by decide +kernel
theorem dX6_append_30 : decode cX6_append 30 = .ok (.return_, 1) := by decide +kernel
theorem dX6_clear_0 : decode cX6_clear 0 = .ok (.aload_n 0, 1) := by decide +kernel
theorem dX6_clear_1 : decode cX6_clear 1 = .ok (.iconst 0, 1) := by decide +kernel
theorem dX6_clear_2 : decode cX6_clear 2 = .ok (.putfield 15, 3) := by decide +kernel
theorem dX6_clear_5 : decode cX6_clear 5 = .ok (.return_, 1) := by decide +kernel
theorem dX6_letterAt_0 : decode cX6_letterAt 0 = .ok (.iload_n 1, 1) := by decide +kernel
theorem dX6_letterAt_1 : decode cX6_letterAt 1 = .ok (.aload_n 0, 1) := by decide +kernel
theorem dX6_letterAt_2 : decode cX6_letterAt 2 = .ok (.getfield 15, 3) := by decide +kernel
theorem dX6_letterAt_5 : decode cX6_letterAt 5 = .ok (.invokestatic 19, 3) := by decide +kernel
theorem dX6_letterAt_8 : decode cX6_letterAt 8 = .ok (.ifCond .eq 12, 3) := by decide +kernel
theorem dX6_letterAt_11 : decode cX6_letterAt 11 = .ok (.aload_n 0, 1) := by decide +kernel
theorem dX6_letterAt_12 : decode cX6_letterAt 12 = .ok (.getfield 9, 3) := by decide +kernel
theorem dX6_letterAt_15 : decode cX6_letterAt 15 = .ok (.iload_n 1, 1) := by decide +kernel
theorem dX6_letterAt_16 : decode cX6_letterAt 16 = .ok (.iaload, 1) := by decide +kernel
theorem dX6_letterAt_17 : decode cX6_letterAt 17 = .ok (.goto 5, 3) := by decide +kernel
theorem dX6_letterAt_20 : decode cX6_letterAt 20 = .ok (.bipush (-4), 2) := by decide +kernel
theorem dX6_letterAt_22 : decode cX6_letterAt 22 = .ok (.ireturn, 1) := by decide +kernel
theorem dX6_isFigure_0 : decode cX6_isFigure 0 = .ok (.aload_n 0, 1) := by decide +kernel
theorem dX6_isFigure_1 : decode cX6_isFigure 1 = .ok (.iload_n 1, 1) := by decide +kernel
theorem dX6_isFigure_2 : decode cX6_isFigure 2 = .ok (.invokevirtual 23, 3) := by decide +kernel
theorem dX6_isFigure_5 : decode cX6_isFigure 5 = .ok (.istore_n 2, 1) := by decide +kernel
theorem dX6_isFigure_6 : decode cX6_isFigure 6 = .ok (.iload_n 2, 1) := by decide +kernel
theorem dX6_isFigure_7 : decode cX6_isFigure 7 = .ok (.bipush 48, 2) := by decide +kernel
theorem dX6_isFigure_9 : decode cX6_isFigure 9 = .ok (.if_icmp .lt 13, 3) := by decide +kernel
theorem dX6_isFigure_12 : decode cX6_isFigure 12 = .ok (.iload_n 2, 1) := by decide +kernel
theorem dX6_isFigure_13 : decode cX6_isFigure 13 = .ok (.bipush 57, 2) := by decide +kernel
theorem dX6_isFigure_15 : decode cX6_isFigure 15 = .ok (.if_icmp .gt 7, 3) := by decide +kernel
theorem dX6_isFigure_18 : decode cX6_isFigure 18 = .ok (.iconst 1, 1) := by decide +kernel
theorem dX6_isFigure_19 : decode cX6_isFigure 19 = .ok (.goto 4, 3) := by decide +kernel
theorem dX6_isFigure_22 : decode cX6_isFigure 22 = .ok (.iconst 0, 1) := by decide +kernel
theorem dX6_isFigure_23 : decode cX6_isFigure 23 = .ok (.ireturn, 1) := by decide +kernel
theorem dX7_init_0 : decode cX7_init 0 = .ok (.aload_n 0, 1) := by decide +kernel
theorem dX7_init_1 : decode cX7_init 1 = .ok (.invokespecial 3, 3) := by decide +kernel
theorem dX7_init_4 : decode cX7_init 4 = .ok (.aload_n 0, 1) := by decide +kernel
theorem dX7_init_5 : decode cX7_init 5 = .ok (.new 9, 3) := by decide +kernel
theorem dX7_init_8 : decode cX7_init 8 = .ok (.dup, 1) := by decide +kernel
theorem dX7_init_9 : decode cX7_init 9 = .ok (.invokespecial 11, 3) := by decide +kernel
theorem dX7_init_12 : decode cX7_init 12 = .ok (.putfield 12, 3) := by decide +kernel
theorem dX7_init_15 : decode cX7_init 15 = .ok (.aload_n 0, 1) := by decide +kernel
theorem dX7_init_16 : decode cX7_init 16 = .ok (.new 16, 3) := by decide +kernel
theorem dX7_init_19 : decode cX7_init 19 = .ok (.dup, 1) := by decide +kernel
theorem dX7_init_20 : decode cX7_init 20 = .ok (.invokespecial 18, 3) := by decide +kernel
theorem dX7_init_23 : decode cX7_init 23 = .ok (.putfield 19, 3) := by decide +kernel
theorem dX7_init_26 : decode cX7_init 26 = .ok (.aload_n 0, 1) := by decide +kernel
theorem dX7_init_27 : decode cX7_init 27 = .ok (.new 23, 3) := by decide +kernel
theorem dX7_init_30 : decode cX7_init 30 = .ok (.dup, 1) := by decide +kernel
theorem dX7_init_31 : decode cX7_init 31 = .ok (.invokespecial 25, 3) := by decide +kernel
theorem dX7_init_34 : decode cX7_init 34 = .ok (.putfield 26, 3) := by decide +kernel
theorem dX7_init_37 : decode cX7_init 37 = .ok (.aload_n 0, 1) := by decide +kernel
theorem dX7_init_38 : decode cX7_init 38 = .ok (.new 23, 3) := by decide +kernel
theorem dX7_init_41 : decode cX7_init 41 = .ok (.dup, 1) := by decide +kernel
theorem dX7_init_42 : decode cX7_init 42 = .ok (.invokespecial 25, 3) := by decide +kernel
theorem dX7_init_45 : decode cX7_init 45 = .ok (.putfield 30, 3) := by decide +kernel
theorem dX7_init_48 : decode cX7_init 48 = .ok (.aload_n 0, 1) := by decide +kernel
theorem dX7_init_49 : decode cX7_init 49 = .ok (.new 33, 3) := by decide +kernel
theorem dX7_init_52 : decode cX7_init 52 = .ok (.dup, 1) := by decide +kernel
theorem dX7_init_53 : decode cX7_init 53 = .ok (.invokespecial 35, 3) := by decide +kernel
theorem dX7_init_56 : decode cX7_init 56 = .ok (.putfield 36, 3) := by decide +kernel
theorem dX7_init_59 : decode cX7_init 59 = .ok (.aload_n 0, 1) := by decide +kernel
theorem dX7_init_60 : decode cX7_init 60 = .ok (.new 40, 3) := by decide +kernel
theorem dX7_init_63 : decode cX7_init 63 = .ok (.dup, 1) := by decide +kernel
theorem dX7_init_64 : decode cX7_init 64 = .ok (.invokespecial 42, 3) := by decide +kernel
theorem dX7_init_67 : decode cX7_init 67 = .ok (.putfield 43, 3) := by decide +kernel
theorem dX7_init_70 : decode cX7_init 70 = .ok (.aload_n 0, 1) := by decide +kernel
theorem dX7_init_71 : decode cX7_init 71 = .ok (.new 47, 3) := by decide +kernel
theorem dX7_init_74 : decode cX7_init 74 = .ok (.dup, 1) := by decide +kernel
theorem dX7_init_75 : decode cX7_init 75 = .ok (.invokespecial 49, 3) := by decide +kernel
theorem dX7_init_78 : decode cX7_init 78 = .ok (.putfield 50, 3) := by decide +kernel
theorem dX7_init_81 : decode cX7_init 81 = .ok (.aload_n 0, 1) := by decide +kernel
theorem dX7_init_82 : decode cX7_init 82 = .ok (.new 54, 3) := by decide +kernel
theorem dX7_init_85 : decode cX7_init 85 = .ok (.dup, 1) := by decide +kernel
theorem dX7_init_86 : decode cX7_init 86 = .ok (.invokespecial 56, 3) := by decide +kernel
theorem dX7_init_89 : decode cX7_init 89 = .ok (.putfield 57, 3) := by decide +kernel
theorem dX7_init_92 : decode cX7_init 92 = .ok (.aload_n 0, 1) := by decide +kernel
theorem dX7_init_93 : decode cX7_init 93 = .ok (.iconst 2, 1) := by decide +kernel
theorem dX7_init_94 : decode cX7_init 94 = .ok (.anewarray 23, 3) := by decide +kernel
theorem dX7_init_97 : decode cX7_init 97 = .ok (.putfield 61, 3) := by decide +kernel
theorem dX7_init_100 : decode cX7_init 100 = .ok (.iconst 0, 1) := by decide +kernel
theorem dX7_init_101 : decode cX7_init 101 = .ok (.istore_n 1, 1) := by decide +kernel
theorem dX7_init_102 : decode cX7_init 102 = .ok (.iload_n 1, 1) := by decide +kernel
theorem dX7_init_103 : decode cX7_init 103 = .ok (.iconst 2, 1) := by decide +kernel
theorem dX7_init_104 : decode cX7_init 104 = .ok (.if_icmp .ge 22, 3) := by decide +kernel
theorem dX7_init_107 : decode cX7_init 107 = .ok (.aload_n 0, 1) := by decide +kernel
theorem dX7_init_108 : decode cX7_init 108 = .ok (.getfield 61, 3) := by decide +kernel
theorem dX7_init_111 : decode cX7_init 111 = .ok (.iload_n 1, 1) := by decide +kernel
theorem dX7_init_112 : decode cX7_init 112 = .ok (.new 23, 3) := by decide +kernel
theorem dX7_init_115 : decode cX7_init 115 = .ok (.dup, 1) := by decide +kernel
theorem dX7_init_116 : decode cX7_init 116 = .ok (.invokespecial 25, 3) := by decide +kernel
theorem dX7_init_119 : decode cX7_init 119 = .ok (.aastore, 1) := by decide +kernel
theorem dX7_init_120 : decode cX7_init 120 = .ok (.iinc 1 1, 3) := by decide +kernel
theorem dX7_init_123 : decode cX7_init 123 = .ok (.goto (-21), 3) := by decide +kernel
theorem dX7_init_126 : decode cX7_init 126 = .ok (.aload_n 0, 1) := by decide +kernel
theorem dX7_init_127 : decode cX7_init 127 = .ok (.iconst 0, 1) := by decide +kernel
theorem dX7_init_128 : decode cX7_init 128 = .ok (.putfield 65, 3) := by decide +kernel
theorem dX7_init_131 : decode cX7_init 131 = .ok (.iconst 0, 1) := by decide +kernel
theorem dX7_init_132 : decode cX7_init 132 = .ok (.istore_n 1, 1) := by decide +kernel
theorem dX7_init_133 : decode cX7_init 133 = .ok (.iload_n 1, 1) := by decide +kernel
theorem dX7_init_134 : decode cX7_init 134 = .ok (.ldc 69, 2) := by decide +kernel
theorem dX7_init_136 : decode cX7_init 136 = .ok (.invokevirtual 71, 3) := by decide +kernel
theorem dX7_init_139 : decode cX7_init 139 = .ok (.if_icmp .ge 22, 3) := by decide +kernel
theorem dX7_init_142 : decode cX7_init 142 = .ok (.aload_n 0, 1) := by decide +kernel
theorem dX7_init_143 : decode cX7_init 143 = .ok (.getfield 12, 3) := by decide +kernel
theorem dX7_init_146 : decode cX7_init 146 = .ok (.ldc 69, 2) := by decide +kernel
theorem dX7_init_148 : decode cX7_init 148 = .ok (.iload_n 1, 1) := by decide +kernel
theorem dX7_init_149 : decode cX7_init 149 = .ok (.invokevirtual 77, 3) := by decide +kernel
theorem dX7_init_152 : decode cX7_init 152 = .ok (.invokevirtual 81, 3) := by decide +kernel
theorem dX7_init_155 : decode cX7_init 155 = .ok (.iinc 1 1, 3) := by decide +kernel
theorem dX7_init_158 : decode cX7_init 158 = .ok (.goto (-25), 3) := by decide +kernel
theorem dX7_init_161 : decode cX7_init 161 = .ok (.aload_n 0, 1) := by decide +kernel
theorem dX7_init_162 : decode cX7_init 162 = .ok (.getfield 19, 3) := by decide +kernel
theorem dX7_init_165 : decode cX7_init 165 = .ok (.aload_n 0, 1) := by decide +kernel
theorem dX7_init_166 : decode cX7_init 166 = .ok (.getfield 26, 3) := by decide +kernel
theorem dX7_init_169 : decode cX7_init 169 = .ok (.aload_n 0, 1) := by decide +kernel
theorem dX7_init_170 : decode cX7_init 170 = .ok (.getfield 12, 3) := by decide +kernel
theorem dX7_init_173 : decode cX7_init 173 = .ok (.invokevirtual 85, 3) := by decide +kernel
theorem dX7_init_176 : decode cX7_init 176 = .ok (.pop, 1) := by decide +kernel
theorem dX7_init_177 : decode cX7_init 177 = .ok (.aload_n 0, 1) := by decide +kernel
theorem dX7_init_178 : decode cX7_init 178 = .ok (.getfield 12, 3) := by decide +kernel
theorem dX7_init_181 : decode cX7_init 181 = .ok (.invokevirtual 89, 3) := by decide +kernel
theorem dX7_init_184 : decode cX7_init 184 = .ok (.return_, 1) := by decide +kernel
theorem dX7_write_0 : decode cX7_write 0 = .ok (.iload_n 1, 1) := by decide +kernel
theorem dX7_write_1 : decode cX7_write 1 = .ok (.bipush 32, 2) := by decide +kernel
theorem dX7_write_3 : decode cX7_write 3 = .ok (.if_icmp .lt 9, 3) := by decide +kernel
theorem dX7_write_6 : decode cX7_write 6 = .ok (.iload_n 1, 1) := by decide +kernel
theorem dX7_write_7 : decode cX7_write 7 = .ok (.bipush 126, 2) := by decide +kernel
theorem dX7_write_9 : decode cX7_write 9 = .ok (.if_icmp .le 5, 3) := by decide +kernel
theorem dX7_write_12 : decode cX7_write 12 = .ok (.iconst (-1), 1) := by decide +kernel
theorem dX7_write_13 : decode cX7_write 13 = .ok (.ireturn, 1) := by decide +kernel
