theorem dX8_readsAll_83 : decode cX8_readsAll 83 = .ok (.bipush 108, 2) := by decide +kernel
theorem dX8_readsAll_85 : decode cX8_readsAll 85 = .ok (.if_icmp .ne 14, 3) := by decide +kernel
theorem dX8_readsAll_88 : decode cX8_readsAll 88 = .ok (.aload_n 0, 1) := by decide +kernel
theorem dX8_readsAll_89 : decode cX8_readsAll 89 = .ok (.invokevirtual 83, 3) := by decide +kernel
theorem dX8_readsAll_92 : decode cX8_readsAll 92 = .ok (.ifCond .eq 7, 3) := by decide +kernel
theorem dX8_readsAll_95 : decode cX8_readsAll 95 = .ok (.iconst 1, 1) := by decide +kernel
theorem dX8_readsAll_96 : decode cX8_readsAll 96 = .ok (.goto 4, 3) := by decide +kernel
theorem dX8_readsAll_99 : decode cX8_readsAll 99 = .ok (.iconst 0, 1) := by decide +kernel
theorem dX8_readsAll_100 : decode cX8_readsAll 100 = .ok (.istore 4, 2) := by decide +kernel
theorem dX8_readsAll_102 : decode cX8_readsAll 102 = .ok (.iload_n 1, 1) := by decide +kernel
theorem dX8_readsAll_103 : decode cX8_readsAll 103 = .ok (.ifCond .eq 13, 3) := by decide +kernel
theorem dX8_readsAll_106 : decode cX8_readsAll 106 = .ok (.iload_n 3, 1) := by decide +kernel
theorem dX8_readsAll_107 : decode cX8_readsAll 107 = .ok (.bipush 114, 2) := by decide +kernel
theorem dX8_readsAll_109 : decode cX8_readsAll 109 = .ok (.if_icmp .ne 7, 3) := by decide +kernel
theorem dX8_readsAll_112 : decode cX8_readsAll 112 = .ok (.iconst 1, 1) := by decide +kernel
theorem dX8_readsAll_113 : decode cX8_readsAll 113 = .ok (.goto 4, 3) := by decide +kernel
theorem dX8_readsAll_116 : decode cX8_readsAll 116 = .ok (.iconst 0, 1) := by decide +kernel
theorem dX8_readsAll_117 : decode cX8_readsAll 117 = .ok (.istore_n 1, 1) := by decide +kernel
theorem dX8_readsAll_118 : decode cX8_readsAll 118 = .ok (.iload 4, 2) := by decide +kernel
theorem dX8_readsAll_120 : decode cX8_readsAll 120 = .ok (.ifCond .ne 5, 3) := by decide +kernel
theorem dX8_readsAll_123 : decode cX8_readsAll 123 = .ok (.iload_n 2, 1) := by decide +kernel
theorem dX8_readsAll_124 : decode cX8_readsAll 124 = .ok (.ireturn, 1) := by decide +kernel
theorem dX8_readsAll_125 : decode cX8_readsAll 125 = .ok (.goto (-114), 3) := by decide +kernel
theorem dX8_readsAll_128 : decode cX8_readsAll 128 = .ok (.bipush (-4), 2) := by decide +kernel
theorem dX8_readsAll_130 : decode cX8_readsAll 130 = .ok (.ireturn, 1) := by decide +kernel
theorem dX8_fault_0 : decode cX8_fault 0 = .ok (.aload_n 0, 1) := by decide +kernel
theorem dX8_fault_1 : decode cX8_fault 1 = .ok (.invokevirtual 86, 3) := by decide +kernel
theorem dX8_fault_4 : decode cX8_fault 4 = .ok (.ireturn, 1) := by decide +kernel
theorem dX8_lays_0 : decode cX8_lays 0 = .ok (.iconst 0, 1) := by decide +kernel
theorem dX8_lays_1 : decode cX8_lays 1 = .ok (.istore_n 1, 1) := by decide +kernel
theorem dX8_lays_2 : decode cX8_lays 2 = .ok (.iload_n 1, 1) := by decide +kernel
theorem dX8_lays_3 : decode cX8_lays 3 = .ok (.bipush 9, 2) := by decide +kernel
theorem dX8_lays_5 : decode cX8_lays 5 = .ok (.if_icmp .ge 21, 3) := by decide +kernel
theorem dX8_lays_8 : decode cX8_lays 8 = .ok (.aload_n 0, 1) := by decide +kernel
theorem dX8_lays_9 : decode cX8_lays 9 = .ok (.getfield 13, 3) := by decide +kernel
theorem dX8_lays_12 : decode cX8_lays 12 = .ok (.iload_n 1, 1) := by decide +kernel
theorem dX8_lays_13 : decode cX8_lays 13 = .ok (.aload_n 0, 1) := by decide +kernel
theorem dX8_lays_14 : decode cX8_lays 14 = .ok (.getfield 16, 3) := by decide +kernel
theorem dX8_lays_17 : decode cX8_lays 17 = .ok (.iload_n 1, 1) := by decide +kernel
theorem dX8_lays_18 : decode cX8_lays 18 = .ok (.iaload, 1) := by decide +kernel
theorem dX8_lays_19 : decode cX8_lays 19 = .ok (.iastore, 1) := by decide +kernel
theorem dX8_lays_20 : decode cX8_lays 20 = .ok (.iinc 1 1, 3) := by decide +kernel
theorem dX8_lays_23 : decode cX8_lays 23 = .ok (.goto (-21), 3) := by decide +kernel
theorem dX8_lays_26 : decode cX8_lays 26 = .ok (.iconst 0, 1) := by decide +kernel
theorem dX8_lays_27 : decode cX8_lays 27 = .ok (.istore_n 1, 1) := by decide +kernel
theorem dX8_lays_28 : decode cX8_lays 28 = .ok (.iload_n 1, 1) := by decide +kernel
theorem dX8_lays_29 : decode cX8_lays 29 = .ok (.bipush 55, 2) := by decide +kernel
theorem dX8_lays_31 : decode cX8_lays 31 = .ok (.if_icmp .ge 21, 3) := by decide +kernel
theorem dX8_lays_34 : decode cX8_lays 34 = .ok (.aload_n 0, 1) := by decide +kernel
theorem dX8_lays_35 : decode cX8_lays 35 = .ok (.getfield 22, 3) := by decide +kernel
theorem dX8_lays_38 : decode cX8_lays 38 = .ok (.iload_n 1, 1) := by decide +kernel
theorem dX8_lays_39 : decode cX8_lays 39 = .ok (.aload_n 0, 1) := by decide +kernel
theorem dX8_lays_40 : decode cX8_lays 40 = .ok (.getfield 19, 3) := by decide +kernel
theorem dX8_lays_43 : decode cX8_lays 43 = .ok (.iload_n 1, 1) := by decide +kernel
theorem dX8_lays_44 : decode cX8_lays 44 = .ok (.iaload, 1) := by decide +kernel
theorem dX8_lays_45 : decode cX8_lays 45 = .ok (.iastore, 1) := by decide +kernel
theorem dX8_lays_46 : decode cX8_lays 46 = .ok (.iinc 1 1, 3) := by decide +kernel
theorem dX8_lays_49 : decode cX8_lays 49 = .ok (.goto (-21), 3) := by decide +kernel
theorem dX8_lays_52 : decode cX8_lays 52 = .ok (.aload_n 0, 1) := by decide +kernel
theorem dX8_lays_53 : decode cX8_lays 53 = .ok (.iconst 0, 1) := by decide +kernel
theorem dX8_lays_54 : decode cX8_lays 54 = .ok (.putfield 90, 3) := by decide +kernel
theorem dX8_lays_57 : decode cX8_lays 57 = .ok (.aload_n 0, 1) := by decide +kernel
theorem dX8_lays_58 : decode cX8_lays 58 = .ok (.iconst 0, 1) := by decide +kernel
theorem dX8_lays_59 : decode cX8_lays 59 = .ok (.putfield 93, 3) := by decide +kernel
theorem dX8_lays_62 : decode cX8_lays 62 = .ok (.aload_n 0, 1) := by decide +kernel
theorem dX8_lays_63 : decode cX8_lays 63 = .ok (.iconst 0, 1) := by decide +kernel
theorem dX8_lays_64 : decode cX8_lays 64 = .ok (.putfield 96, 3) := by decide +kernel
theorem dX8_lays_67 : decode cX8_lays 67 = .ok (.return_, 1) := by decide +kernel
theorem dX8_lay_0 : decode cX8_lay 0 = .ok (.aload_n 0, 1) := by decide +kernel
theorem dX8_lay_1 : decode cX8_lay 1 = .ok (.invokevirtual 86, 3) := by decide +kernel
theorem dX8_lay_4 : decode cX8_lay 4 = .ok (.bipush (-4), 2) := by decide +kernel
theorem dX8_lay_6 : decode cX8_lay 6 = .ok (.if_icmp .ne 12, 3) := by decide +kernel
theorem dX8_lay_9 : decode cX8_lay 9 = .ok (.aload_n 0, 1) := by decide +kernel
theorem dX8_lay_10 : decode cX8_lay 10 = .ok (.getfield 16, 3) := by decide +kernel
theorem dX8_lay_13 : decode cX8_lay 13 = .ok (.iconst 2, 1) := by decide +kernel
theorem dX8_lay_14 : decode cX8_lay 14 = .ok (.iaload, 1) := by decide +kernel
theorem dX8_lay_15 : decode cX8_lay 15 = .ok (.ifCond .ne 6, 3) := by decide +kernel
theorem dX8_lay_18 : decode cX8_lay 18 = .ok (.bipush (-2), 2) := by decide +kernel
theorem dX8_lay_20 : decode cX8_lay 20 = .ok (.ireturn, 1) := by decide +kernel
theorem dX8_lay_21 : decode cX8_lay 21 = .ok (.aload_n 0, 1) := by decide +kernel
theorem dX8_lay_22 : decode cX8_lay 22 = .ok (.invokevirtual 50, 3) := by decide +kernel
theorem dX8_lay_25 : decode cX8_lay 25 = .ok (.aload_n 0, 1) := by decide +kernel
theorem dX8_lay_26 : decode cX8_lay 26 = .ok (.getfield 13, 3) := by decide +kernel
theorem dX8_lay_29 : decode cX8_lay 29 = .ok (.iconst 2, 1) := by decide +kernel
theorem dX8_lay_30 : decode cX8_lay 30 = .ok (.iaload, 1) := by decide +kernel
theorem dX8_lay_31 : decode cX8_lay 31 = .ok (.ireturn, 1) := by decide +kernel
theorem dX8_way_0 : decode cX8_way 0 = .ok (.iload_n 0, 1) := by decide +kernel
theorem dX8_way_1 : decode cX8_way 1 = .ok (.ifCond .ne 10, 3) := by decide +kernel
theorem dX8_way_4 : decode cX8_way 4 = .ok (.iload_n 1, 1) := by decide +kernel
theorem dX8_way_5 : decode cX8_way 5 = .ok (.ifCond .ne 6, 3) := by decide +kernel
theorem dX8_way_8 : decode cX8_way 8 = .ok (.bipush (-4), 2) := by decide +kernel
theorem dX8_way_10 : decode cX8_way 10 = .ok (.ireturn, 1) := by decide +kernel
theorem dX8_way_11 : decode cX8_way 11 = .ok (.iload_n 0, 1) := by decide +kernel
theorem dX8_way_12 : decode cX8_way 12 = .ok (.invokestatic 99, 3) := by decide +kernel
theorem dX8_way_15 : decode cX8_way 15 = .ok (.iconst 2, 1) := by decide +kernel
theorem dX8_way_16 : decode cX8_way 16 = .ok (.iload_n 1, 1) := by decide +kernel
theorem dX8_way_17 : decode cX8_way 17 = .ok (.invokestatic 99, 3) := by decide +kernel
theorem dX8_way_20 : decode cX8_way 20 = .ok (.imul, 1) := by decide +kernel
theorem dX8_way_21 : decode cX8_way 21 = .ok (.if_icmp .le 14, 3) := by decide +kernel
theorem dX8_way_24 : decode cX8_way 24 = .ok (.iload_n 0, 1) := by decide +kernel
theorem dX8_way_25 : decode cX8_way 25 = .ok (.ifCond .le 7, 3) := by decide +kernel
theorem dX8_way_28 : decode cX8_way 28 = .ok (.iconst 2, 1) := by decide +kernel
theorem dX8_way_29 : decode cX8_way 29 = .ok (.goto 5, 3) := by decide +kernel
theorem dX8_way_32 : decode cX8_way 32 = .ok (.bipush 6, 2) := by decide +kernel
theorem dX8_way_34 : decode cX8_way 34 = .ok (.ireturn, 1) := by decide +kernel
theorem dX8_way_35 : decode cX8_way 35 = .ok (.iload_n 1, 1) := by decide +kernel
theorem dX8_way_36 : decode cX8_way 36 = .ok (.invokestatic 99, 3) := by decide +kernel
theorem dX8_way_39 : decode cX8_way 39 = .ok (.iconst 2, 1) := by decide +kernel
theorem dX8_way_40 : decode cX8_way 40 = .ok (.iload_n 0, 1) := by decide +kernel
theorem dX8_way_41 : decode cX8_way 41 = .ok (.invokestatic 99, 3) := by decide +kernel
theorem dX8_way_44 : decode cX8_way 44 = .ok (.imul, 1) := by decide +kernel
theorem dX8_way_45 : decode cX8_way 45 = .ok (.if_icmp .le 13, 3) := by decide +kernel
theorem dX8_way_48 : decode cX8_way 48 = .ok (.iload_n 1, 1) := by decide +kernel
theorem dX8_way_49 : decode cX8_way 49 = .ok (.ifCond .le 7, 3) := by decide +kernel
theorem dX8_way_52 : decode cX8_way 52 = .ok (.iconst 4, 1) := by decide +kernel
theorem dX8_way_53 : decode cX8_way 53 = .ok (.goto 4, 3) := by decide +kernel
theorem dX8_way_56 : decode cX8_way 56 = .ok (.iconst 0, 1) := by decide +kernel
theorem dX8_way_57 : decode cX8_way 57 = .ok (.ireturn, 1) := by decide +kernel
theorem dX8_way_58 : decode cX8_way 58 = .ok (.iload_n 0, 1) := by decide +kernel
theorem dX8_way_59 : decode cX8_way 59 = .ok (.ifCond .le 15, 3) := by decide +kernel
theorem dX8_way_62 : decode cX8_way 62 = .ok (.iload_n 1, 1) := by decide +kernel
theorem dX8_way_63 : decode cX8_way 63 = .ok (.ifCond .le 7, 3) := by decide +kernel
theorem dX8_way_66 : decode cX8_way 66 = .ok (.iconst 3, 1) := by decide +kernel
theorem dX8_way_67 : decode cX8_way 67 = .ok (.goto 17, 3) := by decide +kernel
theorem dX8_way_70 : decode cX8_way 70 = .ok (.iconst 1, 1) := by decide +kernel
theorem dX8_way_71 : decode cX8_way 71 = .ok (.goto 13, 3) := by decide +kernel
theorem dX8_way_74 : decode cX8_way 74 = .ok (.iload_n 1, 1) := by decide +kernel
theorem dX8_way_75 : decode cX8_way 75 = .ok (.ifCond .le 7, 3) := by decide +kernel
theorem dX8_way_78 : decode cX8_way 78 = .ok (.iconst 5, 1) := by decide +kernel
theorem dX8_way_79 : decode cX8_way 79 = .ok (.goto 5, 3) := by decide +kernel
theorem dX8_way_82 : decode cX8_way 82 = .ok (.bipush 7, 2) := by decide +kernel
theorem dX8_way_84 : decode cX8_way 84 = .ok (.ireturn, 1) := by decide +kernel
theorem dX8_feels_0 : decode cX8_feels 0 = .ok (.iconst 0, 1) := by decide +kernel
theorem dX8_feels_1 : decode cX8_feels 1 = .ok (.istore 4, 2) := by decide +kernel
theorem dX8_feels_3 : decode cX8_feels 3 = .ok (.iconst 0, 1) := by decide +kernel
theorem dX8_feels_4 : decode cX8_feels 4 = .ok (.istore 5, 2) := by decide +kernel
theorem dX8_feels_6 : decode cX8_feels 6 = .ok (.iload 5, 2) := by decide +kernel
theorem dX8_feels_8 : decode cX8_feels 8 = .ok (.aload_n 0, 1) := by decide +kernel
theorem dX8_feels_9 : decode cX8_feels 9 = .ok (.getfield 13, 3) := by decide +kernel
theorem dX8_feels_12 : decode cX8_feels 12 = .ok (.iconst 2, 1) := by decide +kernel
theorem dX8_feels_13 : decode cX8_feels 13 = .ok (.iaload, 1) := by decide +kernel
theorem dX8_feels_14 : decode cX8_feels 14 = .ok (.if_icmp .ge 136, 3) := by decide +kernel
theorem dX8_feels_17 : decode cX8_feels 17 = .ok (.aload_n 0, 1) := by decide +kernel
theorem dX8_feels_18 : decode cX8_feels 18 = .ok (.getfield 22, 3) := by decide +kernel
theorem dX8_feels_21 : decode cX8_feels 21 = .ok (.bipush 7, 2) := by decide +kernel
theorem dX8_feels_23 : decode cX8_feels 23 = .ok (.iload 5, 2) := by decide +kernel
theorem dX8_feels_25 : decode cX8_feels 25 = .ok (.iadd, 1) := by decide +kernel
theorem dX8_feels_26 : decode cX8_feels 26 = .ok (.iaload, 1) := by decide +kernel
theorem dX8_feels_27 : decode cX8_feels 27 = .ok (.aload_n 0, 1) := by decide +kernel
theorem dX8_feels_28 : decode cX8_feels 28 = .ok (.getfield 22, 3) := by decide +kernel
theorem dX8_feels_31 : decode cX8_feels 31 = .ok (.bipush 7, 2) := by decide +kernel
theorem dX8_feels_33 : decode cX8_feels 33 = .ok (.iload_n 1, 1) := by decide +kernel
theorem dX8_feels_34 : decode cX8_feels 34 = .ok (.iadd, 1) := by decide +kernel
theorem dX8_feels_35 : decode cX8_feels 35 = .ok (.iaload, 1) := by decide +kernel
theorem dX8_feels_36 : decode cX8_feels 36 = .ok (.isub, 1) := by decide +kernel
theorem dX8_feels_37 : decode cX8_feels 37 = .ok (.istore 6, 2) := by decide +kernel
theorem dX8_feels_39 : decode cX8_feels 39 = .ok (.aload_n 0, 1) := by decide +kernel
theorem dX8_feels_40 : decode cX8_feels 40 = .ok (.getfield 22, 3) := by decide +kernel
theorem dX8_feels_43 : decode cX8_feels 43 = .ok (.bipush 13, 2) := by decide +kernel
theorem dX8_feels_45 : decode cX8_feels 45 = .ok (.iload 5, 2) := by decide +kernel
theorem dX8_feels_47 : decode cX8_feels 47 = .ok (.iadd, 1) := by decide +kernel
theorem dX8_feels_48 : decode cX8_feels 48 = .ok (.iaload, 1) := by decide +kernel
theorem dX8_feels_49 : decode cX8_feels 49 = .ok (.aload_n 0, 1) := by decide +kernel
theorem dX8_feels_50 : decode cX8_feels 50 = .ok (.getfield 22, 3) := by decide +kernel
theorem dX8_feels_53 : decode cX8_feels 53 = .ok (.bipush 13, 2) := by decide +kernel
theorem dX8_feels_55 : decode cX8_feels 55 = .ok (.iload_n 1, 1) := by decide +kernel
theorem dX8_feels_56 : decode cX8_feels 56 = .ok (.iadd, 1) := by decide +kernel
theorem dX8_feels_57 : decode cX8_feels 57 = .ok (.iaload, 1) := by decide +kernel
theorem dX8_feels_58 : decode cX8_feels 58 = .ok (.isub, 1) := by decide +kernel
theorem dX8_feels_59 : decode cX8_feels 59 = .ok (.istore 7, 2) := by decide +kernel
theorem dX8_feels_61 : decode cX8_feels 61 = .ok (.bipush 12, 2) := by decide +kernel
theorem dX8_feels_63 : decode cX8_feels 63 = .ok (.iload 6, 2) := by decide +kernel
theorem dX8_feels_65 : decode cX8_feels 65 = .ok (.invokestatic 99, 3) := by decide +kernel
theorem dX8_feels_68 : decode cX8_feels 68 = .ok (.isub, 1) := by decide +kernel
theorem dX8_feels_69 : decode cX8_feels 69 = .ok (.iload 7, 2) := by decide +kernel
theorem dX8_feels_71 : decode cX8_feels 71 = .ok (.invokestatic 99, 3) := by decide +kernel
theorem dX8_feels_74 : decode cX8_feels 74 = .ok (.isub, 1) := by decide +kernel
theorem dX8_feels_75 : decode cX8_feels 75 = .ok (.istore 8, 2) := by decide +kernel
theorem dX8_feels_77 : decode cX8_feels 77 = .ok (.aload_n 0, 1) := by decide +kernel
theorem dX8_feels_78 : decode cX8_feels 78 = .ok (.getfield 22, 3) := by decide +kernel
theorem dX8_feels_81 : decode cX8_feels 81 = .ok (.bipush 19, 2) := by decide +kernel
theorem dX8_feels_83 : decode cX8_feels 83 = .ok (.bipush 6, 2) := by decide +kernel
theorem dX8_feels_85 : decode cX8_feels 85 = .ok (.iload_n 1, 1) := by decide +kernel
theorem dX8_feels_86 : decode cX8_feels 86 = .ok (.imul, 1) := by decide +kernel
theorem dX8_feels_87 : decode cX8_feels 87 = .ok (.iadd, 1) := by decide +kernel
theorem dX8_feels_88 : decode cX8_feels 88 = .ok (.iload 5, 2) := by decide +kernel
theorem dX8_feels_90 : decode cX8_feels 90 = .ok (.iadd, 1) := by decide +kernel
theorem dX8_feels_91 : decode cX8_feels 91 = .ok (.iaload, 1) := by decide +kernel
theorem dX8_feels_92 : decode cX8_feels 92 = .ok (.iload 8, 2) := by decide +kernel
theorem dX8_feels_94 : decode cX8_feels 94 = .ok (.ifCond .ge 7, 3) := by decide +kernel
theorem dX8_feels_97 : decode cX8_feels 97 = .ok (.iconst 0, 1) := by decide +kernel
theorem dX8_feels_98 : decode cX8_feels 98 = .ok (.goto 5, 3) := by decide +kernel
theorem dX8_feels_101 : decode cX8_feels 101 = .ok (.iload 8, 2) := by decide +kernel
theorem dX8_feels_103 : decode cX8_feels 103 = .ok (.imul, 1) := by decide +kernel
theorem dX8_feels_104 : decode cX8_feels 104 = .ok (.istore 9, 2) := by decide +kernel
theorem dX8_feels_106 : decode cX8_feels 106 = .ok (.iload 4, 2) := by decide +kernel
theorem dX8_feels_108 : decode cX8_feels 108 = .ok (.iload_n 2, 1) := by decide +kernel
theorem dX8_feels_109 : decode cX8_feels 109 = .ok (.iload 5, 2) := by decide +kernel
theorem dX8_feels_111 : decode cX8_feels 111 = .ok (.ishr, 1) := by decide +kernel
theorem dX8_feels_112 : decode cX8_feels 112 = .ok (.iconst 1, 1) := by decide +kernel
theorem dX8_feels_113 : decode cX8_feels 113 = .ok (.iand, 1) := by decide +kernel
theorem dX8_feels_114 : decode cX8_feels 114 = .ok (.ifCond .eq 9, 3) := by decide +kernel
theorem dX8_feels_117 : decode cX8_feels 117 = .ok (.iload 5, 2) := by decide +kernel
theorem dX8_feels_119 : decode cX8_feels 119 = .ok (.iload_n 1, 1) := by decide +kernel
theorem dX8_feels_120 : decode cX8_feels 120 = .ok (.if_icmp .ne 7, 3) := by decide +kernel
theorem dX8_feels_123 : decode cX8_feels 123 = .ok (.iconst 0, 1) := by decide +kernel
theorem dX8_feels_124 : decode cX8_feels 124 = .ok (.goto 17, 3) := by decide +kernel
theorem dX8_feels_127 : decode cX8_feels 127 = .ok (.iload 9, 2) := by decide +kernel
theorem dX8_feels_129 : decode cX8_feels 129 = .ok (.iload_n 3, 1) := by decide +kernel
theorem dX8_feels_130 : decode cX8_feels 130 = .ok (.ifCond .eq 8, 3) := by decide +kernel
theorem dX8_feels_133 : decode cX8_feels 133 = .ok (.iload 6, 2) := by decide +kernel
theorem dX8_feels_135 : decode cX8_feels 135 = .ok (.goto 5, 3) := by decide +kernel
theorem dX8_feels_138 : decode cX8_feels 138 = .ok (.iload 7, 2) := by decide +kernel
theorem dX8_feels_140 : decode cX8_feels 140 = .ok (.imul, 1) := by decide +kernel
theorem dX8_feels_141 : decode cX8_feels 141 = .ok (.iadd, 1) := by decide +kernel
theorem dX8_feels_142 : decode cX8_feels 142 = .ok (.istore 4, 2) := by decide +kernel
theorem dX8_feels_144 : decode cX8_feels 144 = .ok (.iinc 5 1, 3) := by decide +kernel
theorem dX8_feels_147 : decode cX8_feels 147 = .ok (.goto (-141), 3) := by decide +kernel
theorem dX8_feels_150 : decode cX8_feels 150 = .ok (.iload 4, 2) := by decide +kernel
theorem dX8_feels_152 : decode cX8_feels 152 = .ok (.ireturn, 1) := by decide +kernel
theorem dX8_all_0 : decode cX8_all 0 = .ok (.bipush 63, 2) := by decide +kernel
theorem dX8_all_2 : decode cX8_all 2 = .ok (.ireturn, 1) := by decide +kernel
theorem dX8_draftBy_0 : decode cX8_draftBy 0 = .ok (.aload_n 0, 1) := by decide +kernel
theorem dX8_draftBy_1 : decode cX8_draftBy 1 = .ok (.iload_n 1, 1) := by decide +kernel
theorem dX8_draftBy_2 : decode cX8_draftBy 2 = .ok (.iload_n 2, 1) := by decide +kernel
theorem dX8_draftBy_3 : decode cX8_draftBy 3 = .ok (.iconst 1, 1) := by decide +kernel
theorem dX8_draftBy_4 : decode cX8_draftBy 4 = .ok (.invokevirtual 102, 3) := by decide +kernel
theorem dX8_draftBy_7 : decode cX8_draftBy 7 = .ok (.aload_n 0, 1) := by decide +kernel
theorem dX8_draftBy_8 : decode cX8_draftBy 8 = .ok (.iload_n 1, 1) := by decide +kernel
theorem dX8_draftBy_9 : decode cX8_draftBy 9 = .ok (.iload_n 2, 1) := by decide +kernel
theorem dX8_draftBy_10 : decode cX8_draftBy 10 = .ok (.iconst 0, 1) := by decide +kernel
theorem dX8_draftBy_11 : decode cX8_draftBy 11 = .ok (.invokevirtual 102, 3) := by decide +kernel
theorem dX8_draftBy_14 : decode cX8_draftBy 14 = .ok (.invokestatic 106, 3) := by decide +kernel
theorem dX8_draftBy_17 : decode cX8_draftBy 17 = .ok (.ireturn, 1) := by decide +kernel
theorem dX8_draftOf_0 : decode cX8_draftOf 0 = .ok (.aload_n 0, 1) := by decide +kernel
theorem dX8_draftOf_1 : decode cX8_draftOf 1 = .ok (.iload_n 1, 1) := by decide +kernel
theorem dX8_draftOf_2 : decode cX8_draftOf 2 = .ok (.invokestatic 110, 3) := by decide +kernel
theorem dX8_draftOf_5 : decode cX8_draftOf 5 = .ok (.invokevirtual 113, 3) := by decide +kernel
theorem dX8_draftOf_8 : decode cX8_draftOf 8 = .ok (.ireturn, 1) := by decide +kernel
theorem dX8_person_0 : decode cX8_person 0 = .ok (.aload_n 0, 1) := by decide +kernel
theorem dX8_person_1 : decode cX8_person 1 = .ok (.iload_n 1, 1) := by decide +kernel
theorem dX8_person_2 : decode cX8_person 2 = .ok (.invokevirtual 116, 3) := by decide +kernel
theorem dX8_person_5 : decode cX8_person 5 = .ok (.ifCond .ne 5, 3) := by decide +kernel
theorem dX8_person_8 : decode cX8_person 8 = .ok (.iconst (-1), 1) := by decide +kernel
theorem dX8_person_9 : decode cX8_person 9 = .ok (.ireturn, 1) := by decide +kernel
theorem dX8_person_10 : decode cX8_person 10 = .ok (.iload_n 2, 1) := by decide +kernel
theorem dX8_person_11 : decode cX8_person 11 = .ok (.tableswitch 113 0 6 #[41, 50, 60, 70, 79, 85, 99], 41) := by decide +kernel
theorem dX8_person_52 : decode cX8_person 52 = .ok (.aload_n 0, 1) := by decide +kernel
theorem dX8_person_53 : decode cX8_person 53 = .ok (.getfield 13, 3) := by decide +kernel
theorem dX8_person_56 : decode cX8_person 56 = .ok (.iconst 3, 1) := by decide +kernel
theorem dX8_person_57 : decode cX8_person 57 = .ok (.iload_n 1, 1) := by decide +kernel
theorem dX8_person_58 : decode cX8_person 58 = .ok (.iadd, 1) := by decide +kernel
theorem dX8_person_59 : decode cX8_person 59 = .ok (.iaload, 1) := by decide +kernel
theorem dX8_person_60 : decode cX8_person 60 = .ok (.ireturn, 1) := by decide +kernel
theorem dX8_person_61 : decode cX8_person 61 = .ok (.aload_n 0, 1) := by decide +kernel
theorem dX8_person_62 : decode cX8_person 62 = .ok (.getfield 22, 3) := by decide +kernel
theorem dX8_person_65 : decode cX8_person 65 = .ok (.bipush 7, 2) := by decide +kernel
theorem dX8_person_67 : decode cX8_person 67 = .ok (.iload_n 1, 1) := by decide +kernel
theorem dX8_person_68 : decode cX8_person 68 = .ok (.iadd, 1) := by decide +kernel
theorem dX8_person_69 : decode cX8_person 69 = .ok (.iaload, 1) := by decide +kernel
theorem dX8_person_70 : decode cX8_person 70 = .ok (.ireturn, 1) := by decide +kernel
theorem dX8_person_71 : decode cX8_person 71 = .ok (.aload_n 0, 1) := by decide +kernel
theorem dX8_person_72 : decode cX8_person 72 = .ok (.getfield 22, 3) := by decide +kernel
theorem dX8_person_75 : decode cX8_person 75 = .ok (.bipush 13, 2) := by decide +kernel
theorem dX8_person_77 : decode cX8_person 77 = .ok (.iload_n 1, 1) := by decide +kernel
theorem dX8_person_78 : decode cX8_person 78 = .ok (.iadd, 1) := by decide +kernel
theorem dX8_person_79 : decode cX8_person 79 = .ok (.iaload, 1) := by decide +kernel
theorem dX8_person_80 : decode cX8_person 80 = .ok (.ireturn, 1) := by decide +kernel
theorem dX8_person_81 : decode cX8_person 81 = .ok (.aload_n 0, 1) := by decide +kernel
theorem dX8_person_82 : decode cX8_person 82 = .ok (.getfield 22, 3) := by decide +kernel
theorem dX8_person_85 : decode cX8_person 85 = .ok (.iconst 1, 1) := by decide +kernel
theorem dX8_person_86 : decode cX8_person 86 = .ok (.iload_n 1, 1) := by decide +kernel
theorem dX8_person_87 : decode cX8_person 87 = .ok (.iadd, 1) := by decide +kernel
theorem dX8_person_88 : decode cX8_person 88 = .ok (.iaload, 1) := by decide +kernel
theorem dX8_person_89 : decode cX8_person 89 = .ok (.ireturn, 1) := by decide +kernel
theorem dX8_person_90 : decode cX8_person 90 = .ok (.aload_n 0, 1) := by decide +kernel
theorem dX8_person_91 : decode cX8_person 91 = .ok (.iload_n 1, 1) := by decide +kernel
theorem dX8_person_92 : decode cX8_person 92 = .ok (.invokevirtual 119, 3) := by decide +kernel
theorem dX8_person_95 : decode cX8_person 95 = .ok (.ireturn, 1) := by decide +kernel
theorem dX8_person_96 : decode cX8_person 96 = .ok (.aload_n 0, 1) := by decide +kernel
theorem dX8_person_97 : decode cX8_person 97 = .ok (.iload_n 1, 1) := by decide +kernel
theorem dX8_person_98 : decode cX8_person 98 = .ok (.invokestatic 110, 3) := by decide +kernel
theorem dX8_person_101 : decode cX8_person 101 = .ok (.iconst 1, 1) := by decide +kernel
theorem dX8_person_102 : decode cX8_person 102 = .ok (.invokevirtual 102, 3) := by decide +kernel
theorem dX8_person_105 : decode cX8_person 105 = .ok (.sipush 10000, 3) := by decide +kernel
theorem dX8_person_108 : decode cX8_person 108 = .ok (.iadd, 1) := by decide +kernel
theorem dX8_person_109 : decode cX8_person 109 = .ok (.ireturn, 1) := by decide +kernel
theorem dX8_person_110 : decode cX8_person 110 = .ok (.aload_n 0, 1) := by decide +kernel
theorem dX8_person_111 : decode cX8_person 111 = .ok (.iload_n 1, 1) := by decide +kernel
theorem dX8_person_112 : decode cX8_person 112 = .ok (.invokestatic 110, 3) := by decide +kernel
theorem dX8_person_115 : decode cX8_person 115 = .ok (.iconst 0, 1) := by decide +kernel
theorem dX8_person_116 : decode cX8_person 116 = .ok (.invokevirtual 102, 3) := by decide +kernel
theorem dX8_person_119 : decode cX8_person 119 = .ok (.sipush 10000, 3) := by decide +kernel
theorem dX8_person_122 : decode cX8_person 122 = .ok (.iadd, 1) := by decide +kernel
theorem dX8_person_123 : decode cX8_person 123 = .ok (.ireturn, 1) := by decide +kernel
theorem dX8_person_124 : decode cX8_person 124 = .ok (.iconst (-1), 1) := by decide +kernel
theorem dX8_person_125 : decode cX8_person 125 = .ok (.ireturn, 1) := by decide +kernel
theorem dX8_leaning_0 : decode cX8_leaning 0 = .ok (.aload_n 0, 1) := by decide +kernel
theorem dX8_leaning_1 : decode cX8_leaning 1 = .ok (.iload_n 1, 1) := by decide +kernel
theorem dX8_leaning_2 : decode cX8_leaning 2 = .ok (.invokevirtual 116, 3) := by decide +kernel
theorem dX8_leaning_5 : decode cX8_leaning 5 = .ok (.ifCond .eq 36, 3) := by decide +kernel
theorem dX8_leaning_8 : decode cX8_leaning 8 = .ok (.aload_n 0, 1) := by decide +kernel
theorem dX8_leaning_9 : decode cX8_leaning 9 = .ok (.iload_n 2, 1) := by decide +kernel
theorem dX8_leaning_10 : decode cX8_leaning 10 = .ok (.invokevirtual 116, 3) := by decide +kernel
theorem dX8_leaning_13 : decode cX8_leaning 13 = .ok (.ifCond .eq 28, 3) := by decide +kernel
theorem dX8_leaning_16 : decode cX8_leaning 16 = .ok (.iload_n 1, 1) := by decide +kernel
theorem dX8_leaning_17 : decode cX8_leaning 17 = .ok (.iload_n 2, 1) := by decide +kernel
theorem dX8_leaning_18 : decode cX8_leaning 18 = .ok (.if_icmp .eq 23, 3) := by decide +kernel
theorem dX8_leaning_21 : decode cX8_leaning 21 = .ok (.aload_n 0, 1) := by decide +kernel
theorem dX8_leaning_22 : decode cX8_leaning 22 = .ok (.getfield 22, 3) := by decide +kernel
theorem dX8_leaning_25 : decode cX8_leaning 25 = .ok (.bipush 19, 2) := by decide +kernel
theorem dX8_leaning_27 : decode cX8_leaning 27 = .ok (.bipush 6, 2) := by decide +kernel
theorem dX8_leaning_29 : decode cX8_leaning 29 = .ok (.iload_n 1, 1) := by decide +kernel
theorem dX8_leaning_30 : decode cX8_leaning 30 = .ok (.imul, 1) := by decide +kernel
theorem dX8_leaning_31 : decode cX8_leaning 31 = .ok (.iadd, 1) := by decide +kernel
theorem dX8_leaning_32 : decode cX8_leaning 32 = .ok (.iload_n 2, 1) := by decide +kernel
theorem dX8_leaning_33 : decode cX8_leaning 33 = .ok (.iadd, 1) := by decide +kernel
theorem dX8_leaning_34 : decode cX8_leaning 34 = .ok (.iaload, 1) := by decide +kernel
theorem dX8_leaning_35 : decode cX8_leaning 35 = .ok (.bipush 20, 2) := by decide +kernel
theorem dX8_leaning_37 : decode cX8_leaning 37 = .ok (.iadd, 1) := by decide +kernel
theorem dX8_leaning_38 : decode cX8_leaning 38 = .ok (.goto 4, 3) := by decide +kernel
theorem dX8_leaning_41 : decode cX8_leaning 41 = .ok (.iconst (-1), 1) := by decide +kernel
theorem dX8_leaning_42 : decode cX8_leaning 42 = .ok (.ireturn, 1) := by decide +kernel
theorem dX8_isPlace_0 : decode cX8_isPlace 0 = .ok (.iload_n 1, 1) := by decide +kernel
theorem dX8_isPlace_1 : decode cX8_isPlace 1 = .ok (.iconst 0, 1) := by decide +kernel
theorem dX8_isPlace_2 : decode cX8_isPlace 2 = .ok (.aload_n 0, 1) := by decide +kernel
theorem dX8_isPlace_3 : decode cX8_isPlace 3 = .ok (.getfield 13, 3) := by decide +kernel
theorem dX8_isPlace_6 : decode cX8_isPlace 6 = .ok (.iconst 0, 1) := by decide +kernel
theorem dX8_isPlace_7 : decode cX8_isPlace 7 = .ok (.iaload, 1) := by decide +kernel
theorem dX8_isPlace_8 : decode cX8_isPlace 8 = .ok (.iconst 1, 1) := by decide +kernel
theorem dX8_isPlace_9 : decode cX8_isPlace 9 = .ok (.isub, 1) := by decide +kernel
theorem dX8_isPlace_10 : decode cX8_isPlace 10 = .ok (.invokestatic 53, 3) := by decide +kernel
theorem dX8_isPlace_13 : decode cX8_isPlace 13 = .ok (.ifCond .eq 23, 3) := by decide +kernel
theorem dX8_isPlace_16 : decode cX8_isPlace 16 = .ok (.iload_n 2, 1) := by decide +kernel
theorem dX8_isPlace_17 : decode cX8_isPlace 17 = .ok (.iconst 0, 1) := by decide +kernel
theorem dX8_isPlace_18 : decode cX8_isPlace 18 = .ok (.aload_n 0, 1) := by decide +kernel
theorem dX8_isPlace_19 : decode cX8_isPlace 19 = .ok (.getfield 13, 3) := by decide +kernel
theorem dX8_isPlace_22 : decode cX8_isPlace 22 = .ok (.iconst 1, 1) := by decide +kernel
theorem dX8_isPlace_23 : decode cX8_isPlace 23 = .ok (.iaload, 1) := by decide +kernel
theorem dX8_isPlace_24 : decode cX8_isPlace 24 = .ok (.iconst 1, 1) := by decide +kernel
theorem dX8_isPlace_25 : decode cX8_isPlace 25 = .ok (.isub, 1) := by decide +kernel
theorem dX8_isPlace_26 : decode cX8_isPlace 26 = .ok (.invokestatic 53, 3) := by decide +kernel
theorem dX8_isPlace_29 : decode cX8_isPlace 29 = .ok (.ifCond .eq 7, 3) := by decide +kernel
theorem dX8_isPlace_32 : decode cX8_isPlace 32 = .ok (.iconst 1, 1) := by decide +kernel
theorem dX8_isPlace_33 : decode cX8_isPlace 33 = .ok (.goto 4, 3) := by decide +kernel
theorem dX8_isPlace_36 : decode cX8_isPlace 36 = .ok (.iconst 0, 1) := by decide +kernel
theorem dX8_isPlace_37 : decode cX8_isPlace 37 = .ok (.ireturn, 1) := by decide +kernel
theorem dX8_whoAt_0 : decode cX8_whoAt 0 = .ok (.bipush (-4), 2) := by decide +kernel
theorem dX8_whoAt_2 : decode cX8_whoAt 2 = .ok (.istore_n 3, 1) := by decide +kernel
theorem dX8_whoAt_3 : decode cX8_whoAt 3 = .ok (.iconst 0, 1) := by decide +kernel
theorem dX8_whoAt_4 : decode cX8_whoAt 4 = .ok (.istore 4, 2) := by decide +kernel
theorem dX8_whoAt_6 : decode cX8_whoAt 6 = .ok (.iload 4, 2) := by decide +kernel
theorem dX8_whoAt_8 : decode cX8_whoAt 8 = .ok (.aload_n 0, 1) := by decide +kernel
theorem dX8_whoAt_9 : decode cX8_whoAt 9 = .ok (.getfield 13, 3) := by decide +kernel
theorem dX8_whoAt_12 : decode cX8_whoAt 12 = .ok (.iconst 2, 1) := by decide +kernel
theorem dX8_whoAt_13 : decode cX8_whoAt 13 = .ok (.iaload, 1) := by decide +kernel
theorem dX8_whoAt_14 : decode cX8_whoAt 14 = .ok (.if_icmp .ge 44, 3) := by decide +kernel
theorem dX8_whoAt_17 : decode cX8_whoAt 17 = .ok (.aload_n 0, 1) := by decide +kernel
theorem dX8_whoAt_18 : decode cX8_whoAt 18 = .ok (.getfield 22, 3) := by decide +kernel
theorem dX8_whoAt_21 : decode cX8_whoAt 21 = .ok (.bipush 7, 2) := by decide +kernel
theorem dX8_whoAt_23 : decode cX8_whoAt 23 = .ok (.iload 4, 2) := by decide +kernel
theorem dX8_whoAt_25 : decode cX8_whoAt 25 = .ok (.iadd, 1) := by decide +kernel
theorem dX8_whoAt_26 : decode cX8_whoAt 26 = .ok (.iaload, 1) := by decide +kernel
theorem dX8_whoAt_27 : decode cX8_whoAt 27 = .ok (.iload_n 1, 1) := by decide +kernel
theorem dX8_whoAt_28 : decode cX8_whoAt 28 = .ok (.if_icmp .ne 22, 3) := by decide +kernel
theorem dX8_whoAt_31 : decode cX8_whoAt 31 = .ok (.aload_n 0, 1) := by decide +kernel
theorem dX8_whoAt_32 : decode cX8_whoAt 32 = .ok (.getfield 22, 3) := by decide +kernel
theorem dX8_whoAt_35 : decode cX8_whoAt 35 = .ok (.bipush 13, 2) := by decide +kernel
theorem dX8_whoAt_37 : decode cX8_whoAt 37 = .ok (.iload 4, 2) := by decide +kernel
theorem dX8_whoAt_39 : decode cX8_whoAt 39 = .ok (.iadd, 1) := by decide +kernel
theorem dX8_whoAt_40 : decode cX8_whoAt 40 = .ok (.iaload, 1) := by decide +kernel
theorem dX8_whoAt_41 : decode cX8_whoAt 41 = .ok (.iload_n 2, 1) := by decide +kernel
theorem dX8_whoAt_42 : decode cX8_whoAt 42 = .ok (.if_icmp .ne 8, 3) := by decide +kernel
theorem dX8_whoAt_45 : decode cX8_whoAt 45 = .ok (.iload 4, 2) := by decide +kernel
theorem dX8_whoAt_47 : decode cX8_whoAt 47 = .ok (.goto 4, 3) := by decide +kernel
theorem dX8_whoAt_50 : decode cX8_whoAt 50 = .ok (.iload_n 3, 1) := by decide +kernel
theorem dX8_whoAt_51 : decode cX8_whoAt 51 = .ok (.istore_n 3, 1) := by decide +kernel
theorem dX8_whoAt_52 : decode cX8_whoAt 52 = .ok (.iinc 4 1, 3) := by decide +kernel
theorem dX8_whoAt_55 : decode cX8_whoAt 55 = .ok (.goto (-49), 3) := by decide +kernel
theorem dX8_whoAt_58 : decode cX8_whoAt 58 = .ok (.iload_n 3, 1) := by decide +kernel
theorem dX8_whoAt_59 : decode cX8_whoAt 59 = .ok (.ireturn, 1) := by decide +kernel
theorem dX8_place_0 : decode cX8_place 0 = .ok (.aload_n 0, 1) := by decide +kernel
theorem dX8_place_1 : decode cX8_place 1 = .ok (.iload_n 1, 1) := by decide +kernel
theorem dX8_place_2 : decode cX8_place 2 = .ok (.iload_n 2, 1) := by decide +kernel
theorem dX8_place_3 : decode cX8_place 3 = .ok (.invokevirtual 122, 3) := by decide +kernel
theorem dX8_place_6 : decode cX8_place 6 = .ok (.ifCond .eq 12, 3) := by decide +kernel
theorem dX8_place_9 : decode cX8_place 9 = .ok (.aload_n 0, 1) := by decide +kernel
theorem dX8_place_10 : decode cX8_place 10 = .ok (.iload_n 1, 1) := by decide +kernel
theorem dX8_place_11 : decode cX8_place 11 = .ok (.iload_n 2, 1) := by decide +kernel
theorem dX8_place_12 : decode cX8_place 12 = .ok (.invokevirtual 126, 3) := by decide +kernel
theorem dX8_place_15 : decode cX8_place 15 = .ok (.goto 4, 3) := by decide +kernel
theorem dX8_place_18 : decode cX8_place 18 = .ok (.iconst (-1), 1) := by decide +kernel
theorem dX8_place_19 : decode cX8_place 19 = .ok (.ireturn, 1) := by decide +kernel
theorem dX8_keeps_0 : decode cX8_keeps 0 = .ok (.aload_n 0, 1) := by decide +kernel
theorem dX8_keeps_1 : decode cX8_keeps 1 = .ok (.getfield 90, 3) := by decide +kernel
theorem dX8_keeps_4 : decode cX8_keeps 4 = .ok (.bipush 8, 2) := by decide +kernel
theorem dX8_keeps_6 : decode cX8_keeps 6 = .ok (.if_icmp .ne 43, 3) := by decide +kernel
theorem dX8_keeps_9 : decode cX8_keeps 9 = .ok (.iconst 0, 1) := by decide +kernel
theorem dX8_keeps_10 : decode cX8_keeps 10 = .ok (.istore_n 1, 1) := by decide +kernel
theorem dX8_keeps_11 : decode cX8_keeps 11 = .ok (.iload_n 1, 1) := by decide +kernel
theorem dX8_keeps_12 : decode cX8_keeps 12 = .ok (.sipush 385, 3) := by decide +kernel
theorem dX8_keeps_15 : decode cX8_keeps 15 = .ok (.if_icmp .ge 24, 3) := by decide +kernel
theorem dX8_keeps_18 : decode cX8_keeps 18 = .ok (.aload_n 0, 1) := by decide +kernel
theorem dX8_keeps_19 : decode cX8_keeps 19 = .ok (.getfield 25, 3) := by decide +kernel
theorem dX8_keeps_22 : decode cX8_keeps 22 = .ok (.iload_n 1, 1) := by decide +kernel
theorem dX8_keeps_23 : decode cX8_keeps 23 = .ok (.aload_n 0, 1) := by decide +kernel
theorem dX8_keeps_24 : decode cX8_keeps 24 = .ok (.getfield 25, 3) := by decide +kernel
theorem dX8_keeps_27 : decode cX8_keeps 27 = .ok (.iload_n 1, 1) := by decide +kernel
theorem dX8_keeps_28 : decode cX8_keeps 28 = .ok (.bipush 55, 2) := by decide +kernel
theorem dX8_keeps_30 : decode cX8_keeps 30 = .ok (.iadd, 1) := by decide +kernel
theorem dX8_keeps_31 : decode cX8_keeps 31 = .ok (.iaload, 1) := by decide +kernel
theorem dX8_keeps_32 : decode cX8_keeps 32 = .ok (.iastore, 1) := by decide +kernel
theorem dX8_keeps_33 : decode cX8_keeps 33 = .ok (.iinc 1 1, 3) := by decide +kernel
theorem dX8_keeps_36 : decode cX8_keeps 36 = .ok (.goto (-25), 3) := by decide +kernel
theorem dX8_keeps_39 : decode cX8_keeps 39 = .ok (.aload_n 0, 1) := by decide +kernel
theorem dX8_keeps_40 : decode cX8_keeps 40 = .ok (.dup, 1) := by decide +kernel
theorem dX8_keeps_41 : decode cX8_keeps 41 = .ok (.getfield 90, 3) := by decide +kernel
theorem dX8_keeps_44 : decode cX8_keeps 44 = .ok (.iconst 1, 1) := by decide +kernel
theorem dX8_keeps_45 : decode cX8_keeps 45 = .ok (.isub, 1) := by decide +kernel
theorem dX8_keeps_46 : decode cX8_keeps 46 = .ok (.putfield 90, 3) := by decide +kernel
theorem dX8_keeps_49 : decode cX8_keeps 49 = .ok (.iconst 0, 1) := by decide +kernel
theorem dX8_keeps_50 : decode cX8_keeps 50 = .ok (.istore_n 1, 1) := by decide +kernel
theorem dX8_keeps_51 : decode cX8_keeps 51 = .ok (.iload_n 1, 1) := by decide +kernel
theorem dX8_keeps_52 : decode cX8_keeps 52 = .ok (.bipush 55, 2) := by decide +kernel
theorem dX8_keeps_54 : decode cX8_keeps 54 = .ok (.if_icmp .ge 29, 3) := by decide +kernel
theorem dX8_keeps_57 : decode cX8_keeps 57 = .ok (.aload_n 0, 1) := by decide +kernel
theorem dX8_keeps_58 : decode cX8_keeps 58 = .ok (.getfield 25, 3) := by decide +kernel
theorem dX8_keeps_61 : decode cX8_keeps 61 = .ok (.bipush 55, 2) := by decide +kernel
theorem dX8_keeps_63 : decode cX8_keeps 63 = .ok (.aload_n 0, 1) := by decide +kernel
theorem dX8_keeps_64 : decode cX8_keeps 64 = .ok (.getfield 90, 3) := by decide +kernel
theorem dX8_keeps_67 : decode cX8_keeps 67 = .ok (.imul, 1) := by decide +kernel
theorem dX8_keeps_68 : decode cX8_keeps 68 = .ok (.iload_n 1, 1) := by decide +kernel
theorem dX8_keeps_69 : decode cX8_keeps 69 = .ok (.iadd, 1) := by decide +kernel
theorem dX8_keeps_70 : decode cX8_keeps 70 = .ok (.aload_n 0, 1) := by decide +kernel
theorem dX8_keeps_71 : decode cX8_keeps 71 = .ok (.getfield 22, 3) := by decide +kernel
theorem dX8_keeps_74 : decode cX8_keeps 74 = .ok (.iload_n 1, 1) := by decide +kernel
theorem dX8_keeps_75 : decode cX8_keeps 75 = .ok (.iaload, 1) := by decide +kernel
theorem dX8_keeps_76 : decode cX8_keeps 76 = .ok (.iastore, 1) := by decide +kernel
theorem dX8_keeps_77 : decode cX8_keeps 77 = .ok (.iinc 1 1, 3) := by decide +kernel
theorem dX8_keeps_80 : decode cX8_keeps 80 = .ok (.goto (-29), 3) := by decide +kernel
theorem dX8_keeps_83 : decode cX8_keeps 83 = .ok (.aload_n 0, 1) := by decide +kernel
theorem dX8_keeps_84 : decode cX8_keeps 84 = .ok (.dup, 1) := by decide +kernel
theorem dX8_keeps_85 : decode cX8_keeps 85 = .ok (.getfield 90, 3) := by decide +kernel
theorem dX8_keeps_88 : decode cX8_keeps 88 = .ok (.iconst 1, 1) := by decide +kernel
theorem dX8_keeps_89 : decode cX8_keeps 89 = .ok (.iadd, 1) := by decide +kernel
theorem dX8_keeps_90 : decode cX8_keeps 90 = .ok (.putfield 90, 3) := by decide +kernel
theorem dX8_keeps_93 : decode cX8_keeps 93 = .ok (.return_, 1) := by decide +kernel
theorem dX8_next_0 : decode cX8_next 0 = .ok (.aload_n 0, 1) := by decide +kernel
theorem dX8_next_1 : decode cX8_next 1 = .ok (.getfield 22, 3) := by decide +kernel
theorem dX8_next_4 : decode cX8_next 4 = .ok (.iconst 1, 1) := by decide +kernel
theorem dX8_next_5 : decode cX8_next 5 = .ok (.iload_n 1, 1) := by decide +kernel
theorem dX8_next_6 : decode cX8_next 6 = .ok (.iadd, 1) := by decide +kernel
theorem dX8_next_7 : decode cX8_next 7 = .ok (.iaload, 1) := by decide +kernel
theorem dX8_next_8 : decode cX8_next 8 = .ok (.istore_n 3, 1) := by decide +kernel
theorem dX8_next_9 : decode cX8_next 9 = .ok (.aload_n 0, 1) := by decide +kernel
theorem dX8_next_10 : decode cX8_next 10 = .ok (.getfield 13, 3) := by decide +kernel
theorem dX8_next_13 : decode cX8_next 13 = .ok (.iconst 3, 1) := by decide +kernel
theorem dX8_next_14 : decode cX8_next 14 = .ok (.iload_n 1, 1) := by decide +kernel
theorem dX8_next_15 : decode cX8_next 15 = .ok (.iadd, 1) := by decide +kernel
theorem dX8_next_16 : decode cX8_next 16 = .ok (.iaload, 1) := by decide +kernel
theorem dX8_next_17 : decode cX8_next 17 = .ok (.iconst 2, 1) := by decide +kernel
theorem dX8_next_18 : decode cX8_next 18 = .ok (.if_icmp .ne 10, 3) := by decide +kernel
theorem dX8_next_21 : decode cX8_next 21 = .ok (.iload_n 3, 1) := by decide +kernel
theorem dX8_next_22 : decode cX8_next 22 = .ok (.iconst 1, 1) := by decide +kernel
theorem dX8_next_23 : decode cX8_next 23 = .ok (.iadd, 1) := by decide +kernel
theorem dX8_next_24 : decode cX8_next 24 = .ok (.bipush 8, 2) := by decide +kernel
theorem dX8_next_26 : decode cX8_next 26 = .ok (.irem, 1) := by decide +kernel
theorem dX8_next_27 : decode cX8_next 27 = .ok (.ireturn, 1) := by decide +kernel
theorem dX8_next_28 : decode cX8_next 28 = .ok (.iload_n 2, 1) := by decide +kernel
theorem dX8_next_29 : decode cX8_next 29 = .ok (.bipush (-4), 2) := by decide +kernel
theorem dX8_next_31 : decode cX8_next 31 = .ok (.if_icmp .ne 5, 3) := by decide +kernel
theorem dX8_next_34 : decode cX8_next 34 = .ok (.iload_n 3, 1) := by decide +kernel
theorem dX8_next_35 : decode cX8_next 35 = .ok (.ireturn, 1) := by decide +kernel
theorem dX8_next_36 : decode cX8_next 36 = .ok (.iload_n 2, 1) := by decide +kernel
theorem dX8_next_37 : decode cX8_next 37 = .ok (.bipush 8, 2) := by decide +kernel
theorem dX8_next_39 : decode cX8_next 39 = .ok (.iadd, 1) := by decide +kernel
theorem dX8_next_40 : decode cX8_next 40 = .ok (.iload_n 3, 1) := by decide +kernel
theorem dX8_next_41 : decode cX8_next 41 = .ok (.isub, 1) := by decide +kernel
theorem dX8_next_42 : decode cX8_next 42 = .ok (.bipush 8, 2) := by decide +kernel
theorem dX8_next_44 : decode cX8_next 44 = .ok (.irem, 1) := by decide +kernel
theorem dX8_next_45 : decode cX8_next 45 = .ok (.istore 4, 2) := by decide +kernel
theorem dX8_next_47 : decode cX8_next 47 = .ok (.aload_n 0, 1) := by decide +kernel
theorem dX8_next_48 : decode cX8_next 48 = .ok (.getfield 13, 3) := by decide +kernel
theorem dX8_next_51 : decode cX8_next 51 = .ok (.iconst 3, 1) := by decide +kernel
theorem dX8_next_52 : decode cX8_next 52 = .ok (.iload_n 1, 1) := by decide +kernel
theorem dX8_next_53 : decode cX8_next 53 = .ok (.iadd, 1) := by decide +kernel
theorem dX8_next_54 : decode cX8_next 54 = .ok (.iaload, 1) := by decide +kernel
theorem dX8_next_55 : decode cX8_next 55 = .ok (.lookupswitch 59 #[(0, 25), (1, 27)], 25) := by decide +kernel
theorem dX8_next_80 : decode cX8_next 80 = .ok (.iload_n 2, 1) := by decide +kernel
theorem dX8_next_81 : decode cX8_next 81 = .ok (.ireturn, 1) := by decide +kernel
theorem dX8_next_82 : decode cX8_next 82 = .ok (.iload 4, 2) := by decide +kernel
theorem dX8_next_84 : decode cX8_next 84 = .ok (.ifCond .ne 7, 3) := by decide +kernel
theorem dX8_next_87 : decode cX8_next 87 = .ok (.iload_n 3, 1) := by decide +kernel
theorem dX8_next_88 : decode cX8_next 88 = .ok (.goto 25, 3) := by decide +kernel
theorem dX8_next_91 : decode cX8_next 91 = .ok (.iload 4, 2) := by decide +kernel
theorem dX8_next_93 : decode cX8_next 93 = .ok (.iconst 4, 1) := by decide +kernel
theorem dX8_next_94 : decode cX8_next 94 = .ok (.if_icmp .gt 12, 3) := by decide +kernel
theorem dX8_next_97 : decode cX8_next 97 = .ok (.iload_n 3, 1) := by decide +kernel
theorem dX8_next_98 : decode cX8_next 98 = .ok (.iconst 1, 1) := by decide +kernel
theorem dX8_next_99 : decode cX8_next 99 = .ok (.iadd, 1) := by decide +kernel
theorem dX8_next_100 : decode cX8_next 100 = .ok (.bipush 8, 2) := by decide +kernel
theorem dX8_next_102 : decode cX8_next 102 = .ok (.irem, 1) := by decide +kernel
theorem dX8_next_103 : decode cX8_next 103 = .ok (.goto 10, 3) := by decide +kernel
theorem dX8_next_106 : decode cX8_next 106 = .ok (.iload_n 3, 1) := by decide +kernel
theorem dX8_next_107 : decode cX8_next 107 = .ok (.bipush 7, 2) := by decide +kernel
theorem dX8_next_109 : decode cX8_next 109 = .ok (.iadd, 1) := by decide +kernel
theorem dX8_next_110 : decode cX8_next 110 = .ok (.bipush 8, 2) := by decide +kernel
theorem dX8_next_112 : decode cX8_next 112 = .ok (.irem, 1) := by decide +kernel
theorem dX8_next_113 : decode cX8_next 113 = .ok (.ireturn, 1) := by decide +kernel
theorem dX8_next_114 : decode cX8_next 114 = .ok (.iload_n 2, 1) := by decide +kernel
theorem dX8_next_115 : decode cX8_next 115 = .ok (.iconst 4, 1) := by decide +kernel
theorem dX8_next_116 : decode cX8_next 116 = .ok (.iadd, 1) := by decide +kernel
theorem dX8_next_117 : decode cX8_next 117 = .ok (.bipush 8, 2) := by decide +kernel
theorem dX8_next_119 : decode cX8_next 119 = .ok (.irem, 1) := by decide +kernel
theorem dX8_next_120 : decode cX8_next 120 = .ok (.ireturn, 1) := by decide +kernel
theorem dX8_passes_0 : decode cX8_passes 0 = .ok (.iconst 0, 1) := by decide +kernel
theorem dX8_passes_1 : decode cX8_passes 1 = .ok (.istore_n 1, 1) := by decide +kernel
theorem dX8_passes_2 : decode cX8_passes 2 = .ok (.iconst 0, 1) := by decide +kernel
theorem dX8_passes_3 : decode cX8_passes 3 = .ok (.istore_n 2, 1) := by decide +kernel
theorem dX8_passes_4 : decode cX8_passes 4 = .ok (.iload_n 2, 1) := by decide +kernel
theorem dX8_passes_5 : decode cX8_passes 5 = .ok (.aload_n 0, 1) := by decide +kernel
theorem dX8_passes_6 : decode cX8_passes 6 = .ok (.getfield 13, 3) := by decide +kernel
theorem dX8_passes_9 : decode cX8_passes 9 = .ok (.iconst 2, 1) := by decide +kernel
theorem dX8_passes_10 : decode cX8_passes 10 = .ok (.iaload, 1) := by decide +kernel
theorem dX8_passes_11 : decode cX8_passes 11 = .ok (.if_icmp .ge 49, 3) := by decide +kernel
theorem dX8_passes_14 : decode cX8_passes 14 = .ok (.aload_n 0, 1) := by decide +kernel
theorem dX8_passes_15 : decode cX8_passes 15 = .ok (.iload_n 2, 1) := by decide +kernel
theorem dX8_passes_16 : decode cX8_passes 16 = .ok (.aload_n 0, 1) := by decide +kernel
theorem dX8_passes_17 : decode cX8_passes 17 = .ok (.iload_n 2, 1) := by decide +kernel
theorem dX8_passes_18 : decode cX8_passes 18 = .ok (.invokevirtual 119, 3) := by decide +kernel
theorem dX8_passes_21 : decode cX8_passes 21 = .ok (.invokevirtual 129, 3) := by decide +kernel
theorem dX8_passes_24 : decode cX8_passes 24 = .ok (.istore_n 3, 1) := by decide +kernel
theorem dX8_passes_25 : decode cX8_passes 25 = .ok (.iload_n 1, 1) := by decide +kernel
theorem dX8_passes_26 : decode cX8_passes 26 = .ok (.iload_n 3, 1) := by decide +kernel
theorem dX8_passes_27 : decode cX8_passes 27 = .ok (.aload_n 0, 1) := by decide +kernel
theorem dX8_passes_28 : decode cX8_passes 28 = .ok (.getfield 22, 3) := by decide +kernel
theorem dX8_passes_31 : decode cX8_passes 31 = .ok (.iconst 1, 1) := by decide +kernel
theorem dX8_passes_32 : decode cX8_passes 32 = .ok (.iload_n 2, 1) := by decide +kernel
theorem dX8_passes_33 : decode cX8_passes 33 = .ok (.iadd, 1) := by decide +kernel
theorem dX8_passes_34 : decode cX8_passes 34 = .ok (.iaload, 1) := by decide +kernel
theorem dX8_passes_35 : decode cX8_passes 35 = .ok (.if_icmp .ne 7, 3) := by decide +kernel
theorem dX8_passes_38 : decode cX8_passes 38 = .ok (.iconst 0, 1) := by decide +kernel
theorem dX8_passes_39 : decode cX8_passes 39 = .ok (.goto 4, 3) := by decide +kernel
theorem dX8_passes_42 : decode cX8_passes 42 = .ok (.iconst 1, 1) := by decide +kernel
theorem dX8_passes_43 : decode cX8_passes 43 = .ok (.iadd, 1) := by decide +kernel
theorem dX8_passes_44 : decode cX8_passes 44 = .ok (.istore_n 1, 1) := by decide +kernel
theorem dX8_passes_45 : decode cX8_passes 45 = .ok (.aload_n 0, 1) := by decide +kernel
theorem dX8_passes_46 : decode cX8_passes 46 = .ok (.getfield 22, 3) := by decide +kernel
theorem dX8_passes_49 : decode cX8_passes 49 = .ok (.iconst 1, 1) := by decide +kernel
theorem dX8_passes_50 : decode cX8_passes 50 = .ok (.iload_n 2, 1) := by decide +kernel
theorem dX8_passes_51 : decode cX8_passes 51 = .ok (.iadd, 1) := by decide +kernel
theorem dX8_passes_52 : decode cX8_passes 52 = .ok (.iload_n 3, 1) := by decide +kernel
theorem dX8_passes_53 : decode cX8_passes 53 = .ok (.iastore, 1) := by decide +kernel
theorem dX8_passes_54 : decode cX8_passes 54 = .ok (.iinc 2 1, 3) := by decide +kernel
theorem dX8_passes_57 : decode cX8_passes 57 = .ok (.goto (-53), 3) := by decide +kernel
theorem dX8_passes_60 : decode cX8_passes 60 = .ok (.aload_n 0, 1) := by decide +kernel
theorem dX8_passes_61 : decode cX8_passes 61 = .ok (.getfield 22, 3) := by decide +kernel
theorem dX8_passes_64 : decode cX8_passes 64 = .ok (.iconst 0, 1) := by decide +kernel
theorem dX8_passes_65 : decode cX8_passes 65 = .ok (.dup2, 1) := by decide +kernel
theorem dX8_passes_66 : decode cX8_passes 66 = .ok (.iaload, 1) := by decide +kernel
theorem dX8_passes_67 : decode cX8_passes 67 = .ok (.iconst 1, 1) := by decide +kernel
theorem dX8_passes_68 : decode cX8_passes 68 = .ok (.iadd, 1) := by decide +kernel
theorem dX8_passes_69 : decode cX8_passes 69 = .ok (.iastore, 1) := by decide +kernel
theorem dX8_passes_70 : decode cX8_passes 70 = .ok (.iload_n 1, 1) := by decide +kernel
theorem dX8_passes_71 : decode cX8_passes 71 = .ok (.ireturn, 1) := by decide +kernel
theorem dX8_pass_0 : decode cX8_pass 0 = .ok (.iload_n 1, 1) := by decide +kernel
theorem dX8_pass_1 : decode cX8_pass 1 = .ok (.iconst 1, 1) := by decide +kernel
theorem dX8_pass_2 : decode cX8_pass 2 = .ok (.bipush 24, 2) := by decide +kernel
theorem dX8_pass_4 : decode cX8_pass 4 = .ok (.invokestatic 53, 3) := by decide +kernel
theorem dX8_pass_7 : decode cX8_pass 7 = .ok (.ifCond .ne 5, 3) := by decide +kernel
theorem dX8_pass_10 : decode cX8_pass 10 = .ok (.iconst (-1), 1) := by decide +kernel
theorem dX8_pass_11 : decode cX8_pass 11 = .ok (.ireturn, 1) := by decide +kernel
theorem dX8_pass_12 : decode cX8_pass 12 = .ok (.aload_n 0, 1) := by decide +kernel
theorem dX8_pass_13 : decode cX8_pass 13 = .ok (.invokevirtual 132, 3) := by decide +kernel
theorem dX8_pass_16 : decode cX8_pass 16 = .ok (.iconst 0, 1) := by decide +kernel
theorem dX8_pass_17 : decode cX8_pass 17 = .ok (.istore_n 2, 1) := by decide +kernel
theorem dX8_pass_18 : decode cX8_pass 18 = .ok (.iload_n 2, 1) := by decide +kernel
theorem dX8_pass_19 : decode cX8_pass 19 = .ok (.iload_n 1, 1) := by decide +kernel
theorem dX8_pass_20 : decode cX8_pass 20 = .ok (.if_icmp .ge 14, 3) := by decide +kernel
theorem dX8_pass_23 : decode cX8_pass 23 = .ok (.aload_n 0, 1) := by decide +kernel
theorem dX8_pass_24 : decode cX8_pass 24 = .ok (.invokevirtual 135, 3) := by decide +kernel
theorem dX8_pass_27 : decode cX8_pass 27 = .ok (.pop, 1) := by decide +kernel
theorem dX8_pass_28 : decode cX8_pass 28 = .ok (.iinc 2 1, 3) := by decide +kernel
theorem dX8_pass_31 : decode cX8_pass 31 = .ok (.goto (-13), 3) := by decide +kernel
theorem dX8_pass_34 : decode cX8_pass 34 = .ok (.aload_n 0, 1) := by decide +kernel
theorem dX8_pass_35 : decode cX8_pass 35 = .ok (.getfield 22, 3) := by decide +kernel
theorem dX8_pass_38 : decode cX8_pass 38 = .ok (.iconst 0, 1) := by decide +kernel
theorem dX8_pass_39 : decode cX8_pass 39 = .ok (.iaload, 1) := by decide +kernel
theorem dX8_pass_40 : decode cX8_pass 40 = .ok (.ireturn, 1) := by decide +kernel
theorem dX8_eastBy_0 : decode cX8_eastBy 0 = .ok (.iload_n 0, 1) := by decide +kernel
theorem dX8_eastBy_1 : decode cX8_eastBy 1 = .ok (.iconst 1, 1) := by decide +kernel
theorem dX8_eastBy_2 : decode cX8_eastBy 2 = .ok (.if_icmp .ne 7, 3) := by decide +kernel
theorem dX8_eastBy_5 : decode cX8_eastBy 5 = .ok (.iconst 1, 1) := by decide +kernel
theorem dX8_eastBy_6 : decode cX8_eastBy 6 = .ok (.goto 13, 3) := by decide +kernel
theorem dX8_eastBy_9 : decode cX8_eastBy 9 = .ok (.iload_n 0, 1) := by decide +kernel
theorem dX8_eastBy_10 : decode cX8_eastBy 10 = .ok (.iconst 3, 1) := by decide +kernel
theorem dX8_eastBy_11 : decode cX8_eastBy 11 = .ok (.if_icmp .ne 7, 3) := by decide +kernel
theorem dX8_eastBy_14 : decode cX8_eastBy 14 = .ok (.iconst (-1), 1) := by decide +kernel
theorem dX8_eastBy_15 : decode cX8_eastBy 15 = .ok (.goto 4, 3) := by decide +kernel
theorem dX8_eastBy_18 : decode cX8_eastBy 18 = .ok (.iconst 0, 1) := by decide +kernel
theorem dX8_eastBy_19 : decode cX8_eastBy 19 = .ok (.ireturn, 1) := by decide +kernel
theorem dX8_southBy_0 : decode cX8_southBy 0 = .ok (.iload_n 0, 1) := by decide +kernel
theorem dX8_southBy_1 : decode cX8_southBy 1 = .ok (.ifCond .ne 7, 3) := by decide +kernel
theorem dX8_southBy_4 : decode cX8_southBy 4 = .ok (.iconst (-1), 1) := by decide +kernel
theorem dX8_southBy_5 : decode cX8_southBy 5 = .ok (.goto 13, 3) := by decide +kernel
theorem dX8_southBy_8 : decode cX8_southBy 8 = .ok (.iload_n 0, 1) := by decide +kernel
theorem dX8_southBy_9 : decode cX8_southBy 9 = .ok (.iconst 2, 1) := by decide +kernel
theorem dX8_southBy_10 : decode cX8_southBy 10 = .ok (.if_icmp .ne 7, 3) := by decide +kernel
theorem dX8_southBy_13 : decode cX8_southBy 13 = .ok (.iconst 1, 1) := by decide +kernel
theorem dX8_southBy_14 : decode cX8_southBy 14 = .ok (.goto 4, 3) := by decide +kernel
theorem dX8_southBy_17 : decode cX8_southBy 17 = .ok (.iconst 0, 1) := by decide +kernel
theorem dX8_southBy_18 : decode cX8_southBy 18 = .ok (.ireturn, 1) := by decide +kernel
theorem dX8_mayWalk_0 : decode cX8_mayWalk 0 = .ok (.aload_n 0, 1) := by decide +kernel
theorem dX8_mayWalk_1 : decode cX8_mayWalk 1 = .ok (.getfield 22, 3) := by decide +kernel
theorem dX8_mayWalk_4 : decode cX8_mayWalk 4 = .ok (.bipush 7, 2) := by decide +kernel
theorem dX8_mayWalk_6 : decode cX8_mayWalk 6 = .ok (.iload_n 1, 1) := by decide +kernel
theorem dX8_mayWalk_7 : decode cX8_mayWalk 7 = .ok (.iadd, 1) := by decide +kernel
theorem dX8_mayWalk_8 : decode cX8_mayWalk 8 = .ok (.iaload, 1) := by decide +kernel
theorem dX8_mayWalk_9 : decode cX8_mayWalk 9 = .ok (.iload_n 2, 1) := by decide +kernel
theorem dX8_mayWalk_10 : decode cX8_mayWalk 10 = .ok (.invokestatic 138, 3) := by decide +kernel
theorem dX8_mayWalk_13 : decode cX8_mayWalk 13 = .ok (.iadd, 1) := by decide +kernel
theorem dX8_mayWalk_14 : decode cX8_mayWalk 14 = .ok (.istore_n 3, 1) := by decide +kernel
theorem dX8_mayWalk_15 : decode cX8_mayWalk 15 = .ok (.aload_n 0, 1) := by decide +kernel
theorem dX8_mayWalk_16 : decode cX8_mayWalk 16 = .ok (.getfield 22, 3) := by decide +kernel
theorem dX8_mayWalk_19 : decode cX8_mayWalk 19 = .ok (.bipush 13, 2) := by decide +kernel
theorem dX8_mayWalk_21 : decode cX8_mayWalk 21 = .ok (.iload_n 1, 1) := by decide +kernel
theorem dX8_mayWalk_22 : decode cX8_mayWalk 22 = .ok (.iadd, 1) := by decide +kernel
theorem dX8_mayWalk_23 : decode cX8_mayWalk 23 = .ok (.iaload, 1) := by decide +kernel
theorem dX8_mayWalk_24 : decode cX8_mayWalk 24 = .ok (.iload_n 2, 1) := by decide +kernel
theorem dX8_mayWalk_25 : decode cX8_mayWalk 25 = .ok (.invokestatic 141, 3) := by decide +kernel
theorem dX8_mayWalk_28 : decode cX8_mayWalk 28 = .ok (.iadd, 1) := by decide +kernel
theorem dX8_mayWalk_29 : decode cX8_mayWalk 29 = .ok (.istore 4, 2) := by decide +kernel
theorem dX8_mayWalk_31 : decode cX8_mayWalk 31 = .ok (.aload_n 0, 1) := by decide +kernel
theorem dX8_mayWalk_32 : decode cX8_mayWalk 32 = .ok (.iload_n 3, 1) := by decide +kernel
theorem dX8_mayWalk_33 : decode cX8_mayWalk 33 = .ok (.iload 4, 2) := by decide +kernel
theorem dX8_mayWalk_35 : decode cX8_mayWalk 35 = .ok (.invokevirtual 122, 3) := by decide +kernel
theorem dX8_mayWalk_38 : decode cX8_mayWalk 38 = .ok (.ifCond .eq 19, 3) := by decide +kernel
theorem dX8_mayWalk_41 : decode cX8_mayWalk 41 = .ok (.aload_n 0, 1) := by decide +kernel
theorem dX8_mayWalk_42 : decode cX8_mayWalk 42 = .ok (.iload_n 3, 1) := by decide +kernel
theorem dX8_mayWalk_43 : decode cX8_mayWalk 43 = .ok (.iload 4, 2) := by decide +kernel
theorem dX8_mayWalk_45 : decode cX8_mayWalk 45 = .ok (.invokevirtual 126, 3) := by decide +kernel
theorem dX8_mayWalk_48 : decode cX8_mayWalk 48 = .ok (.bipush (-4), 2) := by decide +kernel
theorem dX8_mayWalk_50 : decode cX8_mayWalk 50 = .ok (.if_icmp .ne 7, 3) := by decide +kernel
theorem dX8_mayWalk_53 : decode cX8_mayWalk 53 = .ok (.iconst 1, 1) := by decide +kernel
theorem dX8_mayWalk_54 : decode cX8_mayWalk 54 = .ok (.goto 4, 3) := by decide +kernel
theorem dX8_mayWalk_57 : decode cX8_mayWalk 57 = .ok (.iconst 0, 1) := by decide +kernel
theorem dX8_mayWalk_58 : decode cX8_mayWalk 58 = .ok (.ireturn, 1) := by decide +kernel
theorem dX8_goes_0 : decode cX8_goes 0 = .ok (.aload_n 0, 1) := by decide +kernel
theorem dX8_goes_1 : decode cX8_goes 1 = .ok (.getfield 22, 3) := by decide +kernel
theorem dX8_goes_4 : decode cX8_goes 4 = .ok (.bipush 7, 2) := by decide +kernel
theorem dX8_goes_6 : decode cX8_goes 6 = .ok (.iload_n 1, 1) := by decide +kernel
theorem dX8_goes_7 : decode cX8_goes 7 = .ok (.iadd, 1) := by decide +kernel
theorem dX8_goes_8 : decode cX8_goes 8 = .ok (.dup2, 1) := by decide +kernel
theorem dX8_goes_9 : decode cX8_goes 9 = .ok (.iaload, 1) := by decide +kernel
theorem dX8_goes_10 : decode cX8_goes 10 = .ok (.iload_n 2, 1) := by decide +kernel
theorem dX8_goes_11 : decode cX8_goes 11 = .ok (.invokestatic 138, 3) := by decide +kernel
theorem dX8_goes_14 : decode cX8_goes 14 = .ok (.iadd, 1) := by decide +kernel
theorem dX8_goes_15 : decode cX8_goes 15 = .ok (.iastore, 1) := by decide +kernel
theorem dX8_goes_16 : decode cX8_goes 16 = .ok (.aload_n 0, 1) := by decide +kernel
theorem dX8_goes_17 : decode cX8_goes 17 = .ok (.getfield 22, 3) := by decide +kernel
theorem dX8_goes_20 : decode cX8_goes 20 = .ok (.bipush 13, 2) := by decide +kernel
theorem dX8_goes_22 : decode cX8_goes 22 = .ok (.iload_n 1, 1) := by decide +kernel
theorem dX8_goes_23 : decode cX8_goes 23 = .ok (.iadd, 1) := by decide +kernel
theorem dX8_goes_24 : decode cX8_goes 24 = .ok (.dup2, 1) := by decide +kernel
theorem dX8_goes_25 : decode cX8_goes 25 = .ok (.iaload, 1) := by decide +kernel
theorem dX8_goes_26 : decode cX8_goes 26 = .ok (.iload_n 2, 1) := by decide +kernel
theorem dX8_goes_27 : decode cX8_goes 27 = .ok (.invokestatic 141, 3) := by decide +kernel
theorem dX8_goes_30 : decode cX8_goes 30 = .ok (.iadd, 1) := by decide +kernel
theorem dX8_goes_31 : decode cX8_goes 31 = .ok (.iastore, 1) := by decide +kernel
theorem dX8_goes_32 : decode cX8_goes 32 = .ok (.return_, 1) := by decide +kernel
theorem dX8_walk_0 : decode cX8_walk 0 = .ok (.aload_n 0, 1) := by decide +kernel
theorem dX8_walk_1 : decode cX8_walk 1 = .ok (.iload_n 1, 1) := by decide +kernel
theorem dX8_walk_2 : decode cX8_walk 2 = .ok (.invokevirtual 116, 3) := by decide +kernel
theorem dX8_walk_5 : decode cX8_walk 5 = .ok (.ifCond .eq 12, 3) := by decide +kernel
theorem dX8_walk_8 : decode cX8_walk 8 = .ok (.iload_n 2, 1) := by decide +kernel
theorem dX8_walk_9 : decode cX8_walk 9 = .ok (.iconst 0, 1) := by decide +kernel
theorem dX8_walk_10 : decode cX8_walk 10 = .ok (.iconst 3, 1) := by decide +kernel
theorem dX8_walk_11 : decode cX8_walk 11 = .ok (.invokestatic 53, 3) := by decide +kernel
theorem dX8_walk_14 : decode cX8_walk 14 = .ok (.ifCond .ne 5, 3) := by decide +kernel
theorem dX8_walk_17 : decode cX8_walk 17 = .ok (.iconst (-1), 1) := by decide +kernel
theorem dX8_walk_18 : decode cX8_walk 18 = .ok (.ireturn, 1) := by decide +kernel
theorem dX8_walk_19 : decode cX8_walk 19 = .ok (.aload_n 0, 1) := by decide +kernel
theorem dX8_walk_20 : decode cX8_walk 20 = .ok (.iload_n 1, 1) := by decide +kernel
theorem dX8_walk_21 : decode cX8_walk 21 = .ok (.iload_n 2, 1) := by decide +kernel
theorem dX8_walk_22 : decode cX8_walk 22 = .ok (.invokevirtual 144, 3) := by decide +kernel
theorem dX8_walk_25 : decode cX8_walk 25 = .ok (.ifCond .ne 6, 3) := by decide +kernel
theorem dX8_walk_28 : decode cX8_walk 28 = .ok (.bipush (-2), 2) := by decide +kernel
theorem dX8_walk_30 : decode cX8_walk 30 = .ok (.ireturn, 1) := by decide +kernel
theorem dX8_walk_31 : decode cX8_walk 31 = .ok (.aload_n 0, 1) := by decide +kernel
theorem dX8_walk_32 : decode cX8_walk 32 = .ok (.invokevirtual 132, 3) := by decide +kernel
theorem dX8_walk_35 : decode cX8_walk 35 = .ok (.aload_n 0, 1) := by decide +kernel
theorem dX8_walk_36 : decode cX8_walk 36 = .ok (.iload_n 1, 1) := by decide +kernel
theorem dX8_walk_37 : decode cX8_walk 37 = .ok (.iload_n 2, 1) := by decide +kernel
theorem dX8_walk_38 : decode cX8_walk 38 = .ok (.invokevirtual 147, 3) := by decide +kernel
theorem dX8_walk_41 : decode cX8_walk 41 = .ok (.bipush 10, 2) := by decide +kernel
theorem dX8_walk_43 : decode cX8_walk 43 = .ok (.aload_n 0, 1) := by decide +kernel
theorem dX8_walk_44 : decode cX8_walk 44 = .ok (.getfield 22, 3) := by decide +kernel
theorem dX8_walk_47 : decode cX8_walk 47 = .ok (.bipush 7, 2) := by decide +kernel
theorem dX8_walk_49 : decode cX8_walk 49 = .ok (.iload_n 1, 1) := by decide +kernel
theorem dX8_walk_50 : decode cX8_walk 50 = .ok (.iadd, 1) := by decide +kernel
theorem dX8_walk_51 : decode cX8_walk 51 = .ok (.iaload, 1) := by decide +kernel
theorem dX8_walk_52 : decode cX8_walk 52 = .ok (.imul, 1) := by decide +kernel
theorem dX8_walk_53 : decode cX8_walk 53 = .ok (.aload_n 0, 1) := by decide +kernel
theorem dX8_walk_54 : decode cX8_walk 54 = .ok (.getfield 22, 3) := by decide +kernel
theorem dX8_walk_57 : decode cX8_walk 57 = .ok (.bipush 13, 2) := by decide +kernel
theorem dX8_walk_59 : decode cX8_walk 59 = .ok (.iload_n 1, 1) := by decide +kernel
theorem dX8_walk_60 : decode cX8_walk 60 = .ok (.iadd, 1) := by decide +kernel
theorem dX8_walk_61 : decode cX8_walk 61 = .ok (.iaload, 1) := by decide +kernel
theorem dX8_walk_62 : decode cX8_walk 62 = .ok (.iadd, 1) := by decide +kernel
theorem dX8_walk_63 : decode cX8_walk 63 = .ok (.ireturn, 1) := by decide +kernel
theorem dX8_lean_0 : decode cX8_lean 0 = .ok (.aload_n 0, 1) := by decide +kernel
theorem dX8_lean_1 : decode cX8_lean 1 = .ok (.iload_n 1, 1) := by decide +kernel
theorem dX8_lean_2 : decode cX8_lean 2 = .ok (.invokevirtual 116, 3) := by decide +kernel
theorem dX8_lean_5 : decode cX8_lean 5 = .ok (.ifCond .eq 27, 3) := by decide +kernel
theorem dX8_lean_8 : decode cX8_lean 8 = .ok (.aload_n 0, 1) := by decide +kernel
theorem dX8_lean_9 : decode cX8_lean 9 = .ok (.iload_n 2, 1) := by decide +kernel
theorem dX8_lean_10 : decode cX8_lean 10 = .ok (.invokevirtual 116, 3) := by decide +kernel
theorem dX8_lean_13 : decode cX8_lean 13 = .ok (.ifCond .eq 19, 3) := by decide +kernel
theorem dX8_lean_16 : decode cX8_lean 16 = .ok (.iload_n 1, 1) := by decide +kernel
theorem dX8_lean_17 : decode cX8_lean 17 = .ok (.iload_n 2, 1) := by decide +kernel
theorem dX8_lean_18 : decode cX8_lean 18 = .ok (.if_icmp .eq 14, 3) := by decide +kernel
theorem dX8_lean_21 : decode cX8_lean 21 = .ok (.iload_n 3, 1) := by decide +kernel
theorem dX8_lean_22 : decode cX8_lean 22 = .ok (.bipush (-20), 2) := by decide +kernel
theorem dX8_lean_24 : decode cX8_lean 24 = .ok (.bipush 20, 2) := by decide +kernel
theorem dX8_lean_26 : decode cX8_lean 26 = .ok (.invokestatic 53, 3) := by decide +kernel
theorem dX8_lean_29 : decode cX8_lean 29 = .ok (.ifCond .ne 5, 3) := by decide +kernel
theorem dX8_lean_32 : decode cX8_lean 32 = .ok (.iconst (-1), 1) := by decide +kernel
theorem dX8_lean_33 : decode cX8_lean 33 = .ok (.ireturn, 1) := by decide +kernel
theorem dX8_lean_34 : decode cX8_lean 34 = .ok (.aload_n 0, 1) := by decide +kernel
theorem dX8_lean_35 : decode cX8_lean 35 = .ok (.invokevirtual 132, 3) := by decide +kernel
theorem dX8_lean_38 : decode cX8_lean 38 = .ok (.aload_n 0, 1) := by decide +kernel
theorem dX8_lean_39 : decode cX8_lean 39 = .ok (.getfield 22, 3) := by decide +kernel
theorem dX8_lean_42 : decode cX8_lean 42 = .ok (.bipush 19, 2) := by decide +kernel
theorem dX8_lean_44 : decode cX8_lean 44 = .ok (.bipush 6, 2) := by decide +kernel
theorem dX8_lean_46 : decode cX8_lean 46 = .ok (.iload_n 1, 1) := by decide +kernel
theorem dX8_lean_47 : decode cX8_lean 47 = .ok (.imul, 1) := by decide +kernel
theorem dX8_lean_48 : decode cX8_lean 48 = .ok (.iadd, 1) := by decide +kernel
theorem dX8_lean_49 : decode cX8_lean 49 = .ok (.iload_n 2, 1) := by decide +kernel
theorem dX8_lean_50 : decode cX8_lean 50 = .ok (.iadd, 1) := by decide +kernel
theorem dX8_lean_51 : decode cX8_lean 51 = .ok (.iaload, 1) := by decide +kernel
theorem dX8_lean_52 : decode cX8_lean 52 = .ok (.istore 4, 2) := by decide +kernel
theorem dX8_lean_54 : decode cX8_lean 54 = .ok (.aload_n 0, 1) := by decide +kernel
theorem dX8_lean_55 : decode cX8_lean 55 = .ok (.getfield 22, 3) := by decide +kernel
theorem dX8_lean_58 : decode cX8_lean 58 = .ok (.bipush 19, 2) := by decide +kernel
theorem dX8_lean_60 : decode cX8_lean 60 = .ok (.bipush 6, 2) := by decide +kernel
theorem dX8_lean_62 : decode cX8_lean 62 = .ok (.iload_n 1, 1) := by decide +kernel
theorem dX8_lean_63 : decode cX8_lean 63 = .ok (.imul, 1) := by decide +kernel
theorem dX8_lean_64 : decode cX8_lean 64 = .ok (.iadd, 1) := by decide +kernel
theorem dX8_lean_65 : decode cX8_lean 65 = .ok (.iload_n 2, 1) := by decide +kernel
theorem dX8_lean_66 : decode cX8_lean 66 = .ok (.iadd, 1) := by decide +kernel
theorem dX8_lean_67 : decode cX8_lean 67 = .ok (.iload_n 3, 1) := by decide +kernel
theorem dX8_lean_68 : decode cX8_lean 68 = .ok (.iastore, 1) := by decide +kernel
theorem dX8_lean_69 : decode cX8_lean 69 = .ok (.iload 4, 2) := by decide +kernel
theorem dX8_lean_71 : decode cX8_lean 71 = .ok (.bipush 20, 2) := by decide +kernel
theorem dX8_lean_73 : decode cX8_lean 73 = .ok (.iadd, 1) := by decide +kernel
theorem dX8_lean_74 : decode cX8_lean 74 = .ok (.ireturn, 1) := by decide +kernel
theorem dX8_undo_0 : decode cX8_undo 0 = .ok (.aload_n 0, 1) := by decide +kernel
theorem dX8_undo_1 : decode cX8_undo 1 = .ok (.getfield 90, 3) := by decide +kernel
theorem dX8_undo_4 : decode cX8_undo 4 = .ok (.ifCond .ne 6, 3) := by decide +kernel
theorem dX8_undo_7 : decode cX8_undo 7 = .ok (.bipush (-2), 2) := by decide +kernel
theorem dX8_undo_9 : decode cX8_undo 9 = .ok (.ireturn, 1) := by decide +kernel
theorem dX8_undo_10 : decode cX8_undo 10 = .ok (.aload_n 0, 1) := by decide +kernel
theorem dX8_undo_11 : decode cX8_undo 11 = .ok (.dup, 1) := by decide +kernel
theorem dX8_undo_12 : decode cX8_undo 12 = .ok (.getfield 90, 3) := by decide +kernel
theorem dX8_undo_15 : decode cX8_undo 15 = .ok (.iconst 1, 1) := by decide +kernel
theorem dX8_undo_16 : decode cX8_undo 16 = .ok (.isub, 1) := by decide +kernel
theorem dX8_undo_17 : decode cX8_undo 17 = .ok (.putfield 90, 3) := by decide +kernel
theorem dX8_undo_20 : decode cX8_undo 20 = .ok (.iconst 0, 1) := by decide +kernel
theorem dX8_undo_21 : decode cX8_undo 21 = .ok (.istore_n 1, 1) := by decide +kernel
theorem dX8_undo_22 : decode cX8_undo 22 = .ok (.iload_n 1, 1) := by decide +kernel
theorem dX8_undo_23 : decode cX8_undo 23 = .ok (.bipush 55, 2) := by decide +kernel
theorem dX8_undo_25 : decode cX8_undo 25 = .ok (.if_icmp .ge 29, 3) := by decide +kernel
theorem dX8_undo_28 : decode cX8_undo 28 = .ok (.aload_n 0, 1) := by decide +kernel
theorem dX8_undo_29 : decode cX8_undo 29 = .ok (.getfield 22, 3) := by decide +kernel
theorem dX8_undo_32 : decode cX8_undo 32 = .ok (.iload_n 1, 1) := by decide +kernel
theorem dX8_undo_33 : decode cX8_undo 33 = .ok (.aload_n 0, 1) := by decide +kernel
theorem dX8_undo_34 : decode cX8_undo 34 = .ok (.getfield 25, 3) := by decide +kernel
theorem dX8_undo_37 : decode cX8_undo 37 = .ok (.bipush 55, 2) := by decide +kernel
theorem dX8_undo_39 : decode cX8_undo 39 = .ok (.aload_n 0, 1) := by decide +kernel
theorem dX8_undo_40 : decode cX8_undo 40 = .ok (.getfield 90, 3) := by decide +kernel
theorem dX8_undo_43 : decode cX8_undo 43 = .ok (.imul, 1) := by decide +kernel
theorem dX8_undo_44 : decode cX8_undo 44 = .ok (.iload_n 1, 1) := by decide +kernel
theorem dX8_undo_45 : decode cX8_undo 45 = .ok (.iadd, 1) := by decide +kernel
theorem dX8_undo_46 : decode cX8_undo 46 = .ok (.iaload, 1) := by decide +kernel
theorem dX8_undo_47 : decode cX8_undo 47 = .ok (.iastore, 1) := by decide +kernel
theorem dX8_undo_48 : decode cX8_undo 48 = .ok (.iinc 1 1, 3) := by decide +kernel
theorem dX8_undo_51 : decode cX8_undo 51 = .ok (.goto (-29), 3) := by decide +kernel
theorem dX8_undo_54 : decode cX8_undo 54 = .ok (.aload_n 0, 1) := by decide +kernel
theorem dX8_undo_55 : decode cX8_undo 55 = .ok (.getfield 90, 3) := by decide +kernel
theorem dX8_undo_58 : decode cX8_undo 58 = .ok (.ireturn, 1) := by decide +kernel
theorem dX8_towardOf_0 : decode cX8_towardOf 0 = .ok (.iconst 0, 1) := by decide +kernel
theorem dX8_towardOf_1 : decode cX8_towardOf 1 = .ok (.istore_n 2, 1) := by decide +kernel
theorem dX8_towardOf_2 : decode cX8_towardOf 2 = .ok (.iconst 0, 1) := by decide +kernel
theorem dX8_towardOf_3 : decode cX8_towardOf 3 = .ok (.istore_n 3, 1) := by decide +kernel
theorem dX8_towardOf_4 : decode cX8_towardOf 4 = .ok (.iload_n 3, 1) := by decide +kernel
theorem dX8_towardOf_5 : decode cX8_towardOf 5 = .ok (.aload_n 0, 1) := by decide +kernel
theorem dX8_towardOf_6 : decode cX8_towardOf 6 = .ok (.getfield 13, 3) := by decide +kernel
theorem dX8_towardOf_9 : decode cX8_towardOf 9 = .ok (.iconst 2, 1) := by decide +kernel
theorem dX8_towardOf_10 : decode cX8_towardOf 10 = .ok (.iaload, 1) := by decide +kernel
theorem dX8_towardOf_11 : decode cX8_towardOf 11 = .ok (.if_icmp .ge 88, 3) := by decide +kernel
theorem dX8_towardOf_14 : decode cX8_towardOf 14 = .ok (.iload_n 3, 1) := by decide +kernel
theorem dX8_towardOf_15 : decode cX8_towardOf 15 = .ok (.iload_n 1, 1) := by decide +kernel
theorem dX8_towardOf_16 : decode cX8_towardOf 16 = .ok (.if_icmp .eq 59, 3) := by decide +kernel
theorem dX8_towardOf_19 : decode cX8_towardOf 19 = .ok (.aload_n 0, 1) := by decide +kernel
theorem dX8_towardOf_20 : decode cX8_towardOf 20 = .ok (.getfield 22, 3) := by decide +kernel
theorem dX8_towardOf_23 : decode cX8_towardOf 23 = .ok (.bipush 7, 2) := by decide +kernel
theorem dX8_towardOf_25 : decode cX8_towardOf 25 = .ok (.iload_n 3, 1) := by decide +kernel
theorem dX8_towardOf_26 : decode cX8_towardOf 26 = .ok (.iadd, 1) := by decide +kernel
theorem dX8_towardOf_27 : decode cX8_towardOf 27 = .ok (.iaload, 1) := by decide +kernel
theorem dX8_towardOf_28 : decode cX8_towardOf 28 = .ok (.aload_n 0, 1) := by decide +kernel
theorem dX8_towardOf_29 : decode cX8_towardOf 29 = .ok (.getfield 22, 3) := by decide +kernel
theorem dX8_towardOf_32 : decode cX8_towardOf 32 = .ok (.bipush 7, 2) := by decide +kernel
theorem dX8_towardOf_34 : decode cX8_towardOf 34 = .ok (.iload_n 1, 1) := by decide +kernel
theorem dX8_towardOf_35 : decode cX8_towardOf 35 = .ok (.iadd, 1) := by decide +kernel
theorem dX8_towardOf_36 : decode cX8_towardOf 36 = .ok (.iaload, 1) := by decide +kernel
theorem dX8_towardOf_37 : decode cX8_towardOf 37 = .ok (.isub, 1) := by decide +kernel
theorem dX8_towardOf_38 : decode cX8_towardOf 38 = .ok (.aload_n 0, 1) := by decide +kernel
theorem dX8_towardOf_39 : decode cX8_towardOf 39 = .ok (.getfield 22, 3) := by decide +kernel
theorem dX8_towardOf_42 : decode cX8_towardOf 42 = .ok (.bipush 13, 2) := by decide +kernel
theorem dX8_towardOf_44 : decode cX8_towardOf 44 = .ok (.iload_n 3, 1) := by decide +kernel
theorem dX8_towardOf_45 : decode cX8_towardOf 45 = .ok (.iadd, 1) := by decide +kernel
theorem dX8_towardOf_46 : decode cX8_towardOf 46 = .ok (.iaload, 1) := by decide +kernel
theorem dX8_towardOf_47 : decode cX8_towardOf 47 = .ok (.aload_n 0, 1) := by decide +kernel
theorem dX8_towardOf_48 : decode cX8_towardOf 48 = .ok (.getfield 22, 3) := by decide +kernel
theorem dX8_towardOf_51 : decode cX8_towardOf 51 = .ok (.bipush 13, 2) := by decide +kernel
theorem dX8_towardOf_53 : decode cX8_towardOf 53 = .ok (.iload_n 1, 1) := by decide +kernel
theorem dX8_towardOf_54 : decode cX8_towardOf 54 = .ok (.iadd, 1) := by decide +kernel
theorem dX8_towardOf_55 : decode cX8_towardOf 55 = .ok (.iaload, 1) := by decide +kernel
theorem dX8_towardOf_56 : decode cX8_towardOf 56 = .ok (.isub, 1) := by decide +kernel
theorem dX8_towardOf_57 : decode cX8_towardOf 57 = .ok (.invokestatic 106, 3) := by decide +kernel
theorem dX8_towardOf_60 : decode cX8_towardOf 60 = .ok (.aload_n 0, 1) := by decide +kernel
theorem dX8_towardOf_61 : decode cX8_towardOf 61 = .ok (.getfield 22, 3) := by decide +kernel
theorem dX8_towardOf_64 : decode cX8_towardOf 64 = .ok (.iconst 1, 1) := by decide +kernel
theorem dX8_towardOf_65 : decode cX8_towardOf 65 = .ok (.iload_n 1, 1) := by decide +kernel
theorem dX8_towardOf_66 : decode cX8_towardOf 66 = .ok (.iadd, 1) := by decide +kernel
theorem dX8_towardOf_67 : decode cX8_towardOf 67 = .ok (.iaload, 1) := by decide +kernel
theorem dX8_towardOf_68 : decode cX8_towardOf 68 = .ok (.if_icmp .ne 7, 3) := by decide +kernel
theorem dX8_towardOf_71 : decode cX8_towardOf 71 = .ok (.iconst 1, 1) := by decide +kernel
theorem dX8_towardOf_72 : decode cX8_towardOf 72 = .ok (.goto 4, 3) := by decide +kernel
theorem dX8_towardOf_75 : decode cX8_towardOf 75 = .ok (.iconst 0, 1) := by decide +kernel
theorem dX8_towardOf_76 : decode cX8_towardOf 76 = .ok (.istore 4, 2) := by decide +kernel
theorem dX8_towardOf_78 : decode cX8_towardOf 78 = .ok (.iload_n 2, 1) := by decide +kernel
theorem dX8_towardOf_79 : decode cX8_towardOf 79 = .ok (.iload 4, 2) := by decide +kernel
theorem dX8_towardOf_81 : decode cX8_towardOf 81 = .ok (.ifCond .eq 9, 3) := by decide +kernel
theorem dX8_towardOf_84 : decode cX8_towardOf 84 = .ok (.iconst 1, 1) := by decide +kernel
theorem dX8_towardOf_85 : decode cX8_towardOf 85 = .ok (.iload_n 3, 1) := by decide +kernel
theorem dX8_towardOf_86 : decode cX8_towardOf 86 = .ok (.ishl, 1) := by decide +kernel
theorem dX8_towardOf_87 : decode cX8_towardOf 87 = .ok (.goto 4, 3) := by decide +kernel
theorem dX8_towardOf_90 : decode cX8_towardOf 90 = .ok (.iconst 0, 1) := by decide +kernel
theorem dX8_towardOf_91 : decode cX8_towardOf 91 = .ok (.ior, 1) := by decide +kernel
theorem dX8_towardOf_92 : decode cX8_towardOf 92 = .ok (.istore_n 2, 1) := by decide +kernel
theorem dX8_towardOf_93 : decode cX8_towardOf 93 = .ok (.iinc 3 1, 3) := by decide +kernel
theorem dX8_towardOf_96 : decode cX8_towardOf 96 = .ok (.goto (-92), 3) := by decide +kernel
theorem dX8_towardOf_99 : decode cX8_towardOf 99 = .ok (.iload_n 2, 1) := by decide +kernel
theorem dX8_towardOf_100 : decode cX8_towardOf 100 = .ok (.ireturn, 1) := by decide +kernel
theorem dX8_toward_0 : decode cX8_toward 0 = .ok (.aload_n 0, 1) := by decide +kernel
theorem dX8_toward_1 : decode cX8_toward 1 = .ok (.iload_n 1, 1) := by decide +kernel
theorem dX8_toward_2 : decode cX8_toward 2 = .ok (.invokevirtual 116, 3) := by decide +kernel
theorem dX8_toward_5 : decode cX8_toward 5 = .ok (.ifCond .eq 11, 3) := by decide +kernel
theorem dX8_toward_8 : decode cX8_toward 8 = .ok (.aload_n 0, 1) := by decide +kernel
theorem dX8_toward_9 : decode cX8_toward 9 = .ok (.iload_n 1, 1) := by decide +kernel
theorem dX8_toward_10 : decode cX8_toward 10 = .ok (.invokevirtual 151, 3) := by decide +kernel
theorem dX8_toward_13 : decode cX8_toward 13 = .ok (.goto 4, 3) := by decide +kernel
theorem dX8_toward_16 : decode cX8_toward 16 = .ok (.iconst (-1), 1) := by decide +kernel
theorem dX8_toward_17 : decode cX8_toward 17 = .ok (.ireturn, 1) := by decide +kernel
theorem dX8_looked_0 : decode cX8_looked 0 = .ok (.iload_n 1, 1) := by decide +kernel
theorem dX8_looked_1 : decode cX8_looked 1 = .ok (.iconst 0, 1) := by decide +kernel
theorem dX8_looked_2 : decode cX8_looked 2 = .ok (.iconst 1, 1) := by decide +kernel
theorem dX8_looked_3 : decode cX8_looked 3 = .ok (.invokestatic 53, 3) := by decide +kernel
theorem dX8_looked_6 : decode cX8_looked 6 = .ok (.ifCond .ne 5, 3) := by decide +kernel
theorem dX8_looked_9 : decode cX8_looked 9 = .ok (.iconst (-1), 1) := by decide +kernel
theorem dX8_looked_10 : decode cX8_looked 10 = .ok (.ireturn, 1) := by decide +kernel
theorem dX8_looked_11 : decode cX8_looked 11 = .ok (.bipush (-4), 2) := by decide +kernel
theorem dX8_looked_13 : decode cX8_looked 13 = .ok (.istore_n 2, 1) := by decide +kernel
theorem dX8_looked_14 : decode cX8_looked 14 = .ok (.iconst (-1), 1) := by decide +kernel
theorem dX8_looked_15 : decode cX8_looked 15 = .ok (.istore_n 3, 1) := by decide +kernel
theorem dX8_looked_16 : decode cX8_looked 16 = .ok (.iconst 0, 1) := by decide +kernel
theorem dX8_looked_17 : decode cX8_looked 17 = .ok (.istore 4, 2) := by decide +kernel
theorem dX8_looked_19 : decode cX8_looked 19 = .ok (.iload 4, 2) := by decide +kernel
theorem dX8_looked_21 : decode cX8_looked 21 = .ok (.aload_n 0, 1) := by decide +kernel
theorem dX8_looked_22 : decode cX8_looked 22 = .ok (.getfield 13, 3) := by decide +kernel
theorem dX8_looked_25 : decode cX8_looked 25 = .ok (.iconst 2, 1) := by decide +kernel
theorem dX8_looked_26 : decode cX8_looked 26 = .ok (.iaload, 1) := by decide +kernel
theorem dX8_looked_27 : decode cX8_looked 27 = .ok (.if_icmp .ge 74, 3) := by decide +kernel
theorem dX8_looked_30 : decode cX8_looked 30 = .ok (.iconst 0, 1) := by decide +kernel
theorem dX8_looked_31 : decode cX8_looked 31 = .ok (.istore 5, 2) := by decide +kernel
theorem dX8_looked_33 : decode cX8_looked 33 = .ok (.iconst 0, 1) := by decide +kernel
theorem dX8_looked_34 : decode cX8_looked 34 = .ok (.istore 6, 2) := by decide +kernel
theorem dX8_looked_36 : decode cX8_looked 36 = .ok (.iload 6, 2) := by decide +kernel
theorem dX8_looked_38 : decode cX8_looked 38 = .ok (.aload_n 0, 1) := by decide +kernel
theorem dX8_looked_39 : decode cX8_looked 39 = .ok (.getfield 13, 3) := by decide +kernel
theorem dX8_looked_42 : decode cX8_looked 42 = .ok (.iconst 2, 1) := by decide +kernel
theorem dX8_looked_43 : decode cX8_looked 43 = .ok (.iaload, 1) := by decide +kernel
theorem dX8_looked_44 : decode cX8_looked 44 = .ok (.if_icmp .ge 25, 3) := by decide +kernel
theorem dX8_looked_47 : decode cX8_looked 47 = .ok (.iload 5, 2) := by decide +kernel
theorem dX8_looked_49 : decode cX8_looked 49 = .ok (.aload_n 0, 1) := by decide +kernel
theorem dX8_looked_50 : decode cX8_looked 50 = .ok (.iload 6, 2) := by decide +kernel
theorem dX8_looked_52 : decode cX8_looked 52 = .ok (.invokevirtual 151, 3) := by decide +kernel
theorem dX8_looked_55 : decode cX8_looked 55 = .ok (.iload 4, 2) := by decide +kernel
theorem dX8_looked_57 : decode cX8_looked 57 = .ok (.ishr, 1) := by decide +kernel
theorem dX8_looked_58 : decode cX8_looked 58 = .ok (.iconst 1, 1) := by decide +kernel
theorem dX8_looked_59 : decode cX8_looked 59 = .ok (.iand, 1) := by decide +kernel
theorem dX8_looked_60 : decode cX8_looked 60 = .ok (.iadd, 1) := by decide +kernel
theorem dX8_looked_61 : decode cX8_looked 61 = .ok (.istore 5, 2) := by decide +kernel
theorem dX8_looked_63 : decode cX8_looked 63 = .ok (.iinc 6 1, 3) := by decide +kernel
theorem dX8_looked_66 : decode cX8_looked 66 = .ok (.goto (-30), 3) := by decide +kernel
theorem dX8_looked_69 : decode cX8_looked 69 = .ok (.iload 5, 2) := by decide +kernel
theorem dX8_looked_71 : decode cX8_looked 71 = .ok (.iload_n 3, 1) := by decide +kernel
theorem dX8_looked_72 : decode cX8_looked 72 = .ok (.if_icmp .le 8, 3) := by decide +kernel
theorem dX8_looked_75 : decode cX8_looked 75 = .ok (.iload 4, 2) := by decide +kernel
theorem dX8_looked_77 : decode cX8_looked 77 = .ok (.goto 4, 3) := by decide +kernel
theorem dX8_looked_80 : decode cX8_looked 80 = .ok (.iload_n 2, 1) := by decide +kernel
theorem dX8_looked_81 : decode cX8_looked 81 = .ok (.istore_n 2, 1) := by decide +kernel
theorem dX8_looked_82 : decode cX8_looked 82 = .ok (.iload 5, 2) := by decide +kernel
theorem dX8_looked_84 : decode cX8_looked 84 = .ok (.iload_n 3, 1) := by decide +kernel
theorem dX8_looked_85 : decode cX8_looked 85 = .ok (.if_icmp .le 8, 3) := by decide +kernel
theorem dX8_looked_88 : decode cX8_looked 88 = .ok (.iload 5, 2) := by decide +kernel
theorem dX8_looked_90 : decode cX8_looked 90 = .ok (.goto 4, 3) := by decide +kernel
theorem dX8_looked_93 : decode cX8_looked 93 = .ok (.iload_n 3, 1) := by decide +kernel
theorem dX8_looked_94 : decode cX8_looked 94 = .ok (.istore_n 3, 1) := by decide +kernel
theorem dX8_looked_95 : decode cX8_looked 95 = .ok (.iinc 4 1, 3) := by decide +kernel
theorem dX8_looked_98 : decode cX8_looked 98 = .ok (.goto (-79), 3) := by decide +kernel
theorem dX8_looked_101 : decode cX8_looked 101 = .ok (.iload_n 1, 1) := by decide +kernel
theorem dX8_looked_102 : decode cX8_looked 102 = .ok (.ifCond .ne 7, 3) := by decide +kernel
theorem dX8_looked_105 : decode cX8_looked 105 = .ok (.iload_n 2, 1) := by decide +kernel
theorem dX8_looked_106 : decode cX8_looked 106 = .ok (.goto 4, 3) := by decide +kernel
theorem dX8_looked_109 : decode cX8_looked 109 = .ok (.iload_n 3, 1) := by decide +kernel
theorem dX8_looked_110 : decode cX8_looked 110 = .ok (.ireturn, 1) := by decide +kernel
theorem dX8_holds_0 : decode cX8_holds 0 = .ok (.iconst 0, 1) := by decide +kernel
theorem dX8_holds_1 : decode cX8_holds 1 = .ok (.istore_n 1, 1) := by decide +kernel
theorem dX8_holds_2 : decode cX8_holds 2 = .ok (.iload_n 1, 1) := by decide +kernel
theorem dX8_holds_3 : decode cX8_holds 3 = .ok (.bipush 55, 2) := by decide +kernel
theorem dX8_holds_5 : decode cX8_holds 5 = .ok (.if_icmp .ge 21, 3) := by decide +kernel
theorem dX8_holds_8 : decode cX8_holds 8 = .ok (.aload_n 0, 1) := by decide +kernel
theorem dX8_holds_9 : decode cX8_holds 9 = .ok (.getfield 34, 3) := by decide +kernel
theorem dX8_holds_12 : decode cX8_holds 12 = .ok (.iload_n 1, 1) := by decide +kernel
theorem dX8_holds_13 : decode cX8_holds 13 = .ok (.aload_n 0, 1) := by decide +kernel
theorem dX8_holds_14 : decode cX8_holds 14 = .ok (.getfield 22, 3) := by decide +kernel
theorem dX8_holds_17 : decode cX8_holds 17 = .ok (.iload_n 1, 1) := by decide +kernel
theorem dX8_holds_18 : decode cX8_holds 18 = .ok (.iaload, 1) := by decide +kernel
theorem dX8_holds_19 : decode cX8_holds 19 = .ok (.iastore, 1) := by decide +kernel
theorem dX8_holds_20 : decode cX8_holds 20 = .ok (.iinc 1 1, 3) := by decide +kernel
theorem dX8_holds_23 : decode cX8_holds 23 = .ok (.goto (-21), 3) := by decide +kernel
theorem dX8_holds_26 : decode cX8_holds 26 = .ok (.return_, 1) := by decide +kernel
theorem dX8_lets_0 : decode cX8_lets 0 = .ok (.iconst 0, 1) := by decide +kernel
theorem dX8_lets_1 : decode cX8_lets 1 = .ok (.istore_n 1, 1) := by decide +kernel
theorem dX8_lets_2 : decode cX8_lets 2 = .ok (.iload_n 1, 1) := by decide +kernel
theorem dX8_lets_3 : decode cX8_lets 3 = .ok (.bipush 55, 2) := by decide +kernel
theorem dX8_lets_5 : decode cX8_lets 5 = .ok (.if_icmp .ge 21, 3) := by decide +kernel
theorem dX8_lets_8 : decode cX8_lets 8 = .ok (.aload_n 0, 1) := by decide +kernel
theorem dX8_lets_9 : decode cX8_lets 9 = .ok (.getfield 22, 3) := by decide +kernel
theorem dX8_lets_12 : decode cX8_lets 12 = .ok (.iload_n 1, 1) := by decide +kernel
theorem dX8_lets_13 : decode cX8_lets 13 = .ok (.aload_n 0, 1) := by decide +kernel
theorem dX8_lets_14 : decode cX8_lets 14 = .ok (.getfield 34, 3) := by decide +kernel
theorem dX8_lets_17 : decode cX8_lets 17 = .ok (.iload_n 1, 1) := by decide +kernel
theorem dX8_lets_18 : decode cX8_lets 18 = .ok (.iaload, 1) := by decide +kernel
theorem dX8_lets_19 : decode cX8_lets 19 = .ok (.iastore, 1) := by decide +kernel
theorem dX8_lets_20 : decode cX8_lets 20 = .ok (.iinc 1 1, 3) := by decide +kernel
theorem dX8_lets_23 : decode cX8_lets 23 = .ok (.goto (-21), 3) := by decide +kernel
theorem dX8_lets_26 : decode cX8_lets 26 = .ok (.return_, 1) := by decide +kernel
theorem dX8_behindOf_0 : decode cX8_behindOf 0 = .ok (.aload_n 0, 1) := by decide +kernel
theorem dX8_behindOf_1 : decode cX8_behindOf 1 = .ok (.invokevirtual 154, 3) := by decide +kernel
theorem dX8_behindOf_4 : decode cX8_behindOf 4 = .ok (.iconst 0, 1) := by decide +kernel
theorem dX8_behindOf_5 : decode cX8_behindOf 5 = .ok (.istore_n 3, 1) := by decide +kernel
theorem dX8_behindOf_6 : decode cX8_behindOf 6 = .ok (.iload_n 3, 1) := by decide +kernel
theorem dX8_behindOf_7 : decode cX8_behindOf 7 = .ok (.iload_n 1, 1) := by decide +kernel
theorem dX8_behindOf_8 : decode cX8_behindOf 8 = .ok (.if_icmp .ge 14, 3) := by decide +kernel
theorem dX8_behindOf_11 : decode cX8_behindOf 11 = .ok (.aload_n 0, 1) := by decide +kernel
theorem dX8_behindOf_12 : decode cX8_behindOf 12 = .ok (.invokevirtual 135, 3) := by decide +kernel
theorem dX8_behindOf_15 : decode cX8_behindOf 15 = .ok (.pop, 1) := by decide +kernel
theorem dX8_behindOf_16 : decode cX8_behindOf 16 = .ok (.iinc 3 1, 3) := by decide +kernel
theorem dX8_behindOf_19 : decode cX8_behindOf 19 = .ok (.goto (-13), 3) := by decide +kernel
theorem dX8_behindOf_22 : decode cX8_behindOf 22 = .ok (.aload_n 0, 1) := by decide +kernel
theorem dX8_behindOf_23 : decode cX8_behindOf 23 = .ok (.getfield 22, 3) := by decide +kernel
theorem dX8_behindOf_26 : decode cX8_behindOf 26 = .ok (.iconst 1, 1) := by decide +kernel
theorem dX8_behindOf_27 : decode cX8_behindOf 27 = .ok (.iload_n 2, 1) := by decide +kernel
theorem dX8_behindOf_28 : decode cX8_behindOf 28 = .ok (.iadd, 1) := by decide +kernel
theorem dX8_behindOf_29 : decode cX8_behindOf 29 = .ok (.iaload, 1) := by decide +kernel
theorem dX8_behindOf_30 : decode cX8_behindOf 30 = .ok (.istore_n 3, 1) := by decide +kernel
theorem dX8_behindOf_31 : decode cX8_behindOf 31 = .ok (.aload_n 0, 1) := by decide +kernel
theorem dX8_behindOf_32 : decode cX8_behindOf 32 = .ok (.invokevirtual 157, 3) := by decide +kernel
theorem dX8_behindOf_35 : decode cX8_behindOf 35 = .ok (.iload_n 3, 1) := by decide +kernel
theorem dX8_behindOf_36 : decode cX8_behindOf 36 = .ok (.ireturn, 1) := by decide +kernel
theorem dX8_behind_0 : decode cX8_behind 0 = .ok (.iload_n 1, 1) := by decide +kernel
theorem dX8_behind_1 : decode cX8_behind 1 = .ok (.iconst 0, 1) := by decide +kernel
theorem dX8_behind_2 : decode cX8_behind 2 = .ok (.bipush 40, 2) := by decide +kernel
theorem dX8_behind_4 : decode cX8_behind 4 = .ok (.invokestatic 53, 3) := by decide +kernel
theorem dX8_behind_7 : decode cX8_behind 7 = .ok (.ifCond .eq 20, 3) := by decide +kernel
theorem dX8_behind_10 : decode cX8_behind 10 = .ok (.aload_n 0, 1) := by decide +kernel
theorem dX8_behind_11 : decode cX8_behind 11 = .ok (.iload_n 2, 1) := by decide +kernel
theorem dX8_behind_12 : decode cX8_behind 12 = .ok (.invokevirtual 116, 3) := by decide +kernel
theorem dX8_behind_15 : decode cX8_behind 15 = .ok (.ifCond .eq 12, 3) := by decide +kernel
theorem dX8_behind_18 : decode cX8_behind 18 = .ok (.aload_n 0, 1) := by decide +kernel
theorem dX8_behind_19 : decode cX8_behind 19 = .ok (.iload_n 1, 1) := by decide +kernel
theorem dX8_behind_20 : decode cX8_behind 20 = .ok (.iload_n 2, 1) := by decide +kernel
theorem dX8_behind_21 : decode cX8_behind 21 = .ok (.invokevirtual 160, 3) := by decide +kernel
theorem dX8_behind_24 : decode cX8_behind 24 = .ok (.goto 4, 3) := by decide +kernel
theorem dX8_behind_27 : decode cX8_behind 27 = .ok (.iconst (-1), 1) := by decide +kernel
theorem dX8_behind_28 : decode cX8_behind 28 = .ok (.ireturn, 1) := by decide +kernel
theorem dX8_settled_0 : decode cX8_settled 0 = .ok (.aload_n 0, 1) := by decide +kernel
theorem dX8_settled_1 : decode cX8_settled 1 = .ok (.invokevirtual 154, 3) := by decide +kernel
theorem dX8_settled_4 : decode cX8_settled 4 = .ok (.iconst 0, 1) := by decide +kernel
theorem dX8_settled_5 : decode cX8_settled 5 = .ok (.istore_n 1, 1) := by decide +kernel
theorem dX8_settled_6 : decode cX8_settled 6 = .ok (.iload_n 1, 1) := by decide +kernel
theorem dX8_settled_7 : decode cX8_settled 7 = .ok (.bipush 20, 2) := by decide +kernel
theorem dX8_settled_9 : decode cX8_settled 9 = .ok (.if_icmp .gt 16, 3) := by decide +kernel
theorem dX8_settled_12 : decode cX8_settled 12 = .ok (.aload_n 0, 1) := by decide +kernel
theorem dX8_settled_13 : decode cX8_settled 13 = .ok (.invokevirtual 135, 3) := by decide +kernel
theorem dX8_settled_16 : decode cX8_settled 16 = .ok (.ifCond .le 9, 3) := by decide +kernel
theorem dX8_settled_19 : decode cX8_settled 19 = .ok (.iinc 1 1, 3) := by decide +kernel
theorem dX8_settled_22 : decode cX8_settled 22 = .ok (.goto (-16), 3) := by decide +kernel
theorem dX8_settled_25 : decode cX8_settled 25 = .ok (.aload_n 0, 1) := by decide +kernel
theorem dX8_settled_26 : decode cX8_settled 26 = .ok (.invokevirtual 157, 3) := by decide +kernel
theorem dX8_settled_29 : decode cX8_settled 29 = .ok (.iload_n 1, 1) := by decide +kernel
theorem dX8_settled_30 : decode cX8_settled 30 = .ok (.bipush 20, 2) := by decide +kernel
theorem dX8_settled_32 : decode cX8_settled 32 = .ok (.if_icmp .le 8, 3) := by decide +kernel
theorem dX8_settled_35 : decode cX8_settled 35 = .ok (.bipush (-4), 2) := by decide +kernel
theorem dX8_settled_37 : decode cX8_settled 37 = .ok (.goto 4, 3) := by decide +kernel
theorem dX8_settled_40 : decode cX8_settled 40 = .ok (.iload_n 1, 1) := by decide +kernel
theorem dX8_settled_41 : decode cX8_settled 41 = .ok (.ireturn, 1) := by decide +kernel
theorem dX8_puts_0 : decode cX8_puts 0 = .ok (.aload_n 0, 1) := by decide +kernel
theorem dX8_puts_1 : decode cX8_puts 1 = .ok (.getfield 22, 3) := by decide +kernel
theorem dX8_puts_4 : decode cX8_puts 4 = .ok (.bipush 7, 2) := by decide +kernel
theorem dX8_puts_6 : decode cX8_puts 6 = .ok (.iload_n 1, 1) := by decide +kernel
theorem dX8_puts_7 : decode cX8_puts 7 = .ok (.iadd, 1) := by decide +kernel
theorem dX8_puts_8 : decode cX8_puts 8 = .ok (.iload_n 2, 1) := by decide +kernel
theorem dX8_puts_9 : decode cX8_puts 9 = .ok (.bipush 9, 2) := by decide +kernel
theorem dX8_puts_11 : decode cX8_puts 11 = .ok (.idiv, 1) := by decide +kernel
theorem dX8_puts_12 : decode cX8_puts 12 = .ok (.iastore, 1) := by decide +kernel
theorem dX8_puts_13 : decode cX8_puts 13 = .ok (.aload_n 0, 1) := by decide +kernel
theorem dX8_puts_14 : decode cX8_puts 14 = .ok (.getfield 22, 3) := by decide +kernel
theorem dX8_puts_17 : decode cX8_puts 17 = .ok (.bipush 13, 2) := by decide +kernel
theorem dX8_puts_19 : decode cX8_puts 19 = .ok (.iload_n 1, 1) := by decide +kernel
theorem dX8_puts_20 : decode cX8_puts 20 = .ok (.iadd, 1) := by decide +kernel
theorem dX8_puts_21 : decode cX8_puts 21 = .ok (.iload_n 2, 1) := by decide +kernel
theorem dX8_puts_22 : decode cX8_puts 22 = .ok (.bipush 9, 2) := by decide +kernel
theorem dX8_puts_24 : decode cX8_puts 24 = .ok (.irem, 1) := by decide +kernel
theorem dX8_puts_25 : decode cX8_puts 25 = .ok (.iastore, 1) := by decide +kernel
theorem dX8_puts_26 : decode cX8_puts 26 = .ok (.return_, 1) := by decide +kernel
theorem dX8_measures_0 : decode cX8_measures 0 = .ok (.aload_n 0, 1) := by decide +kernel
theorem dX8_measures_1 : decode cX8_measures 1 = .ok (.invokevirtual 154, 3) := by decide +kernel
theorem dX8_measures_4 : decode cX8_measures 4 = .ok (.iconst 0, 1) := by decide +kernel
theorem dX8_measures_5 : decode cX8_measures 5 = .ok (.istore_n 3, 1) := by decide +kernel
theorem dX8_measures_6 : decode cX8_measures 6 = .ok (.iload_n 3, 1) := by decide +kernel
theorem dX8_measures_7 : decode cX8_measures 7 = .ok (.bipush 81, 2) := by decide +kernel
theorem dX8_measures_9 : decode cX8_measures 9 = .ok (.if_icmp .ge 82, 3) := by decide +kernel
theorem dX8_measures_12 : decode cX8_measures 12 = .ok (.aload_n 0, 1) := by decide +kernel
theorem dX8_measures_13 : decode cX8_measures 13 = .ok (.iload_n 3, 1) := by decide +kernel
theorem dX8_measures_14 : decode cX8_measures 14 = .ok (.bipush 9, 2) := by decide +kernel
theorem dX8_measures_16 : decode cX8_measures 16 = .ok (.idiv, 1) := by decide +kernel
theorem dX8_measures_17 : decode cX8_measures 17 = .ok (.iload_n 3, 1) := by decide +kernel
theorem dX8_measures_18 : decode cX8_measures 18 = .ok (.bipush 9, 2) := by decide +kernel
theorem dX8_measures_20 : decode cX8_measures 20 = .ok (.irem, 1) := by decide +kernel
theorem dX8_measures_21 : decode cX8_measures 21 = .ok (.invokevirtual 122, 3) := by decide +kernel
theorem dX8_measures_24 : decode cX8_measures 24 = .ok (.ifCond .eq 40, 3) := by decide +kernel
theorem dX8_measures_27 : decode cX8_measures 27 = .ok (.aload_n 0, 1) := by decide +kernel
theorem dX8_measures_28 : decode cX8_measures 28 = .ok (.iload_n 3, 1) := by decide +kernel
theorem dX8_measures_29 : decode cX8_measures 29 = .ok (.bipush 9, 2) := by decide +kernel
theorem dX8_measures_31 : decode cX8_measures 31 = .ok (.idiv, 1) := by decide +kernel
theorem dX8_measures_32 : decode cX8_measures 32 = .ok (.iload_n 3, 1) := by decide +kernel
theorem dX8_measures_33 : decode cX8_measures 33 = .ok (.bipush 9, 2) := by decide +kernel
theorem dX8_measures_35 : decode cX8_measures 35 = .ok (.irem, 1) := by decide +kernel
theorem dX8_measures_36 : decode cX8_measures 36 = .ok (.invokevirtual 126, 3) := by decide +kernel
theorem dX8_measures_39 : decode cX8_measures 39 = .ok (.bipush (-4), 2) := by decide +kernel
theorem dX8_measures_41 : decode cX8_measures 41 = .ok (.if_icmp .eq 19, 3) := by decide +kernel
theorem dX8_measures_44 : decode cX8_measures 44 = .ok (.aload_n 0, 1) := by decide +kernel
theorem dX8_measures_45 : decode cX8_measures 45 = .ok (.iload_n 3, 1) := by decide +kernel
theorem dX8_measures_46 : decode cX8_measures 46 = .ok (.bipush 9, 2) := by decide +kernel
theorem dX8_measures_48 : decode cX8_measures 48 = .ok (.idiv, 1) := by decide +kernel
theorem dX8_measures_49 : decode cX8_measures 49 = .ok (.iload_n 3, 1) := by decide +kernel
theorem dX8_measures_50 : decode cX8_measures 50 = .ok (.bipush 9, 2) := by decide +kernel
theorem dX8_measures_52 : decode cX8_measures 52 = .ok (.irem, 1) := by decide +kernel
theorem dX8_measures_53 : decode cX8_measures 53 = .ok (.invokevirtual 126, 3) := by decide +kernel
theorem dX8_measures_56 : decode cX8_measures 56 = .ok (.iload_n 1, 1) := by decide +kernel
theorem dX8_measures_57 : decode cX8_measures 57 = .ok (.if_icmp .ne 7, 3) := by decide +kernel
theorem dX8_measures_60 : decode cX8_measures 60 = .ok (.iconst 1, 1) := by decide +kernel
theorem dX8_measures_61 : decode cX8_measures 61 = .ok (.goto 4, 3) := by decide +kernel
theorem dX8_measures_64 : decode cX8_measures 64 = .ok (.iconst 0, 1) := by decide +kernel
theorem dX8_measures_65 : decode cX8_measures 65 = .ok (.istore 4, 2) := by decide +kernel
theorem dX8_measures_67 : decode cX8_measures 67 = .ok (.aload_n 0, 1) := by decide +kernel
theorem dX8_measures_68 : decode cX8_measures 68 = .ok (.getfield 37, 3) := by decide +kernel
theorem dX8_measures_71 : decode cX8_measures 71 = .ok (.iload_n 3, 1) := by decide +kernel
theorem dX8_measures_72 : decode cX8_measures 72 = .ok (.iload 4, 2) := by decide +kernel
theorem dX8_measures_74 : decode cX8_measures 74 = .ok (.ifCond .eq 9, 3) := by decide +kernel
theorem dX8_measures_77 : decode cX8_measures 77 = .ok (.sipush 999, 3) := by decide +kernel
theorem dX8_measures_80 : decode cX8_measures 80 = .ok (.goto 4, 3) := by decide +kernel
theorem dX8_measures_83 : decode cX8_measures 83 = .ok (.iconst (-1), 1) := by decide +kernel
theorem dX8_measures_84 : decode cX8_measures 84 = .ok (.iastore, 1) := by decide +kernel
theorem dX8_measures_85 : decode cX8_measures 85 = .ok (.iinc 3 1, 3) := by decide +kernel
theorem dX8_measures_88 : decode cX8_measures 88 = .ok (.goto (-82), 3) := by decide +kernel
theorem dX8_measures_91 : decode cX8_measures 91 = .ok (.iconst 0, 1) := by decide +kernel
theorem dX8_measures_92 : decode cX8_measures 92 = .ok (.istore_n 3, 1) := by decide +kernel
theorem dX8_measures_93 : decode cX8_measures 93 = .ok (.iload_n 3, 1) := by decide +kernel
theorem dX8_measures_94 : decode cX8_measures 94 = .ok (.bipush 81, 2) := by decide +kernel
theorem dX8_measures_96 : decode cX8_measures 96 = .ok (.if_icmp .ge 46, 3) := by decide +kernel
theorem dX8_measures_99 : decode cX8_measures 99 = .ok (.aload_n 0, 1) := by decide +kernel
theorem dX8_measures_100 : decode cX8_measures 100 = .ok (.getfield 37, 3) := by decide +kernel
theorem dX8_measures_103 : decode cX8_measures 103 = .ok (.iload_n 3, 1) := by decide +kernel
theorem dX8_measures_104 : decode cX8_measures 104 = .ok (.iaload, 1) := by decide +kernel
theorem dX8_measures_105 : decode cX8_measures 105 = .ok (.ifCond .lt 31, 3) := by decide +kernel
theorem dX8_measures_108 : decode cX8_measures 108 = .ok (.aload_n 0, 1) := by decide +kernel
theorem dX8_measures_109 : decode cX8_measures 109 = .ok (.iload_n 1, 1) := by decide +kernel
theorem dX8_measures_110 : decode cX8_measures 110 = .ok (.iload_n 3, 1) := by decide +kernel
theorem dX8_measures_111 : decode cX8_measures 111 = .ok (.invokevirtual 163, 3) := by decide +kernel
theorem dX8_measures_114 : decode cX8_measures 114 = .ok (.aload_n 0, 1) := by decide +kernel
theorem dX8_measures_115 : decode cX8_measures 115 = .ok (.getfield 37, 3) := by decide +kernel
theorem dX8_measures_118 : decode cX8_measures 118 = .ok (.iload_n 3, 1) := by decide +kernel
theorem dX8_measures_119 : decode cX8_measures 119 = .ok (.aload_n 0, 1) := by decide +kernel
theorem dX8_measures_120 : decode cX8_measures 120 = .ok (.iload_n 1, 1) := by decide +kernel
theorem dX8_measures_121 : decode cX8_measures 121 = .ok (.invokevirtual 119, 3) := by decide +kernel
theorem dX8_measures_124 : decode cX8_measures 124 = .ok (.iload_n 2, 1) := by decide +kernel
theorem dX8_measures_125 : decode cX8_measures 125 = .ok (.if_icmp .ne 7, 3) := by decide +kernel
theorem dX8_measures_128 : decode cX8_measures 128 = .ok (.iconst 0, 1) := by decide +kernel
theorem dX8_measures_129 : decode cX8_measures 129 = .ok (.goto 6, 3) := by decide +kernel
theorem dX8_measures_132 : decode cX8_measures 132 = .ok (.sipush 999, 3) := by decide +kernel
theorem dX8_measures_135 : decode cX8_measures 135 = .ok (.iastore, 1) := by decide +kernel
theorem dX8_measures_136 : decode cX8_measures 136 = .ok (.iinc 3 1, 3) := by decide +kernel
theorem dX8_measures_139 : decode cX8_measures 139 = .ok (.goto (-46), 3) := by decide +kernel
theorem dX8_measures_142 : decode cX8_measures 142 = .ok (.iconst 1, 1) := by decide +kernel
theorem dX8_measures_143 : decode cX8_measures 143 = .ok (.istore_n 3, 1) := by decide +kernel
theorem dX8_measures_144 : decode cX8_measures 144 = .ok (.iload_n 3, 1) := by decide +kernel
theorem dX8_measures_145 : decode cX8_measures 145 = .ok (.ifCond .eq 101, 3) := by decide +kernel
theorem dX8_measures_148 : decode cX8_measures 148 = .ok (.iconst 0, 1) := by decide +kernel
theorem dX8_measures_149 : decode cX8_measures 149 = .ok (.istore_n 3, 1) := by decide +kernel
theorem dX8_measures_150 : decode cX8_measures 150 = .ok (.iconst 0, 1) := by decide +kernel
theorem dX8_measures_151 : decode cX8_measures 151 = .ok (.istore 4, 2) := by decide +kernel
theorem dX8_measures_153 : decode cX8_measures 153 = .ok (.iload 4, 2) := by decide +kernel
theorem dX8_measures_155 : decode cX8_measures 155 = .ok (.bipush 81, 2) := by decide +kernel
theorem dX8_measures_157 : decode cX8_measures 157 = .ok (.if_icmp .ge 86, 3) := by decide +kernel
theorem dX8_measures_160 : decode cX8_measures 160 = .ok (.iconst 0, 1) := by decide +kernel
theorem dX8_measures_161 : decode cX8_measures 161 = .ok (.istore 5, 2) := by decide +kernel
theorem dX8_measures_163 : decode cX8_measures 163 = .ok (.iload 5, 2) := by decide +kernel
theorem dX8_measures_165 : decode cX8_measures 165 = .ok (.iconst 4, 1) := by decide +kernel
theorem dX8_measures_166 : decode cX8_measures 166 = .ok (.if_icmp .ge 71, 3) := by decide +kernel
theorem dX8_measures_169 : decode cX8_measures 169 = .ok (.aload_n 0, 1) := by decide +kernel
theorem dX8_measures_170 : decode cX8_measures 170 = .ok (.getfield 37, 3) := by decide +kernel
theorem dX8_measures_173 : decode cX8_measures 173 = .ok (.iload 4, 2) := by decide +kernel
theorem dX8_measures_175 : decode cX8_measures 175 = .ok (.iaload, 1) := by decide +kernel
theorem dX8_measures_176 : decode cX8_measures 176 = .ok (.ifCond .lt 61, 3) := by decide +kernel
theorem dX8_measures_179 : decode cX8_measures 179 = .ok (.aload_n 0, 1) := by decide +kernel
theorem dX8_measures_180 : decode cX8_measures 180 = .ok (.iload 4, 2) := by decide +kernel
theorem dX8_measures_182 : decode cX8_measures 182 = .ok (.iload 5, 2) := by decide +kernel
theorem dX8_measures_184 : decode cX8_measures 184 = .ok (.invokevirtual 166, 3) := by decide +kernel
theorem dX8_measures_187 : decode cX8_measures 187 = .ok (.istore 6, 2) := by decide +kernel
theorem dX8_measures_189 : decode cX8_measures 189 = .ok (.iload 6, 2) := by decide +kernel
theorem dX8_measures_191 : decode cX8_measures 191 = .ok (.ifCond .lt 40, 3) := by decide +kernel
theorem dX8_measures_194 : decode cX8_measures 194 = .ok (.aload_n 0, 1) := by decide +kernel
theorem dX8_measures_195 : decode cX8_measures 195 = .ok (.getfield 37, 3) := by decide +kernel
theorem dX8_measures_198 : decode cX8_measures 198 = .ok (.iload 6, 2) := by decide +kernel
theorem dX8_measures_200 : decode cX8_measures 200 = .ok (.iaload, 1) := by decide +kernel
theorem dX8_measures_201 : decode cX8_measures 201 = .ok (.iconst 1, 1) := by decide +kernel
theorem dX8_measures_202 : decode cX8_measures 202 = .ok (.iadd, 1) := by decide +kernel
theorem dX8_measures_203 : decode cX8_measures 203 = .ok (.aload_n 0, 1) := by decide +kernel
theorem dX8_measures_204 : decode cX8_measures 204 = .ok (.getfield 37, 3) := by decide +kernel
theorem dX8_measures_207 : decode cX8_measures 207 = .ok (.iload 4, 2) := by decide +kernel
theorem dX8_measures_209 : decode cX8_measures 209 = .ok (.iaload, 1) := by decide +kernel
theorem dX8_measures_210 : decode cX8_measures 210 = .ok (.if_icmp .ge 21, 3) := by decide +kernel
theorem dX8_measures_213 : decode cX8_measures 213 = .ok (.aload_n 0, 1) := by decide +kernel
theorem dX8_measures_214 : decode cX8_measures 214 = .ok (.getfield 37, 3) := by decide +kernel
theorem dX8_measures_217 : decode cX8_measures 217 = .ok (.iload 4, 2) := by decide +kernel
theorem dX8_measures_219 : decode cX8_measures 219 = .ok (.aload_n 0, 1) := by decide +kernel
theorem dX8_measures_220 : decode cX8_measures 220 = .ok (.getfield 37, 3) := by decide +kernel
theorem dX8_measures_223 : decode cX8_measures 223 = .ok (.iload 6, 2) := by decide +kernel
theorem dX8_measures_225 : decode cX8_measures 225 = .ok (.iaload, 1) := by decide +kernel
theorem dX8_measures_226 : decode cX8_measures 226 = .ok (.iconst 1, 1) := by decide +kernel
theorem dX8_measures_227 : decode cX8_measures 227 = .ok (.iadd, 1) := by decide +kernel
theorem dX8_measures_228 : decode cX8_measures 228 = .ok (.iastore, 1) := by decide +kernel
theorem dX8_measures_229 : decode cX8_measures 229 = .ok (.iconst 1, 1) := by decide +kernel
theorem dX8_measures_230 : decode cX8_measures 230 = .ok (.istore_n 3, 1) := by decide +kernel
theorem dX8_measures_231 : decode cX8_measures 231 = .ok (.iinc 5 1, 3) := by decide +kernel
theorem dX8_measures_234 : decode cX8_measures 234 = .ok (.goto (-71), 3) := by decide +kernel
theorem dX8_measures_237 : decode cX8_measures 237 = .ok (.iinc 4 1, 3) := by decide +kernel
theorem dX8_measures_240 : decode cX8_measures 240 = .ok (.goto (-87), 3) := by decide +kernel
theorem dX8_measures_243 : decode cX8_measures 243 = .ok (.goto (-99), 3) := by decide +kernel
theorem dX8_measures_246 : decode cX8_measures 246 = .ok (.aload_n 0, 1) := by decide +kernel
theorem dX8_measures_247 : decode cX8_measures 247 = .ok (.invokevirtual 157, 3) := by decide +kernel
theorem dX8_measures_250 : decode cX8_measures 250 = .ok (.return_, 1) := by decide +kernel
theorem dX8_beside_0 : decode cX8_beside 0 = .ok (.iload_n 1, 1) := by decide +kernel
theorem dX8_beside_1 : decode cX8_beside 1 = .ok (.bipush 9, 2) := by decide +kernel
theorem dX8_beside_3 : decode cX8_beside 3 = .ok (.idiv, 1) := by decide +kernel
theorem dX8_beside_4 : decode cX8_beside 4 = .ok (.iload_n 2, 1) := by decide +kernel
theorem dX8_beside_5 : decode cX8_beside 5 = .ok (.invokestatic 138, 3) := by decide +kernel
theorem dX8_beside_8 : decode cX8_beside 8 = .ok (.iadd, 1) := by decide +kernel
theorem dX8_beside_9 : decode cX8_beside 9 = .ok (.istore_n 3, 1) := by decide +kernel
theorem dX8_beside_10 : decode cX8_beside 10 = .ok (.iload_n 1, 1) := by decide +kernel
theorem dX8_beside_11 : decode cX8_beside 11 = .ok (.bipush 9, 2) := by decide +kernel
theorem dX8_beside_13 : decode cX8_beside 13 = .ok (.irem, 1) := by decide +kernel
theorem dX8_beside_14 : decode cX8_beside 14 = .ok (.iload_n 2, 1) := by decide +kernel
theorem dX8_beside_15 : decode cX8_beside 15 = .ok (.invokestatic 141, 3) := by decide +kernel
theorem dX8_beside_18 : decode cX8_beside 18 = .ok (.iadd, 1) := by decide +kernel
theorem dX8_beside_19 : decode cX8_beside 19 = .ok (.istore 4, 2) := by decide +kernel
theorem dX8_beside_21 : decode cX8_beside 21 = .ok (.iload_n 3, 1) := by decide +kernel
theorem dX8_beside_22 : decode cX8_beside 22 = .ok (.iconst 0, 1) := by decide +kernel
theorem dX8_beside_23 : decode cX8_beside 23 = .ok (.bipush 8, 2) := by decide +kernel
theorem dX8_beside_25 : decode cX8_beside 25 = .ok (.invokestatic 53, 3) := by decide +kernel
theorem dX8_beside_28 : decode cX8_beside 28 = .ok (.ifCond .eq 39, 3) := by decide +kernel
theorem dX8_beside_31 : decode cX8_beside 31 = .ok (.iload 4, 2) := by decide +kernel
theorem dX8_beside_33 : decode cX8_beside 33 = .ok (.iconst 0, 1) := by decide +kernel
theorem dX8_beside_34 : decode cX8_beside 34 = .ok (.bipush 8, 2) := by decide +kernel
theorem dX8_beside_36 : decode cX8_beside 36 = .ok (.invokestatic 53, 3) := by decide +kernel
theorem dX8_beside_39 : decode cX8_beside 39 = .ok (.ifCond .eq 28, 3) := by decide +kernel
theorem dX8_beside_42 : decode cX8_beside 42 = .ok (.aload_n 0, 1) := by decide +kernel
theorem dX8_beside_43 : decode cX8_beside 43 = .ok (.getfield 37, 3) := by decide +kernel
theorem dX8_beside_46 : decode cX8_beside 46 = .ok (.bipush 9, 2) := by decide +kernel
theorem dX8_beside_48 : decode cX8_beside 48 = .ok (.iload_n 3, 1) := by decide +kernel
theorem dX8_beside_49 : decode cX8_beside 49 = .ok (.imul, 1) := by decide +kernel
theorem dX8_beside_50 : decode cX8_beside 50 = .ok (.iload 4, 2) := by decide +kernel
theorem dX8_beside_52 : decode cX8_beside 52 = .ok (.iadd, 1) := by decide +kernel
theorem dX8_beside_53 : decode cX8_beside 53 = .ok (.iaload, 1) := by decide +kernel
theorem dX8_beside_54 : decode cX8_beside 54 = .ok (.ifCond .lt 13, 3) := by decide +kernel
theorem dX8_beside_57 : decode cX8_beside 57 = .ok (.bipush 9, 2) := by decide +kernel
theorem dX8_beside_59 : decode cX8_beside 59 = .ok (.iload_n 3, 1) := by decide +kernel
theorem dX8_beside_60 : decode cX8_beside 60 = .ok (.imul, 1) := by decide +kernel
theorem dX8_beside_61 : decode cX8_beside 61 = .ok (.iload 4, 2) := by decide +kernel
theorem dX8_beside_63 : decode cX8_beside 63 = .ok (.iadd, 1) := by decide +kernel
theorem dX8_beside_64 : decode cX8_beside 64 = .ok (.goto 5, 3) := by decide +kernel
theorem dX8_beside_67 : decode cX8_beside 67 = .ok (.bipush (-4), 2) := by decide +kernel
theorem dX8_beside_69 : decode cX8_beside 69 = .ok (.ireturn, 1) := by decide +kernel
theorem dX8_steps_0 : decode cX8_steps 0 = .ok (.aload_n 0, 1) := by decide +kernel
theorem dX8_steps_1 : decode cX8_steps 1 = .ok (.iload_n 1, 1) := by decide +kernel
theorem dX8_steps_2 : decode cX8_steps 2 = .ok (.invokevirtual 116, 3) := by decide +kernel
theorem dX8_steps_5 : decode cX8_steps 5 = .ok (.ifCond .eq 18, 3) := by decide +kernel
theorem dX8_steps_8 : decode cX8_steps 8 = .ok (.iload_n 2, 1) := by decide +kernel
theorem dX8_steps_9 : decode cX8_steps 9 = .ok (.iconst 0, 1) := by decide +kernel
theorem dX8_steps_10 : decode cX8_steps 10 = .ok (.bipush 7, 2) := by decide +kernel
theorem dX8_steps_12 : decode cX8_steps 12 = .ok (.invokestatic 53, 3) := by decide +kernel
theorem dX8_steps_15 : decode cX8_steps 15 = .ok (.ifCond .eq 8, 3) := by decide +kernel
theorem dX8_steps_18 : decode cX8_steps 18 = .ok (.iload_n 3, 1) := by decide +kernel
theorem dX8_steps_19 : decode cX8_steps 19 = .ok (.iconst (-1), 1) := by decide +kernel
theorem dX8_steps_20 : decode cX8_steps 20 = .ok (.if_icmp .ge 5, 3) := by decide +kernel
theorem dX8_steps_23 : decode cX8_steps 23 = .ok (.iconst (-1), 1) := by decide +kernel
theorem dX8_steps_24 : decode cX8_steps 24 = .ok (.ireturn, 1) := by decide +kernel
theorem dX8_steps_25 : decode cX8_steps 25 = .ok (.aload_n 0, 1) := by decide +kernel
theorem dX8_steps_26 : decode cX8_steps 26 = .ok (.iload_n 1, 1) := by decide +kernel
theorem dX8_steps_27 : decode cX8_steps 27 = .ok (.iload_n 2, 1) := by decide +kernel
theorem dX8_steps_28 : decode cX8_steps 28 = .ok (.invokevirtual 169, 3) := by decide +kernel
theorem dX8_steps_31 : decode cX8_steps 31 = .ok (.bipush 9, 2) := by decide +kernel
theorem dX8_steps_33 : decode cX8_steps 33 = .ok (.aload_n 0, 1) := by decide +kernel
theorem dX8_steps_34 : decode cX8_steps 34 = .ok (.getfield 22, 3) := by decide +kernel
theorem dX8_steps_37 : decode cX8_steps 37 = .ok (.bipush 7, 2) := by decide +kernel
theorem dX8_steps_39 : decode cX8_steps 39 = .ok (.iload_n 1, 1) := by decide +kernel
theorem dX8_steps_40 : decode cX8_steps 40 = .ok (.iadd, 1) := by decide +kernel
theorem dX8_steps_41 : decode cX8_steps 41 = .ok (.iaload, 1) := by decide +kernel
theorem dX8_steps_42 : decode cX8_steps 42 = .ok (.imul, 1) := by decide +kernel
theorem dX8_steps_43 : decode cX8_steps 43 = .ok (.aload_n 0, 1) := by decide +kernel
theorem dX8_steps_44 : decode cX8_steps 44 = .ok (.getfield 22, 3) := by decide +kernel
theorem dX8_steps_47 : decode cX8_steps 47 = .ok (.bipush 13, 2) := by decide +kernel
theorem dX8_steps_49 : decode cX8_steps 49 = .ok (.iload_n 1, 1) := by decide +kernel
theorem dX8_steps_50 : decode cX8_steps 50 = .ok (.iadd, 1) := by decide +kernel
theorem dX8_steps_51 : decode cX8_steps 51 = .ok (.iaload, 1) := by decide +kernel
theorem dX8_steps_52 : decode cX8_steps 52 = .ok (.iadd, 1) := by decide +kernel
theorem dX8_steps_53 : decode cX8_steps 53 = .ok (.istore 4, 2) := by decide +kernel
theorem dX8_steps_55 : decode cX8_steps 55 = .ok (.aload_n 0, 1) := by decide +kernel
theorem dX8_steps_56 : decode cX8_steps 56 = .ok (.getfield 37, 3) := by decide +kernel
theorem dX8_steps_59 : decode cX8_steps 59 = .ok (.iload 4, 2) := by decide +kernel
theorem dX8_steps_61 : decode cX8_steps 61 = .ok (.iaload, 1) := by decide +kernel
theorem dX8_steps_62 : decode cX8_steps 62 = .ok (.sipush 999, 3) := by decide +kernel
theorem dX8_steps_65 : decode cX8_steps 65 = .ok (.if_icmp .ne 6, 3) := by decide +kernel
theorem dX8_steps_68 : decode cX8_steps 68 = .ok (.bipush (-4), 2) := by decide +kernel
theorem dX8_steps_70 : decode cX8_steps 70 = .ok (.ireturn, 1) := by decide +kernel
theorem dX8_steps_71 : decode cX8_steps 71 = .ok (.iload_n 3, 1) := by decide +kernel
theorem dX8_steps_72 : decode cX8_steps 72 = .ok (.iconst (-1), 1) := by decide +kernel
theorem dX8_steps_73 : decode cX8_steps 73 = .ok (.if_icmp .eq 14, 3) := by decide +kernel
theorem dX8_steps_76 : decode cX8_steps 76 = .ok (.iload_n 3, 1) := by decide +kernel
theorem dX8_steps_77 : decode cX8_steps 77 = .ok (.aload_n 0, 1) := by decide +kernel
theorem dX8_steps_78 : decode cX8_steps 78 = .ok (.getfield 37, 3) := by decide +kernel
theorem dX8_steps_81 : decode cX8_steps 81 = .ok (.iload 4, 2) := by decide +kernel
theorem dX8_steps_83 : decode cX8_steps 83 = .ok (.iaload, 1) := by decide +kernel
theorem dX8_steps_84 : decode cX8_steps 84 = .ok (.if_icmp .lt 21, 3) := by decide +kernel
theorem dX8_steps_87 : decode cX8_steps 87 = .ok (.iload_n 3, 1) := by decide +kernel
theorem dX8_steps_88 : decode cX8_steps 88 = .ok (.iconst (-1), 1) := by decide +kernel
theorem dX8_steps_89 : decode cX8_steps 89 = .ok (.if_icmp .ne 13, 3) := by decide +kernel
theorem dX8_steps_92 : decode cX8_steps 92 = .ok (.aload_n 0, 1) := by decide +kernel
theorem dX8_steps_93 : decode cX8_steps 93 = .ok (.getfield 37, 3) := by decide +kernel
theorem dX8_steps_96 : decode cX8_steps 96 = .ok (.iload 4, 2) := by decide +kernel
theorem dX8_steps_98 : decode cX8_steps 98 = .ok (.iaload, 1) := by decide +kernel
theorem dX8_steps_99 : decode cX8_steps 99 = .ok (.goto 5, 3) := by decide +kernel
theorem dX8_steps_102 : decode cX8_steps 102 = .ok (.bipush (-4), 2) := by decide +kernel
theorem dX8_steps_104 : decode cX8_steps 104 = .ok (.ireturn, 1) := by decide +kernel
theorem dX8_steps_105 : decode cX8_steps 105 = .ok (.iconst 0, 1) := by decide +kernel
theorem dX8_steps_106 : decode cX8_steps 106 = .ok (.istore 5, 2) := by decide +kernel
theorem dX8_steps_108 : decode cX8_steps 108 = .ok (.iconst 0, 1) := by decide +kernel
theorem dX8_steps_109 : decode cX8_steps 109 = .ok (.istore 6, 2) := by decide +kernel
theorem dX8_steps_111 : decode cX8_steps 111 = .ok (.iload 6, 2) := by decide +kernel
theorem dX8_steps_113 : decode cX8_steps 113 = .ok (.iload_n 3, 1) := by decide +kernel
theorem dX8_steps_114 : decode cX8_steps 114 = .ok (.if_icmp .gt 64, 3) := by decide +kernel
theorem dX8_steps_117 : decode cX8_steps 117 = .ok (.iconst 0, 1) := by decide +kernel
theorem dX8_steps_118 : decode cX8_steps 118 = .ok (.istore 5, 2) := by decide +kernel
theorem dX8_steps_120 : decode cX8_steps 120 = .ok (.aload_n 0, 1) := by decide +kernel
theorem dX8_steps_121 : decode cX8_steps 121 = .ok (.iload 4, 2) := by decide +kernel
theorem dX8_steps_123 : decode cX8_steps 123 = .ok (.iload 5, 2) := by decide +kernel
theorem dX8_steps_125 : decode cX8_steps 125 = .ok (.invokevirtual 166, 3) := by decide +kernel
theorem dX8_steps_128 : decode cX8_steps 128 = .ok (.ifCond .lt 28, 3) := by decide +kernel
theorem dX8_steps_131 : decode cX8_steps 131 = .ok (.aload_n 0, 1) := by decide +kernel
theorem dX8_steps_132 : decode cX8_steps 132 = .ok (.getfield 37, 3) := by decide +kernel
theorem dX8_steps_135 : decode cX8_steps 135 = .ok (.aload_n 0, 1) := by decide +kernel
theorem dX8_steps_136 : decode cX8_steps 136 = .ok (.iload 4, 2) := by decide +kernel
theorem dX8_steps_138 : decode cX8_steps 138 = .ok (.iload 5, 2) := by decide +kernel
theorem dX8_steps_140 : decode cX8_steps 140 = .ok (.invokevirtual 166, 3) := by decide +kernel
theorem dX8_steps_143 : decode cX8_steps 143 = .ok (.iaload, 1) := by decide +kernel
theorem dX8_steps_144 : decode cX8_steps 144 = .ok (.aload_n 0, 1) := by decide +kernel
theorem dX8_steps_145 : decode cX8_steps 145 = .ok (.getfield 37, 3) := by decide +kernel
theorem dX8_steps_148 : decode cX8_steps 148 = .ok (.iload 4, 2) := by decide +kernel
theorem dX8_steps_150 : decode cX8_steps 150 = .ok (.iaload, 1) := by decide +kernel
theorem dX8_steps_151 : decode cX8_steps 151 = .ok (.iconst 1, 1) := by decide +kernel
theorem dX8_steps_152 : decode cX8_steps 152 = .ok (.isub, 1) := by decide +kernel
theorem dX8_steps_153 : decode cX8_steps 153 = .ok (.if_icmp .eq 9, 3) := by decide +kernel
theorem dX8_steps_156 : decode cX8_steps 156 = .ok (.iinc 5 1, 3) := by decide +kernel
theorem dX8_steps_159 : decode cX8_steps 159 = .ok (.goto (-39), 3) := by decide +kernel
theorem dX8_steps_162 : decode cX8_steps 162 = .ok (.aload_n 0, 1) := by decide +kernel
theorem dX8_steps_163 : decode cX8_steps 163 = .ok (.iload 4, 2) := by decide +kernel
theorem dX8_steps_165 : decode cX8_steps 165 = .ok (.iload 5, 2) := by decide +kernel
theorem dX8_steps_167 : decode cX8_steps 167 = .ok (.invokevirtual 166, 3) := by decide +kernel
theorem dX8_steps_170 : decode cX8_steps 170 = .ok (.istore 4, 2) := by decide +kernel
theorem dX8_steps_172 : decode cX8_steps 172 = .ok (.iinc 6 1, 3) := by decide +kernel
theorem dX8_steps_175 : decode cX8_steps 175 = .ok (.goto (-64), 3) := by decide +kernel
theorem dX8_steps_178 : decode cX8_steps 178 = .ok (.iload 5, 2) := by decide +kernel
theorem dX8_steps_180 : decode cX8_steps 180 = .ok (.ireturn, 1) := by decide +kernel
theorem dX8_stand_0 : decode cX8_stand 0 = .ok (.aload_n 0, 1) := by decide +kernel
theorem dX8_stand_1 : decode cX8_stand 1 = .ok (.iload_n 1, 1) := by decide +kernel
theorem dX8_stand_2 : decode cX8_stand 2 = .ok (.invokevirtual 116, 3) := by decide +kernel
theorem dX8_stand_5 : decode cX8_stand 5 = .ok (.ifCond .eq 36, 3) := by decide +kernel
theorem dX8_stand_8 : decode cX8_stand 8 = .ok (.aload_n 0, 1) := by decide +kernel
theorem dX8_stand_9 : decode cX8_stand 9 = .ok (.iload_n 2, 1) := by decide +kernel
theorem dX8_stand_10 : decode cX8_stand 10 = .ok (.invokevirtual 116, 3) := by decide +kernel
theorem dX8_stand_13 : decode cX8_stand 13 = .ok (.ifCond .eq 28, 3) := by decide +kernel
theorem dX8_stand_16 : decode cX8_stand 16 = .ok (.iload_n 1, 1) := by decide +kernel
theorem dX8_stand_17 : decode cX8_stand 17 = .ok (.iload_n 2, 1) := by decide +kernel
theorem dX8_stand_18 : decode cX8_stand 18 = .ok (.if_icmp .eq 23, 3) := by decide +kernel
theorem dX8_stand_21 : decode cX8_stand 21 = .ok (.iload_n 3, 1) := by decide +kernel
theorem dX8_stand_22 : decode cX8_stand 22 = .ok (.iconst 0, 1) := by decide +kernel
theorem dX8_stand_23 : decode cX8_stand 23 = .ok (.bipush 7, 2) := by decide +kernel
theorem dX8_stand_25 : decode cX8_stand 25 = .ok (.invokestatic 53, 3) := by decide +kernel
theorem dX8_stand_28 : decode cX8_stand 28 = .ok (.ifCond .eq 13, 3) := by decide +kernel
theorem dX8_stand_31 : decode cX8_stand 31 = .ok (.iload 4, 2) := by decide +kernel
theorem dX8_stand_33 : decode cX8_stand 33 = .ok (.iconst 0, 1) := by decide +kernel
theorem dX8_stand_34 : decode cX8_stand 34 = .ok (.iconst 1, 1) := by decide +kernel
theorem dX8_stand_35 : decode cX8_stand 35 = .ok (.invokestatic 53, 3) := by decide +kernel
theorem dX8_stand_38 : decode cX8_stand 38 = .ok (.ifCond .ne 5, 3) := by decide +kernel
theorem dX8_stand_41 : decode cX8_stand 41 = .ok (.iconst (-1), 1) := by decide +kernel
theorem dX8_stand_42 : decode cX8_stand 42 = .ok (.ireturn, 1) := by decide +kernel
theorem dX8_stand_43 : decode cX8_stand 43 = .ok (.aload_n 0, 1) := by decide +kernel
theorem dX8_stand_44 : decode cX8_stand 44 = .ok (.invokevirtual 154, 3) := by decide +kernel
theorem dX8_stand_47 : decode cX8_stand 47 = .ok (.iconst 0, 1) := by decide +kernel
theorem dX8_stand_48 : decode cX8_stand 48 = .ok (.istore 5, 2) := by decide +kernel
theorem dX8_stand_50 : decode cX8_stand 50 = .ok (.bipush (-4), 2) := by decide +kernel
theorem dX8_stand_52 : decode cX8_stand 52 = .ok (.istore 6, 2) := by decide +kernel
theorem dX8_stand_54 : decode cX8_stand 54 = .ok (.iconst 0, 1) := by decide +kernel
theorem dX8_stand_55 : decode cX8_stand 55 = .ok (.istore 7, 2) := by decide +kernel
theorem dX8_stand_57 : decode cX8_stand 57 = .ok (.iload 7, 2) := by decide +kernel
theorem dX8_stand_59 : decode cX8_stand 59 = .ok (.aload_n 0, 1) := by decide +kernel
theorem dX8_stand_60 : decode cX8_stand 60 = .ok (.getfield 13, 3) := by decide +kernel
theorem dX8_stand_63 : decode cX8_stand 63 = .ok (.iconst 0, 1) := by decide +kernel
theorem dX8_stand_64 : decode cX8_stand 64 = .ok (.iaload, 1) := by decide +kernel
theorem dX8_stand_65 : decode cX8_stand 65 = .ok (.if_icmp .ge 133, 3) := by decide +kernel
theorem dX8_stand_68 : decode cX8_stand 68 = .ok (.iconst 0, 1) := by decide +kernel
theorem dX8_stand_69 : decode cX8_stand 69 = .ok (.istore 8, 2) := by decide +kernel
theorem dX8_stand_71 : decode cX8_stand 71 = .ok (.iload 8, 2) := by decide +kernel
theorem dX8_stand_73 : decode cX8_stand 73 = .ok (.aload_n 0, 1) := by decide +kernel
theorem dX8_stand_74 : decode cX8_stand 74 = .ok (.getfield 13, 3) := by decide +kernel
theorem dX8_stand_77 : decode cX8_stand 77 = .ok (.iconst 1, 1) := by decide +kernel
theorem dX8_stand_78 : decode cX8_stand 78 = .ok (.iaload, 1) := by decide +kernel
theorem dX8_stand_79 : decode cX8_stand 79 = .ok (.if_icmp .ge 113, 3) := by decide +kernel
theorem dX8_stand_82 : decode cX8_stand 82 = .ok (.aload_n 0, 1) := by decide +kernel
theorem dX8_stand_83 : decode cX8_stand 83 = .ok (.iload 7, 2) := by decide +kernel
theorem dX8_stand_85 : decode cX8_stand 85 = .ok (.iload 8, 2) := by decide +kernel
theorem dX8_stand_87 : decode cX8_stand 87 = .ok (.invokevirtual 126, 3) := by decide +kernel
theorem dX8_stand_90 : decode cX8_stand 90 = .ok (.bipush (-4), 2) := by decide +kernel
theorem dX8_stand_92 : decode cX8_stand 92 = .ok (.if_icmp .eq 31, 3) := by decide +kernel
theorem dX8_stand_95 : decode cX8_stand 95 = .ok (.iload 7, 2) := by decide +kernel
theorem dX8_stand_97 : decode cX8_stand 97 = .ok (.aload_n 0, 1) := by decide +kernel
theorem dX8_stand_98 : decode cX8_stand 98 = .ok (.getfield 34, 3) := by decide +kernel
theorem dX8_stand_101 : decode cX8_stand 101 = .ok (.bipush 7, 2) := by decide +kernel
theorem dX8_stand_103 : decode cX8_stand 103 = .ok (.iload_n 1, 1) := by decide +kernel
theorem dX8_stand_104 : decode cX8_stand 104 = .ok (.iadd, 1) := by decide +kernel
theorem dX8_stand_105 : decode cX8_stand 105 = .ok (.iaload, 1) := by decide +kernel
theorem dX8_stand_106 : decode cX8_stand 106 = .ok (.if_icmp .ne 21, 3) := by decide +kernel
theorem dX8_stand_109 : decode cX8_stand 109 = .ok (.iload 8, 2) := by decide +kernel
theorem dX8_stand_111 : decode cX8_stand 111 = .ok (.aload_n 0, 1) := by decide +kernel
theorem dX8_stand_112 : decode cX8_stand 112 = .ok (.getfield 34, 3) := by decide +kernel
theorem dX8_stand_115 : decode cX8_stand 115 = .ok (.bipush 13, 2) := by decide +kernel
theorem dX8_stand_117 : decode cX8_stand 117 = .ok (.iload_n 1, 1) := by decide +kernel
theorem dX8_stand_118 : decode cX8_stand 118 = .ok (.iadd, 1) := by decide +kernel
theorem dX8_stand_119 : decode cX8_stand 119 = .ok (.iaload, 1) := by decide +kernel
theorem dX8_stand_120 : decode cX8_stand 120 = .ok (.if_icmp .ne 7, 3) := by decide +kernel
theorem dX8_stand_123 : decode cX8_stand 123 = .ok (.iconst 1, 1) := by decide +kernel
theorem dX8_stand_124 : decode cX8_stand 124 = .ok (.goto 4, 3) := by decide +kernel
theorem dX8_stand_127 : decode cX8_stand 127 = .ok (.iconst 0, 1) := by decide +kernel
theorem dX8_stand_128 : decode cX8_stand 128 = .ok (.istore 9, 2) := by decide +kernel
theorem dX8_stand_130 : decode cX8_stand 130 = .ok (.aload_n 0, 1) := by decide +kernel
theorem dX8_stand_131 : decode cX8_stand 131 = .ok (.iload_n 1, 1) := by decide +kernel
theorem dX8_stand_132 : decode cX8_stand 132 = .ok (.bipush 9, 2) := by decide +kernel
theorem dX8_stand_134 : decode cX8_stand 134 = .ok (.iload 7, 2) := by decide +kernel
theorem dX8_stand_136 : decode cX8_stand 136 = .ok (.imul, 1) := by decide +kernel
theorem dX8_stand_137 : decode cX8_stand 137 = .ok (.iload 8, 2) := by decide +kernel
theorem dX8_stand_139 : decode cX8_stand 139 = .ok (.iadd, 1) := by decide +kernel
theorem dX8_stand_140 : decode cX8_stand 140 = .ok (.invokevirtual 163, 3) := by decide +kernel
theorem dX8_stand_143 : decode cX8_stand 143 = .ok (.iload 9, 2) := by decide +kernel
theorem dX8_stand_145 : decode cX8_stand 145 = .ok (.ifCond .eq 37, 3) := by decide +kernel
theorem dX8_stand_148 : decode cX8_stand 148 = .ok (.aload_n 0, 1) := by decide +kernel
theorem dX8_stand_149 : decode cX8_stand 149 = .ok (.iload_n 2, 1) := by decide +kernel
theorem dX8_stand_150 : decode cX8_stand 150 = .ok (.invokevirtual 119, 3) := by decide +kernel
theorem dX8_stand_153 : decode cX8_stand 153 = .ok (.iload_n 3, 1) := by decide +kernel
theorem dX8_stand_154 : decode cX8_stand 154 = .ok (.if_icmp .ne 28, 3) := by decide +kernel
theorem dX8_stand_157 : decode cX8_stand 157 = .ok (.iinc 5 1, 3) := by decide +kernel
theorem dX8_stand_160 : decode cX8_stand 160 = .ok (.iload 6, 2) := by decide +kernel
theorem dX8_stand_162 : decode cX8_stand 162 = .ok (.bipush (-4), 2) := by decide +kernel
theorem dX8_stand_164 : decode cX8_stand 164 = .ok (.if_icmp .ne 14, 3) := by decide +kernel
theorem dX8_stand_167 : decode cX8_stand 167 = .ok (.bipush 10, 2) := by decide +kernel
theorem dX8_stand_169 : decode cX8_stand 169 = .ok (.iload 7, 2) := by decide +kernel
theorem dX8_stand_171 : decode cX8_stand 171 = .ok (.imul, 1) := by decide +kernel
theorem dX8_stand_172 : decode cX8_stand 172 = .ok (.iload 8, 2) := by decide +kernel
theorem dX8_stand_174 : decode cX8_stand 174 = .ok (.iadd, 1) := by decide +kernel
theorem dX8_stand_175 : decode cX8_stand 175 = .ok (.goto 5, 3) := by decide +kernel
theorem dX8_stand_178 : decode cX8_stand 178 = .ok (.iload 6, 2) := by decide +kernel
theorem dX8_stand_180 : decode cX8_stand 180 = .ok (.istore 6, 2) := by decide +kernel
theorem dX8_stand_182 : decode cX8_stand 182 = .ok (.aload_n 0, 1) := by decide +kernel
theorem dX8_stand_183 : decode cX8_stand 183 = .ok (.invokevirtual 157, 3) := by decide +kernel
theorem dX8_stand_186 : decode cX8_stand 186 = .ok (.iinc 8 1, 3) := by decide +kernel
theorem dX8_stand_189 : decode cX8_stand 189 = .ok (.goto (-118), 3) := by decide +kernel
theorem dX8_stand_192 : decode cX8_stand 192 = .ok (.iinc 7 1, 3) := by decide +kernel
theorem dX8_stand_195 : decode cX8_stand 195 = .ok (.goto (-138), 3) := by decide +kernel
theorem dX8_stand_198 : decode cX8_stand 198 = .ok (.iload 4, 2) := by decide +kernel
theorem dX8_stand_200 : decode cX8_stand 200 = .ok (.ifCond .ne 8, 3) := by decide +kernel
theorem dX8_stand_203 : decode cX8_stand 203 = .ok (.iload 5, 2) := by decide +kernel
theorem dX8_stand_205 : decode cX8_stand 205 = .ok (.goto 5, 3) := by decide +kernel
theorem dX8_stand_208 : decode cX8_stand 208 = .ok (.iload 6, 2) := by decide +kernel
theorem dX8_stand_210 : decode cX8_stand 210 = .ok (.ireturn, 1) := by decide +kernel
theorem dX8_leans_0 : decode cX8_leans 0 = .ok (.iload_n 2, 1) := by decide +kernel
theorem dX8_leans_1 : decode cX8_leans 1 = .ok (.aload_n 0, 1) := by decide +kernel
theorem dX8_leans_2 : decode cX8_leans 2 = .ok (.getfield 13, 3) := by decide +kernel
theorem dX8_leans_5 : decode cX8_leans 5 = .ok (.iconst 2, 1) := by decide +kernel
theorem dX8_leans_6 : decode cX8_leans 6 = .ok (.iaload, 1) := by decide +kernel
theorem dX8_leans_7 : decode cX8_leans 7 = .ok (.if_icmp .ne 7, 3) := by decide +kernel
theorem dX8_leans_10 : decode cX8_leans 10 = .ok (.iconst 0, 1) := by decide +kernel
theorem dX8_leans_11 : decode cX8_leans 11 = .ok (.goto 17, 3) := by decide +kernel
theorem dX8_leans_14 : decode cX8_leans 14 = .ok (.aload_n 0, 1) := by decide +kernel
theorem dX8_leans_15 : decode cX8_leans 15 = .ok (.getfield 22, 3) := by decide +kernel
theorem dX8_leans_18 : decode cX8_leans 18 = .ok (.bipush 19, 2) := by decide +kernel
theorem dX8_leans_20 : decode cX8_leans 20 = .ok (.bipush 6, 2) := by decide +kernel
theorem dX8_leans_22 : decode cX8_leans 22 = .ok (.iload_n 1, 1) := by decide +kernel
theorem dX8_leans_23 : decode cX8_leans 23 = .ok (.imul, 1) := by decide +kernel
theorem dX8_leans_24 : decode cX8_leans 24 = .ok (.iadd, 1) := by decide +kernel
theorem dX8_leans_25 : decode cX8_leans 25 = .ok (.iload_n 2, 1) := by decide +kernel
theorem dX8_leans_26 : decode cX8_leans 26 = .ok (.iadd, 1) := by decide +kernel
theorem dX8_leans_27 : decode cX8_leans 27 = .ok (.iaload, 1) := by decide +kernel
theorem dX8_leans_28 : decode cX8_leans 28 = .ok (.ireturn, 1) := by decide +kernel
theorem dX8_isMarried_0 : decode cX8_isMarried 0 = .ok (.iconst 1, 1) := by decide +kernel
theorem dX8_isMarried_1 : decode cX8_isMarried 1 = .ok (.istore_n 1, 1) := by decide +kernel
theorem dX8_isMarried_2 : decode cX8_isMarried 2 = .ok (.iconst 0, 1) := by decide +kernel
theorem dX8_isMarried_3 : decode cX8_isMarried 3 = .ok (.istore_n 2, 1) := by decide +kernel
theorem dX8_isMarried_4 : decode cX8_isMarried 4 = .ok (.iload_n 2, 1) := by decide +kernel
theorem dX8_isMarried_5 : decode cX8_isMarried 5 = .ok (.aload_n 0, 1) := by decide +kernel
theorem dX8_isMarried_6 : decode cX8_isMarried 6 = .ok (.getfield 13, 3) := by decide +kernel
theorem dX8_isMarried_9 : decode cX8_isMarried 9 = .ok (.iconst 2, 1) := by decide +kernel
theorem dX8_isMarried_10 : decode cX8_isMarried 10 = .ok (.iaload, 1) := by decide +kernel
theorem dX8_isMarried_11 : decode cX8_isMarried 11 = .ok (.if_icmp .ge 60, 3) := by decide +kernel
theorem dX8_isMarried_14 : decode cX8_isMarried 14 = .ok (.aload_n 0, 1) := by decide +kernel
theorem dX8_isMarried_15 : decode cX8_isMarried 15 = .ok (.getfield 40, 3) := by decide +kernel
theorem dX8_isMarried_18 : decode cX8_isMarried 18 = .ok (.iload_n 2, 1) := by decide +kernel
theorem dX8_isMarried_19 : decode cX8_isMarried 19 = .ok (.iaload, 1) := by decide +kernel
theorem dX8_isMarried_20 : decode cX8_isMarried 20 = .ok (.istore_n 3, 1) := by decide +kernel
theorem dX8_isMarried_21 : decode cX8_isMarried 21 = .ok (.iload_n 1, 1) := by decide +kernel
theorem dX8_isMarried_22 : decode cX8_isMarried 22 = .ok (.ifCond .eq 41, 3) := by decide +kernel
theorem dX8_isMarried_25 : decode cX8_isMarried 25 = .ok (.iload_n 3, 1) := by decide +kernel
theorem dX8_isMarried_26 : decode cX8_isMarried 26 = .ok (.aload_n 0, 1) := by decide +kernel
theorem dX8_isMarried_27 : decode cX8_isMarried 27 = .ok (.getfield 13, 3) := by decide +kernel
theorem dX8_isMarried_30 : decode cX8_isMarried 30 = .ok (.iconst 2, 1) := by decide +kernel
theorem dX8_isMarried_31 : decode cX8_isMarried 31 = .ok (.iaload, 1) := by decide +kernel
theorem dX8_isMarried_32 : decode cX8_isMarried 32 = .ok (.if_icmp .eq 27, 3) := by decide +kernel
theorem dX8_isMarried_35 : decode cX8_isMarried 35 = .ok (.iload_n 3, 1) := by decide +kernel
theorem dX8_isMarried_36 : decode cX8_isMarried 36 = .ok (.iload_n 2, 1) := by decide +kernel
theorem dX8_isMarried_37 : decode cX8_isMarried 37 = .ok (.if_icmp .eq 26, 3) := by decide +kernel
theorem dX8_isMarried_40 : decode cX8_isMarried 40 = .ok (.aload_n 0, 1) := by decide +kernel
theorem dX8_isMarried_41 : decode cX8_isMarried 41 = .ok (.getfield 40, 3) := by decide +kernel
theorem dX8_isMarried_44 : decode cX8_isMarried 44 = .ok (.iload_n 3, 1) := by decide +kernel
theorem dX8_isMarried_45 : decode cX8_isMarried 45 = .ok (.iaload, 1) := by decide +kernel
theorem dX8_isMarried_46 : decode cX8_isMarried 46 = .ok (.iload_n 2, 1) := by decide +kernel
theorem dX8_isMarried_47 : decode cX8_isMarried 47 = .ok (.if_icmp .ne 16, 3) := by decide +kernel
theorem dX8_isMarried_50 : decode cX8_isMarried 50 = .ok (.aload_n 0, 1) := by decide +kernel
theorem dX8_isMarried_51 : decode cX8_isMarried 51 = .ok (.iload_n 2, 1) := by decide +kernel
theorem dX8_isMarried_52 : decode cX8_isMarried 52 = .ok (.iload_n 3, 1) := by decide +kernel
theorem dX8_isMarried_53 : decode cX8_isMarried 53 = .ok (.invokevirtual 172, 3) := by decide +kernel
theorem dX8_isMarried_56 : decode cX8_isMarried 56 = .ok (.ifCond .le 7, 3) := by decide +kernel
theorem dX8_isMarried_59 : decode cX8_isMarried 59 = .ok (.iconst 1, 1) := by decide +kernel
theorem dX8_isMarried_60 : decode cX8_isMarried 60 = .ok (.goto 4, 3) := by decide +kernel
theorem dX8_isMarried_63 : decode cX8_isMarried 63 = .ok (.iconst 0, 1) := by decide +kernel
theorem dX8_isMarried_64 : decode cX8_isMarried 64 = .ok (.istore_n 1, 1) := by decide +kernel
theorem dX8_isMarried_65 : decode cX8_isMarried 65 = .ok (.iinc 2 1, 3) := by decide +kernel
theorem dX8_isMarried_68 : decode cX8_isMarried 68 = .ok (.goto (-64), 3) := by decide +kernel
theorem dX8_isMarried_71 : decode cX8_isMarried 71 = .ok (.iconst 0, 1) := by decide +kernel
theorem dX8_isMarried_72 : decode cX8_isMarried 72 = .ok (.istore_n 2, 1) := by decide +kernel
theorem dX8_isMarried_73 : decode cX8_isMarried 73 = .ok (.iload_n 2, 1) := by decide +kernel
theorem dX8_isMarried_74 : decode cX8_isMarried 74 = .ok (.aload_n 0, 1) := by decide +kernel
theorem dX8_isMarried_75 : decode cX8_isMarried 75 = .ok (.getfield 13, 3) := by decide +kernel
theorem dX8_isMarried_78 : decode cX8_isMarried 78 = .ok (.iconst 2, 1) := by decide +kernel
theorem dX8_isMarried_79 : decode cX8_isMarried 79 = .ok (.iaload, 1) := by decide +kernel
theorem dX8_isMarried_80 : decode cX8_isMarried 80 = .ok (.if_icmp .ge 108, 3) := by decide +kernel
theorem dX8_isMarried_83 : decode cX8_isMarried 83 = .ok (.iload_n 1, 1) := by decide +kernel
theorem dX8_isMarried_84 : decode cX8_isMarried 84 = .ok (.ifCond .eq 104, 3) := by decide +kernel
theorem dX8_isMarried_87 : decode cX8_isMarried 87 = .ok (.iconst 0, 1) := by decide +kernel
theorem dX8_isMarried_88 : decode cX8_isMarried 88 = .ok (.istore_n 3, 1) := by decide +kernel
theorem dX8_isMarried_89 : decode cX8_isMarried 89 = .ok (.iload_n 3, 1) := by decide +kernel
theorem dX8_isMarried_90 : decode cX8_isMarried 90 = .ok (.aload_n 0, 1) := by decide +kernel
theorem dX8_isMarried_91 : decode cX8_isMarried 91 = .ok (.getfield 13, 3) := by decide +kernel
theorem dX8_isMarried_94 : decode cX8_isMarried 94 = .ok (.iconst 2, 1) := by decide +kernel
theorem dX8_isMarried_95 : decode cX8_isMarried 95 = .ok (.iaload, 1) := by decide +kernel
theorem dX8_isMarried_96 : decode cX8_isMarried 96 = .ok (.if_icmp .ge 86, 3) := by decide +kernel
theorem dX8_isMarried_99 : decode cX8_isMarried 99 = .ok (.iload_n 2, 1) := by decide +kernel
theorem dX8_isMarried_100 : decode cX8_isMarried 100 = .ok (.iload_n 3, 1) := by decide +kernel
theorem dX8_isMarried_101 : decode cX8_isMarried 101 = .ok (.if_icmp .eq 57, 3) := by decide +kernel
theorem dX8_isMarried_104 : decode cX8_isMarried 104 = .ok (.aload_n 0, 1) := by decide +kernel
theorem dX8_isMarried_105 : decode cX8_isMarried 105 = .ok (.getfield 40, 3) := by decide +kernel
theorem dX8_isMarried_108 : decode cX8_isMarried 108 = .ok (.iload_n 2, 1) := by decide +kernel
theorem dX8_isMarried_109 : decode cX8_isMarried 109 = .ok (.iaload, 1) := by decide +kernel
theorem dX8_isMarried_110 : decode cX8_isMarried 110 = .ok (.iload_n 3, 1) := by decide +kernel
theorem dX8_isMarried_111 : decode cX8_isMarried 111 = .ok (.if_icmp .eq 47, 3) := by decide +kernel
theorem dX8_isMarried_114 : decode cX8_isMarried 114 = .ok (.aload_n 0, 1) := by decide +kernel
theorem dX8_isMarried_115 : decode cX8_isMarried 115 = .ok (.iload_n 2, 1) := by decide +kernel
theorem dX8_isMarried_116 : decode cX8_isMarried 116 = .ok (.iload_n 3, 1) := by decide +kernel
theorem dX8_isMarried_117 : decode cX8_isMarried 117 = .ok (.invokevirtual 172, 3) := by decide +kernel
theorem dX8_isMarried_120 : decode cX8_isMarried 120 = .ok (.aload_n 0, 1) := by decide +kernel
theorem dX8_isMarried_121 : decode cX8_isMarried 121 = .ok (.iload_n 2, 1) := by decide +kernel
theorem dX8_isMarried_122 : decode cX8_isMarried 122 = .ok (.aload_n 0, 1) := by decide +kernel
theorem dX8_isMarried_123 : decode cX8_isMarried 123 = .ok (.getfield 40, 3) := by decide +kernel
theorem dX8_isMarried_126 : decode cX8_isMarried 126 = .ok (.iload_n 2, 1) := by decide +kernel
theorem dX8_isMarried_127 : decode cX8_isMarried 127 = .ok (.iaload, 1) := by decide +kernel
theorem dX8_isMarried_128 : decode cX8_isMarried 128 = .ok (.invokevirtual 172, 3) := by decide +kernel
theorem dX8_isMarried_131 : decode cX8_isMarried 131 = .ok (.if_icmp .le 27, 3) := by decide +kernel
theorem dX8_isMarried_134 : decode cX8_isMarried 134 = .ok (.aload_n 0, 1) := by decide +kernel
theorem dX8_isMarried_135 : decode cX8_isMarried 135 = .ok (.iload_n 3, 1) := by decide +kernel
theorem dX8_isMarried_136 : decode cX8_isMarried 136 = .ok (.iload_n 2, 1) := by decide +kernel
theorem dX8_isMarried_137 : decode cX8_isMarried 137 = .ok (.invokevirtual 172, 3) := by decide +kernel
theorem dX8_isMarried_140 : decode cX8_isMarried 140 = .ok (.aload_n 0, 1) := by decide +kernel
theorem dX8_isMarried_141 : decode cX8_isMarried 141 = .ok (.iload_n 3, 1) := by decide +kernel
theorem dX8_isMarried_142 : decode cX8_isMarried 142 = .ok (.aload_n 0, 1) := by decide +kernel
theorem dX8_isMarried_143 : decode cX8_isMarried 143 = .ok (.getfield 40, 3) := by decide +kernel
theorem dX8_isMarried_146 : decode cX8_isMarried 146 = .ok (.iload_n 3, 1) := by decide +kernel
theorem dX8_isMarried_147 : decode cX8_isMarried 147 = .ok (.iaload, 1) := by decide +kernel
theorem dX8_isMarried_148 : decode cX8_isMarried 148 = .ok (.invokevirtual 172, 3) := by decide +kernel
theorem dX8_isMarried_151 : decode cX8_isMarried 151 = .ok (.if_icmp .le 7, 3) := by decide +kernel
theorem dX8_isMarried_154 : decode cX8_isMarried 154 = .ok (.iconst 1, 1) := by decide +kernel
theorem dX8_isMarried_155 : decode cX8_isMarried 155 = .ok (.goto 4, 3) := by decide +kernel
theorem dX8_isMarried_158 : decode cX8_isMarried 158 = .ok (.iconst 0, 1) := by decide +kernel
theorem dX8_isMarried_159 : decode cX8_isMarried 159 = .ok (.istore 4, 2) := by decide +kernel
theorem dX8_isMarried_161 : decode cX8_isMarried 161 = .ok (.iload_n 1, 1) := by decide +kernel
theorem dX8_isMarried_162 : decode cX8_isMarried 162 = .ok (.ifCond .eq 12, 3) := by decide +kernel
theorem dX8_isMarried_165 : decode cX8_isMarried 165 = .ok (.iload 4, 2) := by decide +kernel
theorem dX8_isMarried_167 : decode cX8_isMarried 167 = .ok (.ifCond .ne 7, 3) := by decide +kernel
theorem dX8_isMarried_170 : decode cX8_isMarried 170 = .ok (.iconst 1, 1) := by decide +kernel
theorem dX8_isMarried_171 : decode cX8_isMarried 171 = .ok (.goto 4, 3) := by decide +kernel
theorem dX8_isMarried_174 : decode cX8_isMarried 174 = .ok (.iconst 0, 1) := by decide +kernel
theorem dX8_isMarried_175 : decode cX8_isMarried 175 = .ok (.istore_n 1, 1) := by decide +kernel
theorem dX8_isMarried_176 : decode cX8_isMarried 176 = .ok (.iinc 3 1, 3) := by decide +kernel
theorem dX8_isMarried_179 : decode cX8_isMarried 179 = .ok (.goto (-90), 3) := by decide +kernel
theorem dX8_isMarried_182 : decode cX8_isMarried 182 = .ok (.iinc 2 1, 3) := by decide +kernel
theorem dX8_isMarried_185 : decode cX8_isMarried 185 = .ok (.goto (-112), 3) := by decide +kernel
theorem dX8_isMarried_188 : decode cX8_isMarried 188 = .ok (.iload_n 1, 1) := by decide +kernel
theorem dX8_isMarried_189 : decode cX8_isMarried 189 = .ok (.ireturn, 1) := by decide +kernel
theorem dX8_marries_0 : decode cX8_marries 0 = .ok (.aload_n 0, 1) := by decide +kernel
theorem dX8_marries_1 : decode cX8_marries 1 = .ok (.getfield 13, 3) := by decide +kernel
theorem dX8_marries_4 : decode cX8_marries 4 = .ok (.iconst 2, 1) := by decide +kernel
theorem dX8_marries_5 : decode cX8_marries 5 = .ok (.iaload, 1) := by decide +kernel
theorem dX8_marries_6 : decode cX8_marries 6 = .ok (.istore_n 1, 1) := by decide +kernel
theorem dX8_marries_7 : decode cX8_marries 7 = .ok (.iconst 0, 1) := by decide +kernel
theorem dX8_marries_8 : decode cX8_marries 8 = .ok (.istore_n 2, 1) := by decide +kernel
theorem dX8_marries_9 : decode cX8_marries 9 = .ok (.aload_n 0, 1) := by decide +kernel
theorem dX8_marries_10 : decode cX8_marries 10 = .ok (.getfield 40, 3) := by decide +kernel
theorem dX8_marries_13 : decode cX8_marries 13 = .ok (.iconst 0, 1) := by decide +kernel
theorem dX8_marries_14 : decode cX8_marries 14 = .ok (.iconst (-1), 1) := by decide +kernel
theorem dX8_marries_15 : decode cX8_marries 15 = .ok (.iastore, 1) := by decide +kernel
theorem dX8_marries_16 : decode cX8_marries 16 = .ok (.iload_n 2, 1) := by decide +kernel
theorem dX8_marries_17 : decode cX8_marries 17 = .ok (.ifCond .lt 185, 3) := by decide +kernel
theorem dX8_marries_20 : decode cX8_marries 20 = .ok (.aload_n 0, 1) := by decide +kernel
theorem dX8_marries_21 : decode cX8_marries 21 = .ok (.getfield 40, 3) := by decide +kernel
theorem dX8_marries_24 : decode cX8_marries 24 = .ok (.iload_n 2, 1) := by decide +kernel
theorem dX8_marries_25 : decode cX8_marries 25 = .ok (.dup2, 1) := by decide +kernel
theorem dX8_marries_26 : decode cX8_marries 26 = .ok (.iaload, 1) := by decide +kernel
theorem dX8_marries_27 : decode cX8_marries 27 = .ok (.iconst 1, 1) := by decide +kernel
theorem dX8_marries_28 : decode cX8_marries 28 = .ok (.iadd, 1) := by decide +kernel
theorem dX8_marries_29 : decode cX8_marries 29 = .ok (.iastore, 1) := by decide +kernel
theorem dX8_marries_30 : decode cX8_marries 30 = .ok (.aload_n 0, 1) := by decide +kernel
theorem dX8_marries_31 : decode cX8_marries 31 = .ok (.getfield 40, 3) := by decide +kernel
theorem dX8_marries_34 : decode cX8_marries 34 = .ok (.iload_n 2, 1) := by decide +kernel
theorem dX8_marries_35 : decode cX8_marries 35 = .ok (.iaload, 1) := by decide +kernel
theorem dX8_marries_36 : decode cX8_marries 36 = .ok (.iload_n 1, 1) := by decide +kernel
theorem dX8_marries_37 : decode cX8_marries 37 = .ok (.if_icmp .le 9, 3) := by decide +kernel
theorem dX8_marries_40 : decode cX8_marries 40 = .ok (.iinc 2 (-1), 3) := by decide +kernel
theorem dX8_marries_43 : decode cX8_marries 43 = .ok (.goto (-27), 3) := by decide +kernel
theorem dX8_marries_46 : decode cX8_marries 46 = .ok (.aload_n 0, 1) := by decide +kernel
theorem dX8_marries_47 : decode cX8_marries 47 = .ok (.getfield 40, 3) := by decide +kernel
theorem dX8_marries_50 : decode cX8_marries 50 = .ok (.iload_n 2, 1) := by decide +kernel
theorem dX8_marries_51 : decode cX8_marries 51 = .ok (.iaload, 1) := by decide +kernel
theorem dX8_marries_52 : decode cX8_marries 52 = .ok (.istore_n 3, 1) := by decide +kernel
theorem dX8_marries_53 : decode cX8_marries 53 = .ok (.iload_n 3, 1) := by decide +kernel
theorem dX8_marries_54 : decode cX8_marries 54 = .ok (.iload_n 1, 1) := by decide +kernel
theorem dX8_marries_55 : decode cX8_marries 55 = .ok (.if_icmp .eq 41, 3) := by decide +kernel
theorem dX8_marries_58 : decode cX8_marries 58 = .ok (.iload_n 3, 1) := by decide +kernel
theorem dX8_marries_59 : decode cX8_marries 59 = .ok (.iload_n 2, 1) := by decide +kernel
theorem dX8_marries_60 : decode cX8_marries 60 = .ok (.if_icmp .eq 40, 3) := by decide +kernel
theorem dX8_marries_63 : decode cX8_marries 63 = .ok (.aload_n 0, 1) := by decide +kernel
theorem dX8_marries_64 : decode cX8_marries 64 = .ok (.iload_n 2, 1) := by decide +kernel
theorem dX8_marries_65 : decode cX8_marries 65 = .ok (.iload_n 3, 1) := by decide +kernel
theorem dX8_marries_66 : decode cX8_marries 66 = .ok (.invokevirtual 172, 3) := by decide +kernel
theorem dX8_marries_69 : decode cX8_marries 69 = .ok (.ifCond .le 31, 3) := by decide +kernel
theorem dX8_marries_72 : decode cX8_marries 72 = .ok (.aload_n 0, 1) := by decide +kernel
theorem dX8_marries_73 : decode cX8_marries 73 = .ok (.iload_n 3, 1) := by decide +kernel
theorem dX8_marries_74 : decode cX8_marries 74 = .ok (.iload_n 2, 1) := by decide +kernel
theorem dX8_marries_75 : decode cX8_marries 75 = .ok (.invokevirtual 172, 3) := by decide +kernel
theorem dX8_marries_78 : decode cX8_marries 78 = .ok (.ifCond .le 22, 3) := by decide +kernel
theorem dX8_marries_81 : decode cX8_marries 81 = .ok (.iload_n 3, 1) := by decide +kernel
theorem dX8_marries_82 : decode cX8_marries 82 = .ok (.iload_n 2, 1) := by decide +kernel
theorem dX8_marries_83 : decode cX8_marries 83 = .ok (.if_icmp .gt 13, 3) := by decide +kernel
theorem dX8_marries_86 : decode cX8_marries 86 = .ok (.aload_n 0, 1) := by decide +kernel
theorem dX8_marries_87 : decode cX8_marries 87 = .ok (.getfield 40, 3) := by decide +kernel
theorem dX8_marries_90 : decode cX8_marries 90 = .ok (.iload_n 3, 1) := by decide +kernel
theorem dX8_marries_91 : decode cX8_marries 91 = .ok (.iaload, 1) := by decide +kernel
theorem dX8_marries_92 : decode cX8_marries 92 = .ok (.iload_n 2, 1) := by decide +kernel
theorem dX8_marries_93 : decode cX8_marries 93 = .ok (.if_icmp .ne 7, 3) := by decide +kernel
theorem dX8_marries_96 : decode cX8_marries 96 = .ok (.iconst 1, 1) := by decide +kernel
theorem dX8_marries_97 : decode cX8_marries 97 = .ok (.goto 4, 3) := by decide +kernel
theorem dX8_marries_100 : decode cX8_marries 100 = .ok (.iconst 0, 1) := by decide +kernel
theorem dX8_marries_101 : decode cX8_marries 101 = .ok (.istore 4, 2) := by decide +kernel
theorem dX8_marries_103 : decode cX8_marries 103 = .ok (.iconst 0, 1) := by decide +kernel
theorem dX8_marries_104 : decode cX8_marries 104 = .ok (.istore 5, 2) := by decide +kernel
theorem dX8_marries_106 : decode cX8_marries 106 = .ok (.iload 5, 2) := by decide +kernel
theorem dX8_marries_108 : decode cX8_marries 108 = .ok (.iload_n 2, 1) := by decide +kernel
theorem dX8_marries_109 : decode cX8_marries 109 = .ok (.if_icmp .ge 54, 3) := by decide +kernel
theorem dX8_marries_112 : decode cX8_marries 112 = .ok (.iload 4, 2) := by decide +kernel
theorem dX8_marries_114 : decode cX8_marries 114 = .ok (.ifCond .eq 40, 3) := by decide +kernel
theorem dX8_marries_117 : decode cX8_marries 117 = .ok (.aload_n 0, 1) := by decide +kernel
theorem dX8_marries_118 : decode cX8_marries 118 = .ok (.getfield 40, 3) := by decide +kernel
theorem dX8_marries_121 : decode cX8_marries 121 = .ok (.iload 5, 2) := by decide +kernel
theorem dX8_marries_123 : decode cX8_marries 123 = .ok (.iaload, 1) := by decide +kernel
theorem dX8_marries_124 : decode cX8_marries 124 = .ok (.iload_n 2, 1) := by decide +kernel
theorem dX8_marries_125 : decode cX8_marries 125 = .ok (.if_icmp .ne 9, 3) := by decide +kernel
theorem dX8_marries_128 : decode cX8_marries 128 = .ok (.iload_n 3, 1) := by decide +kernel
theorem dX8_marries_129 : decode cX8_marries 129 = .ok (.iload 5, 2) := by decide +kernel
theorem dX8_marries_131 : decode cX8_marries 131 = .ok (.if_icmp .ne 23, 3) := by decide +kernel
theorem dX8_marries_134 : decode cX8_marries 134 = .ok (.aload_n 0, 1) := by decide +kernel
theorem dX8_marries_135 : decode cX8_marries 135 = .ok (.getfield 40, 3) := by decide +kernel
theorem dX8_marries_138 : decode cX8_marries 138 = .ok (.iload 5, 2) := by decide +kernel
theorem dX8_marries_140 : decode cX8_marries 140 = .ok (.iaload, 1) := by decide +kernel
theorem dX8_marries_141 : decode cX8_marries 141 = .ok (.iload_n 3, 1) := by decide +kernel
theorem dX8_marries_142 : decode cX8_marries 142 = .ok (.if_icmp .ne 8, 3) := by decide +kernel
theorem dX8_marries_145 : decode cX8_marries 145 = .ok (.iload_n 3, 1) := by decide +kernel
theorem dX8_marries_146 : decode cX8_marries 146 = .ok (.iload_n 1, 1) := by decide +kernel
theorem dX8_marries_147 : decode cX8_marries 147 = .ok (.if_icmp .ne 7, 3) := by decide +kernel
theorem dX8_marries_150 : decode cX8_marries 150 = .ok (.iconst 1, 1) := by decide +kernel
theorem dX8_marries_151 : decode cX8_marries 151 = .ok (.goto 4, 3) := by decide +kernel
theorem dX8_marries_154 : decode cX8_marries 154 = .ok (.iconst 0, 1) := by decide +kernel
theorem dX8_marries_155 : decode cX8_marries 155 = .ok (.istore 4, 2) := by decide +kernel
theorem dX8_marries_157 : decode cX8_marries 157 = .ok (.iinc 5 1, 3) := by decide +kernel
theorem dX8_marries_160 : decode cX8_marries 160 = .ok (.goto (-54), 3) := by decide +kernel
theorem dX8_marries_163 : decode cX8_marries 163 = .ok (.iload 4, 2) := by decide +kernel
theorem dX8_marries_165 : decode cX8_marries 165 = .ok (.ifCond .eq 19, 3) := by decide +kernel
theorem dX8_marries_168 : decode cX8_marries 168 = .ok (.iload_n 2, 1) := by decide +kernel
theorem dX8_marries_169 : decode cX8_marries 169 = .ok (.iload_n 1, 1) := by decide +kernel
theorem dX8_marries_170 : decode cX8_marries 170 = .ok (.iconst 1, 1) := by decide +kernel
theorem dX8_marries_171 : decode cX8_marries 171 = .ok (.isub, 1) := by decide +kernel
theorem dX8_marries_172 : decode cX8_marries 172 = .ok (.if_icmp .ne 12, 3) := by decide +kernel
theorem dX8_marries_175 : decode cX8_marries 175 = .ok (.aload_n 0, 1) := by decide +kernel
theorem dX8_marries_176 : decode cX8_marries 176 = .ok (.invokevirtual 175, 3) := by decide +kernel
theorem dX8_marries_179 : decode cX8_marries 179 = .ok (.ifCond .eq 20, 3) := by decide +kernel
theorem dX8_marries_182 : decode cX8_marries 182 = .ok (.iconst 1, 1) := by decide +kernel
theorem dX8_marries_183 : decode cX8_marries 183 = .ok (.ireturn, 1) := by decide +kernel
theorem dX8_marries_184 : decode cX8_marries 184 = .ok (.iload 4, 2) := by decide +kernel
theorem dX8_marries_186 : decode cX8_marries 186 = .ok (.ifCond .eq 13, 3) := by decide +kernel
theorem dX8_marries_189 : decode cX8_marries 189 = .ok (.iinc 2 1, 3) := by decide +kernel
theorem dX8_marries_192 : decode cX8_marries 192 = .ok (.aload_n 0, 1) := by decide +kernel
theorem dX8_marries_193 : decode cX8_marries 193 = .ok (.getfield 40, 3) := by decide +kernel
theorem dX8_marries_196 : decode cX8_marries 196 = .ok (.iload_n 2, 1) := by decide +kernel
theorem dX8_marries_197 : decode cX8_marries 197 = .ok (.iconst (-1), 1) := by decide +kernel
theorem dX8_marries_198 : decode cX8_marries 198 = .ok (.iastore, 1) := by decide +kernel
theorem dX8_marries_199 : decode cX8_marries 199 = .ok (.goto (-183), 3) := by decide +kernel
theorem dX8_marries_202 : decode cX8_marries 202 = .ok (.iconst 0, 1) := by decide +kernel
theorem dX8_marries_203 : decode cX8_marries 203 = .ok (.ireturn, 1) := by decide +kernel
theorem dX8_marry_0 : decode cX8_marry 0 = .ok (.iload_n 1, 1) := by decide +kernel
theorem dX8_marry_1 : decode cX8_marry 1 = .ok (.iconst (-1), 1) := by decide +kernel
theorem dX8_marry_2 : decode cX8_marry 2 = .ok (.if_icmp .eq 13, 3) := by decide +kernel
theorem dX8_marry_5 : decode cX8_marry 5 = .ok (.aload_n 0, 1) := by decide +kernel
theorem dX8_marry_6 : decode cX8_marry 6 = .ok (.iload_n 1, 1) := by decide +kernel
theorem dX8_marry_7 : decode cX8_marry 7 = .ok (.invokevirtual 116, 3) := by decide +kernel
theorem dX8_marry_10 : decode cX8_marry 10 = .ok (.ifCond .ne 5, 3) := by decide +kernel
theorem dX8_marry_13 : decode cX8_marry 13 = .ok (.iconst (-1), 1) := by decide +kernel
theorem dX8_marry_14 : decode cX8_marry 14 = .ok (.ireturn, 1) := by decide +kernel
theorem dX8_marry_15 : decode cX8_marry 15 = .ok (.aload_n 0, 1) := by decide +kernel
theorem dX8_marry_16 : decode cX8_marry 16 = .ok (.invokevirtual 178, 3) := by decide +kernel
theorem dX8_marry_19 : decode cX8_marry 19 = .ok (.ifCond .ne 6, 3) := by decide +kernel
theorem dX8_marry_22 : decode cX8_marry 22 = .ok (.bipush (-4), 2) := by decide +kernel
theorem dX8_marry_24 : decode cX8_marry 24 = .ok (.ireturn, 1) := by decide +kernel
theorem dX8_marry_25 : decode cX8_marry 25 = .ok (.iconst 0, 1) := by decide +kernel
theorem dX8_marry_26 : decode cX8_marry 26 = .ok (.istore_n 2, 1) := by decide +kernel
theorem dX8_marry_27 : decode cX8_marry 27 = .ok (.iconst 0, 1) := by decide +kernel
theorem dX8_marry_28 : decode cX8_marry 28 = .ok (.istore_n 3, 1) := by decide +kernel
theorem dX8_marry_29 : decode cX8_marry 29 = .ok (.iload_n 3, 1) := by decide +kernel
theorem dX8_marry_30 : decode cX8_marry 30 = .ok (.aload_n 0, 1) := by decide +kernel
theorem dX8_marry_31 : decode cX8_marry 31 = .ok (.getfield 13, 3) := by decide +kernel
theorem dX8_marry_34 : decode cX8_marry 34 = .ok (.iconst 2, 1) := by decide +kernel
theorem dX8_marry_35 : decode cX8_marry 35 = .ok (.iaload, 1) := by decide +kernel
