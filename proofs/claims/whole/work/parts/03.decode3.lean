theorem dX8_marry_36 : decode cX8_marry 36 = .ok (.if_icmp .ge 32, 3) := by decide +kernel
theorem dX8_marry_39 : decode cX8_marry 39 = .ok (.iload_n 2, 1) := by decide +kernel
theorem dX8_marry_40 : decode cX8_marry 40 = .ok (.aload_n 0, 1) := by decide +kernel
theorem dX8_marry_41 : decode cX8_marry 41 = .ok (.getfield 40, 3) := by decide +kernel
theorem dX8_marry_44 : decode cX8_marry 44 = .ok (.iload_n 3, 1) := by decide +kernel
theorem dX8_marry_45 : decode cX8_marry 45 = .ok (.iaload, 1) := by decide +kernel
theorem dX8_marry_46 : decode cX8_marry 46 = .ok (.aload_n 0, 1) := by decide +kernel
theorem dX8_marry_47 : decode cX8_marry 47 = .ok (.getfield 13, 3) := by decide +kernel
theorem dX8_marry_50 : decode cX8_marry 50 = .ok (.iconst 2, 1) := by decide +kernel
theorem dX8_marry_51 : decode cX8_marry 51 = .ok (.iaload, 1) := by decide +kernel
theorem dX8_marry_52 : decode cX8_marry 52 = .ok (.if_icmp .ne 7, 3) := by decide +kernel
theorem dX8_marry_55 : decode cX8_marry 55 = .ok (.iconst 0, 1) := by decide +kernel
theorem dX8_marry_56 : decode cX8_marry 56 = .ok (.goto 4, 3) := by decide +kernel
theorem dX8_marry_59 : decode cX8_marry 59 = .ok (.iconst 1, 1) := by decide +kernel
theorem dX8_marry_60 : decode cX8_marry 60 = .ok (.iadd, 1) := by decide +kernel
theorem dX8_marry_61 : decode cX8_marry 61 = .ok (.istore_n 2, 1) := by decide +kernel
theorem dX8_marry_62 : decode cX8_marry 62 = .ok (.iinc 3 1, 3) := by decide +kernel
theorem dX8_marry_65 : decode cX8_marry 65 = .ok (.goto (-36), 3) := by decide +kernel
theorem dX8_marry_68 : decode cX8_marry 68 = .ok (.iload_n 1, 1) := by decide +kernel
theorem dX8_marry_69 : decode cX8_marry 69 = .ok (.iconst (-1), 1) := by decide +kernel
theorem dX8_marry_70 : decode cX8_marry 70 = .ok (.if_icmp .ne 7, 3) := by decide +kernel
theorem dX8_marry_73 : decode cX8_marry 73 = .ok (.iload_n 2, 1) := by decide +kernel
theorem dX8_marry_74 : decode cX8_marry 74 = .ok (.goto 29, 3) := by decide +kernel
theorem dX8_marry_77 : decode cX8_marry 77 = .ok (.aload_n 0, 1) := by decide +kernel
theorem dX8_marry_78 : decode cX8_marry 78 = .ok (.getfield 40, 3) := by decide +kernel
theorem dX8_marry_81 : decode cX8_marry 81 = .ok (.iload_n 1, 1) := by decide +kernel
theorem dX8_marry_82 : decode cX8_marry 82 = .ok (.iaload, 1) := by decide +kernel
theorem dX8_marry_83 : decode cX8_marry 83 = .ok (.aload_n 0, 1) := by decide +kernel
theorem dX8_marry_84 : decode cX8_marry 84 = .ok (.getfield 13, 3) := by decide +kernel
theorem dX8_marry_87 : decode cX8_marry 87 = .ok (.iconst 2, 1) := by decide +kernel
theorem dX8_marry_88 : decode cX8_marry 88 = .ok (.iaload, 1) := by decide +kernel
theorem dX8_marry_89 : decode cX8_marry 89 = .ok (.if_icmp .ne 8, 3) := by decide +kernel
theorem dX8_marry_92 : decode cX8_marry 92 = .ok (.bipush (-4), 2) := by decide +kernel
theorem dX8_marry_94 : decode cX8_marry 94 = .ok (.goto 9, 3) := by decide +kernel
theorem dX8_marry_97 : decode cX8_marry 97 = .ok (.aload_n 0, 1) := by decide +kernel
theorem dX8_marry_98 : decode cX8_marry 98 = .ok (.getfield 40, 3) := by decide +kernel
theorem dX8_marry_101 : decode cX8_marry 101 = .ok (.iload_n 1, 1) := by decide +kernel
theorem dX8_marry_102 : decode cX8_marry 102 = .ok (.iaload, 1) := by decide +kernel
theorem dX8_marry_103 : decode cX8_marry 103 = .ok (.ireturn, 1) := by decide +kernel
theorem dX8_see_0 : decode cX8_see 0 = .ok (.aload_n 0, 1) := by decide +kernel
theorem dX8_see_1 : decode cX8_see 1 = .ok (.iload_n 1, 1) := by decide +kernel
theorem dX8_see_2 : decode cX8_see 2 = .ok (.invokevirtual 116, 3) := by decide +kernel
theorem dX8_see_5 : decode cX8_see 5 = .ok (.ifCond .eq 23, 3) := by decide +kernel
theorem dX8_see_8 : decode cX8_see 8 = .ok (.iload_n 2, 1) := by decide +kernel
theorem dX8_see_9 : decode cX8_see 9 = .ok (.iconst 0, 1) := by decide +kernel
theorem dX8_see_10 : decode cX8_see 10 = .ok (.bipush 20, 2) := by decide +kernel
theorem dX8_see_12 : decode cX8_see 12 = .ok (.invokestatic 53, 3) := by decide +kernel
theorem dX8_see_15 : decode cX8_see 15 = .ok (.ifCond .eq 13, 3) := by decide +kernel
theorem dX8_see_18 : decode cX8_see 18 = .ok (.iload_n 3, 1) := by decide +kernel
theorem dX8_see_19 : decode cX8_see 19 = .ok (.iconst 0, 1) := by decide +kernel
theorem dX8_see_20 : decode cX8_see 20 = .ok (.bipush 7, 2) := by decide +kernel
theorem dX8_see_22 : decode cX8_see 22 = .ok (.invokestatic 53, 3) := by decide +kernel
theorem dX8_see_25 : decode cX8_see 25 = .ok (.ifCond .ne 5, 3) := by decide +kernel
theorem dX8_see_28 : decode cX8_see 28 = .ok (.iconst (-1), 1) := by decide +kernel
theorem dX8_see_29 : decode cX8_see 29 = .ok (.ireturn, 1) := by decide +kernel
theorem dX8_see_30 : decode cX8_see 30 = .ok (.aload_n 0, 1) := by decide +kernel
theorem dX8_see_31 : decode cX8_see 31 = .ok (.getfield 96, 3) := by decide +kernel
theorem dX8_see_34 : decode cX8_see 34 = .ok (.bipush 6, 2) := by decide +kernel
theorem dX8_see_36 : decode cX8_see 36 = .ok (.if_icmp .ne 6, 3) := by decide +kernel
theorem dX8_see_39 : decode cX8_see 39 = .ok (.bipush (-3), 2) := by decide +kernel
theorem dX8_see_41 : decode cX8_see 41 = .ok (.ireturn, 1) := by decide +kernel
theorem dX8_see_42 : decode cX8_see 42 = .ok (.aload_n 0, 1) := by decide +kernel
theorem dX8_see_43 : decode cX8_see 43 = .ok (.getfield 31, 3) := by decide +kernel
theorem dX8_see_46 : decode cX8_see 46 = .ok (.iconst 3, 1) := by decide +kernel
theorem dX8_see_47 : decode cX8_see 47 = .ok (.aload_n 0, 1) := by decide +kernel
theorem dX8_see_48 : decode cX8_see 48 = .ok (.getfield 96, 3) := by decide +kernel
theorem dX8_see_51 : decode cX8_see 51 = .ok (.imul, 1) := by decide +kernel
theorem dX8_see_52 : decode cX8_see 52 = .ok (.iload_n 1, 1) := by decide +kernel
theorem dX8_see_53 : decode cX8_see 53 = .ok (.iastore, 1) := by decide +kernel
theorem dX8_see_54 : decode cX8_see 54 = .ok (.aload_n 0, 1) := by decide +kernel
theorem dX8_see_55 : decode cX8_see 55 = .ok (.getfield 31, 3) := by decide +kernel
theorem dX8_see_58 : decode cX8_see 58 = .ok (.iconst 3, 1) := by decide +kernel
theorem dX8_see_59 : decode cX8_see 59 = .ok (.aload_n 0, 1) := by decide +kernel
theorem dX8_see_60 : decode cX8_see 60 = .ok (.getfield 96, 3) := by decide +kernel
theorem dX8_see_63 : decode cX8_see 63 = .ok (.imul, 1) := by decide +kernel
theorem dX8_see_64 : decode cX8_see 64 = .ok (.iconst 1, 1) := by decide +kernel
theorem dX8_see_65 : decode cX8_see 65 = .ok (.iadd, 1) := by decide +kernel
theorem dX8_see_66 : decode cX8_see 66 = .ok (.iload_n 2, 1) := by decide +kernel
theorem dX8_see_67 : decode cX8_see 67 = .ok (.iastore, 1) := by decide +kernel
theorem dX8_see_68 : decode cX8_see 68 = .ok (.aload_n 0, 1) := by decide +kernel
theorem dX8_see_69 : decode cX8_see 69 = .ok (.getfield 31, 3) := by decide +kernel
theorem dX8_see_72 : decode cX8_see 72 = .ok (.iconst 3, 1) := by decide +kernel
theorem dX8_see_73 : decode cX8_see 73 = .ok (.aload_n 0, 1) := by decide +kernel
theorem dX8_see_74 : decode cX8_see 74 = .ok (.getfield 96, 3) := by decide +kernel
theorem dX8_see_77 : decode cX8_see 77 = .ok (.imul, 1) := by decide +kernel
theorem dX8_see_78 : decode cX8_see 78 = .ok (.iconst 2, 1) := by decide +kernel
theorem dX8_see_79 : decode cX8_see 79 = .ok (.iadd, 1) := by decide +kernel
theorem dX8_see_80 : decode cX8_see 80 = .ok (.iload_n 3, 1) := by decide +kernel
theorem dX8_see_81 : decode cX8_see 81 = .ok (.iastore, 1) := by decide +kernel
theorem dX8_see_82 : decode cX8_see 82 = .ok (.aload_n 0, 1) := by decide +kernel
theorem dX8_see_83 : decode cX8_see 83 = .ok (.dup, 1) := by decide +kernel
theorem dX8_see_84 : decode cX8_see 84 = .ok (.getfield 96, 3) := by decide +kernel
theorem dX8_see_87 : decode cX8_see 87 = .ok (.iconst 1, 1) := by decide +kernel
theorem dX8_see_88 : decode cX8_see 88 = .ok (.iadd, 1) := by decide +kernel
theorem dX8_see_89 : decode cX8_see 89 = .ok (.putfield 96, 3) := by decide +kernel
theorem dX8_see_92 : decode cX8_see 92 = .ok (.aload_n 0, 1) := by decide +kernel
theorem dX8_see_93 : decode cX8_see 93 = .ok (.getfield 96, 3) := by decide +kernel
theorem dX8_see_96 : decode cX8_see 96 = .ok (.ireturn, 1) := by decide +kernel
theorem dX8_forget_0 : decode cX8_forget 0 = .ok (.aload_n 0, 1) := by decide +kernel
theorem dX8_forget_1 : decode cX8_forget 1 = .ok (.getfield 96, 3) := by decide +kernel
theorem dX8_forget_4 : decode cX8_forget 4 = .ok (.istore_n 1, 1) := by decide +kernel
theorem dX8_forget_5 : decode cX8_forget 5 = .ok (.aload_n 0, 1) := by decide +kernel
theorem dX8_forget_6 : decode cX8_forget 6 = .ok (.iconst 0, 1) := by decide +kernel
theorem dX8_forget_7 : decode cX8_forget 7 = .ok (.putfield 96, 3) := by decide +kernel
theorem dX8_forget_10 : decode cX8_forget 10 = .ok (.iload_n 1, 1) := by decide +kernel
theorem dX8_forget_11 : decode cX8_forget 11 = .ok (.ireturn, 1) := by decide +kernel
theorem dX8_kinds_0 : decode cX8_kinds 0 = .ok (.aload_n 0, 1) := by decide +kernel
theorem dX8_kinds_1 : decode cX8_kinds 1 = .ok (.iload_n 1, 1) := by decide +kernel
theorem dX8_kinds_2 : decode cX8_kinds 2 = .ok (.invokevirtual 116, 3) := by decide +kernel
theorem dX8_kinds_5 : decode cX8_kinds 5 = .ok (.ifCond .ne 5, 3) := by decide +kernel
theorem dX8_kinds_8 : decode cX8_kinds 8 = .ok (.iconst (-1), 1) := by decide +kernel
theorem dX8_kinds_9 : decode cX8_kinds 9 = .ok (.ireturn, 1) := by decide +kernel
theorem dX8_kinds_10 : decode cX8_kinds 10 = .ok (.aload_n 0, 1) := by decide +kernel
theorem dX8_kinds_11 : decode cX8_kinds 11 = .ok (.getfield 13, 3) := by decide +kernel
theorem dX8_kinds_14 : decode cX8_kinds 14 = .ok (.iconst 3, 1) := by decide +kernel
theorem dX8_kinds_15 : decode cX8_kinds 15 = .ok (.iload_n 1, 1) := by decide +kernel
theorem dX8_kinds_16 : decode cX8_kinds 16 = .ok (.iadd, 1) := by decide +kernel
theorem dX8_kinds_17 : decode cX8_kinds 17 = .ok (.iaload, 1) := by decide +kernel
theorem dX8_kinds_18 : decode cX8_kinds 18 = .ok (.istore_n 2, 1) := by decide +kernel
theorem dX8_kinds_19 : decode cX8_kinds 19 = .ok (.iconst 0, 1) := by decide +kernel
theorem dX8_kinds_20 : decode cX8_kinds 20 = .ok (.istore_n 3, 1) := by decide +kernel
theorem dX8_kinds_21 : decode cX8_kinds 21 = .ok (.iconst 0, 1) := by decide +kernel
theorem dX8_kinds_22 : decode cX8_kinds 22 = .ok (.istore 4, 2) := by decide +kernel
theorem dX8_kinds_24 : decode cX8_kinds 24 = .ok (.iload 4, 2) := by decide +kernel
theorem dX8_kinds_26 : decode cX8_kinds 26 = .ok (.iconst 3, 1) := by decide +kernel
theorem dX8_kinds_27 : decode cX8_kinds 27 = .ok (.if_icmp .gt 111, 3) := by decide +kernel
theorem dX8_kinds_30 : decode cX8_kinds 30 = .ok (.aload_n 0, 1) := by decide +kernel
theorem dX8_kinds_31 : decode cX8_kinds 31 = .ok (.getfield 13, 3) := by decide +kernel
theorem dX8_kinds_34 : decode cX8_kinds 34 = .ok (.iconst 3, 1) := by decide +kernel
theorem dX8_kinds_35 : decode cX8_kinds 35 = .ok (.iload_n 1, 1) := by decide +kernel
theorem dX8_kinds_36 : decode cX8_kinds 36 = .ok (.iadd, 1) := by decide +kernel
theorem dX8_kinds_37 : decode cX8_kinds 37 = .ok (.iload 4, 2) := by decide +kernel
theorem dX8_kinds_39 : decode cX8_kinds 39 = .ok (.iastore, 1) := by decide +kernel
theorem dX8_kinds_40 : decode cX8_kinds 40 = .ok (.iconst 1, 1) := by decide +kernel
theorem dX8_kinds_41 : decode cX8_kinds 41 = .ok (.istore 5, 2) := by decide +kernel
theorem dX8_kinds_43 : decode cX8_kinds 43 = .ok (.iconst 0, 1) := by decide +kernel
theorem dX8_kinds_44 : decode cX8_kinds 44 = .ok (.istore 6, 2) := by decide +kernel
theorem dX8_kinds_46 : decode cX8_kinds 46 = .ok (.iload 6, 2) := by decide +kernel
theorem dX8_kinds_48 : decode cX8_kinds 48 = .ok (.aload_n 0, 1) := by decide +kernel
theorem dX8_kinds_49 : decode cX8_kinds 49 = .ok (.getfield 96, 3) := by decide +kernel
theorem dX8_kinds_52 : decode cX8_kinds 52 = .ok (.if_icmp .ge 64, 3) := by decide +kernel
theorem dX8_kinds_55 : decode cX8_kinds 55 = .ok (.iload 5, 2) := by decide +kernel
theorem dX8_kinds_57 : decode cX8_kinds 57 = .ok (.ifCond .eq 50, 3) := by decide +kernel
theorem dX8_kinds_60 : decode cX8_kinds 60 = .ok (.aload_n 0, 1) := by decide +kernel
theorem dX8_kinds_61 : decode cX8_kinds 61 = .ok (.getfield 31, 3) := by decide +kernel
theorem dX8_kinds_64 : decode cX8_kinds 64 = .ok (.iconst 3, 1) := by decide +kernel
theorem dX8_kinds_65 : decode cX8_kinds 65 = .ok (.iload 6, 2) := by decide +kernel
theorem dX8_kinds_67 : decode cX8_kinds 67 = .ok (.imul, 1) := by decide +kernel
theorem dX8_kinds_68 : decode cX8_kinds 68 = .ok (.iaload, 1) := by decide +kernel
theorem dX8_kinds_69 : decode cX8_kinds 69 = .ok (.iload_n 1, 1) := by decide +kernel
theorem dX8_kinds_70 : decode cX8_kinds 70 = .ok (.if_icmp .ne 33, 3) := by decide +kernel
theorem dX8_kinds_73 : decode cX8_kinds 73 = .ok (.aload_n 0, 1) := by decide +kernel
theorem dX8_kinds_74 : decode cX8_kinds 74 = .ok (.aload_n 0, 1) := by decide +kernel
theorem dX8_kinds_75 : decode cX8_kinds 75 = .ok (.getfield 31, 3) := by decide +kernel
theorem dX8_kinds_78 : decode cX8_kinds 78 = .ok (.iconst 3, 1) := by decide +kernel
theorem dX8_kinds_79 : decode cX8_kinds 79 = .ok (.iload 6, 2) := by decide +kernel
theorem dX8_kinds_81 : decode cX8_kinds 81 = .ok (.imul, 1) := by decide +kernel
theorem dX8_kinds_82 : decode cX8_kinds 82 = .ok (.iconst 1, 1) := by decide +kernel
theorem dX8_kinds_83 : decode cX8_kinds 83 = .ok (.iadd, 1) := by decide +kernel
theorem dX8_kinds_84 : decode cX8_kinds 84 = .ok (.iaload, 1) := by decide +kernel
theorem dX8_kinds_85 : decode cX8_kinds 85 = .ok (.iload_n 1, 1) := by decide +kernel
theorem dX8_kinds_86 : decode cX8_kinds 86 = .ok (.invokevirtual 160, 3) := by decide +kernel
theorem dX8_kinds_89 : decode cX8_kinds 89 = .ok (.aload_n 0, 1) := by decide +kernel
theorem dX8_kinds_90 : decode cX8_kinds 90 = .ok (.getfield 31, 3) := by decide +kernel
theorem dX8_kinds_93 : decode cX8_kinds 93 = .ok (.iconst 3, 1) := by decide +kernel
theorem dX8_kinds_94 : decode cX8_kinds 94 = .ok (.iload 6, 2) := by decide +kernel
theorem dX8_kinds_96 : decode cX8_kinds 96 = .ok (.imul, 1) := by decide +kernel
theorem dX8_kinds_97 : decode cX8_kinds 97 = .ok (.iconst 2, 1) := by decide +kernel
theorem dX8_kinds_98 : decode cX8_kinds 98 = .ok (.iadd, 1) := by decide +kernel
theorem dX8_kinds_99 : decode cX8_kinds 99 = .ok (.iaload, 1) := by decide +kernel
theorem dX8_kinds_100 : decode cX8_kinds 100 = .ok (.if_icmp .ne 7, 3) := by decide +kernel
theorem dX8_kinds_103 : decode cX8_kinds 103 = .ok (.iconst 1, 1) := by decide +kernel
theorem dX8_kinds_104 : decode cX8_kinds 104 = .ok (.goto 4, 3) := by decide +kernel
theorem dX8_kinds_107 : decode cX8_kinds 107 = .ok (.iconst 0, 1) := by decide +kernel
theorem dX8_kinds_108 : decode cX8_kinds 108 = .ok (.istore 5, 2) := by decide +kernel
theorem dX8_kinds_110 : decode cX8_kinds 110 = .ok (.iinc 6 1, 3) := by decide +kernel
theorem dX8_kinds_113 : decode cX8_kinds 113 = .ok (.goto (-67), 3) := by decide +kernel
theorem dX8_kinds_116 : decode cX8_kinds 116 = .ok (.iload_n 3, 1) := by decide +kernel
theorem dX8_kinds_117 : decode cX8_kinds 117 = .ok (.iload 5, 2) := by decide +kernel
theorem dX8_kinds_119 : decode cX8_kinds 119 = .ok (.ifCond .eq 10, 3) := by decide +kernel
theorem dX8_kinds_122 : decode cX8_kinds 122 = .ok (.iconst 1, 1) := by decide +kernel
theorem dX8_kinds_123 : decode cX8_kinds 123 = .ok (.iload 4, 2) := by decide +kernel
theorem dX8_kinds_125 : decode cX8_kinds 125 = .ok (.ishl, 1) := by decide +kernel
theorem dX8_kinds_126 : decode cX8_kinds 126 = .ok (.goto 4, 3) := by decide +kernel
theorem dX8_kinds_129 : decode cX8_kinds 129 = .ok (.iconst 0, 1) := by decide +kernel
theorem dX8_kinds_130 : decode cX8_kinds 130 = .ok (.ior, 1) := by decide +kernel
theorem dX8_kinds_131 : decode cX8_kinds 131 = .ok (.istore_n 3, 1) := by decide +kernel
theorem dX8_kinds_132 : decode cX8_kinds 132 = .ok (.iinc 4 1, 3) := by decide +kernel
theorem dX8_kinds_135 : decode cX8_kinds 135 = .ok (.goto (-111), 3) := by decide +kernel
theorem dX8_kinds_138 : decode cX8_kinds 138 = .ok (.aload_n 0, 1) := by decide +kernel
theorem dX8_kinds_139 : decode cX8_kinds 139 = .ok (.getfield 13, 3) := by decide +kernel
theorem dX8_kinds_142 : decode cX8_kinds 142 = .ok (.iconst 3, 1) := by decide +kernel
theorem dX8_kinds_143 : decode cX8_kinds 143 = .ok (.iload_n 1, 1) := by decide +kernel
theorem dX8_kinds_144 : decode cX8_kinds 144 = .ok (.iadd, 1) := by decide +kernel
theorem dX8_kinds_145 : decode cX8_kinds 145 = .ok (.iload_n 2, 1) := by decide +kernel
theorem dX8_kinds_146 : decode cX8_kinds 146 = .ok (.iastore, 1) := by decide +kernel
theorem dX8_kinds_147 : decode cX8_kinds 147 = .ok (.iload_n 3, 1) := by decide +kernel
theorem dX8_kinds_148 : decode cX8_kinds 148 = .ok (.ireturn, 1) := by decide +kernel
theorem dX8_loves_0 : decode cX8_loves 0 = .ok (.aload_n 0, 1) := by decide +kernel
theorem dX8_loves_1 : decode cX8_loves 1 = .ok (.iload_n 1, 1) := by decide +kernel
theorem dX8_loves_2 : decode cX8_loves 2 = .ok (.invokevirtual 116, 3) := by decide +kernel
theorem dX8_loves_5 : decode cX8_loves 5 = .ok (.ifCond .eq 13, 3) := by decide +kernel
theorem dX8_loves_8 : decode cX8_loves 8 = .ok (.iload_n 2, 1) := by decide +kernel
theorem dX8_loves_9 : decode cX8_loves 9 = .ok (.iconst 0, 1) := by decide +kernel
theorem dX8_loves_10 : decode cX8_loves 10 = .ok (.bipush 7, 2) := by decide +kernel
theorem dX8_loves_12 : decode cX8_loves 12 = .ok (.invokestatic 53, 3) := by decide +kernel
theorem dX8_loves_15 : decode cX8_loves 15 = .ok (.ifCond .ne 5, 3) := by decide +kernel
theorem dX8_loves_18 : decode cX8_loves 18 = .ok (.iconst (-1), 1) := by decide +kernel
theorem dX8_loves_19 : decode cX8_loves 19 = .ok (.ireturn, 1) := by decide +kernel
theorem dX8_loves_20 : decode cX8_loves 20 = .ok (.iconst 0, 1) := by decide +kernel
theorem dX8_loves_21 : decode cX8_loves 21 = .ok (.istore_n 3, 1) := by decide +kernel
theorem dX8_loves_22 : decode cX8_loves 22 = .ok (.iconst 0, 1) := by decide +kernel
theorem dX8_loves_23 : decode cX8_loves 23 = .ok (.istore 4, 2) := by decide +kernel
theorem dX8_loves_25 : decode cX8_loves 25 = .ok (.iload 4, 2) := by decide +kernel
theorem dX8_loves_27 : decode cX8_loves 27 = .ok (.aload_n 0, 1) := by decide +kernel
theorem dX8_loves_28 : decode cX8_loves 28 = .ok (.getfield 13, 3) := by decide +kernel
theorem dX8_loves_31 : decode cX8_loves 31 = .ok (.iconst 2, 1) := by decide +kernel
theorem dX8_loves_32 : decode cX8_loves 32 = .ok (.iaload, 1) := by decide +kernel
theorem dX8_loves_33 : decode cX8_loves 33 = .ok (.if_icmp .ge 97, 3) := by decide +kernel
theorem dX8_loves_36 : decode cX8_loves 36 = .ok (.aload_n 0, 1) := by decide +kernel
theorem dX8_loves_37 : decode cX8_loves 37 = .ok (.getfield 22, 3) := by decide +kernel
theorem dX8_loves_40 : decode cX8_loves 40 = .ok (.bipush 7, 2) := by decide +kernel
theorem dX8_loves_42 : decode cX8_loves 42 = .ok (.iload 4, 2) := by decide +kernel
theorem dX8_loves_44 : decode cX8_loves 44 = .ok (.iadd, 1) := by decide +kernel
theorem dX8_loves_45 : decode cX8_loves 45 = .ok (.iaload, 1) := by decide +kernel
theorem dX8_loves_46 : decode cX8_loves 46 = .ok (.aload_n 0, 1) := by decide +kernel
theorem dX8_loves_47 : decode cX8_loves 47 = .ok (.getfield 22, 3) := by decide +kernel
theorem dX8_loves_50 : decode cX8_loves 50 = .ok (.bipush 7, 2) := by decide +kernel
theorem dX8_loves_52 : decode cX8_loves 52 = .ok (.iload_n 1, 1) := by decide +kernel
theorem dX8_loves_53 : decode cX8_loves 53 = .ok (.iadd, 1) := by decide +kernel
theorem dX8_loves_54 : decode cX8_loves 54 = .ok (.iaload, 1) := by decide +kernel
theorem dX8_loves_55 : decode cX8_loves 55 = .ok (.isub, 1) := by decide +kernel
theorem dX8_loves_56 : decode cX8_loves 56 = .ok (.istore 5, 2) := by decide +kernel
theorem dX8_loves_58 : decode cX8_loves 58 = .ok (.aload_n 0, 1) := by decide +kernel
theorem dX8_loves_59 : decode cX8_loves 59 = .ok (.getfield 22, 3) := by decide +kernel
theorem dX8_loves_62 : decode cX8_loves 62 = .ok (.bipush 13, 2) := by decide +kernel
theorem dX8_loves_64 : decode cX8_loves 64 = .ok (.iload 4, 2) := by decide +kernel
theorem dX8_loves_66 : decode cX8_loves 66 = .ok (.iadd, 1) := by decide +kernel
theorem dX8_loves_67 : decode cX8_loves 67 = .ok (.iaload, 1) := by decide +kernel
theorem dX8_loves_68 : decode cX8_loves 68 = .ok (.aload_n 0, 1) := by decide +kernel
theorem dX8_loves_69 : decode cX8_loves 69 = .ok (.getfield 22, 3) := by decide +kernel
theorem dX8_loves_72 : decode cX8_loves 72 = .ok (.bipush 13, 2) := by decide +kernel
theorem dX8_loves_74 : decode cX8_loves 74 = .ok (.iload_n 1, 1) := by decide +kernel
theorem dX8_loves_75 : decode cX8_loves 75 = .ok (.iadd, 1) := by decide +kernel
theorem dX8_loves_76 : decode cX8_loves 76 = .ok (.iaload, 1) := by decide +kernel
theorem dX8_loves_77 : decode cX8_loves 77 = .ok (.isub, 1) := by decide +kernel
theorem dX8_loves_78 : decode cX8_loves 78 = .ok (.istore 6, 2) := by decide +kernel
theorem dX8_loves_80 : decode cX8_loves 80 = .ok (.iload_n 3, 1) := by decide +kernel
theorem dX8_loves_81 : decode cX8_loves 81 = .ok (.iload 4, 2) := by decide +kernel
theorem dX8_loves_83 : decode cX8_loves 83 = .ok (.iload_n 1, 1) := by decide +kernel
theorem dX8_loves_84 : decode cX8_loves 84 = .ok (.if_icmp .eq 37, 3) := by decide +kernel
theorem dX8_loves_87 : decode cX8_loves 87 = .ok (.iload 5, 2) := by decide +kernel
theorem dX8_loves_89 : decode cX8_loves 89 = .ok (.invokestatic 99, 3) := by decide +kernel
theorem dX8_loves_92 : decode cX8_loves 92 = .ok (.iload 6, 2) := by decide +kernel
theorem dX8_loves_94 : decode cX8_loves 94 = .ok (.invokestatic 99, 3) := by decide +kernel
theorem dX8_loves_97 : decode cX8_loves 97 = .ok (.iadd, 1) := by decide +kernel
theorem dX8_loves_98 : decode cX8_loves 98 = .ok (.bipush 12, 2) := by decide +kernel
theorem dX8_loves_100 : decode cX8_loves 100 = .ok (.if_icmp .ge 21, 3) := by decide +kernel
theorem dX8_loves_103 : decode cX8_loves 103 = .ok (.iload 5, 2) := by decide +kernel
theorem dX8_loves_105 : decode cX8_loves 105 = .ok (.iload 6, 2) := by decide +kernel
theorem dX8_loves_107 : decode cX8_loves 107 = .ok (.invokestatic 106, 3) := by decide +kernel
theorem dX8_loves_110 : decode cX8_loves 110 = .ok (.iload_n 2, 1) := by decide +kernel
theorem dX8_loves_111 : decode cX8_loves 111 = .ok (.if_icmp .ne 10, 3) := by decide +kernel
theorem dX8_loves_114 : decode cX8_loves 114 = .ok (.iconst 1, 1) := by decide +kernel
theorem dX8_loves_115 : decode cX8_loves 115 = .ok (.iload 4, 2) := by decide +kernel
theorem dX8_loves_117 : decode cX8_loves 117 = .ok (.ishl, 1) := by decide +kernel
theorem dX8_loves_118 : decode cX8_loves 118 = .ok (.goto 4, 3) := by decide +kernel
theorem dX8_loves_121 : decode cX8_loves 121 = .ok (.iconst 0, 1) := by decide +kernel
theorem dX8_loves_122 : decode cX8_loves 122 = .ok (.ior, 1) := by decide +kernel
theorem dX8_loves_123 : decode cX8_loves 123 = .ok (.istore_n 3, 1) := by decide +kernel
theorem dX8_loves_124 : decode cX8_loves 124 = .ok (.iinc 4 1, 3) := by decide +kernel
theorem dX8_loves_127 : decode cX8_loves 127 = .ok (.goto (-102), 3) := by decide +kernel
theorem dX8_loves_130 : decode cX8_loves 130 = .ok (.iload_n 3, 1) := by decide +kernel
theorem dX8_loves_131 : decode cX8_loves 131 = .ok (.ireturn, 1) := by decide +kernel
theorem dX8_away_0 : decode cX8_away 0 = .ok (.aload_n 0, 1) := by decide +kernel
theorem dX8_away_1 : decode cX8_away 1 = .ok (.iload_n 1, 1) := by decide +kernel
theorem dX8_away_2 : decode cX8_away 2 = .ok (.invokevirtual 116, 3) := by decide +kernel
theorem dX8_away_5 : decode cX8_away 5 = .ok (.ifCond .eq 33, 3) := by decide +kernel
theorem dX8_away_8 : decode cX8_away 8 = .ok (.iload_n 2, 1) := by decide +kernel
theorem dX8_away_9 : decode cX8_away 9 = .ok (.iconst 0, 1) := by decide +kernel
theorem dX8_away_10 : decode cX8_away 10 = .ok (.bipush 7, 2) := by decide +kernel
theorem dX8_away_12 : decode cX8_away 12 = .ok (.invokestatic 53, 3) := by decide +kernel
theorem dX8_away_15 : decode cX8_away 15 = .ok (.ifCond .eq 23, 3) := by decide +kernel
theorem dX8_away_18 : decode cX8_away 18 = .ok (.iload_n 3, 1) := by decide +kernel
theorem dX8_away_19 : decode cX8_away 19 = .ok (.iconst 0, 1) := by decide +kernel
theorem dX8_away_20 : decode cX8_away 20 = .ok (.bipush 10, 2) := by decide +kernel
theorem dX8_away_22 : decode cX8_away 22 = .ok (.invokestatic 53, 3) := by decide +kernel
theorem dX8_away_25 : decode cX8_away 25 = .ok (.ifCond .eq 13, 3) := by decide +kernel
theorem dX8_away_28 : decode cX8_away 28 = .ok (.iload 4, 2) := by decide +kernel
theorem dX8_away_30 : decode cX8_away 30 = .ok (.iconst 0, 1) := by decide +kernel
theorem dX8_away_31 : decode cX8_away 31 = .ok (.iconst 1, 1) := by decide +kernel
theorem dX8_away_32 : decode cX8_away 32 = .ok (.invokestatic 53, 3) := by decide +kernel
theorem dX8_away_35 : decode cX8_away 35 = .ok (.ifCond .ne 5, 3) := by decide +kernel
theorem dX8_away_38 : decode cX8_away 38 = .ok (.iconst (-1), 1) := by decide +kernel
theorem dX8_away_39 : decode cX8_away 39 = .ok (.ireturn, 1) := by decide +kernel
theorem dX8_away_40 : decode cX8_away 40 = .ok (.iconst 0, 1) := by decide +kernel
theorem dX8_away_41 : decode cX8_away 41 = .ok (.istore 5, 2) := by decide +kernel
theorem dX8_away_43 : decode cX8_away 43 = .ok (.iconst 1, 1) := by decide +kernel
theorem dX8_away_44 : decode cX8_away 44 = .ok (.istore 6, 2) := by decide +kernel
theorem dX8_away_46 : decode cX8_away 46 = .ok (.iconst 1, 1) := by decide +kernel
theorem dX8_away_47 : decode cX8_away 47 = .ok (.istore 7, 2) := by decide +kernel
theorem dX8_away_49 : decode cX8_away 49 = .ok (.iload 7, 2) := by decide +kernel
theorem dX8_away_51 : decode cX8_away 51 = .ok (.aload_n 0, 1) := by decide +kernel
theorem dX8_away_52 : decode cX8_away 52 = .ok (.getfield 13, 3) := by decide +kernel
theorem dX8_away_55 : decode cX8_away 55 = .ok (.iconst 2, 1) := by decide +kernel
theorem dX8_away_56 : decode cX8_away 56 = .ok (.iaload, 1) := by decide +kernel
theorem dX8_away_57 : decode cX8_away 57 = .ok (.if_icmp .ge 16, 3) := by decide +kernel
theorem dX8_away_60 : decode cX8_away 60 = .ok (.iload 6, 2) := by decide +kernel
theorem dX8_away_62 : decode cX8_away 62 = .ok (.bipush 10, 2) := by decide +kernel
theorem dX8_away_64 : decode cX8_away 64 = .ok (.imul, 1) := by decide +kernel
theorem dX8_away_65 : decode cX8_away 65 = .ok (.istore 6, 2) := by decide +kernel
theorem dX8_away_67 : decode cX8_away 67 = .ok (.iinc 7 1, 3) := by decide +kernel
theorem dX8_away_70 : decode cX8_away 70 = .ok (.goto (-21), 3) := by decide +kernel
theorem dX8_away_73 : decode cX8_away 73 = .ok (.iconst 0, 1) := by decide +kernel
theorem dX8_away_74 : decode cX8_away 74 = .ok (.istore 7, 2) := by decide +kernel
theorem dX8_away_76 : decode cX8_away 76 = .ok (.iload 7, 2) := by decide +kernel
theorem dX8_away_78 : decode cX8_away 78 = .ok (.iconst 1, 1) := by decide +kernel
theorem dX8_away_79 : decode cX8_away 79 = .ok (.aload_n 0, 1) := by decide +kernel
theorem dX8_away_80 : decode cX8_away 80 = .ok (.getfield 13, 3) := by decide +kernel
theorem dX8_away_83 : decode cX8_away 83 = .ok (.iconst 2, 1) := by decide +kernel
theorem dX8_away_84 : decode cX8_away 84 = .ok (.iaload, 1) := by decide +kernel
theorem dX8_away_85 : decode cX8_away 85 = .ok (.ishl, 1) := by decide +kernel
theorem dX8_away_86 : decode cX8_away 86 = .ok (.if_icmp .ge 97, 3) := by decide +kernel
theorem dX8_away_89 : decode cX8_away 89 = .ok (.iconst 1, 1) := by decide +kernel
theorem dX8_away_90 : decode cX8_away 90 = .ok (.istore 8, 2) := by decide +kernel
theorem dX8_away_92 : decode cX8_away 92 = .ok (.iconst 0, 1) := by decide +kernel
theorem dX8_away_93 : decode cX8_away 93 = .ok (.istore 9, 2) := by decide +kernel
theorem dX8_away_95 : decode cX8_away 95 = .ok (.iload 9, 2) := by decide +kernel
theorem dX8_away_97 : decode cX8_away 97 = .ok (.aload_n 0, 1) := by decide +kernel
theorem dX8_away_98 : decode cX8_away 98 = .ok (.getfield 13, 3) := by decide +kernel
theorem dX8_away_101 : decode cX8_away 101 = .ok (.iconst 2, 1) := by decide +kernel
theorem dX8_away_102 : decode cX8_away 102 = .ok (.iaload, 1) := by decide +kernel
theorem dX8_away_103 : decode cX8_away 103 = .ok (.if_icmp .ge 43, 3) := by decide +kernel
theorem dX8_away_106 : decode cX8_away 106 = .ok (.iload 8, 2) := by decide +kernel
theorem dX8_away_108 : decode cX8_away 108 = .ok (.iload 9, 2) := by decide +kernel
theorem dX8_away_110 : decode cX8_away 110 = .ok (.iload_n 1, 1) := by decide +kernel
theorem dX8_away_111 : decode cX8_away 111 = .ok (.if_icmp .ne 7, 3) := by decide +kernel
theorem dX8_away_114 : decode cX8_away 114 = .ok (.iconst 1, 1) := by decide +kernel
theorem dX8_away_115 : decode cX8_away 115 = .ok (.goto 22, 3) := by decide +kernel
theorem dX8_away_118 : decode cX8_away 118 = .ok (.iload 7, 2) := by decide +kernel
theorem dX8_away_120 : decode cX8_away 120 = .ok (.iload 9, 2) := by decide +kernel
theorem dX8_away_122 : decode cX8_away 122 = .ok (.ishr, 1) := by decide +kernel
theorem dX8_away_123 : decode cX8_away 123 = .ok (.iconst 1, 1) := by decide +kernel
theorem dX8_away_124 : decode cX8_away 124 = .ok (.iand, 1) := by decide +kernel
theorem dX8_away_125 : decode cX8_away 125 = .ok (.iconst 1, 1) := by decide +kernel
theorem dX8_away_126 : decode cX8_away 126 = .ok (.if_icmp .ne 10, 3) := by decide +kernel
theorem dX8_away_129 : decode cX8_away 129 = .ok (.bipush 10, 2) := by decide +kernel
theorem dX8_away_131 : decode cX8_away 131 = .ok (.iload_n 3, 1) := by decide +kernel
theorem dX8_away_132 : decode cX8_away 132 = .ok (.isub, 1) := by decide +kernel
theorem dX8_away_133 : decode cX8_away 133 = .ok (.goto 4, 3) := by decide +kernel
theorem dX8_away_136 : decode cX8_away 136 = .ok (.iload_n 3, 1) := by decide +kernel
theorem dX8_away_137 : decode cX8_away 137 = .ok (.imul, 1) := by decide +kernel
theorem dX8_away_138 : decode cX8_away 138 = .ok (.istore 8, 2) := by decide +kernel
theorem dX8_away_140 : decode cX8_away 140 = .ok (.iinc 9 1, 3) := by decide +kernel
theorem dX8_away_143 : decode cX8_away 143 = .ok (.goto (-48), 3) := by decide +kernel
theorem dX8_away_146 : decode cX8_away 146 = .ok (.iload 5, 2) := by decide +kernel
theorem dX8_away_148 : decode cX8_away 148 = .ok (.iload 7, 2) := by decide +kernel
theorem dX8_away_150 : decode cX8_away 150 = .ok (.iload_n 1, 1) := by decide +kernel
theorem dX8_away_151 : decode cX8_away 151 = .ok (.ishr, 1) := by decide +kernel
theorem dX8_away_152 : decode cX8_away 152 = .ok (.iconst 1, 1) := by decide +kernel
theorem dX8_away_153 : decode cX8_away 153 = .ok (.iand, 1) := by decide +kernel
theorem dX8_away_154 : decode cX8_away 154 = .ok (.ifCond .ne 19, 3) := by decide +kernel
theorem dX8_away_157 : decode cX8_away 157 = .ok (.aload_n 0, 1) := by decide +kernel
theorem dX8_away_158 : decode cX8_away 158 = .ok (.iload_n 1, 1) := by decide +kernel
theorem dX8_away_159 : decode cX8_away 159 = .ok (.iload 7, 2) := by decide +kernel
theorem dX8_away_161 : decode cX8_away 161 = .ok (.invokevirtual 113, 3) := by decide +kernel
theorem dX8_away_164 : decode cX8_away 164 = .ok (.iload_n 2, 1) := by decide +kernel
theorem dX8_away_165 : decode cX8_away 165 = .ok (.if_icmp .ne 8, 3) := by decide +kernel
theorem dX8_away_168 : decode cX8_away 168 = .ok (.iload 8, 2) := by decide +kernel
theorem dX8_away_170 : decode cX8_away 170 = .ok (.goto 4, 3) := by decide +kernel
theorem dX8_away_173 : decode cX8_away 173 = .ok (.iconst 0, 1) := by decide +kernel
theorem dX8_away_174 : decode cX8_away 174 = .ok (.iadd, 1) := by decide +kernel
theorem dX8_away_175 : decode cX8_away 175 = .ok (.istore 5, 2) := by decide +kernel
theorem dX8_away_177 : decode cX8_away 177 = .ok (.iinc 7 1, 3) := by decide +kernel
theorem dX8_away_180 : decode cX8_away 180 = .ok (.goto (-104), 3) := by decide +kernel
theorem dX8_away_183 : decode cX8_away 183 = .ok (.iload 5, 2) := by decide +kernel
theorem dX8_away_185 : decode cX8_away 185 = .ok (.istore 7, 2) := by decide +kernel
theorem dX8_away_187 : decode cX8_away 187 = .ok (.iload 6, 2) := by decide +kernel
theorem dX8_away_189 : decode cX8_away 189 = .ok (.istore 8, 2) := by decide +kernel
theorem dX8_away_191 : decode cX8_away 191 = .ok (.iload 8, 2) := by decide +kernel
theorem dX8_away_193 : decode cX8_away 193 = .ok (.ifCond .le 21, 3) := by decide +kernel
theorem dX8_away_196 : decode cX8_away 196 = .ok (.iload 7, 2) := by decide +kernel
theorem dX8_away_198 : decode cX8_away 198 = .ok (.iload 8, 2) := by decide +kernel
theorem dX8_away_200 : decode cX8_away 200 = .ok (.irem, 1) := by decide +kernel
theorem dX8_away_201 : decode cX8_away 201 = .ok (.istore 9, 2) := by decide +kernel
theorem dX8_away_203 : decode cX8_away 203 = .ok (.iload 8, 2) := by decide +kernel
theorem dX8_away_205 : decode cX8_away 205 = .ok (.istore 7, 2) := by decide +kernel
theorem dX8_away_207 : decode cX8_away 207 = .ok (.iload 9, 2) := by decide +kernel
theorem dX8_away_209 : decode cX8_away 209 = .ok (.istore 8, 2) := by decide +kernel
theorem dX8_away_211 : decode cX8_away 211 = .ok (.goto (-20), 3) := by decide +kernel
theorem dX8_away_214 : decode cX8_away 214 = .ok (.iload 4, 2) := by decide +kernel
theorem dX8_away_216 : decode cX8_away 216 = .ok (.ifCond .ne 11, 3) := by decide +kernel
theorem dX8_away_219 : decode cX8_away 219 = .ok (.iload 5, 2) := by decide +kernel
theorem dX8_away_221 : decode cX8_away 221 = .ok (.iload 7, 2) := by decide +kernel
theorem dX8_away_223 : decode cX8_away 223 = .ok (.idiv, 1) := by decide +kernel
theorem dX8_away_224 : decode cX8_away 224 = .ok (.goto 8, 3) := by decide +kernel
theorem dX8_away_227 : decode cX8_away 227 = .ok (.iload 6, 2) := by decide +kernel
theorem dX8_away_229 : decode cX8_away 229 = .ok (.iload 7, 2) := by decide +kernel
theorem dX8_away_231 : decode cX8_away 231 = .ok (.idiv, 1) := by decide +kernel
theorem dX8_away_232 : decode cX8_away 232 = .ok (.ireturn, 1) := by decide +kernel
theorem dX8_turn_0 : decode cX8_turn 0 = .ok (.iload_n 1, 1) := by decide +kernel
theorem dX8_turn_1 : decode cX8_turn 1 = .ok (.bipush 8, 2) := by decide +kernel
theorem dX8_turn_3 : decode cX8_turn 3 = .ok (.irem, 1) := by decide +kernel
theorem dX8_turn_4 : decode cX8_turn 4 = .ok (.istore_n 2, 1) := by decide +kernel
theorem dX8_turn_5 : decode cX8_turn 5 = .ok (.iload_n 1, 1) := by decide +kernel
theorem dX8_turn_6 : decode cX8_turn 6 = .ok (.bipush 8, 2) := by decide +kernel
theorem dX8_turn_8 : decode cX8_turn 8 = .ok (.idiv, 1) := by decide +kernel
theorem dX8_turn_9 : decode cX8_turn 9 = .ok (.aload_n 0, 1) := by decide +kernel
theorem dX8_turn_10 : decode cX8_turn 10 = .ok (.getfield 13, 3) := by decide +kernel
theorem dX8_turn_13 : decode cX8_turn 13 = .ok (.iconst 2, 1) := by decide +kernel
theorem dX8_turn_14 : decode cX8_turn 14 = .ok (.iaload, 1) := by decide +kernel
theorem dX8_turn_15 : decode cX8_turn 15 = .ok (.irem, 1) := by decide +kernel
theorem dX8_turn_16 : decode cX8_turn 16 = .ok (.istore_n 3, 1) := by decide +kernel
theorem dX8_turn_17 : decode cX8_turn 17 = .ok (.iload_n 1, 1) := by decide +kernel
theorem dX8_turn_18 : decode cX8_turn 18 = .ok (.bipush 64, 2) := by decide +kernel
theorem dX8_turn_20 : decode cX8_turn 20 = .ok (.idiv, 1) := by decide +kernel
theorem dX8_turn_21 : decode cX8_turn 21 = .ok (.aload_n 0, 1) := by decide +kernel
theorem dX8_turn_22 : decode cX8_turn 22 = .ok (.getfield 13, 3) := by decide +kernel
theorem dX8_turn_25 : decode cX8_turn 25 = .ok (.iconst 2, 1) := by decide +kernel
theorem dX8_turn_26 : decode cX8_turn 26 = .ok (.iaload, 1) := by decide +kernel
theorem dX8_turn_27 : decode cX8_turn 27 = .ok (.irem, 1) := by decide +kernel
theorem dX8_turn_28 : decode cX8_turn 28 = .ok (.istore 4, 2) := by decide +kernel
theorem dX8_turn_30 : decode cX8_turn 30 = .ok (.iload_n 1, 1) := by decide +kernel
theorem dX8_turn_31 : decode cX8_turn 31 = .ok (.bipush 64, 2) := by decide +kernel
theorem dX8_turn_33 : decode cX8_turn 33 = .ok (.idiv, 1) := by decide +kernel
theorem dX8_turn_34 : decode cX8_turn 34 = .ok (.iconst 4, 1) := by decide +kernel
theorem dX8_turn_35 : decode cX8_turn 35 = .ok (.irem, 1) := by decide +kernel
theorem dX8_turn_36 : decode cX8_turn 36 = .ok (.istore 5, 2) := by decide +kernel
theorem dX8_turn_38 : decode cX8_turn 38 = .ok (.iload_n 2, 1) := by decide +kernel
theorem dX8_turn_39 : decode cX8_turn 39 = .ok (.iconst 4, 1) := by decide +kernel
theorem dX8_turn_40 : decode cX8_turn 40 = .ok (.if_icmp .ge 20, 3) := by decide +kernel
theorem dX8_turn_43 : decode cX8_turn 43 = .ok (.aload_n 0, 1) := by decide +kernel
theorem dX8_turn_44 : decode cX8_turn 44 = .ok (.iload_n 3, 1) := by decide +kernel
theorem dX8_turn_45 : decode cX8_turn 45 = .ok (.iload 5, 2) := by decide +kernel
theorem dX8_turn_47 : decode cX8_turn 47 = .ok (.invokevirtual 144, 3) := by decide +kernel
theorem dX8_turn_50 : decode cX8_turn 50 = .ok (.ifCond .eq 10, 3) := by decide +kernel
theorem dX8_turn_53 : decode cX8_turn 53 = .ok (.aload_n 0, 1) := by decide +kernel
theorem dX8_turn_54 : decode cX8_turn 54 = .ok (.iload_n 3, 1) := by decide +kernel
theorem dX8_turn_55 : decode cX8_turn 55 = .ok (.iload 5, 2) := by decide +kernel
theorem dX8_turn_57 : decode cX8_turn 57 = .ok (.invokevirtual 147, 3) := by decide +kernel
theorem dX8_turn_60 : decode cX8_turn 60 = .ok (.iload_n 2, 1) := by decide +kernel
theorem dX8_turn_61 : decode cX8_turn 61 = .ok (.iconst 4, 1) := by decide +kernel
theorem dX8_turn_62 : decode cX8_turn 62 = .ok (.if_icmp .ne 35, 3) := by decide +kernel
theorem dX8_turn_65 : decode cX8_turn 65 = .ok (.iload 4, 2) := by decide +kernel
theorem dX8_turn_67 : decode cX8_turn 67 = .ok (.iload_n 3, 1) := by decide +kernel
theorem dX8_turn_68 : decode cX8_turn 68 = .ok (.if_icmp .eq 29, 3) := by decide +kernel
theorem dX8_turn_71 : decode cX8_turn 71 = .ok (.aload_n 0, 1) := by decide +kernel
theorem dX8_turn_72 : decode cX8_turn 72 = .ok (.getfield 22, 3) := by decide +kernel
theorem dX8_turn_75 : decode cX8_turn 75 = .ok (.bipush 19, 2) := by decide +kernel
theorem dX8_turn_77 : decode cX8_turn 77 = .ok (.bipush 6, 2) := by decide +kernel
theorem dX8_turn_79 : decode cX8_turn 79 = .ok (.iload_n 3, 1) := by decide +kernel
theorem dX8_turn_80 : decode cX8_turn 80 = .ok (.imul, 1) := by decide +kernel
theorem dX8_turn_81 : decode cX8_turn 81 = .ok (.iadd, 1) := by decide +kernel
theorem dX8_turn_82 : decode cX8_turn 82 = .ok (.iload 4, 2) := by decide +kernel
theorem dX8_turn_84 : decode cX8_turn 84 = .ok (.iadd, 1) := by decide +kernel
theorem dX8_turn_85 : decode cX8_turn 85 = .ok (.iload_n 1, 1) := by decide +kernel
theorem dX8_turn_86 : decode cX8_turn 86 = .ok (.sipush 512, 3) := by decide +kernel
theorem dX8_turn_89 : decode cX8_turn 89 = .ok (.idiv, 1) := by decide +kernel
theorem dX8_turn_90 : decode cX8_turn 90 = .ok (.bipush 41, 2) := by decide +kernel
theorem dX8_turn_92 : decode cX8_turn 92 = .ok (.irem, 1) := by decide +kernel
theorem dX8_turn_93 : decode cX8_turn 93 = .ok (.bipush 20, 2) := by decide +kernel
theorem dX8_turn_95 : decode cX8_turn 95 = .ok (.isub, 1) := by decide +kernel
theorem dX8_turn_96 : decode cX8_turn 96 = .ok (.iastore, 1) := by decide +kernel
theorem dX8_turn_97 : decode cX8_turn 97 = .ok (.return_, 1) := by decide +kernel
theorem dX8_evening_0 : decode cX8_evening 0 = .ok (.iload_n 1, 1) := by decide +kernel
theorem dX8_evening_1 : decode cX8_evening 1 = .ok (.iconst 0, 1) := by decide +kernel
theorem dX8_evening_2 : decode cX8_evening 2 = .ok (.sipush 9999, 3) := by decide +kernel
theorem dX8_evening_5 : decode cX8_evening 5 = .ok (.invokestatic 53, 3) := by decide +kernel
theorem dX8_evening_8 : decode cX8_evening 8 = .ok (.ifCond .eq 22, 3) := by decide +kernel
theorem dX8_evening_11 : decode cX8_evening 11 = .ok (.iload_n 2, 1) := by decide +kernel
theorem dX8_evening_12 : decode cX8_evening 12 = .ok (.iconst 1, 1) := by decide +kernel
theorem dX8_evening_13 : decode cX8_evening 13 = .ok (.bipush 60, 2) := by decide +kernel
theorem dX8_evening_15 : decode cX8_evening 15 = .ok (.invokestatic 53, 3) := by decide +kernel
theorem dX8_evening_18 : decode cX8_evening 18 = .ok (.ifCond .eq 12, 3) := by decide +kernel
theorem dX8_evening_21 : decode cX8_evening 21 = .ok (.iload_n 3, 1) := by decide +kernel
theorem dX8_evening_22 : decode cX8_evening 22 = .ok (.iconst 0, 1) := by decide +kernel
theorem dX8_evening_23 : decode cX8_evening 23 = .ok (.iconst 1, 1) := by decide +kernel
theorem dX8_evening_24 : decode cX8_evening 24 = .ok (.invokestatic 53, 3) := by decide +kernel
theorem dX8_evening_27 : decode cX8_evening 27 = .ok (.ifCond .ne 5, 3) := by decide +kernel
theorem dX8_evening_30 : decode cX8_evening 30 = .ok (.iconst (-1), 1) := by decide +kernel
theorem dX8_evening_31 : decode cX8_evening 31 = .ok (.ireturn, 1) := by decide +kernel
theorem dX8_evening_32 : decode cX8_evening 32 = .ok (.aload_n 0, 1) := by decide +kernel
theorem dX8_evening_33 : decode cX8_evening 33 = .ok (.invokevirtual 154, 3) := by decide +kernel
theorem dX8_evening_36 : decode cX8_evening 36 = .ok (.iconst 0, 1) := by decide +kernel
theorem dX8_evening_37 : decode cX8_evening 37 = .ok (.istore 4, 2) := by decide +kernel
theorem dX8_evening_39 : decode cX8_evening 39 = .ok (.iconst 0, 1) := by decide +kernel
theorem dX8_evening_40 : decode cX8_evening 40 = .ok (.istore 5, 2) := by decide +kernel
theorem dX8_evening_42 : decode cX8_evening 42 = .ok (.iload 5, 2) := by decide +kernel
theorem dX8_evening_44 : decode cX8_evening 44 = .ok (.iload_n 2, 1) := by decide +kernel
theorem dX8_evening_45 : decode cX8_evening 45 = .ok (.if_icmp .ge 50, 3) := by decide +kernel
theorem dX8_evening_48 : decode cX8_evening 48 = .ok (.ldc2_w 181, 3) := by decide +kernel
theorem dX8_evening_51 : decode cX8_evening 51 = .ok (.iload_n 1, 1) := by decide +kernel
theorem dX8_evening_52 : decode cX8_evening 52 = .ok (.i2l, 1) := by decide +kernel
theorem dX8_evening_53 : decode cX8_evening 53 = .ok (.lmul, 1) := by decide +kernel
theorem dX8_evening_54 : decode cX8_evening 54 = .ok (.ldc2_w 183, 3) := by decide +kernel
theorem dX8_evening_57 : decode cX8_evening 57 = .ok (.iload 5, 2) := by decide +kernel
theorem dX8_evening_59 : decode cX8_evening 59 = .ok (.i2l, 1) := by decide +kernel
theorem dX8_evening_60 : decode cX8_evening 60 = .ok (.lmul, 1) := by decide +kernel
theorem dX8_evening_61 : decode cX8_evening 61 = .ok (.ladd, 1) := by decide +kernel
theorem dX8_evening_62 : decode cX8_evening 62 = .ok (.lconst 1, 1) := by decide +kernel
theorem dX8_evening_63 : decode cX8_evening 63 = .ok (.ladd, 1) := by decide +kernel
theorem dX8_evening_64 : decode cX8_evening 64 = .ok (.lstore 6, 2) := by decide +kernel
theorem dX8_evening_66 : decode cX8_evening 66 = .ok (.aload_n 0, 1) := by decide +kernel
theorem dX8_evening_67 : decode cX8_evening 67 = .ok (.lload 6, 2) := by decide +kernel
theorem dX8_evening_69 : decode cX8_evening 69 = .ok (.lload 6, 2) := by decide +kernel
theorem dX8_evening_71 : decode cX8_evening 71 = .ok (.lmul, 1) := by decide +kernel
theorem dX8_evening_72 : decode cX8_evening 72 = .ok (.ldc2_w 185, 3) := by decide +kernel
theorem dX8_evening_75 : decode cX8_evening 75 = .ok (.lrem, 1) := by decide +kernel
theorem dX8_evening_76 : decode cX8_evening 76 = .ok (.l2i, 1) := by decide +kernel
theorem dX8_evening_77 : decode cX8_evening 77 = .ok (.invokevirtual 187, 3) := by decide +kernel
theorem dX8_evening_80 : decode cX8_evening 80 = .ok (.iload 4, 2) := by decide +kernel
theorem dX8_evening_82 : decode cX8_evening 82 = .ok (.aload_n 0, 1) := by decide +kernel
theorem dX8_evening_83 : decode cX8_evening 83 = .ok (.invokevirtual 135, 3) := by decide +kernel
theorem dX8_evening_86 : decode cX8_evening 86 = .ok (.iadd, 1) := by decide +kernel
theorem dX8_evening_87 : decode cX8_evening 87 = .ok (.istore 4, 2) := by decide +kernel
theorem dX8_evening_89 : decode cX8_evening 89 = .ok (.iinc 5 1, 3) := by decide +kernel
theorem dX8_evening_92 : decode cX8_evening 92 = .ok (.goto (-50), 3) := by decide +kernel
theorem dX8_evening_95 : decode cX8_evening 95 = .ok (.iconst 0, 1) := by decide +kernel
theorem dX8_evening_96 : decode cX8_evening 96 = .ok (.istore 5, 2) := by decide +kernel
theorem dX8_evening_98 : decode cX8_evening 98 = .ok (.iconst 0, 1) := by decide +kernel
theorem dX8_evening_99 : decode cX8_evening 99 = .ok (.istore 6, 2) := by decide +kernel
theorem dX8_evening_101 : decode cX8_evening 101 = .ok (.iload 6, 2) := by decide +kernel
theorem dX8_evening_103 : decode cX8_evening 103 = .ok (.aload_n 0, 1) := by decide +kernel
theorem dX8_evening_104 : decode cX8_evening 104 = .ok (.getfield 13, 3) := by decide +kernel
theorem dX8_evening_107 : decode cX8_evening 107 = .ok (.iconst 2, 1) := by decide +kernel
theorem dX8_evening_108 : decode cX8_evening 108 = .ok (.iaload, 1) := by decide +kernel
theorem dX8_evening_109 : decode cX8_evening 109 = .ok (.if_icmp .ge 23, 3) := by decide +kernel
theorem dX8_evening_112 : decode cX8_evening 112 = .ok (.iload 5, 2) := by decide +kernel
theorem dX8_evening_114 : decode cX8_evening 114 = .ok (.aload_n 0, 1) := by decide +kernel
theorem dX8_evening_115 : decode cX8_evening 115 = .ok (.getfield 22, 3) := by decide +kernel
theorem dX8_evening_118 : decode cX8_evening 118 = .ok (.iconst 1, 1) := by decide +kernel
theorem dX8_evening_119 : decode cX8_evening 119 = .ok (.iload 6, 2) := by decide +kernel
theorem dX8_evening_121 : decode cX8_evening 121 = .ok (.iadd, 1) := by decide +kernel
theorem dX8_evening_122 : decode cX8_evening 122 = .ok (.iaload, 1) := by decide +kernel
theorem dX8_evening_123 : decode cX8_evening 123 = .ok (.iadd, 1) := by decide +kernel
theorem dX8_evening_124 : decode cX8_evening 124 = .ok (.istore 5, 2) := by decide +kernel
theorem dX8_evening_126 : decode cX8_evening 126 = .ok (.iinc 6 1, 3) := by decide +kernel
theorem dX8_evening_129 : decode cX8_evening 129 = .ok (.goto (-28), 3) := by decide +kernel
theorem dX8_evening_132 : decode cX8_evening 132 = .ok (.aload_n 0, 1) := by decide +kernel
theorem dX8_evening_133 : decode cX8_evening 133 = .ok (.invokevirtual 157, 3) := by decide +kernel
theorem dX8_evening_136 : decode cX8_evening 136 = .ok (.iload_n 3, 1) := by decide +kernel
theorem dX8_evening_137 : decode cX8_evening 137 = .ok (.ifCond .ne 8, 3) := by decide +kernel
theorem dX8_evening_140 : decode cX8_evening 140 = .ok (.iload 5, 2) := by decide +kernel
theorem dX8_evening_142 : decode cX8_evening 142 = .ok (.goto 5, 3) := by decide +kernel
theorem dX8_evening_145 : decode cX8_evening 145 = .ok (.iload 4, 2) := by decide +kernel
theorem dX8_evening_147 : decode cX8_evening 147 = .ok (.ireturn, 1) := by decide +kernel
theorem dX8_keep_0 : decode cX8_keep 0 = .ok (.aload_n 0, 1) := by decide +kernel
theorem dX8_keep_1 : decode cX8_keep 1 = .ok (.getfield 93, 3) := by decide +kernel
theorem dX8_keep_4 : decode cX8_keep 4 = .ok (.iconst 2, 1) := by decide +kernel
theorem dX8_keep_5 : decode cX8_keep 5 = .ok (.if_icmp .ne 6, 3) := by decide +kernel
theorem dX8_keep_8 : decode cX8_keep 8 = .ok (.bipush (-3), 2) := by decide +kernel
theorem dX8_keep_10 : decode cX8_keep 10 = .ok (.ireturn, 1) := by decide +kernel
theorem dX8_keep_11 : decode cX8_keep 11 = .ok (.iconst 0, 1) := by decide +kernel
theorem dX8_keep_12 : decode cX8_keep 12 = .ok (.istore_n 1, 1) := by decide +kernel
theorem dX8_keep_13 : decode cX8_keep 13 = .ok (.iload_n 1, 1) := by decide +kernel
theorem dX8_keep_14 : decode cX8_keep 14 = .ok (.bipush 55, 2) := by decide +kernel
theorem dX8_keep_16 : decode cX8_keep 16 = .ok (.if_icmp .ge 29, 3) := by decide +kernel
theorem dX8_keep_19 : decode cX8_keep 19 = .ok (.aload_n 0, 1) := by decide +kernel
theorem dX8_keep_20 : decode cX8_keep 20 = .ok (.getfield 28, 3) := by decide +kernel
theorem dX8_keep_23 : decode cX8_keep 23 = .ok (.bipush 55, 2) := by decide +kernel
theorem dX8_keep_25 : decode cX8_keep 25 = .ok (.aload_n 0, 1) := by decide +kernel
theorem dX8_keep_26 : decode cX8_keep 26 = .ok (.getfield 93, 3) := by decide +kernel
theorem dX8_keep_29 : decode cX8_keep 29 = .ok (.imul, 1) := by decide +kernel
theorem dX8_keep_30 : decode cX8_keep 30 = .ok (.iload_n 1, 1) := by decide +kernel
theorem dX8_keep_31 : decode cX8_keep 31 = .ok (.iadd, 1) := by decide +kernel
theorem dX8_keep_32 : decode cX8_keep 32 = .ok (.aload_n 0, 1) := by decide +kernel
theorem dX8_keep_33 : decode cX8_keep 33 = .ok (.getfield 22, 3) := by decide +kernel
theorem dX8_keep_36 : decode cX8_keep 36 = .ok (.iload_n 1, 1) := by decide +kernel
theorem dX8_keep_37 : decode cX8_keep 37 = .ok (.iaload, 1) := by decide +kernel
theorem dX8_keep_38 : decode cX8_keep 38 = .ok (.iastore, 1) := by decide +kernel
theorem dX8_keep_39 : decode cX8_keep 39 = .ok (.iinc 1 1, 3) := by decide +kernel
theorem dX8_keep_42 : decode cX8_keep 42 = .ok (.goto (-29), 3) := by decide +kernel
theorem dX8_keep_45 : decode cX8_keep 45 = .ok (.aload_n 0, 1) := by decide +kernel
theorem dX8_keep_46 : decode cX8_keep 46 = .ok (.dup, 1) := by decide +kernel
theorem dX8_keep_47 : decode cX8_keep 47 = .ok (.getfield 93, 3) := by decide +kernel
theorem dX8_keep_50 : decode cX8_keep 50 = .ok (.iconst 1, 1) := by decide +kernel
theorem dX8_keep_51 : decode cX8_keep 51 = .ok (.iadd, 1) := by decide +kernel
theorem dX8_keep_52 : decode cX8_keep 52 = .ok (.putfield 93, 3) := by decide +kernel
theorem dX8_keep_55 : decode cX8_keep 55 = .ok (.aload_n 0, 1) := by decide +kernel
theorem dX8_keep_56 : decode cX8_keep 56 = .ok (.getfield 93, 3) := by decide +kernel
theorem dX8_keep_59 : decode cX8_keep 59 = .ok (.ireturn, 1) := by decide +kernel
theorem dX8_back_0 : decode cX8_back 0 = .ok (.aload_n 0, 1) := by decide +kernel
theorem dX8_back_1 : decode cX8_back 1 = .ok (.getfield 93, 3) := by decide +kernel
theorem dX8_back_4 : decode cX8_back 4 = .ok (.ifCond .ne 6, 3) := by decide +kernel
theorem dX8_back_7 : decode cX8_back 7 = .ok (.bipush (-2), 2) := by decide +kernel
theorem dX8_back_9 : decode cX8_back 9 = .ok (.ireturn, 1) := by decide +kernel
theorem dX8_back_10 : decode cX8_back 10 = .ok (.aload_n 0, 1) := by decide +kernel
theorem dX8_back_11 : decode cX8_back 11 = .ok (.dup, 1) := by decide +kernel
theorem dX8_back_12 : decode cX8_back 12 = .ok (.getfield 93, 3) := by decide +kernel
theorem dX8_back_15 : decode cX8_back 15 = .ok (.iconst 1, 1) := by decide +kernel
theorem dX8_back_16 : decode cX8_back 16 = .ok (.isub, 1) := by decide +kernel
theorem dX8_back_17 : decode cX8_back 17 = .ok (.putfield 93, 3) := by decide +kernel
theorem dX8_back_20 : decode cX8_back 20 = .ok (.iconst 0, 1) := by decide +kernel
theorem dX8_back_21 : decode cX8_back 21 = .ok (.istore_n 1, 1) := by decide +kernel
theorem dX8_back_22 : decode cX8_back 22 = .ok (.iload_n 1, 1) := by decide +kernel
theorem dX8_back_23 : decode cX8_back 23 = .ok (.bipush 55, 2) := by decide +kernel
theorem dX8_back_25 : decode cX8_back 25 = .ok (.if_icmp .ge 29, 3) := by decide +kernel
theorem dX8_back_28 : decode cX8_back 28 = .ok (.aload_n 0, 1) := by decide +kernel
theorem dX8_back_29 : decode cX8_back 29 = .ok (.getfield 22, 3) := by decide +kernel
theorem dX8_back_32 : decode cX8_back 32 = .ok (.iload_n 1, 1) := by decide +kernel
theorem dX8_back_33 : decode cX8_back 33 = .ok (.aload_n 0, 1) := by decide +kernel
theorem dX8_back_34 : decode cX8_back 34 = .ok (.getfield 28, 3) := by decide +kernel
theorem dX8_back_37 : decode cX8_back 37 = .ok (.bipush 55, 2) := by decide +kernel
theorem dX8_back_39 : decode cX8_back 39 = .ok (.aload_n 0, 1) := by decide +kernel
theorem dX8_back_40 : decode cX8_back 40 = .ok (.getfield 93, 3) := by decide +kernel
theorem dX8_back_43 : decode cX8_back 43 = .ok (.imul, 1) := by decide +kernel
theorem dX8_back_44 : decode cX8_back 44 = .ok (.iload_n 1, 1) := by decide +kernel
theorem dX8_back_45 : decode cX8_back 45 = .ok (.iadd, 1) := by decide +kernel
theorem dX8_back_46 : decode cX8_back 46 = .ok (.iaload, 1) := by decide +kernel
theorem dX8_back_47 : decode cX8_back 47 = .ok (.iastore, 1) := by decide +kernel
theorem dX8_back_48 : decode cX8_back 48 = .ok (.iinc 1 1, 3) := by decide +kernel
theorem dX8_back_51 : decode cX8_back 51 = .ok (.goto (-29), 3) := by decide +kernel
theorem dX8_back_54 : decode cX8_back 54 = .ok (.aload_n 0, 1) := by decide +kernel
theorem dX8_back_55 : decode cX8_back 55 = .ok (.iconst 0, 1) := by decide +kernel
theorem dX8_back_56 : decode cX8_back 56 = .ok (.putfield 90, 3) := by decide +kernel
theorem dX8_back_59 : decode cX8_back 59 = .ok (.aload_n 0, 1) := by decide +kernel
theorem dX8_back_60 : decode cX8_back 60 = .ok (.getfield 93, 3) := by decide +kernel
theorem dX8_back_63 : decode cX8_back 63 = .ok (.ireturn, 1) := by decide +kernel
theorem dX8_count_0 : decode cX8_count 0 = .ok (.iconst 0, 1) := by decide +kernel
theorem dX8_count_1 : decode cX8_count 1 = .ok (.istore_n 2, 1) := by decide +kernel
theorem dX8_count_2 : decode cX8_count 2 = .ok (.iconst 0, 1) := by decide +kernel
theorem dX8_count_3 : decode cX8_count 3 = .ok (.istore_n 3, 1) := by decide +kernel
theorem dX8_count_4 : decode cX8_count 4 = .ok (.iconst 0, 1) := by decide +kernel
theorem dX8_count_5 : decode cX8_count 5 = .ok (.istore 4, 2) := by decide +kernel
theorem dX8_count_7 : decode cX8_count 7 = .ok (.iload 4, 2) := by decide +kernel
theorem dX8_count_9 : decode cX8_count 9 = .ok (.aload_n 0, 1) := by decide +kernel
theorem dX8_count_10 : decode cX8_count 10 = .ok (.getfield 13, 3) := by decide +kernel
theorem dX8_count_13 : decode cX8_count 13 = .ok (.iconst 2, 1) := by decide +kernel
theorem dX8_count_14 : decode cX8_count 14 = .ok (.iaload, 1) := by decide +kernel
theorem dX8_count_15 : decode cX8_count 15 = .ok (.if_icmp .ge 75, 3) := by decide +kernel
theorem dX8_count_18 : decode cX8_count 18 = .ok (.iload_n 2, 1) := by decide +kernel
theorem dX8_count_19 : decode cX8_count 19 = .ok (.aload_n 0, 1) := by decide +kernel
theorem dX8_count_20 : decode cX8_count 20 = .ok (.iload 4, 2) := by decide +kernel
theorem dX8_count_22 : decode cX8_count 22 = .ok (.invokevirtual 119, 3) := by decide +kernel
theorem dX8_count_25 : decode cX8_count 25 = .ok (.bipush (-4), 2) := by decide +kernel
theorem dX8_count_27 : decode cX8_count 27 = .ok (.if_icmp .ne 7, 3) := by decide +kernel
theorem dX8_count_30 : decode cX8_count 30 = .ok (.iconst 0, 1) := by decide +kernel
theorem dX8_count_31 : decode cX8_count 31 = .ok (.goto 4, 3) := by decide +kernel
theorem dX8_count_34 : decode cX8_count 34 = .ok (.iconst 1, 1) := by decide +kernel
theorem dX8_count_35 : decode cX8_count 35 = .ok (.iadd, 1) := by decide +kernel
theorem dX8_count_36 : decode cX8_count 36 = .ok (.istore_n 2, 1) := by decide +kernel
theorem dX8_count_37 : decode cX8_count 37 = .ok (.iconst 0, 1) := by decide +kernel
theorem dX8_count_38 : decode cX8_count 38 = .ok (.istore 5, 2) := by decide +kernel
theorem dX8_count_40 : decode cX8_count 40 = .ok (.iload 5, 2) := by decide +kernel
theorem dX8_count_42 : decode cX8_count 42 = .ok (.aload_n 0, 1) := by decide +kernel
theorem dX8_count_43 : decode cX8_count 43 = .ok (.getfield 13, 3) := by decide +kernel
theorem dX8_count_46 : decode cX8_count 46 = .ok (.iconst 2, 1) := by decide +kernel
theorem dX8_count_47 : decode cX8_count 47 = .ok (.iaload, 1) := by decide +kernel
theorem dX8_count_48 : decode cX8_count 48 = .ok (.if_icmp .ge 36, 3) := by decide +kernel
theorem dX8_count_51 : decode cX8_count 51 = .ok (.iload_n 3, 1) := by decide +kernel
theorem dX8_count_52 : decode cX8_count 52 = .ok (.aload_n 0, 1) := by decide +kernel
theorem dX8_count_53 : decode cX8_count 53 = .ok (.getfield 22, 3) := by decide +kernel
theorem dX8_count_56 : decode cX8_count 56 = .ok (.bipush 19, 2) := by decide +kernel
theorem dX8_count_58 : decode cX8_count 58 = .ok (.bipush 6, 2) := by decide +kernel
theorem dX8_count_60 : decode cX8_count 60 = .ok (.iload 4, 2) := by decide +kernel
theorem dX8_count_62 : decode cX8_count 62 = .ok (.imul, 1) := by decide +kernel
theorem dX8_count_63 : decode cX8_count 63 = .ok (.iadd, 1) := by decide +kernel
theorem dX8_count_64 : decode cX8_count 64 = .ok (.iload 5, 2) := by decide +kernel
theorem dX8_count_66 : decode cX8_count 66 = .ok (.iadd, 1) := by decide +kernel
theorem dX8_count_67 : decode cX8_count 67 = .ok (.iaload, 1) := by decide +kernel
theorem dX8_count_68 : decode cX8_count 68 = .ok (.ifCond .ne 7, 3) := by decide +kernel
theorem dX8_count_71 : decode cX8_count 71 = .ok (.iconst 0, 1) := by decide +kernel
theorem dX8_count_72 : decode cX8_count 72 = .ok (.goto 4, 3) := by decide +kernel
theorem dX8_count_75 : decode cX8_count 75 = .ok (.iconst 1, 1) := by decide +kernel
theorem dX8_count_76 : decode cX8_count 76 = .ok (.iadd, 1) := by decide +kernel
theorem dX8_count_77 : decode cX8_count 77 = .ok (.istore_n 3, 1) := by decide +kernel
theorem dX8_count_78 : decode cX8_count 78 = .ok (.iinc 5 1, 3) := by decide +kernel
theorem dX8_count_81 : decode cX8_count 81 = .ok (.goto (-41), 3) := by decide +kernel
theorem dX8_count_84 : decode cX8_count 84 = .ok (.iinc 4 1, 3) := by decide +kernel
theorem dX8_count_87 : decode cX8_count 87 = .ok (.goto (-80), 3) := by decide +kernel
theorem dX8_count_90 : decode cX8_count 90 = .ok (.iload_n 1, 1) := by decide +kernel
theorem dX8_count_91 : decode cX8_count 91 = .ok (.tableswitch 105 0 9 #[53, 60, 67, 74, 81, 83, 85, 90, 95, 100], 53) := by decide +kernel
theorem dX8_count_144 : decode cX8_count 144 = .ok (.aload_n 0, 1) := by decide +kernel
theorem dX8_count_145 : decode cX8_count 145 = .ok (.getfield 13, 3) := by decide +kernel
theorem dX8_count_148 : decode cX8_count 148 = .ok (.iconst 0, 1) := by decide +kernel
theorem dX8_count_149 : decode cX8_count 149 = .ok (.iaload, 1) := by decide +kernel
theorem dX8_count_150 : decode cX8_count 150 = .ok (.ireturn, 1) := by decide +kernel
theorem dX8_count_151 : decode cX8_count 151 = .ok (.aload_n 0, 1) := by decide +kernel
theorem dX8_count_152 : decode cX8_count 152 = .ok (.getfield 13, 3) := by decide +kernel
theorem dX8_count_155 : decode cX8_count 155 = .ok (.iconst 1, 1) := by decide +kernel
theorem dX8_count_156 : decode cX8_count 156 = .ok (.iaload, 1) := by decide +kernel
theorem dX8_count_157 : decode cX8_count 157 = .ok (.ireturn, 1) := by decide +kernel
theorem dX8_count_158 : decode cX8_count 158 = .ok (.aload_n 0, 1) := by decide +kernel
theorem dX8_count_159 : decode cX8_count 159 = .ok (.getfield 13, 3) := by decide +kernel
theorem dX8_count_162 : decode cX8_count 162 = .ok (.iconst 2, 1) := by decide +kernel
theorem dX8_count_163 : decode cX8_count 163 = .ok (.iaload, 1) := by decide +kernel
theorem dX8_count_164 : decode cX8_count 164 = .ok (.ireturn, 1) := by decide +kernel
theorem dX8_count_165 : decode cX8_count 165 = .ok (.aload_n 0, 1) := by decide +kernel
theorem dX8_count_166 : decode cX8_count 166 = .ok (.getfield 22, 3) := by decide +kernel
theorem dX8_count_169 : decode cX8_count 169 = .ok (.iconst 0, 1) := by decide +kernel
theorem dX8_count_170 : decode cX8_count 170 = .ok (.iaload, 1) := by decide +kernel
theorem dX8_count_171 : decode cX8_count 171 = .ok (.ireturn, 1) := by decide +kernel
theorem dX8_count_172 : decode cX8_count 172 = .ok (.iload_n 2, 1) := by decide +kernel
theorem dX8_count_173 : decode cX8_count 173 = .ok (.ireturn, 1) := by decide +kernel
theorem dX8_count_174 : decode cX8_count 174 = .ok (.iload_n 3, 1) := by decide +kernel
theorem dX8_count_175 : decode cX8_count 175 = .ok (.ireturn, 1) := by decide +kernel
theorem dX8_count_176 : decode cX8_count 176 = .ok (.aload_n 0, 1) := by decide +kernel
theorem dX8_count_177 : decode cX8_count 177 = .ok (.getfield 96, 3) := by decide +kernel
theorem dX8_count_180 : decode cX8_count 180 = .ok (.ireturn, 1) := by decide +kernel
theorem dX8_count_181 : decode cX8_count 181 = .ok (.aload_n 0, 1) := by decide +kernel
theorem dX8_count_182 : decode cX8_count 182 = .ok (.getfield 90, 3) := by decide +kernel
theorem dX8_count_185 : decode cX8_count 185 = .ok (.ireturn, 1) := by decide +kernel
theorem dX8_count_186 : decode cX8_count 186 = .ok (.aload_n 0, 1) := by decide +kernel
theorem dX8_count_187 : decode cX8_count 187 = .ok (.getfield 93, 3) := by decide +kernel
theorem dX8_count_190 : decode cX8_count 190 = .ok (.ireturn, 1) := by decide +kernel
theorem dX8_count_191 : decode cX8_count 191 = .ok (.aload_n 0, 1) := by decide +kernel
theorem dX8_count_192 : decode cX8_count 192 = .ok (.getfield 57, 3) := by decide +kernel
theorem dX8_count_195 : decode cX8_count 195 = .ok (.ireturn, 1) := by decide +kernel
theorem dX8_count_196 : decode cX8_count 196 = .ok (.iconst (-1), 1) := by decide +kernel
theorem dX8_count_197 : decode cX8_count 197 = .ok (.ireturn, 1) := by decide +kernel
theorem dL_law_0 : decode cL_law 0 = .ok (.new 7, 3) := by decide +kernel
theorem dL_law_3 : decode cL_law 3 = .ok (.dup, 1) := by decide +kernel
theorem dL_law_4 : decode cL_law 4 = .ok (.invokespecial 9, 3) := by decide +kernel
theorem dL_law_7 : decode cL_law 7 = .ok (.astore_n 1, 1) := by decide +kernel
theorem dL_law_8 : decode cL_law 8 = .ok (.new 10, 3) := by decide +kernel
theorem dL_law_11 : decode cL_law 11 = .ok (.dup, 1) := by decide +kernel
theorem dL_law_12 : decode cL_law 12 = .ok (.invokespecial 12, 3) := by decide +kernel
theorem dL_law_15 : decode cL_law 15 = .ok (.astore_n 2, 1) := by decide +kernel
theorem dL_law_16 : decode cL_law 16 = .ok (.iconst 0, 1) := by decide +kernel
theorem dL_law_17 : decode cL_law 17 = .ok (.istore_n 3, 1) := by decide +kernel
theorem dL_law_18 : decode cL_law 18 = .ok (.iload_n 3, 1) := by decide +kernel
theorem dL_law_19 : decode cL_law 19 = .ok (.aload_n 0, 1) := by decide +kernel
theorem dL_law_20 : decode cL_law 20 = .ok (.arraylength, 1) := by decide +kernel
theorem dL_law_21 : decode cL_law 21 = .ok (.iconst 5, 1) := by decide +kernel
theorem dL_law_22 : decode cL_law 22 = .ok (.isub, 1) := by decide +kernel
theorem dL_law_23 : decode cL_law 23 = .ok (.if_icmp .gt 880, 3) := by decide +kernel
theorem dL_law_26 : decode cL_law 26 = .ok (.aload_n 0, 1) := by decide +kernel
theorem dL_law_27 : decode cL_law 27 = .ok (.iload_n 3, 1) := by decide +kernel
theorem dL_law_28 : decode cL_law 28 = .ok (.iaload, 1) := by decide +kernel
theorem dL_law_29 : decode cL_law 29 = .ok (.bipush 31, 2) := by decide +kernel
theorem dL_law_31 : decode cL_law 31 = .ok (.iand, 1) := by decide +kernel
theorem dL_law_32 : decode cL_law 32 = .ok (.tableswitch 865 0 26 #[124, 147, 160, 173, 186, 219, 252, 285, 308, 341, 384, 397, 420, 443, 476, 489, 532, 585, 608, 651, 664, 687, 720, 773, 816, 829, 842], 124) := by decide +kernel
theorem dL_law_156 : decode cL_law 156 = .ok (.aload_n 1, 1) := by decide +kernel
theorem dL_law_157 : decode cL_law 157 = .ok (.aload_n 0, 1) := by decide +kernel
theorem dL_law_158 : decode cL_law 158 = .ok (.iload_n 3, 1) := by decide +kernel
theorem dL_law_159 : decode cL_law 159 = .ok (.iconst 1, 1) := by decide +kernel
theorem dL_law_160 : decode cL_law 160 = .ok (.iadd, 1) := by decide +kernel
theorem dL_law_161 : decode cL_law 161 = .ok (.iaload, 1) := by decide +kernel
theorem dL_law_162 : decode cL_law 162 = .ok (.invokevirtual 13, 3) := by decide +kernel
theorem dL_law_165 : decode cL_law 165 = .ok (.aload_n 2, 1) := by decide +kernel
theorem dL_law_166 : decode cL_law 166 = .ok (.aload_n 0, 1) := by decide +kernel
theorem dL_law_167 : decode cL_law 167 = .ok (.iload_n 3, 1) := by decide +kernel
theorem dL_law_168 : decode cL_law 168 = .ok (.iconst 1, 1) := by decide +kernel
theorem dL_law_169 : decode cL_law 169 = .ok (.iadd, 1) := by decide +kernel
theorem dL_law_170 : decode cL_law 170 = .ok (.iaload, 1) := by decide +kernel
theorem dL_law_171 : decode cL_law 171 = .ok (.invokevirtual 17, 3) := by decide +kernel
theorem dL_law_174 : decode cL_law 174 = .ok (.if_icmp .eq 723, 3) := by decide +kernel
theorem dL_law_177 : decode cL_law 177 = .ok (.iconst 0, 1) := by decide +kernel
theorem dL_law_178 : decode cL_law 178 = .ok (.ireturn, 1) := by decide +kernel
theorem dL_law_179 : decode cL_law 179 = .ok (.aload_n 1, 1) := by decide +kernel
theorem dL_law_180 : decode cL_law 180 = .ok (.invokevirtual 18, 3) := by decide +kernel
theorem dL_law_183 : decode cL_law 183 = .ok (.aload_n 2, 1) := by decide +kernel
theorem dL_law_184 : decode cL_law 184 = .ok (.invokevirtual 22, 3) := by decide +kernel
theorem dL_law_187 : decode cL_law 187 = .ok (.if_icmp .eq 710, 3) := by decide +kernel
theorem dL_law_190 : decode cL_law 190 = .ok (.iconst 0, 1) := by decide +kernel
theorem dL_law_191 : decode cL_law 191 = .ok (.ireturn, 1) := by decide +kernel
theorem dL_law_192 : decode cL_law 192 = .ok (.aload_n 1, 1) := by decide +kernel
theorem dL_law_193 : decode cL_law 193 = .ok (.invokevirtual 23, 3) := by decide +kernel
theorem dL_law_196 : decode cL_law 196 = .ok (.aload_n 2, 1) := by decide +kernel
theorem dL_law_197 : decode cL_law 197 = .ok (.invokevirtual 26, 3) := by decide +kernel
theorem dL_law_200 : decode cL_law 200 = .ok (.if_icmp .eq 697, 3) := by decide +kernel
theorem dL_law_203 : decode cL_law 203 = .ok (.iconst 0, 1) := by decide +kernel
theorem dL_law_204 : decode cL_law 204 = .ok (.ireturn, 1) := by decide +kernel
theorem dL_law_205 : decode cL_law 205 = .ok (.aload_n 1, 1) := by decide +kernel
theorem dL_law_206 : decode cL_law 206 = .ok (.invokevirtual 27, 3) := by decide +kernel
theorem dL_law_209 : decode cL_law 209 = .ok (.aload_n 2, 1) := by decide +kernel
theorem dL_law_210 : decode cL_law 210 = .ok (.invokevirtual 30, 3) := by decide +kernel
theorem dL_law_213 : decode cL_law 213 = .ok (.if_icmp .eq 684, 3) := by decide +kernel
theorem dL_law_216 : decode cL_law 216 = .ok (.iconst 0, 1) := by decide +kernel
theorem dL_law_217 : decode cL_law 217 = .ok (.ireturn, 1) := by decide +kernel
theorem dL_law_218 : decode cL_law 218 = .ok (.aload_n 1, 1) := by decide +kernel
theorem dL_law_219 : decode cL_law 219 = .ok (.aload_n 0, 1) := by decide +kernel
theorem dL_law_220 : decode cL_law 220 = .ok (.iload_n 3, 1) := by decide +kernel
theorem dL_law_221 : decode cL_law 221 = .ok (.iconst 1, 1) := by decide +kernel
theorem dL_law_222 : decode cL_law 222 = .ok (.iadd, 1) := by decide +kernel
theorem dL_law_223 : decode cL_law 223 = .ok (.iaload, 1) := by decide +kernel
theorem dL_law_224 : decode cL_law 224 = .ok (.aload_n 0, 1) := by decide +kernel
theorem dL_law_225 : decode cL_law 225 = .ok (.iload_n 3, 1) := by decide +kernel
theorem dL_law_226 : decode cL_law 226 = .ok (.iconst 2, 1) := by decide +kernel
theorem dL_law_227 : decode cL_law 227 = .ok (.iadd, 1) := by decide +kernel
theorem dL_law_228 : decode cL_law 228 = .ok (.iaload, 1) := by decide +kernel
theorem dL_law_229 : decode cL_law 229 = .ok (.invokevirtual 31, 3) := by decide +kernel
theorem dL_law_232 : decode cL_law 232 = .ok (.aload_n 2, 1) := by decide +kernel
theorem dL_law_233 : decode cL_law 233 = .ok (.aload_n 0, 1) := by decide +kernel
theorem dL_law_234 : decode cL_law 234 = .ok (.iload_n 3, 1) := by decide +kernel
theorem dL_law_235 : decode cL_law 235 = .ok (.iconst 1, 1) := by decide +kernel
theorem dL_law_236 : decode cL_law 236 = .ok (.iadd, 1) := by decide +kernel
theorem dL_law_237 : decode cL_law 237 = .ok (.iaload, 1) := by decide +kernel
theorem dL_law_238 : decode cL_law 238 = .ok (.aload_n 0, 1) := by decide +kernel
theorem dL_law_239 : decode cL_law 239 = .ok (.iload_n 3, 1) := by decide +kernel
theorem dL_law_240 : decode cL_law 240 = .ok (.iconst 2, 1) := by decide +kernel
theorem dL_law_241 : decode cL_law 241 = .ok (.iadd, 1) := by decide +kernel
theorem dL_law_242 : decode cL_law 242 = .ok (.iaload, 1) := by decide +kernel
theorem dL_law_243 : decode cL_law 243 = .ok (.invokevirtual 35, 3) := by decide +kernel
theorem dL_law_246 : decode cL_law 246 = .ok (.if_icmp .eq 651, 3) := by decide +kernel
theorem dL_law_249 : decode cL_law 249 = .ok (.iconst 0, 1) := by decide +kernel
theorem dL_law_250 : decode cL_law 250 = .ok (.ireturn, 1) := by decide +kernel
theorem dL_law_251 : decode cL_law 251 = .ok (.aload_n 1, 1) := by decide +kernel
theorem dL_law_252 : decode cL_law 252 = .ok (.aload_n 0, 1) := by decide +kernel
theorem dL_law_253 : decode cL_law 253 = .ok (.iload_n 3, 1) := by decide +kernel
theorem dL_law_254 : decode cL_law 254 = .ok (.iconst 1, 1) := by decide +kernel
theorem dL_law_255 : decode cL_law 255 = .ok (.iadd, 1) := by decide +kernel
theorem dL_law_256 : decode cL_law 256 = .ok (.iaload, 1) := by decide +kernel
theorem dL_law_257 : decode cL_law 257 = .ok (.aload_n 0, 1) := by decide +kernel
theorem dL_law_258 : decode cL_law 258 = .ok (.iload_n 3, 1) := by decide +kernel
theorem dL_law_259 : decode cL_law 259 = .ok (.iconst 2, 1) := by decide +kernel
theorem dL_law_260 : decode cL_law 260 = .ok (.iadd, 1) := by decide +kernel
theorem dL_law_261 : decode cL_law 261 = .ok (.iaload, 1) := by decide +kernel
theorem dL_law_262 : decode cL_law 262 = .ok (.invokevirtual 36, 3) := by decide +kernel
theorem dL_law_265 : decode cL_law 265 = .ok (.aload_n 2, 1) := by decide +kernel
theorem dL_law_266 : decode cL_law 266 = .ok (.aload_n 0, 1) := by decide +kernel
theorem dL_law_267 : decode cL_law 267 = .ok (.iload_n 3, 1) := by decide +kernel
theorem dL_law_268 : decode cL_law 268 = .ok (.iconst 1, 1) := by decide +kernel
theorem dL_law_269 : decode cL_law 269 = .ok (.iadd, 1) := by decide +kernel
theorem dL_law_270 : decode cL_law 270 = .ok (.iaload, 1) := by decide +kernel
theorem dL_law_271 : decode cL_law 271 = .ok (.aload_n 0, 1) := by decide +kernel
theorem dL_law_272 : decode cL_law 272 = .ok (.iload_n 3, 1) := by decide +kernel
theorem dL_law_273 : decode cL_law 273 = .ok (.iconst 2, 1) := by decide +kernel
theorem dL_law_274 : decode cL_law 274 = .ok (.iadd, 1) := by decide +kernel
theorem dL_law_275 : decode cL_law 275 = .ok (.iaload, 1) := by decide +kernel
theorem dL_law_276 : decode cL_law 276 = .ok (.invokevirtual 39, 3) := by decide +kernel
theorem dL_law_279 : decode cL_law 279 = .ok (.if_icmp .eq 618, 3) := by decide +kernel
theorem dL_law_282 : decode cL_law 282 = .ok (.iconst 0, 1) := by decide +kernel
theorem dL_law_283 : decode cL_law 283 = .ok (.ireturn, 1) := by decide +kernel
theorem dL_law_284 : decode cL_law 284 = .ok (.aload_n 1, 1) := by decide +kernel
theorem dL_law_285 : decode cL_law 285 = .ok (.aload_n 0, 1) := by decide +kernel
theorem dL_law_286 : decode cL_law 286 = .ok (.iload_n 3, 1) := by decide +kernel
theorem dL_law_287 : decode cL_law 287 = .ok (.iconst 1, 1) := by decide +kernel
theorem dL_law_288 : decode cL_law 288 = .ok (.iadd, 1) := by decide +kernel
theorem dL_law_289 : decode cL_law 289 = .ok (.iaload, 1) := by decide +kernel
theorem dL_law_290 : decode cL_law 290 = .ok (.aload_n 0, 1) := by decide +kernel
theorem dL_law_291 : decode cL_law 291 = .ok (.iload_n 3, 1) := by decide +kernel
theorem dL_law_292 : decode cL_law 292 = .ok (.iconst 2, 1) := by decide +kernel
theorem dL_law_293 : decode cL_law 293 = .ok (.iadd, 1) := by decide +kernel
theorem dL_law_294 : decode cL_law 294 = .ok (.iaload, 1) := by decide +kernel
theorem dL_law_295 : decode cL_law 295 = .ok (.invokevirtual 40, 3) := by decide +kernel
theorem dL_law_298 : decode cL_law 298 = .ok (.aload_n 2, 1) := by decide +kernel
theorem dL_law_299 : decode cL_law 299 = .ok (.aload_n 0, 1) := by decide +kernel
theorem dL_law_300 : decode cL_law 300 = .ok (.iload_n 3, 1) := by decide +kernel
theorem dL_law_301 : decode cL_law 301 = .ok (.iconst 1, 1) := by decide +kernel
theorem dL_law_302 : decode cL_law 302 = .ok (.iadd, 1) := by decide +kernel
theorem dL_law_303 : decode cL_law 303 = .ok (.iaload, 1) := by decide +kernel
theorem dL_law_304 : decode cL_law 304 = .ok (.aload_n 0, 1) := by decide +kernel
theorem dL_law_305 : decode cL_law 305 = .ok (.iload_n 3, 1) := by decide +kernel
theorem dL_law_306 : decode cL_law 306 = .ok (.iconst 2, 1) := by decide +kernel
theorem dL_law_307 : decode cL_law 307 = .ok (.iadd, 1) := by decide +kernel
theorem dL_law_308 : decode cL_law 308 = .ok (.iaload, 1) := by decide +kernel
theorem dL_law_309 : decode cL_law 309 = .ok (.invokevirtual 43, 3) := by decide +kernel
theorem dL_law_312 : decode cL_law 312 = .ok (.if_icmp .eq 585, 3) := by decide +kernel
theorem dL_law_315 : decode cL_law 315 = .ok (.iconst 0, 1) := by decide +kernel
theorem dL_law_316 : decode cL_law 316 = .ok (.ireturn, 1) := by decide +kernel
theorem dL_law_317 : decode cL_law 317 = .ok (.aload_n 1, 1) := by decide +kernel
theorem dL_law_318 : decode cL_law 318 = .ok (.aload_n 0, 1) := by decide +kernel
theorem dL_law_319 : decode cL_law 319 = .ok (.iload_n 3, 1) := by decide +kernel
theorem dL_law_320 : decode cL_law 320 = .ok (.iconst 1, 1) := by decide +kernel
theorem dL_law_321 : decode cL_law 321 = .ok (.iadd, 1) := by decide +kernel
theorem dL_law_322 : decode cL_law 322 = .ok (.iaload, 1) := by decide +kernel
theorem dL_law_323 : decode cL_law 323 = .ok (.invokevirtual 44, 3) := by decide +kernel
theorem dL_law_326 : decode cL_law 326 = .ok (.aload_n 2, 1) := by decide +kernel
theorem dL_law_327 : decode cL_law 327 = .ok (.aload_n 0, 1) := by decide +kernel
theorem dL_law_328 : decode cL_law 328 = .ok (.iload_n 3, 1) := by decide +kernel
theorem dL_law_329 : decode cL_law 329 = .ok (.iconst 1, 1) := by decide +kernel
theorem dL_law_330 : decode cL_law 330 = .ok (.iadd, 1) := by decide +kernel
theorem dL_law_331 : decode cL_law 331 = .ok (.iaload, 1) := by decide +kernel
theorem dL_law_332 : decode cL_law 332 = .ok (.invokevirtual 47, 3) := by decide +kernel
theorem dL_law_335 : decode cL_law 335 = .ok (.if_icmp .eq 562, 3) := by decide +kernel
theorem dL_law_338 : decode cL_law 338 = .ok (.iconst 0, 1) := by decide +kernel
theorem dL_law_339 : decode cL_law 339 = .ok (.ireturn, 1) := by decide +kernel
theorem dL_law_340 : decode cL_law 340 = .ok (.aload_n 1, 1) := by decide +kernel
theorem dL_law_341 : decode cL_law 341 = .ok (.aload_n 0, 1) := by decide +kernel
theorem dL_law_342 : decode cL_law 342 = .ok (.iload_n 3, 1) := by decide +kernel
theorem dL_law_343 : decode cL_law 343 = .ok (.iconst 1, 1) := by decide +kernel
theorem dL_law_344 : decode cL_law 344 = .ok (.iadd, 1) := by decide +kernel
theorem dL_law_345 : decode cL_law 345 = .ok (.iaload, 1) := by decide +kernel
theorem dL_law_346 : decode cL_law 346 = .ok (.aload_n 0, 1) := by decide +kernel
theorem dL_law_347 : decode cL_law 347 = .ok (.iload_n 3, 1) := by decide +kernel
theorem dL_law_348 : decode cL_law 348 = .ok (.iconst 2, 1) := by decide +kernel
theorem dL_law_349 : decode cL_law 349 = .ok (.iadd, 1) := by decide +kernel
theorem dL_law_350 : decode cL_law 350 = .ok (.iaload, 1) := by decide +kernel
theorem dL_law_351 : decode cL_law 351 = .ok (.invokevirtual 48, 3) := by decide +kernel
theorem dL_law_354 : decode cL_law 354 = .ok (.aload_n 2, 1) := by decide +kernel
theorem dL_law_355 : decode cL_law 355 = .ok (.aload_n 0, 1) := by decide +kernel
theorem dL_law_356 : decode cL_law 356 = .ok (.iload_n 3, 1) := by decide +kernel
theorem dL_law_357 : decode cL_law 357 = .ok (.iconst 1, 1) := by decide +kernel
theorem dL_law_358 : decode cL_law 358 = .ok (.iadd, 1) := by decide +kernel
theorem dL_law_359 : decode cL_law 359 = .ok (.iaload, 1) := by decide +kernel
theorem dL_law_360 : decode cL_law 360 = .ok (.aload_n 0, 1) := by decide +kernel
theorem dL_law_361 : decode cL_law 361 = .ok (.iload_n 3, 1) := by decide +kernel
theorem dL_law_362 : decode cL_law 362 = .ok (.iconst 2, 1) := by decide +kernel
theorem dL_law_363 : decode cL_law 363 = .ok (.iadd, 1) := by decide +kernel
theorem dL_law_364 : decode cL_law 364 = .ok (.iaload, 1) := by decide +kernel
theorem dL_law_365 : decode cL_law 365 = .ok (.invokevirtual 51, 3) := by decide +kernel
theorem dL_law_368 : decode cL_law 368 = .ok (.if_icmp .eq 529, 3) := by decide +kernel
theorem dL_law_371 : decode cL_law 371 = .ok (.iconst 0, 1) := by decide +kernel
theorem dL_law_372 : decode cL_law 372 = .ok (.ireturn, 1) := by decide +kernel
theorem dL_law_373 : decode cL_law 373 = .ok (.aload_n 1, 1) := by decide +kernel
theorem dL_law_374 : decode cL_law 374 = .ok (.aload_n 0, 1) := by decide +kernel
theorem dL_law_375 : decode cL_law 375 = .ok (.iload_n 3, 1) := by decide +kernel
theorem dL_law_376 : decode cL_law 376 = .ok (.iconst 1, 1) := by decide +kernel
theorem dL_law_377 : decode cL_law 377 = .ok (.iadd, 1) := by decide +kernel
theorem dL_law_378 : decode cL_law 378 = .ok (.iaload, 1) := by decide +kernel
theorem dL_law_379 : decode cL_law 379 = .ok (.aload_n 0, 1) := by decide +kernel
theorem dL_law_380 : decode cL_law 380 = .ok (.iload_n 3, 1) := by decide +kernel
theorem dL_law_381 : decode cL_law 381 = .ok (.iconst 2, 1) := by decide +kernel
theorem dL_law_382 : decode cL_law 382 = .ok (.iadd, 1) := by decide +kernel
theorem dL_law_383 : decode cL_law 383 = .ok (.iaload, 1) := by decide +kernel
theorem dL_law_384 : decode cL_law 384 = .ok (.aload_n 0, 1) := by decide +kernel
theorem dL_law_385 : decode cL_law 385 = .ok (.iload_n 3, 1) := by decide +kernel
theorem dL_law_386 : decode cL_law 386 = .ok (.iconst 3, 1) := by decide +kernel
theorem dL_law_387 : decode cL_law 387 = .ok (.iadd, 1) := by decide +kernel
theorem dL_law_388 : decode cL_law 388 = .ok (.iaload, 1) := by decide +kernel
theorem dL_law_389 : decode cL_law 389 = .ok (.invokevirtual 52, 3) := by decide +kernel
theorem dL_law_392 : decode cL_law 392 = .ok (.aload_n 2, 1) := by decide +kernel
theorem dL_law_393 : decode cL_law 393 = .ok (.aload_n 0, 1) := by decide +kernel
theorem dL_law_394 : decode cL_law 394 = .ok (.iload_n 3, 1) := by decide +kernel
theorem dL_law_395 : decode cL_law 395 = .ok (.iconst 1, 1) := by decide +kernel
theorem dL_law_396 : decode cL_law 396 = .ok (.iadd, 1) := by decide +kernel
theorem dL_law_397 : decode cL_law 397 = .ok (.iaload, 1) := by decide +kernel
theorem dL_law_398 : decode cL_law 398 = .ok (.aload_n 0, 1) := by decide +kernel
theorem dL_law_399 : decode cL_law 399 = .ok (.iload_n 3, 1) := by decide +kernel
theorem dL_law_400 : decode cL_law 400 = .ok (.iconst 2, 1) := by decide +kernel
theorem dL_law_401 : decode cL_law 401 = .ok (.iadd, 1) := by decide +kernel
theorem dL_law_402 : decode cL_law 402 = .ok (.iaload, 1) := by decide +kernel
theorem dL_law_403 : decode cL_law 403 = .ok (.aload_n 0, 1) := by decide +kernel
theorem dL_law_404 : decode cL_law 404 = .ok (.iload_n 3, 1) := by decide +kernel
theorem dL_law_405 : decode cL_law 405 = .ok (.iconst 3, 1) := by decide +kernel
theorem dL_law_406 : decode cL_law 406 = .ok (.iadd, 1) := by decide +kernel
theorem dL_law_407 : decode cL_law 407 = .ok (.iaload, 1) := by decide +kernel
theorem dL_law_408 : decode cL_law 408 = .ok (.invokevirtual 56, 3) := by decide +kernel
theorem dL_law_411 : decode cL_law 411 = .ok (.if_icmp .eq 486, 3) := by decide +kernel
theorem dL_law_414 : decode cL_law 414 = .ok (.iconst 0, 1) := by decide +kernel
theorem dL_law_415 : decode cL_law 415 = .ok (.ireturn, 1) := by decide +kernel
theorem dL_law_416 : decode cL_law 416 = .ok (.aload_n 1, 1) := by decide +kernel
theorem dL_law_417 : decode cL_law 417 = .ok (.invokevirtual 57, 3) := by decide +kernel
theorem dL_law_420 : decode cL_law 420 = .ok (.aload_n 2, 1) := by decide +kernel
theorem dL_law_421 : decode cL_law 421 = .ok (.invokevirtual 60, 3) := by decide +kernel
theorem dL_law_424 : decode cL_law 424 = .ok (.if_icmp .eq 473, 3) := by decide +kernel
theorem dL_law_427 : decode cL_law 427 = .ok (.iconst 0, 1) := by decide +kernel
theorem dL_law_428 : decode cL_law 428 = .ok (.ireturn, 1) := by decide +kernel
theorem dL_law_429 : decode cL_law 429 = .ok (.aload_n 1, 1) := by decide +kernel
theorem dL_law_430 : decode cL_law 430 = .ok (.aload_n 0, 1) := by decide +kernel
theorem dL_law_431 : decode cL_law 431 = .ok (.iload_n 3, 1) := by decide +kernel
theorem dL_law_432 : decode cL_law 432 = .ok (.iconst 1, 1) := by decide +kernel
theorem dL_law_433 : decode cL_law 433 = .ok (.iadd, 1) := by decide +kernel
theorem dL_law_434 : decode cL_law 434 = .ok (.iaload, 1) := by decide +kernel
theorem dL_law_435 : decode cL_law 435 = .ok (.invokevirtual 61, 3) := by decide +kernel
theorem dL_law_438 : decode cL_law 438 = .ok (.aload_n 2, 1) := by decide +kernel
theorem dL_law_439 : decode cL_law 439 = .ok (.aload_n 0, 1) := by decide +kernel
theorem dL_law_440 : decode cL_law 440 = .ok (.iload_n 3, 1) := by decide +kernel
theorem dL_law_441 : decode cL_law 441 = .ok (.iconst 1, 1) := by decide +kernel
theorem dL_law_442 : decode cL_law 442 = .ok (.iadd, 1) := by decide +kernel
theorem dL_law_443 : decode cL_law 443 = .ok (.iaload, 1) := by decide +kernel
theorem dL_law_444 : decode cL_law 444 = .ok (.invokevirtual 64, 3) := by decide +kernel
theorem dL_law_447 : decode cL_law 447 = .ok (.if_icmp .eq 450, 3) := by decide +kernel
theorem dL_law_450 : decode cL_law 450 = .ok (.iconst 0, 1) := by decide +kernel
theorem dL_law_451 : decode cL_law 451 = .ok (.ireturn, 1) := by decide +kernel
theorem dL_law_452 : decode cL_law 452 = .ok (.aload_n 1, 1) := by decide +kernel
theorem dL_law_453 : decode cL_law 453 = .ok (.aload_n 0, 1) := by decide +kernel
theorem dL_law_454 : decode cL_law 454 = .ok (.iload_n 3, 1) := by decide +kernel
theorem dL_law_455 : decode cL_law 455 = .ok (.iconst 1, 1) := by decide +kernel
theorem dL_law_456 : decode cL_law 456 = .ok (.iadd, 1) := by decide +kernel
theorem dL_law_457 : decode cL_law 457 = .ok (.iaload, 1) := by decide +kernel
theorem dL_law_458 : decode cL_law 458 = .ok (.invokevirtual 65, 3) := by decide +kernel
theorem dL_law_461 : decode cL_law 461 = .ok (.aload_n 2, 1) := by decide +kernel
theorem dL_law_462 : decode cL_law 462 = .ok (.aload_n 0, 1) := by decide +kernel
theorem dL_law_463 : decode cL_law 463 = .ok (.iload_n 3, 1) := by decide +kernel
theorem dL_law_464 : decode cL_law 464 = .ok (.iconst 1, 1) := by decide +kernel
theorem dL_law_465 : decode cL_law 465 = .ok (.iadd, 1) := by decide +kernel
theorem dL_law_466 : decode cL_law 466 = .ok (.iaload, 1) := by decide +kernel
theorem dL_law_467 : decode cL_law 467 = .ok (.invokevirtual 68, 3) := by decide +kernel
theorem dL_law_470 : decode cL_law 470 = .ok (.if_icmp .eq 427, 3) := by decide +kernel
theorem dL_law_473 : decode cL_law 473 = .ok (.iconst 0, 1) := by decide +kernel
theorem dL_law_474 : decode cL_law 474 = .ok (.ireturn, 1) := by decide +kernel
theorem dL_law_475 : decode cL_law 475 = .ok (.aload_n 1, 1) := by decide +kernel
theorem dL_law_476 : decode cL_law 476 = .ok (.aload_n 0, 1) := by decide +kernel
theorem dL_law_477 : decode cL_law 477 = .ok (.iload_n 3, 1) := by decide +kernel
theorem dL_law_478 : decode cL_law 478 = .ok (.iconst 1, 1) := by decide +kernel
theorem dL_law_479 : decode cL_law 479 = .ok (.iadd, 1) := by decide +kernel
theorem dL_law_480 : decode cL_law 480 = .ok (.iaload, 1) := by decide +kernel
theorem dL_law_481 : decode cL_law 481 = .ok (.aload_n 0, 1) := by decide +kernel
theorem dL_law_482 : decode cL_law 482 = .ok (.iload_n 3, 1) := by decide +kernel
theorem dL_law_483 : decode cL_law 483 = .ok (.iconst 2, 1) := by decide +kernel
theorem dL_law_484 : decode cL_law 484 = .ok (.iadd, 1) := by decide +kernel
theorem dL_law_485 : decode cL_law 485 = .ok (.iaload, 1) := by decide +kernel
theorem dL_law_486 : decode cL_law 486 = .ok (.invokevirtual 69, 3) := by decide +kernel
theorem dL_law_489 : decode cL_law 489 = .ok (.aload_n 2, 1) := by decide +kernel
theorem dL_law_490 : decode cL_law 490 = .ok (.aload_n 0, 1) := by decide +kernel
theorem dL_law_491 : decode cL_law 491 = .ok (.iload_n 3, 1) := by decide +kernel
theorem dL_law_492 : decode cL_law 492 = .ok (.iconst 1, 1) := by decide +kernel
theorem dL_law_493 : decode cL_law 493 = .ok (.iadd, 1) := by decide +kernel
theorem dL_law_494 : decode cL_law 494 = .ok (.iaload, 1) := by decide +kernel
theorem dL_law_495 : decode cL_law 495 = .ok (.aload_n 0, 1) := by decide +kernel
theorem dL_law_496 : decode cL_law 496 = .ok (.iload_n 3, 1) := by decide +kernel
theorem dL_law_497 : decode cL_law 497 = .ok (.iconst 2, 1) := by decide +kernel
theorem dL_law_498 : decode cL_law 498 = .ok (.iadd, 1) := by decide +kernel
theorem dL_law_499 : decode cL_law 499 = .ok (.iaload, 1) := by decide +kernel
theorem dL_law_500 : decode cL_law 500 = .ok (.invokevirtual 72, 3) := by decide +kernel
theorem dL_law_503 : decode cL_law 503 = .ok (.if_icmp .eq 394, 3) := by decide +kernel
theorem dL_law_506 : decode cL_law 506 = .ok (.iconst 0, 1) := by decide +kernel
theorem dL_law_507 : decode cL_law 507 = .ok (.ireturn, 1) := by decide +kernel
theorem dL_law_508 : decode cL_law 508 = .ok (.aload_n 1, 1) := by decide +kernel
theorem dL_law_509 : decode cL_law 509 = .ok (.invokevirtual 73, 3) := by decide +kernel
theorem dL_law_512 : decode cL_law 512 = .ok (.aload_n 2, 1) := by decide +kernel
theorem dL_law_513 : decode cL_law 513 = .ok (.invokevirtual 76, 3) := by decide +kernel
theorem dL_law_516 : decode cL_law 516 = .ok (.if_icmp .eq 381, 3) := by decide +kernel
theorem dL_law_519 : decode cL_law 519 = .ok (.iconst 0, 1) := by decide +kernel
theorem dL_law_520 : decode cL_law 520 = .ok (.ireturn, 1) := by decide +kernel
theorem dL_law_521 : decode cL_law 521 = .ok (.aload_n 1, 1) := by decide +kernel
theorem dL_law_522 : decode cL_law 522 = .ok (.aload_n 0, 1) := by decide +kernel
theorem dL_law_523 : decode cL_law 523 = .ok (.iload_n 3, 1) := by decide +kernel
theorem dL_law_524 : decode cL_law 524 = .ok (.iconst 1, 1) := by decide +kernel
theorem dL_law_525 : decode cL_law 525 = .ok (.iadd, 1) := by decide +kernel
theorem dL_law_526 : decode cL_law 526 = .ok (.iaload, 1) := by decide +kernel
theorem dL_law_527 : decode cL_law 527 = .ok (.aload_n 0, 1) := by decide +kernel
theorem dL_law_528 : decode cL_law 528 = .ok (.iload_n 3, 1) := by decide +kernel
theorem dL_law_529 : decode cL_law 529 = .ok (.iconst 2, 1) := by decide +kernel
theorem dL_law_530 : decode cL_law 530 = .ok (.iadd, 1) := by decide +kernel
theorem dL_law_531 : decode cL_law 531 = .ok (.iaload, 1) := by decide +kernel
theorem dL_law_532 : decode cL_law 532 = .ok (.aload_n 0, 1) := by decide +kernel
theorem dL_law_533 : decode cL_law 533 = .ok (.iload_n 3, 1) := by decide +kernel
theorem dL_law_534 : decode cL_law 534 = .ok (.iconst 3, 1) := by decide +kernel
theorem dL_law_535 : decode cL_law 535 = .ok (.iadd, 1) := by decide +kernel
theorem dL_law_536 : decode cL_law 536 = .ok (.iaload, 1) := by decide +kernel
theorem dL_law_537 : decode cL_law 537 = .ok (.invokevirtual 77, 3) := by decide +kernel
theorem dL_law_540 : decode cL_law 540 = .ok (.aload_n 2, 1) := by decide +kernel
theorem dL_law_541 : decode cL_law 541 = .ok (.aload_n 0, 1) := by decide +kernel
theorem dL_law_542 : decode cL_law 542 = .ok (.iload_n 3, 1) := by decide +kernel
theorem dL_law_543 : decode cL_law 543 = .ok (.iconst 1, 1) := by decide +kernel
theorem dL_law_544 : decode cL_law 544 = .ok (.iadd, 1) := by decide +kernel
theorem dL_law_545 : decode cL_law 545 = .ok (.iaload, 1) := by decide +kernel
theorem dL_law_546 : decode cL_law 546 = .ok (.aload_n 0, 1) := by decide +kernel
theorem dL_law_547 : decode cL_law 547 = .ok (.iload_n 3, 1) := by decide +kernel
theorem dL_law_548 : decode cL_law 548 = .ok (.iconst 2, 1) := by decide +kernel
theorem dL_law_549 : decode cL_law 549 = .ok (.iadd, 1) := by decide +kernel
theorem dL_law_550 : decode cL_law 550 = .ok (.iaload, 1) := by decide +kernel
theorem dL_law_551 : decode cL_law 551 = .ok (.aload_n 0, 1) := by decide +kernel
theorem dL_law_552 : decode cL_law 552 = .ok (.iload_n 3, 1) := by decide +kernel
theorem dL_law_553 : decode cL_law 553 = .ok (.iconst 3, 1) := by decide +kernel
theorem dL_law_554 : decode cL_law 554 = .ok (.iadd, 1) := by decide +kernel
theorem dL_law_555 : decode cL_law 555 = .ok (.iaload, 1) := by decide +kernel
theorem dL_law_556 : decode cL_law 556 = .ok (.invokevirtual 80, 3) := by decide +kernel
theorem dL_law_559 : decode cL_law 559 = .ok (.if_icmp .eq 338, 3) := by decide +kernel
theorem dL_law_562 : decode cL_law 562 = .ok (.iconst 0, 1) := by decide +kernel
theorem dL_law_563 : decode cL_law 563 = .ok (.ireturn, 1) := by decide +kernel
theorem dL_law_564 : decode cL_law 564 = .ok (.aload_n 1, 1) := by decide +kernel
theorem dL_law_565 : decode cL_law 565 = .ok (.aload_n 0, 1) := by decide +kernel
theorem dL_law_566 : decode cL_law 566 = .ok (.iload_n 3, 1) := by decide +kernel
theorem dL_law_567 : decode cL_law 567 = .ok (.iconst 1, 1) := by decide +kernel
theorem dL_law_568 : decode cL_law 568 = .ok (.iadd, 1) := by decide +kernel
theorem dL_law_569 : decode cL_law 569 = .ok (.iaload, 1) := by decide +kernel
theorem dL_law_570 : decode cL_law 570 = .ok (.aload_n 0, 1) := by decide +kernel
theorem dL_law_571 : decode cL_law 571 = .ok (.iload_n 3, 1) := by decide +kernel
theorem dL_law_572 : decode cL_law 572 = .ok (.iconst 2, 1) := by decide +kernel
theorem dL_law_573 : decode cL_law 573 = .ok (.iadd, 1) := by decide +kernel
theorem dL_law_574 : decode cL_law 574 = .ok (.iaload, 1) := by decide +kernel
theorem dL_law_575 : decode cL_law 575 = .ok (.aload_n 0, 1) := by decide +kernel
theorem dL_law_576 : decode cL_law 576 = .ok (.iload_n 3, 1) := by decide +kernel
theorem dL_law_577 : decode cL_law 577 = .ok (.iconst 3, 1) := by decide +kernel
theorem dL_law_578 : decode cL_law 578 = .ok (.iadd, 1) := by decide +kernel
theorem dL_law_579 : decode cL_law 579 = .ok (.iaload, 1) := by decide +kernel
theorem dL_law_580 : decode cL_law 580 = .ok (.aload_n 0, 1) := by decide +kernel
theorem dL_law_581 : decode cL_law 581 = .ok (.iload_n 3, 1) := by decide +kernel
theorem dL_law_582 : decode cL_law 582 = .ok (.iconst 4, 1) := by decide +kernel
theorem dL_law_583 : decode cL_law 583 = .ok (.iadd, 1) := by decide +kernel
theorem dL_law_584 : decode cL_law 584 = .ok (.iaload, 1) := by decide +kernel
theorem dL_law_585 : decode cL_law 585 = .ok (.invokevirtual 81, 3) := by decide +kernel
theorem dL_law_588 : decode cL_law 588 = .ok (.aload_n 2, 1) := by decide +kernel
theorem dL_law_589 : decode cL_law 589 = .ok (.aload_n 0, 1) := by decide +kernel
theorem dL_law_590 : decode cL_law 590 = .ok (.iload_n 3, 1) := by decide +kernel
theorem dL_law_591 : decode cL_law 591 = .ok (.iconst 1, 1) := by decide +kernel
theorem dL_law_592 : decode cL_law 592 = .ok (.iadd, 1) := by decide +kernel
theorem dL_law_593 : decode cL_law 593 = .ok (.iaload, 1) := by decide +kernel
theorem dL_law_594 : decode cL_law 594 = .ok (.aload_n 0, 1) := by decide +kernel
theorem dL_law_595 : decode cL_law 595 = .ok (.iload_n 3, 1) := by decide +kernel
theorem dL_law_596 : decode cL_law 596 = .ok (.iconst 2, 1) := by decide +kernel
theorem dL_law_597 : decode cL_law 597 = .ok (.iadd, 1) := by decide +kernel
theorem dL_law_598 : decode cL_law 598 = .ok (.iaload, 1) := by decide +kernel
theorem dL_law_599 : decode cL_law 599 = .ok (.aload_n 0, 1) := by decide +kernel
theorem dL_law_600 : decode cL_law 600 = .ok (.iload_n 3, 1) := by decide +kernel
theorem dL_law_601 : decode cL_law 601 = .ok (.iconst 3, 1) := by decide +kernel
theorem dL_law_602 : decode cL_law 602 = .ok (.iadd, 1) := by decide +kernel
theorem dL_law_603 : decode cL_law 603 = .ok (.iaload, 1) := by decide +kernel
theorem dL_law_604 : decode cL_law 604 = .ok (.aload_n 0, 1) := by decide +kernel
theorem dL_law_605 : decode cL_law 605 = .ok (.iload_n 3, 1) := by decide +kernel
theorem dL_law_606 : decode cL_law 606 = .ok (.iconst 4, 1) := by decide +kernel
theorem dL_law_607 : decode cL_law 607 = .ok (.iadd, 1) := by decide +kernel
theorem dL_law_608 : decode cL_law 608 = .ok (.iaload, 1) := by decide +kernel
theorem dL_law_609 : decode cL_law 609 = .ok (.invokevirtual 85, 3) := by decide +kernel
theorem dL_law_612 : decode cL_law 612 = .ok (.if_icmp .eq 285, 3) := by decide +kernel
theorem dL_law_615 : decode cL_law 615 = .ok (.iconst 0, 1) := by decide +kernel
theorem dL_law_616 : decode cL_law 616 = .ok (.ireturn, 1) := by decide +kernel
theorem dL_law_617 : decode cL_law 617 = .ok (.aload_n 1, 1) := by decide +kernel
theorem dL_law_618 : decode cL_law 618 = .ok (.aload_n 0, 1) := by decide +kernel
theorem dL_law_619 : decode cL_law 619 = .ok (.iload_n 3, 1) := by decide +kernel
theorem dL_law_620 : decode cL_law 620 = .ok (.iconst 1, 1) := by decide +kernel
theorem dL_law_621 : decode cL_law 621 = .ok (.iadd, 1) := by decide +kernel
theorem dL_law_622 : decode cL_law 622 = .ok (.iaload, 1) := by decide +kernel
theorem dL_law_623 : decode cL_law 623 = .ok (.invokevirtual 86, 3) := by decide +kernel
theorem dL_law_626 : decode cL_law 626 = .ok (.aload_n 2, 1) := by decide +kernel
theorem dL_law_627 : decode cL_law 627 = .ok (.aload_n 0, 1) := by decide +kernel
theorem dL_law_628 : decode cL_law 628 = .ok (.iload_n 3, 1) := by decide +kernel
theorem dL_law_629 : decode cL_law 629 = .ok (.iconst 1, 1) := by decide +kernel
theorem dL_law_630 : decode cL_law 630 = .ok (.iadd, 1) := by decide +kernel
theorem dL_law_631 : decode cL_law 631 = .ok (.iaload, 1) := by decide +kernel
theorem dL_law_632 : decode cL_law 632 = .ok (.invokevirtual 89, 3) := by decide +kernel
theorem dL_law_635 : decode cL_law 635 = .ok (.if_icmp .eq 262, 3) := by decide +kernel
theorem dL_law_638 : decode cL_law 638 = .ok (.iconst 0, 1) := by decide +kernel
theorem dL_law_639 : decode cL_law 639 = .ok (.ireturn, 1) := by decide +kernel
theorem dL_law_640 : decode cL_law 640 = .ok (.aload_n 1, 1) := by decide +kernel
theorem dL_law_641 : decode cL_law 641 = .ok (.aload_n 0, 1) := by decide +kernel
theorem dL_law_642 : decode cL_law 642 = .ok (.iload_n 3, 1) := by decide +kernel
theorem dL_law_643 : decode cL_law 643 = .ok (.iconst 1, 1) := by decide +kernel
theorem dL_law_644 : decode cL_law 644 = .ok (.iadd, 1) := by decide +kernel
theorem dL_law_645 : decode cL_law 645 = .ok (.iaload, 1) := by decide +kernel
theorem dL_law_646 : decode cL_law 646 = .ok (.aload_n 0, 1) := by decide +kernel
theorem dL_law_647 : decode cL_law 647 = .ok (.iload_n 3, 1) := by decide +kernel
theorem dL_law_648 : decode cL_law 648 = .ok (.iconst 2, 1) := by decide +kernel
theorem dL_law_649 : decode cL_law 649 = .ok (.iadd, 1) := by decide +kernel
theorem dL_law_650 : decode cL_law 650 = .ok (.iaload, 1) := by decide +kernel
theorem dL_law_651 : decode cL_law 651 = .ok (.aload_n 0, 1) := by decide +kernel
theorem dL_law_652 : decode cL_law 652 = .ok (.iload_n 3, 1) := by decide +kernel
theorem dL_law_653 : decode cL_law 653 = .ok (.iconst 3, 1) := by decide +kernel
theorem dL_law_654 : decode cL_law 654 = .ok (.iadd, 1) := by decide +kernel
theorem dL_law_655 : decode cL_law 655 = .ok (.iaload, 1) := by decide +kernel
theorem dL_law_656 : decode cL_law 656 = .ok (.invokevirtual 90, 3) := by decide +kernel
theorem dL_law_659 : decode cL_law 659 = .ok (.aload_n 2, 1) := by decide +kernel
theorem dL_law_660 : decode cL_law 660 = .ok (.aload_n 0, 1) := by decide +kernel
theorem dL_law_661 : decode cL_law 661 = .ok (.iload_n 3, 1) := by decide +kernel
theorem dL_law_662 : decode cL_law 662 = .ok (.iconst 1, 1) := by decide +kernel
theorem dL_law_663 : decode cL_law 663 = .ok (.iadd, 1) := by decide +kernel
theorem dL_law_664 : decode cL_law 664 = .ok (.iaload, 1) := by decide +kernel
theorem dL_law_665 : decode cL_law 665 = .ok (.aload_n 0, 1) := by decide +kernel
theorem dL_law_666 : decode cL_law 666 = .ok (.iload_n 3, 1) := by decide +kernel
theorem dL_law_667 : decode cL_law 667 = .ok (.iconst 2, 1) := by decide +kernel
theorem dL_law_668 : decode cL_law 668 = .ok (.iadd, 1) := by decide +kernel
theorem dL_law_669 : decode cL_law 669 = .ok (.iaload, 1) := by decide +kernel
theorem dL_law_670 : decode cL_law 670 = .ok (.aload_n 0, 1) := by decide +kernel
theorem dL_law_671 : decode cL_law 671 = .ok (.iload_n 3, 1) := by decide +kernel
theorem dL_law_672 : decode cL_law 672 = .ok (.iconst 3, 1) := by decide +kernel
theorem dL_law_673 : decode cL_law 673 = .ok (.iadd, 1) := by decide +kernel
theorem dL_law_674 : decode cL_law 674 = .ok (.iaload, 1) := by decide +kernel
theorem dL_law_675 : decode cL_law 675 = .ok (.invokevirtual 93, 3) := by decide +kernel
theorem dL_law_678 : decode cL_law 678 = .ok (.if_icmp .eq 219, 3) := by decide +kernel
theorem dL_law_681 : decode cL_law 681 = .ok (.iconst 0, 1) := by decide +kernel
theorem dL_law_682 : decode cL_law 682 = .ok (.ireturn, 1) := by decide +kernel
theorem dL_law_683 : decode cL_law 683 = .ok (.aload_n 1, 1) := by decide +kernel
theorem dL_law_684 : decode cL_law 684 = .ok (.invokevirtual 94, 3) := by decide +kernel
theorem dL_law_687 : decode cL_law 687 = .ok (.aload_n 2, 1) := by decide +kernel
theorem dL_law_688 : decode cL_law 688 = .ok (.invokevirtual 97, 3) := by decide +kernel
theorem dL_law_691 : decode cL_law 691 = .ok (.if_icmp .eq 206, 3) := by decide +kernel
theorem dL_law_694 : decode cL_law 694 = .ok (.iconst 0, 1) := by decide +kernel
theorem dL_law_695 : decode cL_law 695 = .ok (.ireturn, 1) := by decide +kernel
theorem dL_law_696 : decode cL_law 696 = .ok (.aload_n 1, 1) := by decide +kernel
theorem dL_law_697 : decode cL_law 697 = .ok (.aload_n 0, 1) := by decide +kernel
theorem dL_law_698 : decode cL_law 698 = .ok (.iload_n 3, 1) := by decide +kernel
theorem dL_law_699 : decode cL_law 699 = .ok (.iconst 1, 1) := by decide +kernel
theorem dL_law_700 : decode cL_law 700 = .ok (.iadd, 1) := by decide +kernel
theorem dL_law_701 : decode cL_law 701 = .ok (.iaload, 1) := by decide +kernel
theorem dL_law_702 : decode cL_law 702 = .ok (.invokevirtual 98, 3) := by decide +kernel
theorem dL_law_705 : decode cL_law 705 = .ok (.aload_n 2, 1) := by decide +kernel
theorem dL_law_706 : decode cL_law 706 = .ok (.aload_n 0, 1) := by decide +kernel
theorem dL_law_707 : decode cL_law 707 = .ok (.iload_n 3, 1) := by decide +kernel
theorem dL_law_708 : decode cL_law 708 = .ok (.iconst 1, 1) := by decide +kernel
theorem dL_law_709 : decode cL_law 709 = .ok (.iadd, 1) := by decide +kernel
theorem dL_law_710 : decode cL_law 710 = .ok (.iaload, 1) := by decide +kernel
theorem dL_law_711 : decode cL_law 711 = .ok (.invokevirtual 101, 3) := by decide +kernel
theorem dL_law_714 : decode cL_law 714 = .ok (.if_icmp .eq 183, 3) := by decide +kernel
theorem dL_law_717 : decode cL_law 717 = .ok (.iconst 0, 1) := by decide +kernel
theorem dL_law_718 : decode cL_law 718 = .ok (.ireturn, 1) := by decide +kernel
theorem dL_law_719 : decode cL_law 719 = .ok (.aload_n 1, 1) := by decide +kernel
theorem dL_law_720 : decode cL_law 720 = .ok (.aload_n 0, 1) := by decide +kernel
theorem dL_law_721 : decode cL_law 721 = .ok (.iload_n 3, 1) := by decide +kernel
theorem dL_law_722 : decode cL_law 722 = .ok (.iconst 1, 1) := by decide +kernel
theorem dL_law_723 : decode cL_law 723 = .ok (.iadd, 1) := by decide +kernel
theorem dL_law_724 : decode cL_law 724 = .ok (.iaload, 1) := by decide +kernel
theorem dL_law_725 : decode cL_law 725 = .ok (.aload_n 0, 1) := by decide +kernel
theorem dL_law_726 : decode cL_law 726 = .ok (.iload_n 3, 1) := by decide +kernel
theorem dL_law_727 : decode cL_law 727 = .ok (.iconst 2, 1) := by decide +kernel
theorem dL_law_728 : decode cL_law 728 = .ok (.iadd, 1) := by decide +kernel
theorem dL_law_729 : decode cL_law 729 = .ok (.iaload, 1) := by decide +kernel
theorem dL_law_730 : decode cL_law 730 = .ok (.invokevirtual 102, 3) := by decide +kernel
theorem dL_law_733 : decode cL_law 733 = .ok (.aload_n 2, 1) := by decide +kernel
theorem dL_law_734 : decode cL_law 734 = .ok (.aload_n 0, 1) := by decide +kernel
theorem dL_law_735 : decode cL_law 735 = .ok (.iload_n 3, 1) := by decide +kernel
theorem dL_law_736 : decode cL_law 736 = .ok (.iconst 1, 1) := by decide +kernel
theorem dL_law_737 : decode cL_law 737 = .ok (.iadd, 1) := by decide +kernel
theorem dL_law_738 : decode cL_law 738 = .ok (.iaload, 1) := by decide +kernel
theorem dL_law_739 : decode cL_law 739 = .ok (.aload_n 0, 1) := by decide +kernel
theorem dL_law_740 : decode cL_law 740 = .ok (.iload_n 3, 1) := by decide +kernel
theorem dL_law_741 : decode cL_law 741 = .ok (.iconst 2, 1) := by decide +kernel
theorem dL_law_742 : decode cL_law 742 = .ok (.iadd, 1) := by decide +kernel
theorem dL_law_743 : decode cL_law 743 = .ok (.iaload, 1) := by decide +kernel
theorem dL_law_744 : decode cL_law 744 = .ok (.invokevirtual 105, 3) := by decide +kernel
theorem dL_law_747 : decode cL_law 747 = .ok (.if_icmp .eq 150, 3) := by decide +kernel
theorem dL_law_750 : decode cL_law 750 = .ok (.iconst 0, 1) := by decide +kernel
theorem dL_law_751 : decode cL_law 751 = .ok (.ireturn, 1) := by decide +kernel
theorem dL_law_752 : decode cL_law 752 = .ok (.aload_n 1, 1) := by decide +kernel
theorem dL_law_753 : decode cL_law 753 = .ok (.aload_n 0, 1) := by decide +kernel
theorem dL_law_754 : decode cL_law 754 = .ok (.iload_n 3, 1) := by decide +kernel
theorem dL_law_755 : decode cL_law 755 = .ok (.iconst 1, 1) := by decide +kernel
theorem dL_law_756 : decode cL_law 756 = .ok (.iadd, 1) := by decide +kernel
theorem dL_law_757 : decode cL_law 757 = .ok (.iaload, 1) := by decide +kernel
theorem dL_law_758 : decode cL_law 758 = .ok (.aload_n 0, 1) := by decide +kernel
theorem dL_law_759 : decode cL_law 759 = .ok (.iload_n 3, 1) := by decide +kernel
theorem dL_law_760 : decode cL_law 760 = .ok (.iconst 2, 1) := by decide +kernel
theorem dL_law_761 : decode cL_law 761 = .ok (.iadd, 1) := by decide +kernel
theorem dL_law_762 : decode cL_law 762 = .ok (.iaload, 1) := by decide +kernel
theorem dL_law_763 : decode cL_law 763 = .ok (.aload_n 0, 1) := by decide +kernel
theorem dL_law_764 : decode cL_law 764 = .ok (.iload_n 3, 1) := by decide +kernel
theorem dL_law_765 : decode cL_law 765 = .ok (.iconst 3, 1) := by decide +kernel
theorem dL_law_766 : decode cL_law 766 = .ok (.iadd, 1) := by decide +kernel
theorem dL_law_767 : decode cL_law 767 = .ok (.iaload, 1) := by decide +kernel
theorem dL_law_768 : decode cL_law 768 = .ok (.aload_n 0, 1) := by decide +kernel
theorem dL_law_769 : decode cL_law 769 = .ok (.iload_n 3, 1) := by decide +kernel
theorem dL_law_770 : decode cL_law 770 = .ok (.iconst 4, 1) := by decide +kernel
theorem dL_law_771 : decode cL_law 771 = .ok (.iadd, 1) := by decide +kernel
theorem dL_law_772 : decode cL_law 772 = .ok (.iaload, 1) := by decide +kernel
theorem dL_law_773 : decode cL_law 773 = .ok (.invokevirtual 106, 3) := by decide +kernel
theorem dL_law_776 : decode cL_law 776 = .ok (.aload_n 2, 1) := by decide +kernel
theorem dL_law_777 : decode cL_law 777 = .ok (.aload_n 0, 1) := by decide +kernel
theorem dL_law_778 : decode cL_law 778 = .ok (.iload_n 3, 1) := by decide +kernel
theorem dL_law_779 : decode cL_law 779 = .ok (.iconst 1, 1) := by decide +kernel
theorem dL_law_780 : decode cL_law 780 = .ok (.iadd, 1) := by decide +kernel
theorem dL_law_781 : decode cL_law 781 = .ok (.iaload, 1) := by decide +kernel
theorem dL_law_782 : decode cL_law 782 = .ok (.aload_n 0, 1) := by decide +kernel
theorem dL_law_783 : decode cL_law 783 = .ok (.iload_n 3, 1) := by decide +kernel
theorem dL_law_784 : decode cL_law 784 = .ok (.iconst 2, 1) := by decide +kernel
theorem dL_law_785 : decode cL_law 785 = .ok (.iadd, 1) := by decide +kernel
theorem dL_law_786 : decode cL_law 786 = .ok (.iaload, 1) := by decide +kernel
theorem dL_law_787 : decode cL_law 787 = .ok (.aload_n 0, 1) := by decide +kernel
theorem dL_law_788 : decode cL_law 788 = .ok (.iload_n 3, 1) := by decide +kernel
theorem dL_law_789 : decode cL_law 789 = .ok (.iconst 3, 1) := by decide +kernel
theorem dL_law_790 : decode cL_law 790 = .ok (.iadd, 1) := by decide +kernel
theorem dL_law_791 : decode cL_law 791 = .ok (.iaload, 1) := by decide +kernel
theorem dL_law_792 : decode cL_law 792 = .ok (.aload_n 0, 1) := by decide +kernel
theorem dL_law_793 : decode cL_law 793 = .ok (.iload_n 3, 1) := by decide +kernel
theorem dL_law_794 : decode cL_law 794 = .ok (.iconst 4, 1) := by decide +kernel
theorem dL_law_795 : decode cL_law 795 = .ok (.iadd, 1) := by decide +kernel
theorem dL_law_796 : decode cL_law 796 = .ok (.iaload, 1) := by decide +kernel
theorem dL_law_797 : decode cL_law 797 = .ok (.invokevirtual 109, 3) := by decide +kernel
theorem dL_law_800 : decode cL_law 800 = .ok (.if_icmp .eq 97, 3) := by decide +kernel
theorem dL_law_803 : decode cL_law 803 = .ok (.iconst 0, 1) := by decide +kernel
theorem dL_law_804 : decode cL_law 804 = .ok (.ireturn, 1) := by decide +kernel
theorem dL_law_805 : decode cL_law 805 = .ok (.aload_n 1, 1) := by decide +kernel
theorem dL_law_806 : decode cL_law 806 = .ok (.aload_n 0, 1) := by decide +kernel
theorem dL_law_807 : decode cL_law 807 = .ok (.iload_n 3, 1) := by decide +kernel
theorem dL_law_808 : decode cL_law 808 = .ok (.iconst 1, 1) := by decide +kernel
theorem dL_law_809 : decode cL_law 809 = .ok (.iadd, 1) := by decide +kernel
theorem dL_law_810 : decode cL_law 810 = .ok (.iaload, 1) := by decide +kernel
theorem dL_law_811 : decode cL_law 811 = .ok (.aload_n 0, 1) := by decide +kernel
theorem dL_law_812 : decode cL_law 812 = .ok (.iload_n 3, 1) := by decide +kernel
theorem dL_law_813 : decode cL_law 813 = .ok (.iconst 2, 1) := by decide +kernel
theorem dL_law_814 : decode cL_law 814 = .ok (.iadd, 1) := by decide +kernel
theorem dL_law_815 : decode cL_law 815 = .ok (.iaload, 1) := by decide +kernel
theorem dL_law_816 : decode cL_law 816 = .ok (.aload_n 0, 1) := by decide +kernel
theorem dL_law_817 : decode cL_law 817 = .ok (.iload_n 3, 1) := by decide +kernel
theorem dL_law_818 : decode cL_law 818 = .ok (.iconst 3, 1) := by decide +kernel
theorem dL_law_819 : decode cL_law 819 = .ok (.iadd, 1) := by decide +kernel
theorem dL_law_820 : decode cL_law 820 = .ok (.iaload, 1) := by decide +kernel
theorem dL_law_821 : decode cL_law 821 = .ok (.invokevirtual 110, 3) := by decide +kernel
theorem dL_law_824 : decode cL_law 824 = .ok (.aload_n 2, 1) := by decide +kernel
theorem dL_law_825 : decode cL_law 825 = .ok (.aload_n 0, 1) := by decide +kernel
theorem dL_law_826 : decode cL_law 826 = .ok (.iload_n 3, 1) := by decide +kernel
theorem dL_law_827 : decode cL_law 827 = .ok (.iconst 1, 1) := by decide +kernel
theorem dL_law_828 : decode cL_law 828 = .ok (.iadd, 1) := by decide +kernel
theorem dL_law_829 : decode cL_law 829 = .ok (.iaload, 1) := by decide +kernel
theorem dL_law_830 : decode cL_law 830 = .ok (.aload_n 0, 1) := by decide +kernel
theorem dL_law_831 : decode cL_law 831 = .ok (.iload_n 3, 1) := by decide +kernel
theorem dL_law_832 : decode cL_law 832 = .ok (.iconst 2, 1) := by decide +kernel
theorem dL_law_833 : decode cL_law 833 = .ok (.iadd, 1) := by decide +kernel
theorem dL_law_834 : decode cL_law 834 = .ok (.iaload, 1) := by decide +kernel
theorem dL_law_835 : decode cL_law 835 = .ok (.aload_n 0, 1) := by decide +kernel
theorem dL_law_836 : decode cL_law 836 = .ok (.iload_n 3, 1) := by decide +kernel
theorem dL_law_837 : decode cL_law 837 = .ok (.iconst 3, 1) := by decide +kernel
theorem dL_law_838 : decode cL_law 838 = .ok (.iadd, 1) := by decide +kernel
theorem dL_law_839 : decode cL_law 839 = .ok (.iaload, 1) := by decide +kernel
theorem dL_law_840 : decode cL_law 840 = .ok (.invokevirtual 113, 3) := by decide +kernel
theorem dL_law_843 : decode cL_law 843 = .ok (.if_icmp .eq 54, 3) := by decide +kernel
theorem dL_law_846 : decode cL_law 846 = .ok (.iconst 0, 1) := by decide +kernel
theorem dL_law_847 : decode cL_law 847 = .ok (.ireturn, 1) := by decide +kernel
theorem dL_law_848 : decode cL_law 848 = .ok (.aload_n 1, 1) := by decide +kernel
theorem dL_law_849 : decode cL_law 849 = .ok (.invokevirtual 114, 3) := by decide +kernel
theorem dL_law_852 : decode cL_law 852 = .ok (.aload_n 2, 1) := by decide +kernel
theorem dL_law_853 : decode cL_law 853 = .ok (.invokevirtual 117, 3) := by decide +kernel
theorem dL_law_856 : decode cL_law 856 = .ok (.if_icmp .eq 41, 3) := by decide +kernel
theorem dL_law_859 : decode cL_law 859 = .ok (.iconst 0, 1) := by decide +kernel
theorem dL_law_860 : decode cL_law 860 = .ok (.ireturn, 1) := by decide +kernel
theorem dL_law_861 : decode cL_law 861 = .ok (.aload_n 1, 1) := by decide +kernel
theorem dL_law_862 : decode cL_law 862 = .ok (.invokevirtual 118, 3) := by decide +kernel
theorem dL_law_865 : decode cL_law 865 = .ok (.aload_n 2, 1) := by decide +kernel
theorem dL_law_866 : decode cL_law 866 = .ok (.invokevirtual 121, 3) := by decide +kernel
theorem dL_law_869 : decode cL_law 869 = .ok (.if_icmp .eq 28, 3) := by decide +kernel
theorem dL_law_872 : decode cL_law 872 = .ok (.iconst 0, 1) := by decide +kernel
theorem dL_law_873 : decode cL_law 873 = .ok (.ireturn, 1) := by decide +kernel
theorem dL_law_874 : decode cL_law 874 = .ok (.aload_n 1, 1) := by decide +kernel
theorem dL_law_875 : decode cL_law 875 = .ok (.aload_n 0, 1) := by decide +kernel
theorem dL_law_876 : decode cL_law 876 = .ok (.iload_n 3, 1) := by decide +kernel
theorem dL_law_877 : decode cL_law 877 = .ok (.iconst 1, 1) := by decide +kernel
theorem dL_law_878 : decode cL_law 878 = .ok (.iadd, 1) := by decide +kernel
theorem dL_law_879 : decode cL_law 879 = .ok (.iaload, 1) := by decide +kernel
theorem dL_law_880 : decode cL_law 880 = .ok (.invokevirtual 122, 3) := by decide +kernel
theorem dL_law_883 : decode cL_law 883 = .ok (.aload_n 2, 1) := by decide +kernel
theorem dL_law_884 : decode cL_law 884 = .ok (.aload_n 0, 1) := by decide +kernel
theorem dL_law_885 : decode cL_law 885 = .ok (.iload_n 3, 1) := by decide +kernel
theorem dL_law_886 : decode cL_law 886 = .ok (.iconst 1, 1) := by decide +kernel
theorem dL_law_887 : decode cL_law 887 = .ok (.iadd, 1) := by decide +kernel
theorem dL_law_888 : decode cL_law 888 = .ok (.iaload, 1) := by decide +kernel
theorem dL_law_889 : decode cL_law 889 = .ok (.invokevirtual 125, 3) := by decide +kernel
theorem dL_law_892 : decode cL_law 892 = .ok (.if_icmp .eq 5, 3) := by decide +kernel
theorem dL_law_895 : decode cL_law 895 = .ok (.iconst 0, 1) := by decide +kernel
theorem dL_law_896 : decode cL_law 896 = .ok (.ireturn, 1) := by decide +kernel
theorem dL_law_897 : decode cL_law 897 = .ok (.iinc 3 5, 3) := by decide +kernel
theorem dL_law_900 : decode cL_law 900 = .ok (.goto (-882), 3) := by decide +kernel
theorem dL_law_903 : decode cL_law 903 = .ok (.iconst 1, 1) := by decide +kernel
theorem dL_law_904 : decode cL_law 904 = .ok (.ireturn, 1) := by decide +kernel
