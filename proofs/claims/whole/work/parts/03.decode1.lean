theorem dX7_write_14 : decode cX7_write 14 = .ok (.aload_n 0, 1) := by decide +kernel
theorem dX7_write_15 : decode cX7_write 15 = .ok (.getfield 12, 3) := by decide +kernel
theorem dX7_write_18 : decode cX7_write 18 = .ok (.getfield 92, 3) := by decide +kernel
theorem dX7_write_21 : decode cX7_write 21 = .ok (.sipush 200, 3) := by decide +kernel
theorem dX7_write_24 : decode cX7_write 24 = .ok (.if_icmp .lt 6, 3) := by decide +kernel
theorem dX7_write_27 : decode cX7_write 27 = .ok (.bipush (-3), 2) := by decide +kernel
theorem dX7_write_29 : decode cX7_write 29 = .ok (.ireturn, 1) := by decide +kernel
theorem dX7_write_30 : decode cX7_write 30 = .ok (.aload_n 0, 1) := by decide +kernel
theorem dX7_write_31 : decode cX7_write 31 = .ok (.getfield 12, 3) := by decide +kernel
theorem dX7_write_34 : decode cX7_write 34 = .ok (.iload_n 1, 1) := by decide +kernel
theorem dX7_write_35 : decode cX7_write 35 = .ok (.invokevirtual 81, 3) := by decide +kernel
theorem dX7_write_38 : decode cX7_write 38 = .ok (.aload_n 0, 1) := by decide +kernel
theorem dX7_write_39 : decode cX7_write 39 = .ok (.getfield 12, 3) := by decide +kernel
theorem dX7_write_42 : decode cX7_write 42 = .ok (.getfield 92, 3) := by decide +kernel
theorem dX7_write_45 : decode cX7_write 45 = .ok (.ireturn, 1) := by decide +kernel
theorem dX7_wipe_0 : decode cX7_wipe 0 = .ok (.aload_n 0, 1) := by decide +kernel
theorem dX7_wipe_1 : decode cX7_wipe 1 = .ok (.getfield 12, 3) := by decide +kernel
theorem dX7_wipe_4 : decode cX7_wipe 4 = .ok (.getfield 92, 3) := by decide +kernel
theorem dX7_wipe_7 : decode cX7_wipe 7 = .ok (.istore_n 1, 1) := by decide +kernel
theorem dX7_wipe_8 : decode cX7_wipe 8 = .ok (.aload_n 0, 1) := by decide +kernel
theorem dX7_wipe_9 : decode cX7_wipe 9 = .ok (.getfield 12, 3) := by decide +kernel
theorem dX7_wipe_12 : decode cX7_wipe 12 = .ok (.invokevirtual 89, 3) := by decide +kernel
theorem dX7_wipe_15 : decode cX7_wipe 15 = .ok (.iload_n 1, 1) := by decide +kernel
theorem dX7_wipe_16 : decode cX7_wipe 16 = .ok (.ireturn, 1) := by decide +kernel
theorem dX7_fault_0 : decode cX7_fault 0 = .ok (.aload_n 0, 1) := by decide +kernel
theorem dX7_fault_1 : decode cX7_fault 1 = .ok (.getfield 19, 3) := by decide +kernel
theorem dX7_fault_4 : decode cX7_fault 4 = .ok (.aload_n 0, 1) := by decide +kernel
theorem dX7_fault_5 : decode cX7_fault 5 = .ok (.getfield 30, 3) := by decide +kernel
theorem dX7_fault_8 : decode cX7_fault 8 = .ok (.aload_n 0, 1) := by decide +kernel
theorem dX7_fault_9 : decode cX7_fault 9 = .ok (.getfield 12, 3) := by decide +kernel
theorem dX7_fault_12 : decode cX7_fault 12 = .ok (.invokevirtual 85, 3) := by decide +kernel
theorem dX7_fault_15 : decode cX7_fault 15 = .ok (.ireturn, 1) := by decide +kernel
theorem dX7_lay_0 : decode cX7_lay 0 = .ok (.aload_n 0, 1) := by decide +kernel
theorem dX7_lay_1 : decode cX7_lay 1 = .ok (.getfield 19, 3) := by decide +kernel
theorem dX7_lay_4 : decode cX7_lay 4 = .ok (.aload_n 0, 1) := by decide +kernel
theorem dX7_lay_5 : decode cX7_lay 5 = .ok (.getfield 30, 3) := by decide +kernel
theorem dX7_lay_8 : decode cX7_lay 8 = .ok (.aload_n 0, 1) := by decide +kernel
theorem dX7_lay_9 : decode cX7_lay 9 = .ok (.getfield 12, 3) := by decide +kernel
theorem dX7_lay_12 : decode cX7_lay 12 = .ok (.invokevirtual 85, 3) := by decide +kernel
theorem dX7_lay_15 : decode cX7_lay 15 = .ok (.bipush (-4), 2) := by decide +kernel
theorem dX7_lay_17 : decode cX7_lay 17 = .ok (.if_icmp .ne 14, 3) := by decide +kernel
theorem dX7_lay_20 : decode cX7_lay 20 = .ok (.aload_n 0, 1) := by decide +kernel
theorem dX7_lay_21 : decode cX7_lay 21 = .ok (.getfield 30, 3) := by decide +kernel
theorem dX7_lay_24 : decode cX7_lay 24 = .ok (.getfield 94, 3) := by decide +kernel
theorem dX7_lay_27 : decode cX7_lay 27 = .ok (.iconst 1, 1) := by decide +kernel
theorem dX7_lay_28 : decode cX7_lay 28 = .ok (.if_icmp .ge 6, 3) := by decide +kernel
theorem dX7_lay_31 : decode cX7_lay 31 = .ok (.bipush (-2), 2) := by decide +kernel
theorem dX7_lay_33 : decode cX7_lay 33 = .ok (.ireturn, 1) := by decide +kernel
theorem dX7_lay_34 : decode cX7_lay 34 = .ok (.aload_n 0, 1) := by decide +kernel
theorem dX7_lay_35 : decode cX7_lay 35 = .ok (.getfield 26, 3) := by decide +kernel
theorem dX7_lay_38 : decode cX7_lay 38 = .ok (.aload_n 0, 1) := by decide +kernel
theorem dX7_lay_39 : decode cX7_lay 39 = .ok (.getfield 30, 3) := by decide +kernel
theorem dX7_lay_42 : decode cX7_lay 42 = .ok (.invokevirtual 97, 3) := by decide +kernel
theorem dX7_lay_45 : decode cX7_lay 45 = .ok (.aload_n 0, 1) := by decide +kernel
theorem dX7_lay_46 : decode cX7_lay 46 = .ok (.getfield 36, 3) := by decide +kernel
theorem dX7_lay_49 : decode cX7_lay 49 = .ok (.invokevirtual 101, 3) := by decide +kernel
theorem dX7_lay_52 : decode cX7_lay 52 = .ok (.aload_n 0, 1) := by decide +kernel
theorem dX7_lay_53 : decode cX7_lay 53 = .ok (.getfield 43, 3) := by decide +kernel
theorem dX7_lay_56 : decode cX7_lay 56 = .ok (.invokevirtual 102, 3) := by decide +kernel
theorem dX7_lay_59 : decode cX7_lay 59 = .ok (.aload_n 0, 1) := by decide +kernel
theorem dX7_lay_60 : decode cX7_lay 60 = .ok (.iconst 0, 1) := by decide +kernel
theorem dX7_lay_61 : decode cX7_lay 61 = .ok (.putfield 65, 3) := by decide +kernel
theorem dX7_lay_64 : decode cX7_lay 64 = .ok (.aload_n 0, 1) := by decide +kernel
theorem dX7_lay_65 : decode cX7_lay 65 = .ok (.getfield 26, 3) := by decide +kernel
theorem dX7_lay_68 : decode cX7_lay 68 = .ok (.getfield 94, 3) := by decide +kernel
theorem dX7_lay_71 : decode cX7_lay 71 = .ok (.ireturn, 1) := by decide +kernel
theorem dX7_person_0 : decode cX7_person 0 = .ok (.aload_n 0, 1) := by decide +kernel
theorem dX7_person_1 : decode cX7_person 1 = .ok (.getfield 26, 3) := by decide +kernel
theorem dX7_person_4 : decode cX7_person 4 = .ok (.iload_n 1, 1) := by decide +kernel
theorem dX7_person_5 : decode cX7_person 5 = .ok (.invokevirtual 103, 3) := by decide +kernel
theorem dX7_person_8 : decode cX7_person 8 = .ok (.ifCond .ne 5, 3) := by decide +kernel
theorem dX7_person_11 : decode cX7_person 11 = .ok (.iconst (-1), 1) := by decide +kernel
theorem dX7_person_12 : decode cX7_person 12 = .ok (.ireturn, 1) := by decide +kernel
theorem dX7_person_13 : decode cX7_person 13 = .ok (.iload_n 2, 1) := by decide +kernel
theorem dX7_person_14 : decode cX7_person 14 = .ok (.tableswitch 121 0 6 #[42, 52, 62, 72, 82, 91, 106], 42) := by decide +kernel
theorem dX7_person_56 : decode cX7_person 56 = .ok (.aload_n 0, 1) := by decide +kernel
theorem dX7_person_57 : decode cX7_person 57 = .ok (.getfield 26, 3) := by decide +kernel
theorem dX7_person_60 : decode cX7_person 60 = .ok (.getfield 107, 3) := by decide +kernel
theorem dX7_person_63 : decode cX7_person 63 = .ok (.iload_n 1, 1) := by decide +kernel
theorem dX7_person_64 : decode cX7_person 64 = .ok (.iaload, 1) := by decide +kernel
theorem dX7_person_65 : decode cX7_person 65 = .ok (.ireturn, 1) := by decide +kernel
theorem dX7_person_66 : decode cX7_person 66 = .ok (.aload_n 0, 1) := by decide +kernel
theorem dX7_person_67 : decode cX7_person 67 = .ok (.getfield 26, 3) := by decide +kernel
theorem dX7_person_70 : decode cX7_person 70 = .ok (.getfield 111, 3) := by decide +kernel
theorem dX7_person_73 : decode cX7_person 73 = .ok (.iload_n 1, 1) := by decide +kernel
theorem dX7_person_74 : decode cX7_person 74 = .ok (.iaload, 1) := by decide +kernel
theorem dX7_person_75 : decode cX7_person 75 = .ok (.ireturn, 1) := by decide +kernel
theorem dX7_person_76 : decode cX7_person 76 = .ok (.aload_n 0, 1) := by decide +kernel
theorem dX7_person_77 : decode cX7_person 77 = .ok (.getfield 26, 3) := by decide +kernel
theorem dX7_person_80 : decode cX7_person 80 = .ok (.getfield 114, 3) := by decide +kernel
theorem dX7_person_83 : decode cX7_person 83 = .ok (.iload_n 1, 1) := by decide +kernel
theorem dX7_person_84 : decode cX7_person 84 = .ok (.iaload, 1) := by decide +kernel
theorem dX7_person_85 : decode cX7_person 85 = .ok (.ireturn, 1) := by decide +kernel
theorem dX7_person_86 : decode cX7_person 86 = .ok (.aload_n 0, 1) := by decide +kernel
theorem dX7_person_87 : decode cX7_person 87 = .ok (.getfield 26, 3) := by decide +kernel
theorem dX7_person_90 : decode cX7_person 90 = .ok (.getfield 117, 3) := by decide +kernel
theorem dX7_person_93 : decode cX7_person 93 = .ok (.iload_n 1, 1) := by decide +kernel
theorem dX7_person_94 : decode cX7_person 94 = .ok (.iaload, 1) := by decide +kernel
theorem dX7_person_95 : decode cX7_person 95 = .ok (.ireturn, 1) := by decide +kernel
theorem dX7_person_96 : decode cX7_person 96 = .ok (.aload_n 0, 1) := by decide +kernel
theorem dX7_person_97 : decode cX7_person 97 = .ok (.getfield 26, 3) := by decide +kernel
theorem dX7_person_100 : decode cX7_person 100 = .ok (.iload_n 1, 1) := by decide +kernel
theorem dX7_person_101 : decode cX7_person 101 = .ok (.invokevirtual 120, 3) := by decide +kernel
theorem dX7_person_104 : decode cX7_person 104 = .ok (.ireturn, 1) := by decide +kernel
theorem dX7_person_105 : decode cX7_person 105 = .ok (.aload_n 0, 1) := by decide +kernel
theorem dX7_person_106 : decode cX7_person 106 = .ok (.getfield 26, 3) := by decide +kernel
theorem dX7_person_109 : decode cX7_person 109 = .ok (.iload_n 1, 1) := by decide +kernel
theorem dX7_person_110 : decode cX7_person 110 = .ok (.bipush 63, 2) := by decide +kernel
theorem dX7_person_112 : decode cX7_person 112 = .ok (.invokevirtual 124, 3) := by decide +kernel
theorem dX7_person_115 : decode cX7_person 115 = .ok (.sipush 10000, 3) := by decide +kernel
theorem dX7_person_118 : decode cX7_person 118 = .ok (.iadd, 1) := by decide +kernel
theorem dX7_person_119 : decode cX7_person 119 = .ok (.ireturn, 1) := by decide +kernel
theorem dX7_person_120 : decode cX7_person 120 = .ok (.aload_n 0, 1) := by decide +kernel
theorem dX7_person_121 : decode cX7_person 121 = .ok (.getfield 26, 3) := by decide +kernel
theorem dX7_person_124 : decode cX7_person 124 = .ok (.iload_n 1, 1) := by decide +kernel
theorem dX7_person_125 : decode cX7_person 125 = .ok (.bipush 63, 2) := by decide +kernel
theorem dX7_person_127 : decode cX7_person 127 = .ok (.invokevirtual 128, 3) := by decide +kernel
theorem dX7_person_130 : decode cX7_person 130 = .ok (.sipush 10000, 3) := by decide +kernel
theorem dX7_person_133 : decode cX7_person 133 = .ok (.iadd, 1) := by decide +kernel
theorem dX7_person_134 : decode cX7_person 134 = .ok (.ireturn, 1) := by decide +kernel
theorem dX7_person_135 : decode cX7_person 135 = .ok (.iconst (-1), 1) := by decide +kernel
theorem dX7_person_136 : decode cX7_person 136 = .ok (.ireturn, 1) := by decide +kernel
theorem dX7_leaning_0 : decode cX7_leaning 0 = .ok (.aload_n 0, 1) := by decide +kernel
theorem dX7_leaning_1 : decode cX7_leaning 1 = .ok (.getfield 26, 3) := by decide +kernel
theorem dX7_leaning_4 : decode cX7_leaning 4 = .ok (.iload_n 1, 1) := by decide +kernel
theorem dX7_leaning_5 : decode cX7_leaning 5 = .ok (.iload_n 2, 1) := by decide +kernel
theorem dX7_leaning_6 : decode cX7_leaning 6 = .ok (.invokevirtual 131, 3) := by decide +kernel
theorem dX7_leaning_9 : decode cX7_leaning 9 = .ok (.ifCond .ne 5, 3) := by decide +kernel
theorem dX7_leaning_12 : decode cX7_leaning 12 = .ok (.iconst (-1), 1) := by decide +kernel
theorem dX7_leaning_13 : decode cX7_leaning 13 = .ok (.ireturn, 1) := by decide +kernel
theorem dX7_leaning_14 : decode cX7_leaning 14 = .ok (.aload_n 0, 1) := by decide +kernel
theorem dX7_leaning_15 : decode cX7_leaning 15 = .ok (.getfield 26, 3) := by decide +kernel
theorem dX7_leaning_18 : decode cX7_leaning 18 = .ok (.iload_n 1, 1) := by decide +kernel
theorem dX7_leaning_19 : decode cX7_leaning 19 = .ok (.iload_n 2, 1) := by decide +kernel
theorem dX7_leaning_20 : decode cX7_leaning 20 = .ok (.invokevirtual 135, 3) := by decide +kernel
theorem dX7_leaning_23 : decode cX7_leaning 23 = .ok (.bipush 20, 2) := by decide +kernel
theorem dX7_leaning_25 : decode cX7_leaning 25 = .ok (.iadd, 1) := by decide +kernel
theorem dX7_leaning_26 : decode cX7_leaning 26 = .ok (.ireturn, 1) := by decide +kernel
theorem dX7_place_0 : decode cX7_place 0 = .ok (.aload_n 0, 1) := by decide +kernel
theorem dX7_place_1 : decode cX7_place 1 = .ok (.getfield 26, 3) := by decide +kernel
theorem dX7_place_4 : decode cX7_place 4 = .ok (.iload_n 1, 1) := by decide +kernel
theorem dX7_place_5 : decode cX7_place 5 = .ok (.iload_n 2, 1) := by decide +kernel
theorem dX7_place_6 : decode cX7_place 6 = .ok (.invokevirtual 138, 3) := by decide +kernel
theorem dX7_place_9 : decode cX7_place 9 = .ok (.ifCond .ne 5, 3) := by decide +kernel
theorem dX7_place_12 : decode cX7_place 12 = .ok (.iconst (-1), 1) := by decide +kernel
theorem dX7_place_13 : decode cX7_place 13 = .ok (.ireturn, 1) := by decide +kernel
theorem dX7_place_14 : decode cX7_place 14 = .ok (.aload_n 0, 1) := by decide +kernel
theorem dX7_place_15 : decode cX7_place 15 = .ok (.getfield 26, 3) := by decide +kernel
theorem dX7_place_18 : decode cX7_place 18 = .ok (.iload_n 1, 1) := by decide +kernel
theorem dX7_place_19 : decode cX7_place 19 = .ok (.iload_n 2, 1) := by decide +kernel
theorem dX7_place_20 : decode cX7_place 20 = .ok (.invokevirtual 141, 3) := by decide +kernel
theorem dX7_place_23 : decode cX7_place 23 = .ok (.ireturn, 1) := by decide +kernel
theorem dX7_pass_0 : decode cX7_pass 0 = .ok (.iload_n 1, 1) := by decide +kernel
theorem dX7_pass_1 : decode cX7_pass 1 = .ok (.iconst 1, 1) := by decide +kernel
theorem dX7_pass_2 : decode cX7_pass 2 = .ok (.if_icmp .lt 9, 3) := by decide +kernel
theorem dX7_pass_5 : decode cX7_pass 5 = .ok (.iload_n 1, 1) := by decide +kernel
theorem dX7_pass_6 : decode cX7_pass 6 = .ok (.bipush 24, 2) := by decide +kernel
theorem dX7_pass_8 : decode cX7_pass 8 = .ok (.if_icmp .le 5, 3) := by decide +kernel
theorem dX7_pass_11 : decode cX7_pass 11 = .ok (.iconst (-1), 1) := by decide +kernel
theorem dX7_pass_12 : decode cX7_pass 12 = .ok (.ireturn, 1) := by decide +kernel
theorem dX7_pass_13 : decode cX7_pass 13 = .ok (.aload_n 0, 1) := by decide +kernel
theorem dX7_pass_14 : decode cX7_pass 14 = .ok (.getfield 36, 3) := by decide +kernel
theorem dX7_pass_17 : decode cX7_pass 17 = .ok (.aload_n 0, 1) := by decide +kernel
theorem dX7_pass_18 : decode cX7_pass 18 = .ok (.getfield 26, 3) := by decide +kernel
theorem dX7_pass_21 : decode cX7_pass 21 = .ok (.invokevirtual 144, 3) := by decide +kernel
theorem dX7_pass_24 : decode cX7_pass 24 = .ok (.iconst 0, 1) := by decide +kernel
theorem dX7_pass_25 : decode cX7_pass 25 = .ok (.istore_n 2, 1) := by decide +kernel
theorem dX7_pass_26 : decode cX7_pass 26 = .ok (.iload_n 2, 1) := by decide +kernel
theorem dX7_pass_27 : decode cX7_pass 27 = .ok (.iload_n 1, 1) := by decide +kernel
theorem dX7_pass_28 : decode cX7_pass 28 = .ok (.if_icmp .ge 17, 3) := by decide +kernel
theorem dX7_pass_31 : decode cX7_pass 31 = .ok (.aload_n 0, 1) := by decide +kernel
theorem dX7_pass_32 : decode cX7_pass 32 = .ok (.getfield 26, 3) := by decide +kernel
theorem dX7_pass_35 : decode cX7_pass 35 = .ok (.invokevirtual 147, 3) := by decide +kernel
theorem dX7_pass_38 : decode cX7_pass 38 = .ok (.pop, 1) := by decide +kernel
theorem dX7_pass_39 : decode cX7_pass 39 = .ok (.iinc 2 1, 3) := by decide +kernel
theorem dX7_pass_42 : decode cX7_pass 42 = .ok (.goto (-16), 3) := by decide +kernel
theorem dX7_pass_45 : decode cX7_pass 45 = .ok (.aload_n 0, 1) := by decide +kernel
theorem dX7_pass_46 : decode cX7_pass 46 = .ok (.getfield 26, 3) := by decide +kernel
theorem dX7_pass_49 : decode cX7_pass 49 = .ok (.getfield 150, 3) := by decide +kernel
theorem dX7_pass_52 : decode cX7_pass 52 = .ok (.ireturn, 1) := by decide +kernel
theorem dX7_walk_0 : decode cX7_walk 0 = .ok (.aload_n 0, 1) := by decide +kernel
theorem dX7_walk_1 : decode cX7_walk 1 = .ok (.getfield 26, 3) := by decide +kernel
theorem dX7_walk_4 : decode cX7_walk 4 = .ok (.iload_n 1, 1) := by decide +kernel
theorem dX7_walk_5 : decode cX7_walk 5 = .ok (.invokevirtual 103, 3) := by decide +kernel
theorem dX7_walk_8 : decode cX7_walk 8 = .ok (.ifCond .eq 11, 3) := by decide +kernel
theorem dX7_walk_11 : decode cX7_walk 11 = .ok (.iload_n 2, 1) := by decide +kernel
theorem dX7_walk_12 : decode cX7_walk 12 = .ok (.iconst 4, 1) := by decide +kernel
theorem dX7_walk_13 : decode cX7_walk 13 = .ok (.invokestatic 153, 3) := by decide +kernel
theorem dX7_walk_16 : decode cX7_walk 16 = .ok (.ifCond .ne 5, 3) := by decide +kernel
theorem dX7_walk_19 : decode cX7_walk 19 = .ok (.iconst (-1), 1) := by decide +kernel
theorem dX7_walk_20 : decode cX7_walk 20 = .ok (.ireturn, 1) := by decide +kernel
theorem dX7_walk_21 : decode cX7_walk 21 = .ok (.aload_n 0, 1) := by decide +kernel
theorem dX7_walk_22 : decode cX7_walk 22 = .ok (.getfield 26, 3) := by decide +kernel
theorem dX7_walk_25 : decode cX7_walk 25 = .ok (.iload_n 1, 1) := by decide +kernel
theorem dX7_walk_26 : decode cX7_walk 26 = .ok (.iload_n 2, 1) := by decide +kernel
theorem dX7_walk_27 : decode cX7_walk 27 = .ok (.invokevirtual 156, 3) := by decide +kernel
theorem dX7_walk_30 : decode cX7_walk 30 = .ok (.ifCond .ne 6, 3) := by decide +kernel
theorem dX7_walk_33 : decode cX7_walk 33 = .ok (.bipush (-2), 2) := by decide +kernel
theorem dX7_walk_35 : decode cX7_walk 35 = .ok (.ireturn, 1) := by decide +kernel
theorem dX7_walk_36 : decode cX7_walk 36 = .ok (.aload_n 0, 1) := by decide +kernel
theorem dX7_walk_37 : decode cX7_walk 37 = .ok (.getfield 36, 3) := by decide +kernel
theorem dX7_walk_40 : decode cX7_walk 40 = .ok (.aload_n 0, 1) := by decide +kernel
theorem dX7_walk_41 : decode cX7_walk 41 = .ok (.getfield 26, 3) := by decide +kernel
theorem dX7_walk_44 : decode cX7_walk 44 = .ok (.invokevirtual 144, 3) := by decide +kernel
theorem dX7_walk_47 : decode cX7_walk 47 = .ok (.aload_n 0, 1) := by decide +kernel
theorem dX7_walk_48 : decode cX7_walk 48 = .ok (.getfield 26, 3) := by decide +kernel
theorem dX7_walk_51 : decode cX7_walk 51 = .ok (.iload_n 1, 1) := by decide +kernel
theorem dX7_walk_52 : decode cX7_walk 52 = .ok (.iload_n 2, 1) := by decide +kernel
theorem dX7_walk_53 : decode cX7_walk 53 = .ok (.invokevirtual 159, 3) := by decide +kernel
theorem dX7_walk_56 : decode cX7_walk 56 = .ok (.aload_n 0, 1) := by decide +kernel
theorem dX7_walk_57 : decode cX7_walk 57 = .ok (.getfield 26, 3) := by decide +kernel
theorem dX7_walk_60 : decode cX7_walk 60 = .ok (.getfield 111, 3) := by decide +kernel
theorem dX7_walk_63 : decode cX7_walk 63 = .ok (.iload_n 1, 1) := by decide +kernel
theorem dX7_walk_64 : decode cX7_walk 64 = .ok (.iaload, 1) := by decide +kernel
theorem dX7_walk_65 : decode cX7_walk 65 = .ok (.aload_n 0, 1) := by decide +kernel
theorem dX7_walk_66 : decode cX7_walk 66 = .ok (.getfield 26, 3) := by decide +kernel
theorem dX7_walk_69 : decode cX7_walk 69 = .ok (.getfield 114, 3) := by decide +kernel
theorem dX7_walk_72 : decode cX7_walk 72 = .ok (.iload_n 1, 1) := by decide +kernel
theorem dX7_walk_73 : decode cX7_walk 73 = .ok (.iaload, 1) := by decide +kernel
theorem dX7_walk_74 : decode cX7_walk 74 = .ok (.invokestatic 163, 3) := by decide +kernel
theorem dX7_walk_77 : decode cX7_walk 77 = .ok (.ireturn, 1) := by decide +kernel
theorem dX7_lean_0 : decode cX7_lean 0 = .ok (.aload_n 0, 1) := by decide +kernel
theorem dX7_lean_1 : decode cX7_lean 1 = .ok (.getfield 26, 3) := by decide +kernel
theorem dX7_lean_4 : decode cX7_lean 4 = .ok (.iload_n 1, 1) := by decide +kernel
theorem dX7_lean_5 : decode cX7_lean 5 = .ok (.iload_n 2, 1) := by decide +kernel
theorem dX7_lean_6 : decode cX7_lean 6 = .ok (.invokevirtual 131, 3) := by decide +kernel
theorem dX7_lean_9 : decode cX7_lean 9 = .ok (.ifCond .eq 15, 3) := by decide +kernel
theorem dX7_lean_12 : decode cX7_lean 12 = .ok (.iload_n 3, 1) := by decide +kernel
theorem dX7_lean_13 : decode cX7_lean 13 = .ok (.bipush (-20), 2) := by decide +kernel
theorem dX7_lean_15 : decode cX7_lean 15 = .ok (.if_icmp .lt 9, 3) := by decide +kernel
theorem dX7_lean_18 : decode cX7_lean 18 = .ok (.iload_n 3, 1) := by decide +kernel
theorem dX7_lean_19 : decode cX7_lean 19 = .ok (.bipush 20, 2) := by decide +kernel
theorem dX7_lean_21 : decode cX7_lean 21 = .ok (.if_icmp .le 5, 3) := by decide +kernel
theorem dX7_lean_24 : decode cX7_lean 24 = .ok (.iconst (-1), 1) := by decide +kernel
theorem dX7_lean_25 : decode cX7_lean 25 = .ok (.ireturn, 1) := by decide +kernel
theorem dX7_lean_26 : decode cX7_lean 26 = .ok (.aload_n 0, 1) := by decide +kernel
theorem dX7_lean_27 : decode cX7_lean 27 = .ok (.getfield 36, 3) := by decide +kernel
theorem dX7_lean_30 : decode cX7_lean 30 = .ok (.aload_n 0, 1) := by decide +kernel
theorem dX7_lean_31 : decode cX7_lean 31 = .ok (.getfield 26, 3) := by decide +kernel
theorem dX7_lean_34 : decode cX7_lean 34 = .ok (.invokevirtual 144, 3) := by decide +kernel
theorem dX7_lean_37 : decode cX7_lean 37 = .ok (.aload_n 0, 1) := by decide +kernel
theorem dX7_lean_38 : decode cX7_lean 38 = .ok (.getfield 26, 3) := by decide +kernel
theorem dX7_lean_41 : decode cX7_lean 41 = .ok (.iload_n 1, 1) := by decide +kernel
theorem dX7_lean_42 : decode cX7_lean 42 = .ok (.iload_n 2, 1) := by decide +kernel
theorem dX7_lean_43 : decode cX7_lean 43 = .ok (.invokevirtual 135, 3) := by decide +kernel
theorem dX7_lean_46 : decode cX7_lean 46 = .ok (.istore 4, 2) := by decide +kernel
theorem dX7_lean_48 : decode cX7_lean 48 = .ok (.aload_n 0, 1) := by decide +kernel
theorem dX7_lean_49 : decode cX7_lean 49 = .ok (.getfield 26, 3) := by decide +kernel
theorem dX7_lean_52 : decode cX7_lean 52 = .ok (.iload_n 1, 1) := by decide +kernel
theorem dX7_lean_53 : decode cX7_lean 53 = .ok (.iload_n 2, 1) := by decide +kernel
theorem dX7_lean_54 : decode cX7_lean 54 = .ok (.iload_n 3, 1) := by decide +kernel
theorem dX7_lean_55 : decode cX7_lean 55 = .ok (.invokevirtual 166, 3) := by decide +kernel
theorem dX7_lean_58 : decode cX7_lean 58 = .ok (.iload 4, 2) := by decide +kernel
theorem dX7_lean_60 : decode cX7_lean 60 = .ok (.bipush 20, 2) := by decide +kernel
theorem dX7_lean_62 : decode cX7_lean 62 = .ok (.iadd, 1) := by decide +kernel
theorem dX7_lean_63 : decode cX7_lean 63 = .ok (.ireturn, 1) := by decide +kernel
theorem dX7_undo_0 : decode cX7_undo 0 = .ok (.aload_n 0, 1) := by decide +kernel
theorem dX7_undo_1 : decode cX7_undo 1 = .ok (.getfield 36, 3) := by decide +kernel
theorem dX7_undo_4 : decode cX7_undo 4 = .ok (.getfield 170, 3) := by decide +kernel
theorem dX7_undo_7 : decode cX7_undo 7 = .ok (.iconst 1, 1) := by decide +kernel
theorem dX7_undo_8 : decode cX7_undo 8 = .ok (.if_icmp .ge 6, 3) := by decide +kernel
theorem dX7_undo_11 : decode cX7_undo 11 = .ok (.bipush (-2), 2) := by decide +kernel
theorem dX7_undo_13 : decode cX7_undo 13 = .ok (.ireturn, 1) := by decide +kernel
theorem dX7_undo_14 : decode cX7_undo 14 = .ok (.aload_n 0, 1) := by decide +kernel
theorem dX7_undo_15 : decode cX7_undo 15 = .ok (.getfield 36, 3) := by decide +kernel
theorem dX7_undo_18 : decode cX7_undo 18 = .ok (.aload_n 0, 1) := by decide +kernel
theorem dX7_undo_19 : decode cX7_undo 19 = .ok (.getfield 26, 3) := by decide +kernel
theorem dX7_undo_22 : decode cX7_undo 22 = .ok (.invokevirtual 173, 3) := by decide +kernel
theorem dX7_undo_25 : decode cX7_undo 25 = .ok (.aload_n 0, 1) := by decide +kernel
theorem dX7_undo_26 : decode cX7_undo 26 = .ok (.getfield 36, 3) := by decide +kernel
theorem dX7_undo_29 : decode cX7_undo 29 = .ok (.getfield 170, 3) := by decide +kernel
theorem dX7_undo_32 : decode cX7_undo 32 = .ok (.ireturn, 1) := by decide +kernel
theorem dX7_toward_0 : decode cX7_toward 0 = .ok (.aload_n 0, 1) := by decide +kernel
theorem dX7_toward_1 : decode cX7_toward 1 = .ok (.getfield 26, 3) := by decide +kernel
theorem dX7_toward_4 : decode cX7_toward 4 = .ok (.iload_n 1, 1) := by decide +kernel
theorem dX7_toward_5 : decode cX7_toward 5 = .ok (.invokevirtual 103, 3) := by decide +kernel
theorem dX7_toward_8 : decode cX7_toward 8 = .ok (.ifCond .ne 5, 3) := by decide +kernel
theorem dX7_toward_11 : decode cX7_toward 11 = .ok (.iconst (-1), 1) := by decide +kernel
theorem dX7_toward_12 : decode cX7_toward 12 = .ok (.ireturn, 1) := by decide +kernel
theorem dX7_toward_13 : decode cX7_toward 13 = .ok (.iconst 0, 1) := by decide +kernel
theorem dX7_toward_14 : decode cX7_toward 14 = .ok (.istore_n 2, 1) := by decide +kernel
theorem dX7_toward_15 : decode cX7_toward 15 = .ok (.iconst 0, 1) := by decide +kernel
theorem dX7_toward_16 : decode cX7_toward 16 = .ok (.istore_n 3, 1) := by decide +kernel
theorem dX7_toward_17 : decode cX7_toward 17 = .ok (.iload_n 3, 1) := by decide +kernel
theorem dX7_toward_18 : decode cX7_toward 18 = .ok (.aload_n 0, 1) := by decide +kernel
theorem dX7_toward_19 : decode cX7_toward 19 = .ok (.getfield 26, 3) := by decide +kernel
theorem dX7_toward_22 : decode cX7_toward 22 = .ok (.getfield 94, 3) := by decide +kernel
theorem dX7_toward_25 : decode cX7_toward 25 = .ok (.if_icmp .ge 27, 3) := by decide +kernel
theorem dX7_toward_28 : decode cX7_toward 28 = .ok (.aload_n 0, 1) := by decide +kernel
theorem dX7_toward_29 : decode cX7_toward 29 = .ok (.getfield 26, 3) := by decide +kernel
theorem dX7_toward_32 : decode cX7_toward 32 = .ok (.iload_n 1, 1) := by decide +kernel
theorem dX7_toward_33 : decode cX7_toward 33 = .ok (.iload_n 3, 1) := by decide +kernel
theorem dX7_toward_34 : decode cX7_toward 34 = .ok (.invokevirtual 176, 3) := by decide +kernel
theorem dX7_toward_37 : decode cX7_toward 37 = .ok (.ifCond .eq 9, 3) := by decide +kernel
theorem dX7_toward_40 : decode cX7_toward 40 = .ok (.iload_n 2, 1) := by decide +kernel
theorem dX7_toward_41 : decode cX7_toward 41 = .ok (.iconst 1, 1) := by decide +kernel
theorem dX7_toward_42 : decode cX7_toward 42 = .ok (.iload_n 3, 1) := by decide +kernel
theorem dX7_toward_43 : decode cX7_toward 43 = .ok (.ishl, 1) := by decide +kernel
theorem dX7_toward_44 : decode cX7_toward 44 = .ok (.ior, 1) := by decide +kernel
theorem dX7_toward_45 : decode cX7_toward 45 = .ok (.istore_n 2, 1) := by decide +kernel
theorem dX7_toward_46 : decode cX7_toward 46 = .ok (.iinc 3 1, 3) := by decide +kernel
theorem dX7_toward_49 : decode cX7_toward 49 = .ok (.goto (-32), 3) := by decide +kernel
theorem dX7_toward_52 : decode cX7_toward 52 = .ok (.iload_n 2, 1) := by decide +kernel
theorem dX7_toward_53 : decode cX7_toward 53 = .ok (.ireturn, 1) := by decide +kernel
theorem dX7_looked_0 : decode cX7_looked 0 = .ok (.iload_n 1, 1) := by decide +kernel
theorem dX7_looked_1 : decode cX7_looked 1 = .ok (.iconst 2, 1) := by decide +kernel
theorem dX7_looked_2 : decode cX7_looked 2 = .ok (.invokestatic 153, 3) := by decide +kernel
theorem dX7_looked_5 : decode cX7_looked 5 = .ok (.ifCond .ne 5, 3) := by decide +kernel
theorem dX7_looked_8 : decode cX7_looked 8 = .ok (.iconst (-1), 1) := by decide +kernel
theorem dX7_looked_9 : decode cX7_looked 9 = .ok (.ireturn, 1) := by decide +kernel
theorem dX7_looked_10 : decode cX7_looked 10 = .ok (.iconst 0, 1) := by decide +kernel
theorem dX7_looked_11 : decode cX7_looked 11 = .ok (.istore_n 2, 1) := by decide +kernel
theorem dX7_looked_12 : decode cX7_looked 12 = .ok (.iconst 0, 1) := by decide +kernel
theorem dX7_looked_13 : decode cX7_looked 13 = .ok (.istore_n 3, 1) := by decide +kernel
theorem dX7_looked_14 : decode cX7_looked 14 = .ok (.iconst 0, 1) := by decide +kernel
theorem dX7_looked_15 : decode cX7_looked 15 = .ok (.istore 4, 2) := by decide +kernel
theorem dX7_looked_17 : decode cX7_looked 17 = .ok (.iload 4, 2) := by decide +kernel
theorem dX7_looked_19 : decode cX7_looked 19 = .ok (.aload_n 0, 1) := by decide +kernel
theorem dX7_looked_20 : decode cX7_looked 20 = .ok (.getfield 26, 3) := by decide +kernel
theorem dX7_looked_23 : decode cX7_looked 23 = .ok (.getfield 94, 3) := by decide +kernel
theorem dX7_looked_26 : decode cX7_looked 26 = .ok (.if_icmp .ge 32, 3) := by decide +kernel
theorem dX7_looked_29 : decode cX7_looked 29 = .ok (.aload_n 0, 1) := by decide +kernel
theorem dX7_looked_30 : decode cX7_looked 30 = .ok (.getfield 26, 3) := by decide +kernel
theorem dX7_looked_33 : decode cX7_looked 33 = .ok (.iload 4, 2) := by decide +kernel
theorem dX7_looked_35 : decode cX7_looked 35 = .ok (.invokevirtual 179, 3) := by decide +kernel
theorem dX7_looked_38 : decode cX7_looked 38 = .ok (.istore 5, 2) := by decide +kernel
theorem dX7_looked_40 : decode cX7_looked 40 = .ok (.iload 5, 2) := by decide +kernel
theorem dX7_looked_42 : decode cX7_looked 42 = .ok (.iload_n 3, 1) := by decide +kernel
theorem dX7_looked_43 : decode cX7_looked 43 = .ok (.if_icmp .le 9, 3) := by decide +kernel
theorem dX7_looked_46 : decode cX7_looked 46 = .ok (.iload 4, 2) := by decide +kernel
theorem dX7_looked_48 : decode cX7_looked 48 = .ok (.istore_n 2, 1) := by decide +kernel
theorem dX7_looked_49 : decode cX7_looked 49 = .ok (.iload 5, 2) := by decide +kernel
theorem dX7_looked_51 : decode cX7_looked 51 = .ok (.istore_n 3, 1) := by decide +kernel
theorem dX7_looked_52 : decode cX7_looked 52 = .ok (.iinc 4 1, 3) := by decide +kernel
theorem dX7_looked_55 : decode cX7_looked 55 = .ok (.goto (-38), 3) := by decide +kernel
theorem dX7_looked_58 : decode cX7_looked 58 = .ok (.iload_n 1, 1) := by decide +kernel
theorem dX7_looked_59 : decode cX7_looked 59 = .ok (.ifCond .ne 7, 3) := by decide +kernel
theorem dX7_looked_62 : decode cX7_looked 62 = .ok (.iload_n 2, 1) := by decide +kernel
theorem dX7_looked_63 : decode cX7_looked 63 = .ok (.goto 4, 3) := by decide +kernel
theorem dX7_looked_66 : decode cX7_looked 66 = .ok (.iload_n 3, 1) := by decide +kernel
theorem dX7_looked_67 : decode cX7_looked 67 = .ok (.ireturn, 1) := by decide +kernel
theorem dX7_behind_0 : decode cX7_behind 0 = .ok (.iload_n 1, 1) := by decide +kernel
theorem dX7_behind_1 : decode cX7_behind 1 = .ok (.ifCond .lt 20, 3) := by decide +kernel
theorem dX7_behind_4 : decode cX7_behind 4 = .ok (.iload_n 1, 1) := by decide +kernel
theorem dX7_behind_5 : decode cX7_behind 5 = .ok (.bipush 40, 2) := by decide +kernel
theorem dX7_behind_7 : decode cX7_behind 7 = .ok (.if_icmp .gt 14, 3) := by decide +kernel
theorem dX7_behind_10 : decode cX7_behind 10 = .ok (.aload_n 0, 1) := by decide +kernel
theorem dX7_behind_11 : decode cX7_behind 11 = .ok (.getfield 26, 3) := by decide +kernel
theorem dX7_behind_14 : decode cX7_behind 14 = .ok (.iload_n 2, 1) := by decide +kernel
theorem dX7_behind_15 : decode cX7_behind 15 = .ok (.invokevirtual 103, 3) := by decide +kernel
theorem dX7_behind_18 : decode cX7_behind 18 = .ok (.ifCond .ne 5, 3) := by decide +kernel
theorem dX7_behind_21 : decode cX7_behind 21 = .ok (.iconst (-1), 1) := by decide +kernel
theorem dX7_behind_22 : decode cX7_behind 22 = .ok (.ireturn, 1) := by decide +kernel
theorem dX7_behind_23 : decode cX7_behind 23 = .ok (.aload_n 0, 1) := by decide +kernel
theorem dX7_behind_24 : decode cX7_behind 24 = .ok (.getfield 26, 3) := by decide +kernel
theorem dX7_behind_27 : decode cX7_behind 27 = .ok (.getfield 107, 3) := by decide +kernel
theorem dX7_behind_30 : decode cX7_behind 30 = .ok (.iload_n 2, 1) := by decide +kernel
theorem dX7_behind_31 : decode cX7_behind 31 = .ok (.iaload, 1) := by decide +kernel
theorem dX7_behind_32 : decode cX7_behind 32 = .ok (.aload_n 0, 1) := by decide +kernel
theorem dX7_behind_33 : decode cX7_behind 33 = .ok (.getfield 26, 3) := by decide +kernel
theorem dX7_behind_36 : decode cX7_behind 36 = .ok (.getfield 117, 3) := by decide +kernel
theorem dX7_behind_39 : decode cX7_behind 39 = .ok (.iload_n 2, 1) := by decide +kernel
theorem dX7_behind_40 : decode cX7_behind 40 = .ok (.iaload, 1) := by decide +kernel
theorem dX7_behind_41 : decode cX7_behind 41 = .ok (.aload_n 0, 1) := by decide +kernel
theorem dX7_behind_42 : decode cX7_behind 42 = .ok (.getfield 26, 3) := by decide +kernel
theorem dX7_behind_45 : decode cX7_behind 45 = .ok (.iload_n 2, 1) := by decide +kernel
theorem dX7_behind_46 : decode cX7_behind 46 = .ok (.invokevirtual 120, 3) := by decide +kernel
theorem dX7_behind_49 : decode cX7_behind 49 = .ok (.iload_n 1, 1) := by decide +kernel
theorem dX7_behind_50 : decode cX7_behind 50 = .ok (.invokestatic 182, 3) := by decide +kernel
theorem dX7_behind_53 : decode cX7_behind 53 = .ok (.ireturn, 1) := by decide +kernel
theorem dX7_settled_0 : decode cX7_settled 0 = .ok (.aload_n 0, 1) := by decide +kernel
theorem dX7_settled_1 : decode cX7_settled 1 = .ok (.getfield 30, 3) := by decide +kernel
theorem dX7_settled_4 : decode cX7_settled 4 = .ok (.aload_n 0, 1) := by decide +kernel
theorem dX7_settled_5 : decode cX7_settled 5 = .ok (.getfield 26, 3) := by decide +kernel
theorem dX7_settled_8 : decode cX7_settled 8 = .ok (.invokevirtual 97, 3) := by decide +kernel
theorem dX7_settled_11 : decode cX7_settled 11 = .ok (.iconst 0, 1) := by decide +kernel
theorem dX7_settled_12 : decode cX7_settled 12 = .ok (.istore_n 1, 1) := by decide +kernel
theorem dX7_settled_13 : decode cX7_settled 13 = .ok (.iload_n 1, 1) := by decide +kernel
theorem dX7_settled_14 : decode cX7_settled 14 = .ok (.bipush 20, 2) := by decide +kernel
theorem dX7_settled_16 : decode cX7_settled 16 = .ok (.if_icmp .gt 21, 3) := by decide +kernel
theorem dX7_settled_19 : decode cX7_settled 19 = .ok (.aload_n 0, 1) := by decide +kernel
theorem dX7_settled_20 : decode cX7_settled 20 = .ok (.getfield 30, 3) := by decide +kernel
theorem dX7_settled_23 : decode cX7_settled 23 = .ok (.invokevirtual 147, 3) := by decide +kernel
theorem dX7_settled_26 : decode cX7_settled 26 = .ok (.ifCond .ne 5, 3) := by decide +kernel
theorem dX7_settled_29 : decode cX7_settled 29 = .ok (.iload_n 1, 1) := by decide +kernel
theorem dX7_settled_30 : decode cX7_settled 30 = .ok (.ireturn, 1) := by decide +kernel
theorem dX7_settled_31 : decode cX7_settled 31 = .ok (.iinc 1 1, 3) := by decide +kernel
theorem dX7_settled_34 : decode cX7_settled 34 = .ok (.goto (-21), 3) := by decide +kernel
theorem dX7_settled_37 : decode cX7_settled 37 = .ok (.bipush (-4), 2) := by decide +kernel
theorem dX7_settled_39 : decode cX7_settled 39 = .ok (.ireturn, 1) := by decide +kernel
theorem dX7_steps_0 : decode cX7_steps 0 = .ok (.aload_n 0, 1) := by decide +kernel
theorem dX7_steps_1 : decode cX7_steps 1 = .ok (.getfield 26, 3) := by decide +kernel
theorem dX7_steps_4 : decode cX7_steps 4 = .ok (.iload_n 1, 1) := by decide +kernel
theorem dX7_steps_5 : decode cX7_steps 5 = .ok (.invokevirtual 103, 3) := by decide +kernel
theorem dX7_steps_8 : decode cX7_steps 8 = .ok (.ifCond .eq 17, 3) := by decide +kernel
theorem dX7_steps_11 : decode cX7_steps 11 = .ok (.iload_n 2, 1) := by decide +kernel
theorem dX7_steps_12 : decode cX7_steps 12 = .ok (.bipush 8, 2) := by decide +kernel
theorem dX7_steps_14 : decode cX7_steps 14 = .ok (.invokestatic 153, 3) := by decide +kernel
theorem dX7_steps_17 : decode cX7_steps 17 = .ok (.ifCond .eq 8, 3) := by decide +kernel
theorem dX7_steps_20 : decode cX7_steps 20 = .ok (.iload_n 3, 1) := by decide +kernel
theorem dX7_steps_21 : decode cX7_steps 21 = .ok (.iconst (-1), 1) := by decide +kernel
theorem dX7_steps_22 : decode cX7_steps 22 = .ok (.if_icmp .ge 5, 3) := by decide +kernel
theorem dX7_steps_25 : decode cX7_steps 25 = .ok (.iconst (-1), 1) := by decide +kernel
theorem dX7_steps_26 : decode cX7_steps 26 = .ok (.ireturn, 1) := by decide +kernel
theorem dX7_steps_27 : decode cX7_steps 27 = .ok (.aload_n 0, 1) := by decide +kernel
theorem dX7_steps_28 : decode cX7_steps 28 = .ok (.getfield 30, 3) := by decide +kernel
theorem dX7_steps_31 : decode cX7_steps 31 = .ok (.aload_n 0, 1) := by decide +kernel
theorem dX7_steps_32 : decode cX7_steps 32 = .ok (.getfield 26, 3) := by decide +kernel
theorem dX7_steps_35 : decode cX7_steps 35 = .ok (.invokevirtual 97, 3) := by decide +kernel
theorem dX7_steps_38 : decode cX7_steps 38 = .ok (.aload_n 0, 1) := by decide +kernel
theorem dX7_steps_39 : decode cX7_steps 39 = .ok (.getfield 50, 3) := by decide +kernel
theorem dX7_steps_42 : decode cX7_steps 42 = .ok (.aload_n 0, 1) := by decide +kernel
theorem dX7_steps_43 : decode cX7_steps 43 = .ok (.getfield 30, 3) := by decide +kernel
theorem dX7_steps_46 : decode cX7_steps 46 = .ok (.iload_n 1, 1) := by decide +kernel
theorem dX7_steps_47 : decode cX7_steps 47 = .ok (.iload_n 2, 1) := by decide +kernel
theorem dX7_steps_48 : decode cX7_steps 48 = .ok (.invokevirtual 186, 3) := by decide +kernel
theorem dX7_steps_51 : decode cX7_steps 51 = .ok (.iload_n 3, 1) := by decide +kernel
theorem dX7_steps_52 : decode cX7_steps 52 = .ok (.iconst (-1), 1) := by decide +kernel
theorem dX7_steps_53 : decode cX7_steps 53 = .ok (.if_icmp .ne 13, 3) := by decide +kernel
theorem dX7_steps_56 : decode cX7_steps 56 = .ok (.aload_n 0, 1) := by decide +kernel
theorem dX7_steps_57 : decode cX7_steps 57 = .ok (.getfield 50, 3) := by decide +kernel
theorem dX7_steps_60 : decode cX7_steps 60 = .ok (.getfield 190, 3) := by decide +kernel
theorem dX7_steps_63 : decode cX7_steps 63 = .ok (.goto 11, 3) := by decide +kernel
theorem dX7_steps_66 : decode cX7_steps 66 = .ok (.aload_n 0, 1) := by decide +kernel
theorem dX7_steps_67 : decode cX7_steps 67 = .ok (.getfield 50, 3) := by decide +kernel
theorem dX7_steps_70 : decode cX7_steps 70 = .ok (.iload_n 3, 1) := by decide +kernel
theorem dX7_steps_71 : decode cX7_steps 71 = .ok (.invokevirtual 191, 3) := by decide +kernel
theorem dX7_steps_74 : decode cX7_steps 74 = .ok (.ireturn, 1) := by decide +kernel
theorem dX7_stand_0 : decode cX7_stand 0 = .ok (.aload_n 0, 1) := by decide +kernel
theorem dX7_stand_1 : decode cX7_stand 1 = .ok (.getfield 26, 3) := by decide +kernel
theorem dX7_stand_4 : decode cX7_stand 4 = .ok (.iload_n 1, 1) := by decide +kernel
theorem dX7_stand_5 : decode cX7_stand 5 = .ok (.iload_n 2, 1) := by decide +kernel
theorem dX7_stand_6 : decode cX7_stand 6 = .ok (.invokevirtual 131, 3) := by decide +kernel
theorem dX7_stand_9 : decode cX7_stand 9 = .ok (.ifCond .eq 21, 3) := by decide +kernel
theorem dX7_stand_12 : decode cX7_stand 12 = .ok (.iload_n 3, 1) := by decide +kernel
theorem dX7_stand_13 : decode cX7_stand 13 = .ok (.bipush 8, 2) := by decide +kernel
theorem dX7_stand_15 : decode cX7_stand 15 = .ok (.invokestatic 153, 3) := by decide +kernel
theorem dX7_stand_18 : decode cX7_stand 18 = .ok (.ifCond .eq 12, 3) := by decide +kernel
theorem dX7_stand_21 : decode cX7_stand 21 = .ok (.iload 4, 2) := by decide +kernel
theorem dX7_stand_23 : decode cX7_stand 23 = .ok (.iconst 2, 1) := by decide +kernel
theorem dX7_stand_24 : decode cX7_stand 24 = .ok (.invokestatic 153, 3) := by decide +kernel
theorem dX7_stand_27 : decode cX7_stand 27 = .ok (.ifCond .ne 5, 3) := by decide +kernel
theorem dX7_stand_30 : decode cX7_stand 30 = .ok (.iconst (-1), 1) := by decide +kernel
theorem dX7_stand_31 : decode cX7_stand 31 = .ok (.ireturn, 1) := by decide +kernel
theorem dX7_stand_32 : decode cX7_stand 32 = .ok (.iconst 0, 1) := by decide +kernel
theorem dX7_stand_33 : decode cX7_stand 33 = .ok (.istore 5, 2) := by decide +kernel
theorem dX7_stand_35 : decode cX7_stand 35 = .ok (.bipush (-4), 2) := by decide +kernel
theorem dX7_stand_37 : decode cX7_stand 37 = .ok (.istore 6, 2) := by decide +kernel
theorem dX7_stand_39 : decode cX7_stand 39 = .ok (.aload_n 0, 1) := by decide +kernel
theorem dX7_stand_40 : decode cX7_stand 40 = .ok (.getfield 30, 3) := by decide +kernel
theorem dX7_stand_43 : decode cX7_stand 43 = .ok (.aload_n 0, 1) := by decide +kernel
theorem dX7_stand_44 : decode cX7_stand 44 = .ok (.getfield 26, 3) := by decide +kernel
theorem dX7_stand_47 : decode cX7_stand 47 = .ok (.invokevirtual 97, 3) := by decide +kernel
theorem dX7_stand_50 : decode cX7_stand 50 = .ok (.iconst 0, 1) := by decide +kernel
theorem dX7_stand_51 : decode cX7_stand 51 = .ok (.istore 7, 2) := by decide +kernel
theorem dX7_stand_53 : decode cX7_stand 53 = .ok (.iload 7, 2) := by decide +kernel
theorem dX7_stand_55 : decode cX7_stand 55 = .ok (.aload_n 0, 1) := by decide +kernel
theorem dX7_stand_56 : decode cX7_stand 56 = .ok (.getfield 26, 3) := by decide +kernel
theorem dX7_stand_59 : decode cX7_stand 59 = .ok (.getfield 194, 3) := by decide +kernel
theorem dX7_stand_62 : decode cX7_stand 62 = .ok (.if_icmp .ge 94, 3) := by decide +kernel
theorem dX7_stand_65 : decode cX7_stand 65 = .ok (.iconst 0, 1) := by decide +kernel
theorem dX7_stand_66 : decode cX7_stand 66 = .ok (.istore 8, 2) := by decide +kernel
theorem dX7_stand_68 : decode cX7_stand 68 = .ok (.iload 8, 2) := by decide +kernel
theorem dX7_stand_70 : decode cX7_stand 70 = .ok (.aload_n 0, 1) := by decide +kernel
theorem dX7_stand_71 : decode cX7_stand 71 = .ok (.getfield 26, 3) := by decide +kernel
theorem dX7_stand_74 : decode cX7_stand 74 = .ok (.getfield 197, 3) := by decide +kernel
theorem dX7_stand_77 : decode cX7_stand 77 = .ok (.if_icmp .ge 73, 3) := by decide +kernel
theorem dX7_stand_80 : decode cX7_stand 80 = .ok (.aload_n 0, 1) := by decide +kernel
theorem dX7_stand_81 : decode cX7_stand 81 = .ok (.getfield 26, 3) := by decide +kernel
theorem dX7_stand_84 : decode cX7_stand 84 = .ok (.iload_n 1, 1) := by decide +kernel
theorem dX7_stand_85 : decode cX7_stand 85 = .ok (.iload 7, 2) := by decide +kernel
theorem dX7_stand_87 : decode cX7_stand 87 = .ok (.iload 8, 2) := by decide +kernel
theorem dX7_stand_89 : decode cX7_stand 89 = .ok (.invokevirtual 200, 3) := by decide +kernel
theorem dX7_stand_92 : decode cX7_stand 92 = .ok (.ifCond .ne 6, 3) := by decide +kernel
theorem dX7_stand_95 : decode cX7_stand 95 = .ok (.goto 49, 3) := by decide +kernel
theorem dX7_stand_98 : decode cX7_stand 98 = .ok (.aload_n 0, 1) := by decide +kernel
theorem dX7_stand_99 : decode cX7_stand 99 = .ok (.getfield 30, 3) := by decide +kernel
theorem dX7_stand_102 : decode cX7_stand 102 = .ok (.iload_n 1, 1) := by decide +kernel
theorem dX7_stand_103 : decode cX7_stand 103 = .ok (.iload 7, 2) := by decide +kernel
theorem dX7_stand_105 : decode cX7_stand 105 = .ok (.iload 8, 2) := by decide +kernel
theorem dX7_stand_107 : decode cX7_stand 107 = .ok (.invokevirtual 204, 3) := by decide +kernel
theorem dX7_stand_110 : decode cX7_stand 110 = .ok (.aload_n 0, 1) := by decide +kernel
theorem dX7_stand_111 : decode cX7_stand 111 = .ok (.getfield 30, 3) := by decide +kernel
theorem dX7_stand_114 : decode cX7_stand 114 = .ok (.iload_n 2, 1) := by decide +kernel
theorem dX7_stand_115 : decode cX7_stand 115 = .ok (.invokevirtual 120, 3) := by decide +kernel
theorem dX7_stand_118 : decode cX7_stand 118 = .ok (.iload_n 3, 1) := by decide +kernel
theorem dX7_stand_119 : decode cX7_stand 119 = .ok (.if_icmp .ne 25, 3) := by decide +kernel
theorem dX7_stand_122 : decode cX7_stand 122 = .ok (.iload 5, 2) := by decide +kernel
theorem dX7_stand_124 : decode cX7_stand 124 = .ok (.ifCond .ne 13, 3) := by decide +kernel
theorem dX7_stand_127 : decode cX7_stand 127 = .ok (.iload 7, 2) := by decide +kernel
theorem dX7_stand_129 : decode cX7_stand 129 = .ok (.iload 8, 2) := by decide +kernel
theorem dX7_stand_131 : decode cX7_stand 131 = .ok (.invokestatic 163, 3) := by decide +kernel
theorem dX7_stand_134 : decode cX7_stand 134 = .ok (.goto 5, 3) := by decide +kernel
theorem dX7_stand_137 : decode cX7_stand 137 = .ok (.iload 6, 2) := by decide +kernel
theorem dX7_stand_139 : decode cX7_stand 139 = .ok (.istore 6, 2) := by decide +kernel
theorem dX7_stand_141 : decode cX7_stand 141 = .ok (.iinc 5 1, 3) := by decide +kernel
theorem dX7_stand_144 : decode cX7_stand 144 = .ok (.iinc 8 1, 3) := by decide +kernel
theorem dX7_stand_147 : decode cX7_stand 147 = .ok (.goto (-79), 3) := by decide +kernel
theorem dX7_stand_150 : decode cX7_stand 150 = .ok (.iinc 7 1, 3) := by decide +kernel
theorem dX7_stand_153 : decode cX7_stand 153 = .ok (.goto (-100), 3) := by decide +kernel
theorem dX7_stand_156 : decode cX7_stand 156 = .ok (.iload 4, 2) := by decide +kernel
theorem dX7_stand_158 : decode cX7_stand 158 = .ok (.ifCond .ne 8, 3) := by decide +kernel
theorem dX7_stand_161 : decode cX7_stand 161 = .ok (.iload 5, 2) := by decide +kernel
theorem dX7_stand_163 : decode cX7_stand 163 = .ok (.goto 5, 3) := by decide +kernel
theorem dX7_stand_166 : decode cX7_stand 166 = .ok (.iload 6, 2) := by decide +kernel
theorem dX7_stand_168 : decode cX7_stand 168 = .ok (.ireturn, 1) := by decide +kernel
theorem dX7_marry_0 : decode cX7_marry 0 = .ok (.iload_n 1, 1) := by decide +kernel
theorem dX7_marry_1 : decode cX7_marry 1 = .ok (.iconst (-1), 1) := by decide +kernel
theorem dX7_marry_2 : decode cX7_marry 2 = .ok (.if_icmp .eq 16, 3) := by decide +kernel
theorem dX7_marry_5 : decode cX7_marry 5 = .ok (.aload_n 0, 1) := by decide +kernel
theorem dX7_marry_6 : decode cX7_marry 6 = .ok (.getfield 26, 3) := by decide +kernel
theorem dX7_marry_9 : decode cX7_marry 9 = .ok (.iload_n 1, 1) := by decide +kernel
theorem dX7_marry_10 : decode cX7_marry 10 = .ok (.invokevirtual 103, 3) := by decide +kernel
theorem dX7_marry_13 : decode cX7_marry 13 = .ok (.ifCond .ne 5, 3) := by decide +kernel
theorem dX7_marry_16 : decode cX7_marry 16 = .ok (.iconst (-1), 1) := by decide +kernel
theorem dX7_marry_17 : decode cX7_marry 17 = .ok (.ireturn, 1) := by decide +kernel
theorem dX7_marry_18 : decode cX7_marry 18 = .ok (.aload_n 0, 1) := by decide +kernel
theorem dX7_marry_19 : decode cX7_marry 19 = .ok (.getfield 57, 3) := by decide +kernel
theorem dX7_marry_22 : decode cX7_marry 22 = .ok (.aload_n 0, 1) := by decide +kernel
theorem dX7_marry_23 : decode cX7_marry 23 = .ok (.getfield 26, 3) := by decide +kernel
theorem dX7_marry_26 : decode cX7_marry 26 = .ok (.invokevirtual 207, 3) := by decide +kernel
theorem dX7_marry_29 : decode cX7_marry 29 = .ok (.ifCond .ne 6, 3) := by decide +kernel
theorem dX7_marry_32 : decode cX7_marry 32 = .ok (.bipush (-4), 2) := by decide +kernel
theorem dX7_marry_34 : decode cX7_marry 34 = .ok (.ireturn, 1) := by decide +kernel
theorem dX7_marry_35 : decode cX7_marry 35 = .ok (.iload_n 1, 1) := by decide +kernel
theorem dX7_marry_36 : decode cX7_marry 36 = .ok (.iconst (-1), 1) := by decide +kernel
theorem dX7_marry_37 : decode cX7_marry 37 = .ok (.if_icmp .ne 17, 3) := by decide +kernel
theorem dX7_marry_40 : decode cX7_marry 40 = .ok (.aload_n 0, 1) := by decide +kernel
theorem dX7_marry_41 : decode cX7_marry 41 = .ok (.getfield 57, 3) := by decide +kernel
theorem dX7_marry_44 : decode cX7_marry 44 = .ok (.aload_n 0, 1) := by decide +kernel
theorem dX7_marry_45 : decode cX7_marry 45 = .ok (.getfield 26, 3) := by decide +kernel
theorem dX7_marry_48 : decode cX7_marry 48 = .ok (.invokevirtual 211, 3) := by decide +kernel
theorem dX7_marry_51 : decode cX7_marry 51 = .ok (.goto 12, 3) := by decide +kernel
theorem dX7_marry_54 : decode cX7_marry 54 = .ok (.aload_n 0, 1) := by decide +kernel
theorem dX7_marry_55 : decode cX7_marry 55 = .ok (.getfield 57, 3) := by decide +kernel
theorem dX7_marry_58 : decode cX7_marry 58 = .ok (.getfield 215, 3) := by decide +kernel
theorem dX7_marry_61 : decode cX7_marry 61 = .ok (.iload_n 1, 1) := by decide +kernel
theorem dX7_marry_62 : decode cX7_marry 62 = .ok (.iaload, 1) := by decide +kernel
theorem dX7_marry_63 : decode cX7_marry 63 = .ok (.ireturn, 1) := by decide +kernel
theorem dX7_see_0 : decode cX7_see 0 = .ok (.aload_n 0, 1) := by decide +kernel
theorem dX7_see_1 : decode cX7_see 1 = .ok (.getfield 26, 3) := by decide +kernel
theorem dX7_see_4 : decode cX7_see 4 = .ok (.iload_n 1, 1) := by decide +kernel
theorem dX7_see_5 : decode cX7_see 5 = .ok (.invokevirtual 103, 3) := by decide +kernel
theorem dX7_see_8 : decode cX7_see 8 = .ok (.ifCond .eq 22, 3) := by decide +kernel
theorem dX7_see_11 : decode cX7_see 11 = .ok (.iload_n 2, 1) := by decide +kernel
theorem dX7_see_12 : decode cX7_see 12 = .ok (.ifCond .lt 18, 3) := by decide +kernel
theorem dX7_see_15 : decode cX7_see 15 = .ok (.iload_n 2, 1) := by decide +kernel
theorem dX7_see_16 : decode cX7_see 16 = .ok (.bipush 20, 2) := by decide +kernel
theorem dX7_see_18 : decode cX7_see 18 = .ok (.if_icmp .gt 12, 3) := by decide +kernel
theorem dX7_see_21 : decode cX7_see 21 = .ok (.iload_n 3, 1) := by decide +kernel
theorem dX7_see_22 : decode cX7_see 22 = .ok (.bipush 8, 2) := by decide +kernel
theorem dX7_see_24 : decode cX7_see 24 = .ok (.invokestatic 153, 3) := by decide +kernel
theorem dX7_see_27 : decode cX7_see 27 = .ok (.ifCond .ne 5, 3) := by decide +kernel
theorem dX7_see_30 : decode cX7_see 30 = .ok (.iconst (-1), 1) := by decide +kernel
theorem dX7_see_31 : decode cX7_see 31 = .ok (.ireturn, 1) := by decide +kernel
theorem dX7_see_32 : decode cX7_see 32 = .ok (.aload_n 0, 1) := by decide +kernel
theorem dX7_see_33 : decode cX7_see 33 = .ok (.getfield 43, 3) := by decide +kernel
theorem dX7_see_36 : decode cX7_see 36 = .ok (.getfield 218, 3) := by decide +kernel
theorem dX7_see_39 : decode cX7_see 39 = .ok (.bipush 6, 2) := by decide +kernel
theorem dX7_see_41 : decode cX7_see 41 = .ok (.if_icmp .lt 6, 3) := by decide +kernel
theorem dX7_see_44 : decode cX7_see 44 = .ok (.bipush (-3), 2) := by decide +kernel
theorem dX7_see_46 : decode cX7_see 46 = .ok (.ireturn, 1) := by decide +kernel
theorem dX7_see_47 : decode cX7_see 47 = .ok (.aload_n 0, 1) := by decide +kernel
theorem dX7_see_48 : decode cX7_see 48 = .ok (.getfield 43, 3) := by decide +kernel
theorem dX7_see_51 : decode cX7_see 51 = .ok (.iload_n 1, 1) := by decide +kernel
theorem dX7_see_52 : decode cX7_see 52 = .ok (.iload_n 2, 1) := by decide +kernel
theorem dX7_see_53 : decode cX7_see 53 = .ok (.iload_n 3, 1) := by decide +kernel
theorem dX7_see_54 : decode cX7_see 54 = .ok (.invokevirtual 219, 3) := by decide +kernel
theorem dX7_see_57 : decode cX7_see 57 = .ok (.aload_n 0, 1) := by decide +kernel
theorem dX7_see_58 : decode cX7_see 58 = .ok (.getfield 43, 3) := by decide +kernel
theorem dX7_see_61 : decode cX7_see 61 = .ok (.getfield 218, 3) := by decide +kernel
theorem dX7_see_64 : decode cX7_see 64 = .ok (.ireturn, 1) := by decide +kernel
theorem dX7_forget_0 : decode cX7_forget 0 = .ok (.aload_n 0, 1) := by decide +kernel
theorem dX7_forget_1 : decode cX7_forget 1 = .ok (.getfield 43, 3) := by decide +kernel
theorem dX7_forget_4 : decode cX7_forget 4 = .ok (.getfield 218, 3) := by decide +kernel
theorem dX7_forget_7 : decode cX7_forget 7 = .ok (.istore_n 1, 1) := by decide +kernel
theorem dX7_forget_8 : decode cX7_forget 8 = .ok (.aload_n 0, 1) := by decide +kernel
theorem dX7_forget_9 : decode cX7_forget 9 = .ok (.getfield 43, 3) := by decide +kernel
theorem dX7_forget_12 : decode cX7_forget 12 = .ok (.invokevirtual 102, 3) := by decide +kernel
theorem dX7_forget_15 : decode cX7_forget 15 = .ok (.iload_n 1, 1) := by decide +kernel
theorem dX7_forget_16 : decode cX7_forget 16 = .ok (.ireturn, 1) := by decide +kernel
theorem dX7_kinds_0 : decode cX7_kinds 0 = .ok (.aload_n 0, 1) := by decide +kernel
theorem dX7_kinds_1 : decode cX7_kinds 1 = .ok (.getfield 26, 3) := by decide +kernel
theorem dX7_kinds_4 : decode cX7_kinds 4 = .ok (.iload_n 1, 1) := by decide +kernel
theorem dX7_kinds_5 : decode cX7_kinds 5 = .ok (.invokevirtual 103, 3) := by decide +kernel
theorem dX7_kinds_8 : decode cX7_kinds 8 = .ok (.ifCond .ne 5, 3) := by decide +kernel
theorem dX7_kinds_11 : decode cX7_kinds 11 = .ok (.iconst (-1), 1) := by decide +kernel
theorem dX7_kinds_12 : decode cX7_kinds 12 = .ok (.ireturn, 1) := by decide +kernel
theorem dX7_kinds_13 : decode cX7_kinds 13 = .ok (.iconst 0, 1) := by decide +kernel
theorem dX7_kinds_14 : decode cX7_kinds 14 = .ok (.istore_n 2, 1) := by decide +kernel
theorem dX7_kinds_15 : decode cX7_kinds 15 = .ok (.aload_n 0, 1) := by decide +kernel
theorem dX7_kinds_16 : decode cX7_kinds 16 = .ok (.getfield 26, 3) := by decide +kernel
theorem dX7_kinds_19 : decode cX7_kinds 19 = .ok (.iload_n 1, 1) := by decide +kernel
theorem dX7_kinds_20 : decode cX7_kinds 20 = .ok (.invokevirtual 120, 3) := by decide +kernel
theorem dX7_kinds_23 : decode cX7_kinds 23 = .ok (.istore_n 3, 1) := by decide +kernel
theorem dX7_kinds_24 : decode cX7_kinds 24 = .ok (.iconst 0, 1) := by decide +kernel
theorem dX7_kinds_25 : decode cX7_kinds 25 = .ok (.istore 4, 2) := by decide +kernel
theorem dX7_kinds_27 : decode cX7_kinds 27 = .ok (.iload 4, 2) := by decide +kernel
theorem dX7_kinds_29 : decode cX7_kinds 29 = .ok (.iconst 4, 1) := by decide +kernel
theorem dX7_kinds_30 : decode cX7_kinds 30 = .ok (.if_icmp .ge 39, 3) := by decide +kernel
theorem dX7_kinds_33 : decode cX7_kinds 33 = .ok (.aload_n 0, 1) := by decide +kernel
theorem dX7_kinds_34 : decode cX7_kinds 34 = .ok (.getfield 43, 3) := by decide +kernel
theorem dX7_kinds_37 : decode cX7_kinds 37 = .ok (.iload_n 1, 1) := by decide +kernel
theorem dX7_kinds_38 : decode cX7_kinds 38 = .ok (.iload 4, 2) := by decide +kernel
theorem dX7_kinds_40 : decode cX7_kinds 40 = .ok (.aload_n 0, 1) := by decide +kernel
theorem dX7_kinds_41 : decode cX7_kinds 41 = .ok (.getfield 26, 3) := by decide +kernel
theorem dX7_kinds_44 : decode cX7_kinds 44 = .ok (.getfield 117, 3) := by decide +kernel
theorem dX7_kinds_47 : decode cX7_kinds 47 = .ok (.iload_n 1, 1) := by decide +kernel
theorem dX7_kinds_48 : decode cX7_kinds 48 = .ok (.iaload, 1) := by decide +kernel
theorem dX7_kinds_49 : decode cX7_kinds 49 = .ok (.iload_n 3, 1) := by decide +kernel
theorem dX7_kinds_50 : decode cX7_kinds 50 = .ok (.invokevirtual 222, 3) := by decide +kernel
theorem dX7_kinds_53 : decode cX7_kinds 53 = .ok (.ifCond .eq 10, 3) := by decide +kernel
theorem dX7_kinds_56 : decode cX7_kinds 56 = .ok (.iload_n 2, 1) := by decide +kernel
theorem dX7_kinds_57 : decode cX7_kinds 57 = .ok (.iconst 1, 1) := by decide +kernel
theorem dX7_kinds_58 : decode cX7_kinds 58 = .ok (.iload 4, 2) := by decide +kernel
theorem dX7_kinds_60 : decode cX7_kinds 60 = .ok (.ishl, 1) := by decide +kernel
theorem dX7_kinds_61 : decode cX7_kinds 61 = .ok (.ior, 1) := by decide +kernel
theorem dX7_kinds_62 : decode cX7_kinds 62 = .ok (.istore_n 2, 1) := by decide +kernel
theorem dX7_kinds_63 : decode cX7_kinds 63 = .ok (.iinc 4 1, 3) := by decide +kernel
theorem dX7_kinds_66 : decode cX7_kinds 66 = .ok (.goto (-39), 3) := by decide +kernel
theorem dX7_kinds_69 : decode cX7_kinds 69 = .ok (.iload_n 2, 1) := by decide +kernel
theorem dX7_kinds_70 : decode cX7_kinds 70 = .ok (.ireturn, 1) := by decide +kernel
theorem dX7_loves_0 : decode cX7_loves 0 = .ok (.aload_n 0, 1) := by decide +kernel
theorem dX7_loves_1 : decode cX7_loves 1 = .ok (.getfield 26, 3) := by decide +kernel
theorem dX7_loves_4 : decode cX7_loves 4 = .ok (.iload_n 1, 1) := by decide +kernel
theorem dX7_loves_5 : decode cX7_loves 5 = .ok (.invokevirtual 103, 3) := by decide +kernel
theorem dX7_loves_8 : decode cX7_loves 8 = .ok (.ifCond .eq 12, 3) := by decide +kernel
theorem dX7_loves_11 : decode cX7_loves 11 = .ok (.iload_n 2, 1) := by decide +kernel
theorem dX7_loves_12 : decode cX7_loves 12 = .ok (.bipush 8, 2) := by decide +kernel
theorem dX7_loves_14 : decode cX7_loves 14 = .ok (.invokestatic 153, 3) := by decide +kernel
theorem dX7_loves_17 : decode cX7_loves 17 = .ok (.ifCond .ne 5, 3) := by decide +kernel
theorem dX7_loves_20 : decode cX7_loves 20 = .ok (.iconst (-1), 1) := by decide +kernel
theorem dX7_loves_21 : decode cX7_loves 21 = .ok (.ireturn, 1) := by decide +kernel
theorem dX7_loves_22 : decode cX7_loves 22 = .ok (.iconst 0, 1) := by decide +kernel
theorem dX7_loves_23 : decode cX7_loves 23 = .ok (.istore_n 3, 1) := by decide +kernel
theorem dX7_loves_24 : decode cX7_loves 24 = .ok (.aload_n 0, 1) := by decide +kernel
theorem dX7_loves_25 : decode cX7_loves 25 = .ok (.getfield 30, 3) := by decide +kernel
theorem dX7_loves_28 : decode cX7_loves 28 = .ok (.aload_n 0, 1) := by decide +kernel
theorem dX7_loves_29 : decode cX7_loves 29 = .ok (.getfield 26, 3) := by decide +kernel
theorem dX7_loves_32 : decode cX7_loves 32 = .ok (.invokevirtual 97, 3) := by decide +kernel
theorem dX7_loves_35 : decode cX7_loves 35 = .ok (.iconst 0, 1) := by decide +kernel
theorem dX7_loves_36 : decode cX7_loves 36 = .ok (.istore 4, 2) := by decide +kernel
theorem dX7_loves_38 : decode cX7_loves 38 = .ok (.iload 4, 2) := by decide +kernel
theorem dX7_loves_40 : decode cX7_loves 40 = .ok (.aload_n 0, 1) := by decide +kernel
theorem dX7_loves_41 : decode cX7_loves 41 = .ok (.getfield 26, 3) := by decide +kernel
theorem dX7_loves_44 : decode cX7_loves 44 = .ok (.getfield 94, 3) := by decide +kernel
theorem dX7_loves_47 : decode cX7_loves 47 = .ok (.if_icmp .ge 47, 3) := by decide +kernel
theorem dX7_loves_50 : decode cX7_loves 50 = .ok (.iload 4, 2) := by decide +kernel
theorem dX7_loves_52 : decode cX7_loves 52 = .ok (.iload_n 1, 1) := by decide +kernel
theorem dX7_loves_53 : decode cX7_loves 53 = .ok (.if_icmp .ne 6, 3) := by decide +kernel
theorem dX7_loves_56 : decode cX7_loves 56 = .ok (.goto 32, 3) := by decide +kernel
theorem dX7_loves_59 : decode cX7_loves 59 = .ok (.aload_n 0, 1) := by decide +kernel
theorem dX7_loves_60 : decode cX7_loves 60 = .ok (.getfield 30, 3) := by decide +kernel
theorem dX7_loves_63 : decode cX7_loves 63 = .ok (.iload_n 1, 1) := by decide +kernel
theorem dX7_loves_64 : decode cX7_loves 64 = .ok (.iload 4, 2) := by decide +kernel
theorem dX7_loves_66 : decode cX7_loves 66 = .ok (.invokevirtual 226, 3) := by decide +kernel
theorem dX7_loves_69 : decode cX7_loves 69 = .ok (.aload_n 0, 1) := by decide +kernel
theorem dX7_loves_70 : decode cX7_loves 70 = .ok (.getfield 30, 3) := by decide +kernel
theorem dX7_loves_73 : decode cX7_loves 73 = .ok (.iload_n 1, 1) := by decide +kernel
theorem dX7_loves_74 : decode cX7_loves 74 = .ok (.invokevirtual 120, 3) := by decide +kernel
theorem dX7_loves_77 : decode cX7_loves 77 = .ok (.iload_n 2, 1) := by decide +kernel
theorem dX7_loves_78 : decode cX7_loves 78 = .ok (.if_icmp .ne 10, 3) := by decide +kernel
theorem dX7_loves_81 : decode cX7_loves 81 = .ok (.iload_n 3, 1) := by decide +kernel
theorem dX7_loves_82 : decode cX7_loves 82 = .ok (.iconst 1, 1) := by decide +kernel
theorem dX7_loves_83 : decode cX7_loves 83 = .ok (.iload 4, 2) := by decide +kernel
theorem dX7_loves_85 : decode cX7_loves 85 = .ok (.ishl, 1) := by decide +kernel
theorem dX7_loves_86 : decode cX7_loves 86 = .ok (.ior, 1) := by decide +kernel
theorem dX7_loves_87 : decode cX7_loves 87 = .ok (.istore_n 3, 1) := by decide +kernel
theorem dX7_loves_88 : decode cX7_loves 88 = .ok (.iinc 4 1, 3) := by decide +kernel
theorem dX7_loves_91 : decode cX7_loves 91 = .ok (.goto (-53), 3) := by decide +kernel
theorem dX7_loves_94 : decode cX7_loves 94 = .ok (.iload_n 3, 1) := by decide +kernel
theorem dX7_loves_95 : decode cX7_loves 95 = .ok (.ireturn, 1) := by decide +kernel
theorem dX7_away_0 : decode cX7_away 0 = .ok (.aload_n 0, 1) := by decide +kernel
theorem dX7_away_1 : decode cX7_away 1 = .ok (.getfield 26, 3) := by decide +kernel
theorem dX7_away_4 : decode cX7_away 4 = .ok (.iload_n 1, 1) := by decide +kernel
theorem dX7_away_5 : decode cX7_away 5 = .ok (.invokevirtual 103, 3) := by decide +kernel
theorem dX7_away_8 : decode cX7_away 8 = .ok (.ifCond .eq 31, 3) := by decide +kernel
theorem dX7_away_11 : decode cX7_away 11 = .ok (.iload_n 2, 1) := by decide +kernel
theorem dX7_away_12 : decode cX7_away 12 = .ok (.bipush 8, 2) := by decide +kernel
theorem dX7_away_14 : decode cX7_away 14 = .ok (.invokestatic 153, 3) := by decide +kernel
theorem dX7_away_17 : decode cX7_away 17 = .ok (.ifCond .eq 22, 3) := by decide +kernel
theorem dX7_away_20 : decode cX7_away 20 = .ok (.iload_n 3, 1) := by decide +kernel
theorem dX7_away_21 : decode cX7_away 21 = .ok (.ifCond .lt 18, 3) := by decide +kernel
theorem dX7_away_24 : decode cX7_away 24 = .ok (.iload_n 3, 1) := by decide +kernel
theorem dX7_away_25 : decode cX7_away 25 = .ok (.bipush 10, 2) := by decide +kernel
theorem dX7_away_27 : decode cX7_away 27 = .ok (.if_icmp .gt 12, 3) := by decide +kernel
theorem dX7_away_30 : decode cX7_away 30 = .ok (.iload 4, 2) := by decide +kernel
theorem dX7_away_32 : decode cX7_away 32 = .ok (.iconst 2, 1) := by decide +kernel
theorem dX7_away_33 : decode cX7_away 33 = .ok (.invokestatic 153, 3) := by decide +kernel
theorem dX7_away_36 : decode cX7_away 36 = .ok (.ifCond .ne 5, 3) := by decide +kernel
theorem dX7_away_39 : decode cX7_away 39 = .ok (.iconst (-1), 1) := by decide +kernel
theorem dX7_away_40 : decode cX7_away 40 = .ok (.ireturn, 1) := by decide +kernel
theorem dX7_away_41 : decode cX7_away 41 = .ok (.iconst 0, 1) := by decide +kernel
theorem dX7_away_42 : decode cX7_away 42 = .ok (.istore 5, 2) := by decide +kernel
theorem dX7_away_44 : decode cX7_away 44 = .ok (.iconst 0, 1) := by decide +kernel
theorem dX7_away_45 : decode cX7_away 45 = .ok (.istore 6, 2) := by decide +kernel
theorem dX7_away_47 : decode cX7_away 47 = .ok (.iconst 0, 1) := by decide +kernel
theorem dX7_away_48 : decode cX7_away 48 = .ok (.istore 7, 2) := by decide +kernel
theorem dX7_away_50 : decode cX7_away 50 = .ok (.iload 7, 2) := by decide +kernel
theorem dX7_away_52 : decode cX7_away 52 = .ok (.iconst 1, 1) := by decide +kernel
theorem dX7_away_53 : decode cX7_away 53 = .ok (.aload_n 0, 1) := by decide +kernel
theorem dX7_away_54 : decode cX7_away 54 = .ok (.getfield 26, 3) := by decide +kernel
theorem dX7_away_57 : decode cX7_away 57 = .ok (.getfield 94, 3) := by decide +kernel
theorem dX7_away_60 : decode cX7_away 60 = .ok (.ishl, 1) := by decide +kernel
theorem dX7_away_61 : decode cX7_away 61 = .ok (.if_icmp .ge 59, 3) := by decide +kernel
theorem dX7_away_64 : decode cX7_away 64 = .ok (.iload 7, 2) := by decide +kernel
theorem dX7_away_66 : decode cX7_away 66 = .ok (.iload_n 1, 1) := by decide +kernel
theorem dX7_away_67 : decode cX7_away 67 = .ok (.ishr, 1) := by decide +kernel
theorem dX7_away_68 : decode cX7_away 68 = .ok (.iconst 1, 1) := by decide +kernel
theorem dX7_away_69 : decode cX7_away 69 = .ok (.iand, 1) := by decide +kernel
theorem dX7_away_70 : decode cX7_away 70 = .ok (.ifCond .ne 6, 3) := by decide +kernel
theorem dX7_away_73 : decode cX7_away 73 = .ok (.goto 41, 3) := by decide +kernel
theorem dX7_away_76 : decode cX7_away 76 = .ok (.aload_n 0, 1) := by decide +kernel
theorem dX7_away_77 : decode cX7_away 77 = .ok (.iload 7, 2) := by decide +kernel
theorem dX7_away_79 : decode cX7_away 79 = .ok (.iload_n 1, 1) := by decide +kernel
theorem dX7_away_80 : decode cX7_away 80 = .ok (.iload_n 3, 1) := by decide +kernel
theorem dX7_away_81 : decode cX7_away 81 = .ok (.invokevirtual 229, 3) := by decide +kernel
theorem dX7_away_84 : decode cX7_away 84 = .ok (.istore 8, 2) := by decide +kernel
theorem dX7_away_86 : decode cX7_away 86 = .ok (.iload 6, 2) := by decide +kernel
theorem dX7_away_88 : decode cX7_away 88 = .ok (.iload 8, 2) := by decide +kernel
theorem dX7_away_90 : decode cX7_away 90 = .ok (.iadd, 1) := by decide +kernel
theorem dX7_away_91 : decode cX7_away 91 = .ok (.istore 6, 2) := by decide +kernel
theorem dX7_away_93 : decode cX7_away 93 = .ok (.aload_n 0, 1) := by decide +kernel
theorem dX7_away_94 : decode cX7_away 94 = .ok (.getfield 26, 3) := by decide +kernel
theorem dX7_away_97 : decode cX7_away 97 = .ok (.iload_n 1, 1) := by decide +kernel
theorem dX7_away_98 : decode cX7_away 98 = .ok (.iload 7, 2) := by decide +kernel
theorem dX7_away_100 : decode cX7_away 100 = .ok (.invokevirtual 233, 3) := by decide +kernel
theorem dX7_away_103 : decode cX7_away 103 = .ok (.iload_n 2, 1) := by decide +kernel
theorem dX7_away_104 : decode cX7_away 104 = .ok (.if_icmp .ne 10, 3) := by decide +kernel
theorem dX7_away_107 : decode cX7_away 107 = .ok (.iload 5, 2) := by decide +kernel
theorem dX7_away_109 : decode cX7_away 109 = .ok (.iload 8, 2) := by decide +kernel
theorem dX7_away_111 : decode cX7_away 111 = .ok (.iadd, 1) := by decide +kernel
theorem dX7_away_112 : decode cX7_away 112 = .ok (.istore 5, 2) := by decide +kernel
theorem dX7_away_114 : decode cX7_away 114 = .ok (.iinc 7 1, 3) := by decide +kernel
theorem dX7_away_117 : decode cX7_away 117 = .ok (.goto (-67), 3) := by decide +kernel
theorem dX7_away_120 : decode cX7_away 120 = .ok (.iload 5, 2) := by decide +kernel
theorem dX7_away_122 : decode cX7_away 122 = .ok (.iload 6, 2) := by decide +kernel
theorem dX7_away_124 : decode cX7_away 124 = .ok (.invokestatic 236, 3) := by decide +kernel
theorem dX7_away_127 : decode cX7_away 127 = .ok (.istore 7, 2) := by decide +kernel
theorem dX7_away_129 : decode cX7_away 129 = .ok (.iload 7, 2) := by decide +kernel
theorem dX7_away_131 : decode cX7_away 131 = .ok (.iconst 1, 1) := by decide +kernel
theorem dX7_away_132 : decode cX7_away 132 = .ok (.if_icmp .ge 6, 3) := by decide +kernel
theorem dX7_away_135 : decode cX7_away 135 = .ok (.bipush (-4), 2) := by decide +kernel
theorem dX7_away_137 : decode cX7_away 137 = .ok (.ireturn, 1) := by decide +kernel
theorem dX7_away_138 : decode cX7_away 138 = .ok (.iload 4, 2) := by decide +kernel
theorem dX7_away_140 : decode cX7_away 140 = .ok (.ifCond .ne 8, 3) := by decide +kernel
theorem dX7_away_143 : decode cX7_away 143 = .ok (.iload 5, 2) := by decide +kernel
theorem dX7_away_145 : decode cX7_away 145 = .ok (.goto 5, 3) := by decide +kernel
theorem dX7_away_148 : decode cX7_away 148 = .ok (.iload 6, 2) := by decide +kernel
theorem dX7_away_150 : decode cX7_away 150 = .ok (.iload 7, 2) := by decide +kernel
theorem dX7_away_152 : decode cX7_away 152 = .ok (.idiv, 1) := by decide +kernel
theorem dX7_away_153 : decode cX7_away 153 = .ok (.ireturn, 1) := by decide +kernel
theorem dX7_evening_0 : decode cX7_evening 0 = .ok (.iload_n 1, 1) := by decide +kernel
theorem dX7_evening_1 : decode cX7_evening 1 = .ok (.ifCond .lt 29, 3) := by decide +kernel
theorem dX7_evening_4 : decode cX7_evening 4 = .ok (.iload_n 1, 1) := by decide +kernel
theorem dX7_evening_5 : decode cX7_evening 5 = .ok (.sipush 9999, 3) := by decide +kernel
theorem dX7_evening_8 : decode cX7_evening 8 = .ok (.if_icmp .gt 22, 3) := by decide +kernel
theorem dX7_evening_11 : decode cX7_evening 11 = .ok (.iload_n 2, 1) := by decide +kernel
theorem dX7_evening_12 : decode cX7_evening 12 = .ok (.iconst 1, 1) := by decide +kernel
theorem dX7_evening_13 : decode cX7_evening 13 = .ok (.if_icmp .lt 17, 3) := by decide +kernel
theorem dX7_evening_16 : decode cX7_evening 16 = .ok (.iload_n 2, 1) := by decide +kernel
theorem dX7_evening_17 : decode cX7_evening 17 = .ok (.bipush 60, 2) := by decide +kernel
theorem dX7_evening_19 : decode cX7_evening 19 = .ok (.if_icmp .gt 11, 3) := by decide +kernel
theorem dX7_evening_22 : decode cX7_evening 22 = .ok (.iload_n 3, 1) := by decide +kernel
theorem dX7_evening_23 : decode cX7_evening 23 = .ok (.iconst 2, 1) := by decide +kernel
theorem dX7_evening_24 : decode cX7_evening 24 = .ok (.invokestatic 153, 3) := by decide +kernel
theorem dX7_evening_27 : decode cX7_evening 27 = .ok (.ifCond .ne 5, 3) := by decide +kernel
theorem dX7_evening_30 : decode cX7_evening 30 = .ok (.iconst (-1), 1) := by decide +kernel
theorem dX7_evening_31 : decode cX7_evening 31 = .ok (.ireturn, 1) := by decide +kernel
theorem dX7_evening_32 : decode cX7_evening 32 = .ok (.aload_n 0, 1) := by decide +kernel
theorem dX7_evening_33 : decode cX7_evening 33 = .ok (.getfield 30, 3) := by decide +kernel
theorem dX7_evening_36 : decode cX7_evening 36 = .ok (.aload_n 0, 1) := by decide +kernel
theorem dX7_evening_37 : decode cX7_evening 37 = .ok (.getfield 26, 3) := by decide +kernel
theorem dX7_evening_40 : decode cX7_evening 40 = .ok (.invokevirtual 97, 3) := by decide +kernel
theorem dX7_evening_43 : decode cX7_evening 43 = .ok (.iconst 0, 1) := by decide +kernel
theorem dX7_evening_44 : decode cX7_evening 44 = .ok (.istore 4, 2) := by decide +kernel
theorem dX7_evening_46 : decode cX7_evening 46 = .ok (.iconst 0, 1) := by decide +kernel
theorem dX7_evening_47 : decode cX7_evening 47 = .ok (.istore 5, 2) := by decide +kernel
theorem dX7_evening_49 : decode cX7_evening 49 = .ok (.iload 5, 2) := by decide +kernel
theorem dX7_evening_51 : decode cX7_evening 51 = .ok (.iload_n 2, 1) := by decide +kernel
theorem dX7_evening_52 : decode cX7_evening 52 = .ok (.if_icmp .ge 34, 3) := by decide +kernel
theorem dX7_evening_55 : decode cX7_evening 55 = .ok (.aload_n 0, 1) := by decide +kernel
theorem dX7_evening_56 : decode cX7_evening 56 = .ok (.getfield 30, 3) := by decide +kernel
theorem dX7_evening_59 : decode cX7_evening 59 = .ok (.iload_n 1, 1) := by decide +kernel
theorem dX7_evening_60 : decode cX7_evening 60 = .ok (.iload 5, 2) := by decide +kernel
theorem dX7_evening_62 : decode cX7_evening 62 = .ok (.invokestatic 239, 3) := by decide +kernel
theorem dX7_evening_65 : decode cX7_evening 65 = .ok (.invokevirtual 242, 3) := by decide +kernel
theorem dX7_evening_68 : decode cX7_evening 68 = .ok (.iload 4, 2) := by decide +kernel
theorem dX7_evening_70 : decode cX7_evening 70 = .ok (.aload_n 0, 1) := by decide +kernel
theorem dX7_evening_71 : decode cX7_evening 71 = .ok (.getfield 30, 3) := by decide +kernel
theorem dX7_evening_74 : decode cX7_evening 74 = .ok (.invokevirtual 147, 3) := by decide +kernel
theorem dX7_evening_77 : decode cX7_evening 77 = .ok (.iadd, 1) := by decide +kernel
theorem dX7_evening_78 : decode cX7_evening 78 = .ok (.istore 4, 2) := by decide +kernel
theorem dX7_evening_80 : decode cX7_evening 80 = .ok (.iinc 5 1, 3) := by decide +kernel
theorem dX7_evening_83 : decode cX7_evening 83 = .ok (.goto (-34), 3) := by decide +kernel
theorem dX7_evening_86 : decode cX7_evening 86 = .ok (.iload_n 3, 1) := by decide +kernel
theorem dX7_evening_87 : decode cX7_evening 87 = .ok (.ifCond .ne 13, 3) := by decide +kernel
theorem dX7_evening_90 : decode cX7_evening 90 = .ok (.aload_n 0, 1) := by decide +kernel
theorem dX7_evening_91 : decode cX7_evening 91 = .ok (.getfield 30, 3) := by decide +kernel
theorem dX7_evening_94 : decode cX7_evening 94 = .ok (.invokevirtual 245, 3) := by decide +kernel
theorem dX7_evening_97 : decode cX7_evening 97 = .ok (.goto 5, 3) := by decide +kernel
theorem dX7_evening_100 : decode cX7_evening 100 = .ok (.iload 4, 2) := by decide +kernel
theorem dX7_evening_102 : decode cX7_evening 102 = .ok (.ireturn, 1) := by decide +kernel
theorem dX7_keep_0 : decode cX7_keep 0 = .ok (.aload_n 0, 1) := by decide +kernel
theorem dX7_keep_1 : decode cX7_keep 1 = .ok (.getfield 65, 3) := by decide +kernel
theorem dX7_keep_4 : decode cX7_keep 4 = .ok (.iconst 2, 1) := by decide +kernel
theorem dX7_keep_5 : decode cX7_keep 5 = .ok (.if_icmp .lt 6, 3) := by decide +kernel
theorem dX7_keep_8 : decode cX7_keep 8 = .ok (.bipush (-3), 2) := by decide +kernel
theorem dX7_keep_10 : decode cX7_keep 10 = .ok (.ireturn, 1) := by decide +kernel
theorem dX7_keep_11 : decode cX7_keep 11 = .ok (.aload_n 0, 1) := by decide +kernel
theorem dX7_keep_12 : decode cX7_keep 12 = .ok (.getfield 61, 3) := by decide +kernel
theorem dX7_keep_15 : decode cX7_keep 15 = .ok (.aload_n 0, 1) := by decide +kernel
theorem dX7_keep_16 : decode cX7_keep 16 = .ok (.getfield 65, 3) := by decide +kernel
theorem dX7_keep_19 : decode cX7_keep 19 = .ok (.aaload, 1) := by decide +kernel
theorem dX7_keep_20 : decode cX7_keep 20 = .ok (.aload_n 0, 1) := by decide +kernel
theorem dX7_keep_21 : decode cX7_keep 21 = .ok (.getfield 26, 3) := by decide +kernel
theorem dX7_keep_24 : decode cX7_keep 24 = .ok (.invokevirtual 97, 3) := by decide +kernel
theorem dX7_keep_27 : decode cX7_keep 27 = .ok (.aload_n 0, 1) := by decide +kernel
theorem dX7_keep_28 : decode cX7_keep 28 = .ok (.dup, 1) := by decide +kernel
theorem dX7_keep_29 : decode cX7_keep 29 = .ok (.getfield 65, 3) := by decide +kernel
theorem dX7_keep_32 : decode cX7_keep 32 = .ok (.iconst 1, 1) := by decide +kernel
theorem dX7_keep_33 : decode cX7_keep 33 = .ok (.iadd, 1) := by decide +kernel
theorem dX7_keep_34 : decode cX7_keep 34 = .ok (.putfield 65, 3) := by decide +kernel
theorem dX7_keep_37 : decode cX7_keep 37 = .ok (.aload_n 0, 1) := by decide +kernel
theorem dX7_keep_38 : decode cX7_keep 38 = .ok (.getfield 65, 3) := by decide +kernel
theorem dX7_keep_41 : decode cX7_keep 41 = .ok (.ireturn, 1) := by decide +kernel
theorem dX7_back_0 : decode cX7_back 0 = .ok (.aload_n 0, 1) := by decide +kernel
theorem dX7_back_1 : decode cX7_back 1 = .ok (.getfield 65, 3) := by decide +kernel
theorem dX7_back_4 : decode cX7_back 4 = .ok (.iconst 1, 1) := by decide +kernel
theorem dX7_back_5 : decode cX7_back 5 = .ok (.if_icmp .ge 6, 3) := by decide +kernel
theorem dX7_back_8 : decode cX7_back 8 = .ok (.bipush (-2), 2) := by decide +kernel
theorem dX7_back_10 : decode cX7_back 10 = .ok (.ireturn, 1) := by decide +kernel
theorem dX7_back_11 : decode cX7_back 11 = .ok (.aload_n 0, 1) := by decide +kernel
theorem dX7_back_12 : decode cX7_back 12 = .ok (.dup, 1) := by decide +kernel
theorem dX7_back_13 : decode cX7_back 13 = .ok (.getfield 65, 3) := by decide +kernel
theorem dX7_back_16 : decode cX7_back 16 = .ok (.iconst 1, 1) := by decide +kernel
theorem dX7_back_17 : decode cX7_back 17 = .ok (.isub, 1) := by decide +kernel
theorem dX7_back_18 : decode cX7_back 18 = .ok (.putfield 65, 3) := by decide +kernel
theorem dX7_back_21 : decode cX7_back 21 = .ok (.aload_n 0, 1) := by decide +kernel
theorem dX7_back_22 : decode cX7_back 22 = .ok (.getfield 26, 3) := by decide +kernel
theorem dX7_back_25 : decode cX7_back 25 = .ok (.aload_n 0, 1) := by decide +kernel
theorem dX7_back_26 : decode cX7_back 26 = .ok (.getfield 61, 3) := by decide +kernel
theorem dX7_back_29 : decode cX7_back 29 = .ok (.aload_n 0, 1) := by decide +kernel
theorem dX7_back_30 : decode cX7_back 30 = .ok (.getfield 65, 3) := by decide +kernel
theorem dX7_back_33 : decode cX7_back 33 = .ok (.aaload, 1) := by decide +kernel
theorem dX7_back_34 : decode cX7_back 34 = .ok (.invokevirtual 97, 3) := by decide +kernel
theorem dX7_back_37 : decode cX7_back 37 = .ok (.aload_n 0, 1) := by decide +kernel
theorem dX7_back_38 : decode cX7_back 38 = .ok (.getfield 36, 3) := by decide +kernel
theorem dX7_back_41 : decode cX7_back 41 = .ok (.invokevirtual 101, 3) := by decide +kernel
theorem dX7_back_44 : decode cX7_back 44 = .ok (.aload_n 0, 1) := by decide +kernel
theorem dX7_back_45 : decode cX7_back 45 = .ok (.getfield 65, 3) := by decide +kernel
theorem dX7_back_48 : decode cX7_back 48 = .ok (.ireturn, 1) := by decide +kernel
theorem dX7_count_0 : decode cX7_count 0 = .ok (.iload_n 1, 1) := by decide +kernel
theorem dX7_count_1 : decode cX7_count 1 = .ok (.tableswitch 132 0 9 #[55, 63, 71, 79, 87, 95, 103, 111, 119, 124], 55) := by decide +kernel
theorem dX7_count_56 : decode cX7_count 56 = .ok (.aload_n 0, 1) := by decide +kernel
theorem dX7_count_57 : decode cX7_count 57 = .ok (.getfield 26, 3) := by decide +kernel
theorem dX7_count_60 : decode cX7_count 60 = .ok (.getfield 194, 3) := by decide +kernel
theorem dX7_count_63 : decode cX7_count 63 = .ok (.ireturn, 1) := by decide +kernel
theorem dX7_count_64 : decode cX7_count 64 = .ok (.aload_n 0, 1) := by decide +kernel
theorem dX7_count_65 : decode cX7_count 65 = .ok (.getfield 26, 3) := by decide +kernel
theorem dX7_count_68 : decode cX7_count 68 = .ok (.getfield 197, 3) := by decide +kernel
theorem dX7_count_71 : decode cX7_count 71 = .ok (.ireturn, 1) := by decide +kernel
theorem dX7_count_72 : decode cX7_count 72 = .ok (.aload_n 0, 1) := by decide +kernel
theorem dX7_count_73 : decode cX7_count 73 = .ok (.getfield 26, 3) := by decide +kernel
theorem dX7_count_76 : decode cX7_count 76 = .ok (.getfield 94, 3) := by decide +kernel
theorem dX7_count_79 : decode cX7_count 79 = .ok (.ireturn, 1) := by decide +kernel
theorem dX7_count_80 : decode cX7_count 80 = .ok (.aload_n 0, 1) := by decide +kernel
theorem dX7_count_81 : decode cX7_count 81 = .ok (.getfield 26, 3) := by decide +kernel
theorem dX7_count_84 : decode cX7_count 84 = .ok (.getfield 150, 3) := by decide +kernel
theorem dX7_count_87 : decode cX7_count 87 = .ok (.ireturn, 1) := by decide +kernel
theorem dX7_count_88 : decode cX7_count 88 = .ok (.aload_n 0, 1) := by decide +kernel
theorem dX7_count_89 : decode cX7_count 89 = .ok (.getfield 26, 3) := by decide +kernel
theorem dX7_count_92 : decode cX7_count 92 = .ok (.invokevirtual 248, 3) := by decide +kernel
theorem dX7_count_95 : decode cX7_count 95 = .ok (.ireturn, 1) := by decide +kernel
theorem dX7_count_96 : decode cX7_count 96 = .ok (.aload_n 0, 1) := by decide +kernel
theorem dX7_count_97 : decode cX7_count 97 = .ok (.getfield 26, 3) := by decide +kernel
theorem dX7_count_100 : decode cX7_count 100 = .ok (.invokevirtual 251, 3) := by decide +kernel
theorem dX7_count_103 : decode cX7_count 103 = .ok (.ireturn, 1) := by decide +kernel
theorem dX7_count_104 : decode cX7_count 104 = .ok (.aload_n 0, 1) := by decide +kernel
theorem dX7_count_105 : decode cX7_count 105 = .ok (.getfield 43, 3) := by decide +kernel
theorem dX7_count_108 : decode cX7_count 108 = .ok (.getfield 218, 3) := by decide +kernel
theorem dX7_count_111 : decode cX7_count 111 = .ok (.ireturn, 1) := by decide +kernel
theorem dX7_count_112 : decode cX7_count 112 = .ok (.aload_n 0, 1) := by decide +kernel
theorem dX7_count_113 : decode cX7_count 113 = .ok (.getfield 36, 3) := by decide +kernel
theorem dX7_count_116 : decode cX7_count 116 = .ok (.getfield 170, 3) := by decide +kernel
theorem dX7_count_119 : decode cX7_count 119 = .ok (.ireturn, 1) := by decide +kernel
theorem dX7_count_120 : decode cX7_count 120 = .ok (.aload_n 0, 1) := by decide +kernel
theorem dX7_count_121 : decode cX7_count 121 = .ok (.getfield 65, 3) := by decide +kernel
theorem dX7_count_124 : decode cX7_count 124 = .ok (.ireturn, 1) := by decide +kernel
theorem dX7_count_125 : decode cX7_count 125 = .ok (.aload_n 0, 1) := by decide +kernel
theorem dX7_count_126 : decode cX7_count 126 = .ok (.getfield 12, 3) := by decide +kernel
theorem dX7_count_129 : decode cX7_count 129 = .ok (.getfield 92, 3) := by decide +kernel
theorem dX7_count_132 : decode cX7_count 132 = .ok (.ireturn, 1) := by decide +kernel
theorem dX7_count_133 : decode cX7_count 133 = .ok (.iconst (-1), 1) := by decide +kernel
theorem dX7_count_134 : decode cX7_count 134 = .ok (.ireturn, 1) := by decide +kernel
theorem dX7_isBelow_0 : decode cX7_isBelow 0 = .ok (.iload_n 0, 1) := by decide +kernel
theorem dX7_isBelow_1 : decode cX7_isBelow 1 = .ok (.ifCond .lt 12, 3) := by decide +kernel
theorem dX7_isBelow_4 : decode cX7_isBelow 4 = .ok (.iload_n 0, 1) := by decide +kernel
theorem dX7_isBelow_5 : decode cX7_isBelow 5 = .ok (.iload_n 1, 1) := by decide +kernel
theorem dX7_isBelow_6 : decode cX7_isBelow 6 = .ok (.if_icmp .ge 7, 3) := by decide +kernel
theorem dX7_isBelow_9 : decode cX7_isBelow 9 = .ok (.iconst 1, 1) := by decide +kernel
theorem dX7_isBelow_10 : decode cX7_isBelow 10 = .ok (.goto 4, 3) := by decide +kernel
theorem dX7_isBelow_13 : decode cX7_isBelow 13 = .ok (.iconst 0, 1) := by decide +kernel
theorem dX7_isBelow_14 : decode cX7_isBelow 14 = .ok (.ireturn, 1) := by decide +kernel
theorem dX7_placeNumber_0 : decode cX7_placeNumber 0 = .ok (.bipush 10, 2) := by decide +kernel
theorem dX7_placeNumber_2 : decode cX7_placeNumber 2 = .ok (.iload_n 0, 1) := by decide +kernel
theorem dX7_placeNumber_3 : decode cX7_placeNumber 3 = .ok (.imul, 1) := by decide +kernel
theorem dX7_placeNumber_4 : decode cX7_placeNumber 4 = .ok (.iload_n 1, 1) := by decide +kernel
theorem dX7_placeNumber_5 : decode cX7_placeNumber 5 = .ok (.iadd, 1) := by decide +kernel
theorem dX7_placeNumber_6 : decode cX7_placeNumber 6 = .ok (.ireturn, 1) := by decide +kernel
theorem dX7_weightOf_0 : decode cX7_weightOf 0 = .ok (.iconst 1, 1) := by decide +kernel
theorem dX7_weightOf_1 : decode cX7_weightOf 1 = .ok (.istore 4, 2) := by decide +kernel
theorem dX7_weightOf_3 : decode cX7_weightOf 3 = .ok (.iconst 0, 1) := by decide +kernel
theorem dX7_weightOf_4 : decode cX7_weightOf 4 = .ok (.istore 5, 2) := by decide +kernel
theorem dX7_weightOf_6 : decode cX7_weightOf 6 = .ok (.iload 5, 2) := by decide +kernel
theorem dX7_weightOf_8 : decode cX7_weightOf 8 = .ok (.aload_n 0, 1) := by decide +kernel
theorem dX7_weightOf_9 : decode cX7_weightOf 9 = .ok (.getfield 26, 3) := by decide +kernel
theorem dX7_weightOf_12 : decode cX7_weightOf 12 = .ok (.getfield 94, 3) := by decide +kernel
theorem dX7_weightOf_15 : decode cX7_weightOf 15 = .ok (.if_icmp .ge 38, 3) := by decide +kernel
theorem dX7_weightOf_18 : decode cX7_weightOf 18 = .ok (.iload 5, 2) := by decide +kernel
theorem dX7_weightOf_20 : decode cX7_weightOf 20 = .ok (.iload_n 2, 1) := by decide +kernel
theorem dX7_weightOf_21 : decode cX7_weightOf 21 = .ok (.if_icmp .eq 26, 3) := by decide +kernel
theorem dX7_weightOf_24 : decode cX7_weightOf 24 = .ok (.iload 4, 2) := by decide +kernel
theorem dX7_weightOf_26 : decode cX7_weightOf 26 = .ok (.iload_n 1, 1) := by decide +kernel
theorem dX7_weightOf_27 : decode cX7_weightOf 27 = .ok (.iload 5, 2) := by decide +kernel
theorem dX7_weightOf_29 : decode cX7_weightOf 29 = .ok (.ishr, 1) := by decide +kernel
theorem dX7_weightOf_30 : decode cX7_weightOf 30 = .ok (.iconst 1, 1) := by decide +kernel
theorem dX7_weightOf_31 : decode cX7_weightOf 31 = .ok (.iand, 1) := by decide +kernel
theorem dX7_weightOf_32 : decode cX7_weightOf 32 = .ok (.iconst 1, 1) := by decide +kernel
theorem dX7_weightOf_33 : decode cX7_weightOf 33 = .ok (.if_icmp .ne 10, 3) := by decide +kernel
theorem dX7_weightOf_36 : decode cX7_weightOf 36 = .ok (.bipush 10, 2) := by decide +kernel
theorem dX7_weightOf_38 : decode cX7_weightOf 38 = .ok (.iload_n 3, 1) := by decide +kernel
theorem dX7_weightOf_39 : decode cX7_weightOf 39 = .ok (.isub, 1) := by decide +kernel
theorem dX7_weightOf_40 : decode cX7_weightOf 40 = .ok (.goto 4, 3) := by decide +kernel
theorem dX7_weightOf_43 : decode cX7_weightOf 43 = .ok (.iload_n 3, 1) := by decide +kernel
theorem dX7_weightOf_44 : decode cX7_weightOf 44 = .ok (.imul, 1) := by decide +kernel
theorem dX7_weightOf_45 : decode cX7_weightOf 45 = .ok (.istore 4, 2) := by decide +kernel
theorem dX7_weightOf_47 : decode cX7_weightOf 47 = .ok (.iinc 5 1, 3) := by decide +kernel
theorem dX7_weightOf_50 : decode cX7_weightOf 50 = .ok (.goto (-44), 3) := by decide +kernel
theorem dX7_weightOf_53 : decode cX7_weightOf 53 = .ok (.iload 4, 2) := by decide +kernel
theorem dX7_weightOf_55 : decode cX7_weightOf 55 = .ok (.ireturn, 1) := by decide +kernel
theorem dX7_greatestShared_0 : decode cX7_greatestShared 0 = .ok (.iload_n 0, 1) := by decide +kernel
theorem dX7_greatestShared_1 : decode cX7_greatestShared 1 = .ok (.istore_n 2, 1) := by decide +kernel
theorem dX7_greatestShared_2 : decode cX7_greatestShared 2 = .ok (.iload_n 1, 1) := by decide +kernel
theorem dX7_greatestShared_3 : decode cX7_greatestShared 3 = .ok (.istore_n 3, 1) := by decide +kernel
theorem dX7_greatestShared_4 : decode cX7_greatestShared 4 = .ok (.iconst 0, 1) := by decide +kernel
theorem dX7_greatestShared_5 : decode cX7_greatestShared 5 = .ok (.istore 4, 2) := by decide +kernel
theorem dX7_greatestShared_7 : decode cX7_greatestShared 7 = .ok (.iload 4, 2) := by decide +kernel
theorem dX7_greatestShared_9 : decode cX7_greatestShared 9 = .ok (.bipush 64, 2) := by decide +kernel
theorem dX7_greatestShared_11 : decode cX7_greatestShared 11 = .ok (.if_icmp .ge 23, 3) := by decide +kernel
theorem dX7_greatestShared_14 : decode cX7_greatestShared 14 = .ok (.iload_n 3, 1) := by decide +kernel
theorem dX7_greatestShared_15 : decode cX7_greatestShared 15 = .ok (.ifCond .eq 19, 3) := by decide +kernel
theorem dX7_greatestShared_18 : decode cX7_greatestShared 18 = .ok (.iload_n 2, 1) := by decide +kernel
theorem dX7_greatestShared_19 : decode cX7_greatestShared 19 = .ok (.iload_n 3, 1) := by decide +kernel
theorem dX7_greatestShared_20 : decode cX7_greatestShared 20 = .ok (.irem, 1) := by decide +kernel
theorem dX7_greatestShared_21 : decode cX7_greatestShared 21 = .ok (.istore 5, 2) := by decide +kernel
theorem dX7_greatestShared_23 : decode cX7_greatestShared 23 = .ok (.iload_n 3, 1) := by decide +kernel
theorem dX7_greatestShared_24 : decode cX7_greatestShared 24 = .ok (.istore_n 2, 1) := by decide +kernel
theorem dX7_greatestShared_25 : decode cX7_greatestShared 25 = .ok (.iload 5, 2) := by decide +kernel
theorem dX7_greatestShared_27 : decode cX7_greatestShared 27 = .ok (.istore_n 3, 1) := by decide +kernel
theorem dX7_greatestShared_28 : decode cX7_greatestShared 28 = .ok (.iinc 4 1, 3) := by decide +kernel
theorem dX7_greatestShared_31 : decode cX7_greatestShared 31 = .ok (.goto (-24), 3) := by decide +kernel
theorem dX7_greatestShared_34 : decode cX7_greatestShared 34 = .ok (.iload_n 2, 1) := by decide +kernel
theorem dX7_greatestShared_35 : decode cX7_greatestShared 35 = .ok (.ireturn, 1) := by decide +kernel
theorem dX7_drawFor_0 : decode cX7_drawFor 0 = .ok (.ldc2_w 254, 3) := by decide +kernel
theorem dX7_drawFor_3 : decode cX7_drawFor 3 = .ok (.iload_n 0, 1) := by decide +kernel
theorem dX7_drawFor_4 : decode cX7_drawFor 4 = .ok (.i2l, 1) := by decide +kernel
theorem dX7_drawFor_5 : decode cX7_drawFor 5 = .ok (.lmul, 1) := by decide +kernel
theorem dX7_drawFor_6 : decode cX7_drawFor 6 = .ok (.ldc2_w 256, 3) := by decide +kernel
theorem dX7_drawFor_9 : decode cX7_drawFor 9 = .ok (.iload_n 1, 1) := by decide +kernel
theorem dX7_drawFor_10 : decode cX7_drawFor 10 = .ok (.i2l, 1) := by decide +kernel
theorem dX7_drawFor_11 : decode cX7_drawFor 11 = .ok (.lmul, 1) := by decide +kernel
theorem dX7_drawFor_12 : decode cX7_drawFor 12 = .ok (.ladd, 1) := by decide +kernel
theorem dX7_drawFor_13 : decode cX7_drawFor 13 = .ok (.lconst 1, 1) := by decide +kernel
theorem dX7_drawFor_14 : decode cX7_drawFor 14 = .ok (.ladd, 1) := by decide +kernel
theorem dX7_drawFor_15 : decode cX7_drawFor 15 = .ok (.lstore_n 2, 1) := by decide +kernel
theorem dX7_drawFor_16 : decode cX7_drawFor 16 = .ok (.lload_n 2, 1) := by decide +kernel
theorem dX7_drawFor_17 : decode cX7_drawFor 17 = .ok (.lload_n 2, 1) := by decide +kernel
theorem dX7_drawFor_18 : decode cX7_drawFor 18 = .ok (.lmul, 1) := by decide +kernel
theorem dX7_drawFor_19 : decode cX7_drawFor 19 = .ok (.ldc2_w 258, 3) := by decide +kernel
theorem dX7_drawFor_22 : decode cX7_drawFor 22 = .ok (.lrem, 1) := by decide +kernel
theorem dX7_drawFor_23 : decode cX7_drawFor 23 = .ok (.l2i, 1) := by decide +kernel
theorem dX7_drawFor_24 : decode cX7_drawFor 24 = .ok (.ireturn, 1) := by decide +kernel
theorem dX7_wayBy_0 : decode cX7_wayBy 0 = .ok (.iload_n 0, 1) := by decide +kernel
theorem dX7_wayBy_1 : decode cX7_wayBy 1 = .ok (.invokestatic 260, 3) := by decide +kernel
theorem dX7_wayBy_4 : decode cX7_wayBy 4 = .ok (.istore_n 2, 1) := by decide +kernel
theorem dX7_wayBy_5 : decode cX7_wayBy 5 = .ok (.iload_n 1, 1) := by decide +kernel
theorem dX7_wayBy_6 : decode cX7_wayBy 6 = .ok (.invokestatic 260, 3) := by decide +kernel
theorem dX7_wayBy_9 : decode cX7_wayBy 9 = .ok (.istore_n 3, 1) := by decide +kernel
theorem dX7_wayBy_10 : decode cX7_wayBy 10 = .ok (.iload_n 2, 1) := by decide +kernel
theorem dX7_wayBy_11 : decode cX7_wayBy 11 = .ok (.ifCond .ne 10, 3) := by decide +kernel
theorem dX7_wayBy_14 : decode cX7_wayBy 14 = .ok (.iload_n 3, 1) := by decide +kernel
theorem dX7_wayBy_15 : decode cX7_wayBy 15 = .ok (.ifCond .ne 6, 3) := by decide +kernel
theorem dX7_wayBy_18 : decode cX7_wayBy 18 = .ok (.bipush (-4), 2) := by decide +kernel
theorem dX7_wayBy_20 : decode cX7_wayBy 20 = .ok (.ireturn, 1) := by decide +kernel
theorem dX7_wayBy_21 : decode cX7_wayBy 21 = .ok (.iload_n 2, 1) := by decide +kernel
theorem dX7_wayBy_22 : decode cX7_wayBy 22 = .ok (.iconst 2, 1) := by decide +kernel
theorem dX7_wayBy_23 : decode cX7_wayBy 23 = .ok (.iload_n 3, 1) := by decide +kernel
theorem dX7_wayBy_24 : decode cX7_wayBy 24 = .ok (.imul, 1) := by decide +kernel
theorem dX7_wayBy_25 : decode cX7_wayBy 25 = .ok (.if_icmp .le 14, 3) := by decide +kernel
theorem dX7_wayBy_28 : decode cX7_wayBy 28 = .ok (.iload_n 0, 1) := by decide +kernel
theorem dX7_wayBy_29 : decode cX7_wayBy 29 = .ok (.ifCond .le 7, 3) := by decide +kernel
theorem dX7_wayBy_32 : decode cX7_wayBy 32 = .ok (.iconst 2, 1) := by decide +kernel
theorem dX7_wayBy_33 : decode cX7_wayBy 33 = .ok (.goto 5, 3) := by decide +kernel
theorem dX7_wayBy_36 : decode cX7_wayBy 36 = .ok (.bipush 6, 2) := by decide +kernel
theorem dX7_wayBy_38 : decode cX7_wayBy 38 = .ok (.ireturn, 1) := by decide +kernel
theorem dX7_wayBy_39 : decode cX7_wayBy 39 = .ok (.iload_n 3, 1) := by decide +kernel
theorem dX7_wayBy_40 : decode cX7_wayBy 40 = .ok (.iconst 2, 1) := by decide +kernel
theorem dX7_wayBy_41 : decode cX7_wayBy 41 = .ok (.iload_n 2, 1) := by decide +kernel
theorem dX7_wayBy_42 : decode cX7_wayBy 42 = .ok (.imul, 1) := by decide +kernel
theorem dX7_wayBy_43 : decode cX7_wayBy 43 = .ok (.if_icmp .le 13, 3) := by decide +kernel
theorem dX7_wayBy_46 : decode cX7_wayBy 46 = .ok (.iload_n 1, 1) := by decide +kernel
theorem dX7_wayBy_47 : decode cX7_wayBy 47 = .ok (.ifCond .le 7, 3) := by decide +kernel
theorem dX7_wayBy_50 : decode cX7_wayBy 50 = .ok (.iconst 4, 1) := by decide +kernel
theorem dX7_wayBy_51 : decode cX7_wayBy 51 = .ok (.goto 4, 3) := by decide +kernel
theorem dX7_wayBy_54 : decode cX7_wayBy 54 = .ok (.iconst 0, 1) := by decide +kernel
theorem dX7_wayBy_55 : decode cX7_wayBy 55 = .ok (.ireturn, 1) := by decide +kernel
theorem dX7_wayBy_56 : decode cX7_wayBy 56 = .ok (.iload_n 0, 1) := by decide +kernel
theorem dX7_wayBy_57 : decode cX7_wayBy 57 = .ok (.ifCond .le 13, 3) := by decide +kernel
theorem dX7_wayBy_60 : decode cX7_wayBy 60 = .ok (.iload_n 1, 1) := by decide +kernel
theorem dX7_wayBy_61 : decode cX7_wayBy 61 = .ok (.ifCond .le 7, 3) := by decide +kernel
theorem dX7_wayBy_64 : decode cX7_wayBy 64 = .ok (.iconst 3, 1) := by decide +kernel
theorem dX7_wayBy_65 : decode cX7_wayBy 65 = .ok (.goto 4, 3) := by decide +kernel
theorem dX7_wayBy_68 : decode cX7_wayBy 68 = .ok (.iconst 1, 1) := by decide +kernel
theorem dX7_wayBy_69 : decode cX7_wayBy 69 = .ok (.ireturn, 1) := by decide +kernel
theorem dX7_wayBy_70 : decode cX7_wayBy 70 = .ok (.iload_n 1, 1) := by decide +kernel
theorem dX7_wayBy_71 : decode cX7_wayBy 71 = .ok (.ifCond .le 7, 3) := by decide +kernel
theorem dX7_wayBy_74 : decode cX7_wayBy 74 = .ok (.iconst 5, 1) := by decide +kernel
theorem dX7_wayBy_75 : decode cX7_wayBy 75 = .ok (.goto 5, 3) := by decide +kernel
theorem dX7_wayBy_78 : decode cX7_wayBy 78 = .ok (.bipush 7, 2) := by decide +kernel
theorem dX7_wayBy_80 : decode cX7_wayBy 80 = .ok (.ireturn, 1) := by decide +kernel
theorem dX7_toldNext_0 : decode cX7_toldNext 0 = .ok (.iload_n 0, 1) := by decide +kernel
theorem dX7_toldNext_1 : decode cX7_toldNext 1 = .ok (.iconst 2, 1) := by decide +kernel
theorem dX7_toldNext_2 : decode cX7_toldNext 2 = .ok (.if_icmp .ne 10, 3) := by decide +kernel
theorem dX7_toldNext_5 : decode cX7_toldNext 5 = .ok (.iload_n 1, 1) := by decide +kernel
theorem dX7_toldNext_6 : decode cX7_toldNext 6 = .ok (.iconst 1, 1) := by decide +kernel
theorem dX7_toldNext_7 : decode cX7_toldNext 7 = .ok (.iadd, 1) := by decide +kernel
theorem dX7_toldNext_8 : decode cX7_toldNext 8 = .ok (.bipush 8, 2) := by decide +kernel
theorem dX7_toldNext_10 : decode cX7_toldNext 10 = .ok (.irem, 1) := by decide +kernel
theorem dX7_toldNext_11 : decode cX7_toldNext 11 = .ok (.ireturn, 1) := by decide +kernel
theorem dX7_toldNext_12 : decode cX7_toldNext 12 = .ok (.iload_n 2, 1) := by decide +kernel
theorem dX7_toldNext_13 : decode cX7_toldNext 13 = .ok (.bipush (-4), 2) := by decide +kernel
theorem dX7_toldNext_15 : decode cX7_toldNext 15 = .ok (.if_icmp .ne 5, 3) := by decide +kernel
theorem dX7_toldNext_18 : decode cX7_toldNext 18 = .ok (.iload_n 1, 1) := by decide +kernel
theorem dX7_toldNext_19 : decode cX7_toldNext 19 = .ok (.ireturn, 1) := by decide +kernel
theorem dX7_toldNext_20 : decode cX7_toldNext 20 = .ok (.iload_n 0, 1) := by decide +kernel
theorem dX7_toldNext_21 : decode cX7_toldNext 21 = .ok (.tableswitch 46 0 3 #[31, 33, 46, 39], 31) := by decide +kernel
theorem dX7_toldNext_52 : decode cX7_toldNext 52 = .ok (.iload_n 2, 1) := by decide +kernel
theorem dX7_toldNext_53 : decode cX7_toldNext 53 = .ok (.ireturn, 1) := by decide +kernel
theorem dX7_toldNext_54 : decode cX7_toldNext 54 = .ok (.iload_n 1, 1) := by decide +kernel
theorem dX7_toldNext_55 : decode cX7_toldNext 55 = .ok (.iload_n 2, 1) := by decide +kernel
theorem dX7_toldNext_56 : decode cX7_toldNext 56 = .ok (.invokestatic 265, 3) := by decide +kernel
theorem dX7_toldNext_59 : decode cX7_toldNext 59 = .ok (.ireturn, 1) := by decide +kernel
theorem dX7_toldNext_60 : decode cX7_toldNext 60 = .ok (.iload_n 2, 1) := by decide +kernel
theorem dX7_toldNext_61 : decode cX7_toldNext 61 = .ok (.iconst 4, 1) := by decide +kernel
theorem dX7_toldNext_62 : decode cX7_toldNext 62 = .ok (.iadd, 1) := by decide +kernel
theorem dX7_toldNext_63 : decode cX7_toldNext 63 = .ok (.bipush 8, 2) := by decide +kernel
theorem dX7_toldNext_65 : decode cX7_toldNext 65 = .ok (.irem, 1) := by decide +kernel
theorem dX7_toldNext_66 : decode cX7_toldNext 66 = .ok (.ireturn, 1) := by decide +kernel
theorem dX7_toldNext_67 : decode cX7_toldNext 67 = .ok (.iload_n 1, 1) := by decide +kernel
theorem dX7_toldNext_68 : decode cX7_toldNext 68 = .ok (.ireturn, 1) := by decide +kernel
theorem dX7_toldBehind_0 : decode cX7_toldBehind 0 = .ok (.iload_n 1, 1) := by decide +kernel
theorem dX7_toldBehind_1 : decode cX7_toldBehind 1 = .ok (.istore 4, 2) := by decide +kernel
theorem dX7_toldBehind_3 : decode cX7_toldBehind 3 = .ok (.iconst 0, 1) := by decide +kernel
theorem dX7_toldBehind_4 : decode cX7_toldBehind 4 = .ok (.istore 5, 2) := by decide +kernel
theorem dX7_toldBehind_6 : decode cX7_toldBehind 6 = .ok (.iload 5, 2) := by decide +kernel
theorem dX7_toldBehind_8 : decode cX7_toldBehind 8 = .ok (.iload_n 3, 1) := by decide +kernel
theorem dX7_toldBehind_9 : decode cX7_toldBehind 9 = .ok (.if_icmp .ge 18, 3) := by decide +kernel
theorem dX7_toldBehind_12 : decode cX7_toldBehind 12 = .ok (.iload_n 0, 1) := by decide +kernel
theorem dX7_toldBehind_13 : decode cX7_toldBehind 13 = .ok (.iload 4, 2) := by decide +kernel
theorem dX7_toldBehind_15 : decode cX7_toldBehind 15 = .ok (.iload_n 2, 1) := by decide +kernel
theorem dX7_toldBehind_16 : decode cX7_toldBehind 16 = .ok (.invokestatic 268, 3) := by decide +kernel
theorem dX7_toldBehind_19 : decode cX7_toldBehind 19 = .ok (.istore 4, 2) := by decide +kernel
theorem dX7_toldBehind_21 : decode cX7_toldBehind 21 = .ok (.iinc 5 1, 3) := by decide +kernel
theorem dX7_toldBehind_24 : decode cX7_toldBehind 24 = .ok (.goto (-18), 3) := by decide +kernel
theorem dX7_toldBehind_27 : decode cX7_toldBehind 27 = .ok (.iload 4, 2) := by decide +kernel
theorem dX7_toldBehind_29 : decode cX7_toldBehind 29 = .ok (.ireturn, 1) := by decide +kernel
theorem dX7_turnedOneToward_0 : decode cX7_turnedOneToward 0 = .ok (.iload_n 1, 1) := by decide +kernel
theorem dX7_turnedOneToward_1 : decode cX7_turnedOneToward 1 = .ok (.iload_n 0, 1) := by decide +kernel
theorem dX7_turnedOneToward_2 : decode cX7_turnedOneToward 2 = .ok (.isub, 1) := by decide +kernel
theorem dX7_turnedOneToward_3 : decode cX7_turnedOneToward 3 = .ok (.bipush 8, 2) := by decide +kernel
theorem dX7_turnedOneToward_5 : decode cX7_turnedOneToward 5 = .ok (.iadd, 1) := by decide +kernel
theorem dX7_turnedOneToward_6 : decode cX7_turnedOneToward 6 = .ok (.bipush 8, 2) := by decide +kernel
theorem dX7_turnedOneToward_8 : decode cX7_turnedOneToward 8 = .ok (.irem, 1) := by decide +kernel
theorem dX7_turnedOneToward_9 : decode cX7_turnedOneToward 9 = .ok (.istore_n 2, 1) := by decide +kernel
theorem dX7_turnedOneToward_10 : decode cX7_turnedOneToward 10 = .ok (.iload_n 2, 1) := by decide +kernel
theorem dX7_turnedOneToward_11 : decode cX7_turnedOneToward 11 = .ok (.ifCond .ne 5, 3) := by decide +kernel
theorem dX7_turnedOneToward_14 : decode cX7_turnedOneToward 14 = .ok (.iload_n 0, 1) := by decide +kernel
theorem dX7_turnedOneToward_15 : decode cX7_turnedOneToward 15 = .ok (.ireturn, 1) := by decide +kernel
theorem dX7_turnedOneToward_16 : decode cX7_turnedOneToward 16 = .ok (.iload_n 2, 1) := by decide +kernel
theorem dX7_turnedOneToward_17 : decode cX7_turnedOneToward 17 = .ok (.iconst 4, 1) := by decide +kernel
theorem dX7_turnedOneToward_18 : decode cX7_turnedOneToward 18 = .ok (.if_icmp .gt 12, 3) := by decide +kernel
theorem dX7_turnedOneToward_21 : decode cX7_turnedOneToward 21 = .ok (.iload_n 0, 1) := by decide +kernel
theorem dX7_turnedOneToward_22 : decode cX7_turnedOneToward 22 = .ok (.iconst 1, 1) := by decide +kernel
theorem dX7_turnedOneToward_23 : decode cX7_turnedOneToward 23 = .ok (.iadd, 1) := by decide +kernel
theorem dX7_turnedOneToward_24 : decode cX7_turnedOneToward 24 = .ok (.bipush 8, 2) := by decide +kernel
theorem dX7_turnedOneToward_26 : decode cX7_turnedOneToward 26 = .ok (.irem, 1) := by decide +kernel
theorem dX7_turnedOneToward_27 : decode cX7_turnedOneToward 27 = .ok (.goto 12, 3) := by decide +kernel
theorem dX7_turnedOneToward_30 : decode cX7_turnedOneToward 30 = .ok (.iload_n 0, 1) := by decide +kernel
theorem dX7_turnedOneToward_31 : decode cX7_turnedOneToward 31 = .ok (.bipush 8, 2) := by decide +kernel
theorem dX7_turnedOneToward_33 : decode cX7_turnedOneToward 33 = .ok (.iadd, 1) := by decide +kernel
theorem dX7_turnedOneToward_34 : decode cX7_turnedOneToward 34 = .ok (.iconst 1, 1) := by decide +kernel
theorem dX7_turnedOneToward_35 : decode cX7_turnedOneToward 35 = .ok (.isub, 1) := by decide +kernel
theorem dX7_turnedOneToward_36 : decode cX7_turnedOneToward 36 = .ok (.bipush 8, 2) := by decide +kernel
theorem dX7_turnedOneToward_38 : decode cX7_turnedOneToward 38 = .ok (.irem, 1) := by decide +kernel
theorem dX7_turnedOneToward_39 : decode cX7_turnedOneToward 39 = .ok (.ireturn, 1) := by decide +kernel
theorem dX8_init_0 : decode cX8_init 0 = .ok (.aload_n 0, 1) := by decide +kernel
theorem dX8_init_1 : decode cX8_init 1 = .ok (.invokespecial 1, 3) := by decide +kernel
theorem dX8_init_4 : decode cX8_init 4 = .ok (.aload_n 0, 1) := by decide +kernel
theorem dX8_init_5 : decode cX8_init 5 = .ok (.sipush 200, 3) := by decide +kernel
theorem dX8_init_8 : decode cX8_init 8 = .ok (.newarray .int, 2) := by decide +kernel
theorem dX8_init_10 : decode cX8_init 10 = .ok (.putfield 7, 3) := by decide +kernel
theorem dX8_init_13 : decode cX8_init 13 = .ok (.aload_n 0, 1) := by decide +kernel
theorem dX8_init_14 : decode cX8_init 14 = .ok (.bipush 9, 2) := by decide +kernel
theorem dX8_init_16 : decode cX8_init 16 = .ok (.newarray .int, 2) := by decide +kernel
theorem dX8_init_18 : decode cX8_init 18 = .ok (.putfield 13, 3) := by decide +kernel
theorem dX8_init_21 : decode cX8_init 21 = .ok (.aload_n 0, 1) := by decide +kernel
theorem dX8_init_22 : decode cX8_init 22 = .ok (.bipush 9, 2) := by decide +kernel
theorem dX8_init_24 : decode cX8_init 24 = .ok (.newarray .int, 2) := by decide +kernel
theorem dX8_init_26 : decode cX8_init 26 = .ok (.putfield 16, 3) := by decide +kernel
theorem dX8_init_29 : decode cX8_init 29 = .ok (.aload_n 0, 1) := by decide +kernel
theorem dX8_init_30 : decode cX8_init 30 = .ok (.bipush 55, 2) := by decide +kernel
theorem dX8_init_32 : decode cX8_init 32 = .ok (.newarray .int, 2) := by decide +kernel
theorem dX8_init_34 : decode cX8_init 34 = .ok (.putfield 19, 3) := by decide +kernel
theorem dX8_init_37 : decode cX8_init 37 = .ok (.aload_n 0, 1) := by decide +kernel
theorem dX8_init_38 : decode cX8_init 38 = .ok (.bipush 55, 2) := by decide +kernel
theorem dX8_init_40 : decode cX8_init 40 = .ok (.newarray .int, 2) := by decide +kernel
theorem dX8_init_42 : decode cX8_init 42 = .ok (.putfield 22, 3) := by decide +kernel
theorem dX8_init_45 : decode cX8_init 45 = .ok (.aload_n 0, 1) := by decide +kernel
theorem dX8_init_46 : decode cX8_init 46 = .ok (.sipush 440, 3) := by decide +kernel
theorem dX8_init_49 : decode cX8_init 49 = .ok (.newarray .int, 2) := by decide +kernel
theorem dX8_init_51 : decode cX8_init 51 = .ok (.putfield 25, 3) := by decide +kernel
theorem dX8_init_54 : decode cX8_init 54 = .ok (.aload_n 0, 1) := by decide +kernel
theorem dX8_init_55 : decode cX8_init 55 = .ok (.bipush 110, 2) := by decide +kernel
theorem dX8_init_57 : decode cX8_init 57 = .ok (.newarray .int, 2) := by decide +kernel
theorem dX8_init_59 : decode cX8_init 59 = .ok (.putfield 28, 3) := by decide +kernel
theorem dX8_init_62 : decode cX8_init 62 = .ok (.aload_n 0, 1) := by decide +kernel
theorem dX8_init_63 : decode cX8_init 63 = .ok (.bipush 18, 2) := by decide +kernel
theorem dX8_init_65 : decode cX8_init 65 = .ok (.newarray .int, 2) := by decide +kernel
theorem dX8_init_67 : decode cX8_init 67 = .ok (.putfield 31, 3) := by decide +kernel
theorem dX8_init_70 : decode cX8_init 70 = .ok (.aload_n 0, 1) := by decide +kernel
theorem dX8_init_71 : decode cX8_init 71 = .ok (.bipush 55, 2) := by decide +kernel
theorem dX8_init_73 : decode cX8_init 73 = .ok (.newarray .int, 2) := by decide +kernel
theorem dX8_init_75 : decode cX8_init 75 = .ok (.putfield 34, 3) := by decide +kernel
theorem dX8_init_78 : decode cX8_init 78 = .ok (.aload_n 0, 1) := by decide +kernel
theorem dX8_init_79 : decode cX8_init 79 = .ok (.bipush 81, 2) := by decide +kernel
theorem dX8_init_81 : decode cX8_init 81 = .ok (.newarray .int, 2) := by decide +kernel
theorem dX8_init_83 : decode cX8_init 83 = .ok (.putfield 37, 3) := by decide +kernel
theorem dX8_init_86 : decode cX8_init 86 = .ok (.aload_n 0, 1) := by decide +kernel
theorem dX8_init_87 : decode cX8_init 87 = .ok (.bipush 6, 2) := by decide +kernel
theorem dX8_init_89 : decode cX8_init 89 = .ok (.newarray .int, 2) := by decide +kernel
theorem dX8_init_91 : decode cX8_init 91 = .ok (.putfield 40, 3) := by decide +kernel
theorem dX8_init_94 : decode cX8_init 94 = .ok (.aload_n 0, 1) := by decide +kernel
theorem dX8_init_95 : decode cX8_init 95 = .ok (.invokevirtual 43, 3) := by decide +kernel
theorem dX8_init_98 : decode cX8_init 98 = .ok (.aload_n 0, 1) := by decide +kernel
theorem dX8_init_99 : decode cX8_init 99 = .ok (.getfield 16, 3) := by decide +kernel
theorem dX8_init_102 : decode cX8_init 102 = .ok (.iconst 0, 1) := by decide +kernel
theorem dX8_init_103 : decode cX8_init 103 = .ok (.bipush 7, 2) := by decide +kernel
theorem dX8_init_105 : decode cX8_init 105 = .ok (.iastore, 1) := by decide +kernel
theorem dX8_init_106 : decode cX8_init 106 = .ok (.aload_n 0, 1) := by decide +kernel
theorem dX8_init_107 : decode cX8_init 107 = .ok (.iconst 0, 1) := by decide +kernel
theorem dX8_init_108 : decode cX8_init 108 = .ok (.iconst 0, 1) := by decide +kernel
theorem dX8_init_109 : decode cX8_init 109 = .ok (.iconst 0, 1) := by decide +kernel
theorem dX8_init_110 : decode cX8_init 110 = .ok (.invokevirtual 46, 3) := by decide +kernel
theorem dX8_init_113 : decode cX8_init 113 = .ok (.aload_n 0, 1) := by decide +kernel
theorem dX8_init_114 : decode cX8_init 114 = .ok (.iconst 1, 1) := by decide +kernel
theorem dX8_init_115 : decode cX8_init 115 = .ok (.bipush 6, 2) := by decide +kernel
theorem dX8_init_117 : decode cX8_init 117 = .ok (.iconst 5, 1) := by decide +kernel
theorem dX8_init_118 : decode cX8_init 118 = .ok (.invokevirtual 46, 3) := by decide +kernel
theorem dX8_init_121 : decode cX8_init 121 = .ok (.aload_n 0, 1) := by decide +kernel
theorem dX8_init_122 : decode cX8_init 122 = .ok (.iconst 2, 1) := by decide +kernel
theorem dX8_init_123 : decode cX8_init 123 = .ok (.iconst 3, 1) := by decide +kernel
theorem dX8_init_124 : decode cX8_init 124 = .ok (.iconst 2, 1) := by decide +kernel
theorem dX8_init_125 : decode cX8_init 125 = .ok (.invokevirtual 46, 3) := by decide +kernel
theorem dX8_init_128 : decode cX8_init 128 = .ok (.aload_n 0, 1) := by decide +kernel
theorem dX8_init_129 : decode cX8_init 129 = .ok (.iconst 3, 1) := by decide +kernel
theorem dX8_init_130 : decode cX8_init 130 = .ok (.iconst 5, 1) := by decide +kernel
theorem dX8_init_131 : decode cX8_init 131 = .ok (.iconst 1, 1) := by decide +kernel
theorem dX8_init_132 : decode cX8_init 132 = .ok (.invokevirtual 46, 3) := by decide +kernel
theorem dX8_init_135 : decode cX8_init 135 = .ok (.aload_n 0, 1) := by decide +kernel
theorem dX8_init_136 : decode cX8_init 136 = .ok (.iconst 0, 1) := by decide +kernel
theorem dX8_init_137 : decode cX8_init 137 = .ok (.iconst 1, 1) := by decide +kernel
theorem dX8_init_138 : decode cX8_init 138 = .ok (.iconst 4, 1) := by decide +kernel
theorem dX8_init_139 : decode cX8_init 139 = .ok (.invokevirtual 46, 3) := by decide +kernel
theorem dX8_init_142 : decode cX8_init 142 = .ok (.aload_n 0, 1) := by decide +kernel
theorem dX8_init_143 : decode cX8_init 143 = .ok (.iconst 0, 1) := by decide +kernel
theorem dX8_init_144 : decode cX8_init 144 = .ok (.iconst 4, 1) := by decide +kernel
theorem dX8_init_145 : decode cX8_init 145 = .ok (.iconst 4, 1) := by decide +kernel
theorem dX8_init_146 : decode cX8_init 146 = .ok (.invokevirtual 46, 3) := by decide +kernel
theorem dX8_init_149 : decode cX8_init 149 = .ok (.aload_n 0, 1) := by decide +kernel
theorem dX8_init_150 : decode cX8_init 150 = .ok (.getfield 19, 3) := by decide +kernel
theorem dX8_init_153 : decode cX8_init 153 = .ok (.bipush 20, 2) := by decide +kernel
theorem dX8_init_155 : decode cX8_init 155 = .ok (.iconst 5, 1) := by decide +kernel
theorem dX8_init_156 : decode cX8_init 156 = .ok (.iastore, 1) := by decide +kernel
theorem dX8_init_157 : decode cX8_init 157 = .ok (.aload_n 0, 1) := by decide +kernel
theorem dX8_init_158 : decode cX8_init 158 = .ok (.getfield 19, 3) := by decide +kernel
theorem dX8_init_161 : decode cX8_init 161 = .ok (.bipush 21, 2) := by decide +kernel
theorem dX8_init_163 : decode cX8_init 163 = .ok (.bipush (-2), 2) := by decide +kernel
theorem dX8_init_165 : decode cX8_init 165 = .ok (.iastore, 1) := by decide +kernel
theorem dX8_init_166 : decode cX8_init 166 = .ok (.aload_n 0, 1) := by decide +kernel
theorem dX8_init_167 : decode cX8_init 167 = .ok (.getfield 19, 3) := by decide +kernel
theorem dX8_init_170 : decode cX8_init 170 = .ok (.bipush 25, 2) := by decide +kernel
theorem dX8_init_172 : decode cX8_init 172 = .ok (.bipush 9, 2) := by decide +kernel
theorem dX8_init_174 : decode cX8_init 174 = .ok (.iastore, 1) := by decide +kernel
theorem dX8_init_175 : decode cX8_init 175 = .ok (.aload_n 0, 1) := by decide +kernel
theorem dX8_init_176 : decode cX8_init 176 = .ok (.getfield 19, 3) := by decide +kernel
theorem dX8_init_179 : decode cX8_init 179 = .ok (.bipush 29, 2) := by decide +kernel
theorem dX8_init_181 : decode cX8_init 181 = .ok (.iconst 3, 1) := by decide +kernel
theorem dX8_init_182 : decode cX8_init 182 = .ok (.iastore, 1) := by decide +kernel
theorem dX8_init_183 : decode cX8_init 183 = .ok (.aload_n 0, 1) := by decide +kernel
theorem dX8_init_184 : decode cX8_init 184 = .ok (.getfield 19, 3) := by decide +kernel
theorem dX8_init_187 : decode cX8_init 187 = .ok (.bipush 34, 2) := by decide +kernel
theorem dX8_init_189 : decode cX8_init 189 = .ok (.bipush 7, 2) := by decide +kernel
theorem dX8_init_191 : decode cX8_init 191 = .ok (.iastore, 1) := by decide +kernel
theorem dX8_init_192 : decode cX8_init 192 = .ok (.aload_n 0, 1) := by decide +kernel
theorem dX8_init_193 : decode cX8_init 193 = .ok (.getfield 19, 3) := by decide +kernel
theorem dX8_init_196 : decode cX8_init 196 = .ok (.bipush 39, 2) := by decide +kernel
theorem dX8_init_198 : decode cX8_init 198 = .ok (.iconst 4, 1) := by decide +kernel
theorem dX8_init_199 : decode cX8_init 199 = .ok (.iastore, 1) := by decide +kernel
theorem dX8_init_200 : decode cX8_init 200 = .ok (.aload_n 0, 1) := by decide +kernel
theorem dX8_init_201 : decode cX8_init 201 = .ok (.getfield 19, 3) := by decide +kernel
theorem dX8_init_204 : decode cX8_init 204 = .ok (.bipush 42, 2) := by decide +kernel
theorem dX8_init_206 : decode cX8_init 206 = .ok (.bipush (-6), 2) := by decide +kernel
theorem dX8_init_208 : decode cX8_init 208 = .ok (.iastore, 1) := by decide +kernel
theorem dX8_init_209 : decode cX8_init 209 = .ok (.aload_n 0, 1) := by decide +kernel
theorem dX8_init_210 : decode cX8_init 210 = .ok (.getfield 19, 3) := by decide +kernel
theorem dX8_init_213 : decode cX8_init 213 = .ok (.bipush 48, 2) := by decide +kernel
theorem dX8_init_215 : decode cX8_init 215 = .ok (.bipush 8, 2) := by decide +kernel
theorem dX8_init_217 : decode cX8_init 217 = .ok (.iastore, 1) := by decide +kernel
theorem dX8_init_218 : decode cX8_init 218 = .ok (.aload_n 0, 1) := by decide +kernel
theorem dX8_init_219 : decode cX8_init 219 = .ok (.getfield 19, 3) := by decide +kernel
theorem dX8_init_222 : decode cX8_init 222 = .ok (.bipush 53, 2) := by decide +kernel
theorem dX8_init_224 : decode cX8_init 224 = .ok (.iconst 2, 1) := by decide +kernel
theorem dX8_init_225 : decode cX8_init 225 = .ok (.iastore, 1) := by decide +kernel
theorem dX8_init_226 : decode cX8_init 226 = .ok (.aload_n 0, 1) := by decide +kernel
theorem dX8_init_227 : decode cX8_init 227 = .ok (.getfield 19, 3) := by decide +kernel
theorem dX8_init_230 : decode cX8_init 230 = .ok (.bipush 49, 2) := by decide +kernel
theorem dX8_init_232 : decode cX8_init 232 = .ok (.bipush 9, 2) := by decide +kernel
theorem dX8_init_234 : decode cX8_init 234 = .ok (.iastore, 1) := by decide +kernel
theorem dX8_init_235 : decode cX8_init 235 = .ok (.aload_n 0, 1) := by decide +kernel
theorem dX8_init_236 : decode cX8_init 236 = .ok (.invokevirtual 50, 3) := by decide +kernel
theorem dX8_init_239 : decode cX8_init 239 = .ok (.return_, 1) := by decide +kernel
theorem dX8_in_0 : decode cX8_in 0 = .ok (.iload_n 0, 1) := by decide +kernel
theorem dX8_in_1 : decode cX8_in 1 = .ok (.iload_n 1, 1) := by decide +kernel
theorem dX8_in_2 : decode cX8_in 2 = .ok (.if_icmp .lt 12, 3) := by decide +kernel
theorem dX8_in_5 : decode cX8_in 5 = .ok (.iload_n 0, 1) := by decide +kernel
theorem dX8_in_6 : decode cX8_in 6 = .ok (.iload_n 2, 1) := by decide +kernel
theorem dX8_in_7 : decode cX8_in 7 = .ok (.if_icmp .gt 7, 3) := by decide +kernel
theorem dX8_in_10 : decode cX8_in 10 = .ok (.iconst 1, 1) := by decide +kernel
theorem dX8_in_11 : decode cX8_in 11 = .ok (.goto 4, 3) := by decide +kernel
theorem dX8_in_14 : decode cX8_in 14 = .ok (.iconst 0, 1) := by decide +kernel
theorem dX8_in_15 : decode cX8_in 15 = .ok (.ireturn, 1) := by decide +kernel
theorem dX8_abs_0 : decode cX8_abs 0 = .ok (.iload_n 0, 1) := by decide +kernel
theorem dX8_abs_1 : decode cX8_abs 1 = .ok (.ifCond .ge 8, 3) := by decide +kernel
theorem dX8_abs_4 : decode cX8_abs 4 = .ok (.iload_n 0, 1) := by decide +kernel
theorem dX8_abs_5 : decode cX8_abs 5 = .ok (.ineg, 1) := by decide +kernel
theorem dX8_abs_6 : decode cX8_abs 6 = .ok (.goto 4, 3) := by decide +kernel
theorem dX8_abs_9 : decode cX8_abs 9 = .ok (.iload_n 0, 1) := by decide +kernel
theorem dX8_abs_10 : decode cX8_abs 10 = .ok (.ireturn, 1) := by decide +kernel
theorem dX8_isOne_0 : decode cX8_isOne 0 = .ok (.iload_n 1, 1) := by decide +kernel
theorem dX8_isOne_1 : decode cX8_isOne 1 = .ok (.iconst 0, 1) := by decide +kernel
theorem dX8_isOne_2 : decode cX8_isOne 2 = .ok (.aload_n 0, 1) := by decide +kernel
theorem dX8_isOne_3 : decode cX8_isOne 3 = .ok (.getfield 13, 3) := by decide +kernel
theorem dX8_isOne_6 : decode cX8_isOne 6 = .ok (.iconst 2, 1) := by decide +kernel
theorem dX8_isOne_7 : decode cX8_isOne 7 = .ok (.iaload, 1) := by decide +kernel
theorem dX8_isOne_8 : decode cX8_isOne 8 = .ok (.iconst 1, 1) := by decide +kernel
theorem dX8_isOne_9 : decode cX8_isOne 9 = .ok (.isub, 1) := by decide +kernel
theorem dX8_isOne_10 : decode cX8_isOne 10 = .ok (.invokestatic 53, 3) := by decide +kernel
theorem dX8_isOne_13 : decode cX8_isOne 13 = .ok (.ireturn, 1) := by decide +kernel
theorem dX8_write_0 : decode cX8_write 0 = .ok (.iload_n 1, 1) := by decide +kernel
theorem dX8_write_1 : decode cX8_write 1 = .ok (.bipush 32, 2) := by decide +kernel
theorem dX8_write_3 : decode cX8_write 3 = .ok (.bipush 126, 2) := by decide +kernel
theorem dX8_write_5 : decode cX8_write 5 = .ok (.invokestatic 53, 3) := by decide +kernel
theorem dX8_write_8 : decode cX8_write 8 = .ok (.ifCond .ne 5, 3) := by decide +kernel
theorem dX8_write_11 : decode cX8_write 11 = .ok (.iconst (-1), 1) := by decide +kernel
theorem dX8_write_12 : decode cX8_write 12 = .ok (.ireturn, 1) := by decide +kernel
theorem dX8_write_13 : decode cX8_write 13 = .ok (.aload_n 0, 1) := by decide +kernel
theorem dX8_write_14 : decode cX8_write 14 = .ok (.getfield 57, 3) := by decide +kernel
theorem dX8_write_17 : decode cX8_write 17 = .ok (.sipush 200, 3) := by decide +kernel
theorem dX8_write_20 : decode cX8_write 20 = .ok (.if_icmp .ne 6, 3) := by decide +kernel
theorem dX8_write_23 : decode cX8_write 23 = .ok (.bipush (-3), 2) := by decide +kernel
theorem dX8_write_25 : decode cX8_write 25 = .ok (.ireturn, 1) := by decide +kernel
theorem dX8_write_26 : decode cX8_write 26 = .ok (.aload_n 0, 1) := by decide +kernel
theorem dX8_write_27 : decode cX8_write 27 = .ok (.getfield 7, 3) := by decide +kernel
theorem dX8_write_30 : decode cX8_write 30 = .ok (.aload_n 0, 1) := by decide +kernel
theorem dX8_write_31 : decode cX8_write 31 = .ok (.getfield 57, 3) := by decide +kernel
theorem dX8_write_34 : decode cX8_write 34 = .ok (.iload_n 1, 1) := by decide +kernel
theorem dX8_write_35 : decode cX8_write 35 = .ok (.iastore, 1) := by decide +kernel
theorem dX8_write_36 : decode cX8_write 36 = .ok (.aload_n 0, 1) := by decide +kernel
theorem dX8_write_37 : decode cX8_write 37 = .ok (.dup, 1) := by decide +kernel
theorem dX8_write_38 : decode cX8_write 38 = .ok (.getfield 57, 3) := by decide +kernel
theorem dX8_write_41 : decode cX8_write 41 = .ok (.iconst 1, 1) := by decide +kernel
theorem dX8_write_42 : decode cX8_write 42 = .ok (.iadd, 1) := by decide +kernel
theorem dX8_write_43 : decode cX8_write 43 = .ok (.putfield 57, 3) := by decide +kernel
theorem dX8_write_46 : decode cX8_write 46 = .ok (.aload_n 0, 1) := by decide +kernel
theorem dX8_write_47 : decode cX8_write 47 = .ok (.getfield 57, 3) := by decide +kernel
theorem dX8_write_50 : decode cX8_write 50 = .ok (.ireturn, 1) := by decide +kernel
theorem dX8_wipe_0 : decode cX8_wipe 0 = .ok (.aload_n 0, 1) := by decide +kernel
theorem dX8_wipe_1 : decode cX8_wipe 1 = .ok (.getfield 57, 3) := by decide +kernel
theorem dX8_wipe_4 : decode cX8_wipe 4 = .ok (.istore_n 1, 1) := by decide +kernel
theorem dX8_wipe_5 : decode cX8_wipe 5 = .ok (.aload_n 0, 1) := by decide +kernel
theorem dX8_wipe_6 : decode cX8_wipe 6 = .ok (.iconst 0, 1) := by decide +kernel
theorem dX8_wipe_7 : decode cX8_wipe 7 = .ok (.putfield 57, 3) := by decide +kernel
theorem dX8_wipe_10 : decode cX8_wipe 10 = .ok (.iload_n 1, 1) := by decide +kernel
theorem dX8_wipe_11 : decode cX8_wipe 11 = .ok (.ireturn, 1) := by decide +kernel
theorem dX8_letterAt_0 : decode cX8_letterAt 0 = .ok (.iload_n 1, 1) := by decide +kernel
theorem dX8_letterAt_1 : decode cX8_letterAt 1 = .ok (.aload_n 0, 1) := by decide +kernel
theorem dX8_letterAt_2 : decode cX8_letterAt 2 = .ok (.getfield 57, 3) := by decide +kernel
theorem dX8_letterAt_5 : decode cX8_letterAt 5 = .ok (.if_icmp .ge 12, 3) := by decide +kernel
theorem dX8_letterAt_8 : decode cX8_letterAt 8 = .ok (.aload_n 0, 1) := by decide +kernel
theorem dX8_letterAt_9 : decode cX8_letterAt 9 = .ok (.getfield 7, 3) := by decide +kernel
theorem dX8_letterAt_12 : decode cX8_letterAt 12 = .ok (.iload_n 1, 1) := by decide +kernel
theorem dX8_letterAt_13 : decode cX8_letterAt 13 = .ok (.iaload, 1) := by decide +kernel
theorem dX8_letterAt_14 : decode cX8_letterAt 14 = .ok (.goto 4, 3) := by decide +kernel
theorem dX8_letterAt_17 : decode cX8_letterAt 17 = .ok (.iconst (-1), 1) := by decide +kernel
theorem dX8_letterAt_18 : decode cX8_letterAt 18 = .ok (.ireturn, 1) := by decide +kernel
theorem dX8_isFigure_0 : decode cX8_isFigure 0 = .ok (.iload_n 0, 1) := by decide +kernel
theorem dX8_isFigure_1 : decode cX8_isFigure 1 = .ok (.bipush 48, 2) := by decide +kernel
theorem dX8_isFigure_3 : decode cX8_isFigure 3 = .ok (.bipush 57, 2) := by decide +kernel
theorem dX8_isFigure_5 : decode cX8_isFigure 5 = .ok (.invokestatic 53, 3) := by decide +kernel
theorem dX8_isFigure_8 : decode cX8_isFigure 8 = .ok (.ireturn, 1) := by decide +kernel
theorem dX8_number_0 : decode cX8_number 0 = .ok (.aload_n 0, 1) := by decide +kernel
theorem dX8_number_1 : decode cX8_number 1 = .ok (.aload_n 0, 1) := by decide +kernel
theorem dX8_number_2 : decode cX8_number 2 = .ok (.getfield 61, 3) := by decide +kernel
theorem dX8_number_5 : decode cX8_number 5 = .ok (.invokevirtual 64, 3) := by decide +kernel
theorem dX8_number_8 : decode cX8_number 8 = .ok (.invokestatic 68, 3) := by decide +kernel
theorem dX8_number_11 : decode cX8_number 11 = .ok (.ifCond .ne 5, 3) := by decide +kernel
theorem dX8_number_14 : decode cX8_number 14 = .ok (.iconst (-1), 1) := by decide +kernel
theorem dX8_number_15 : decode cX8_number 15 = .ok (.ireturn, 1) := by decide +kernel
theorem dX8_number_16 : decode cX8_number 16 = .ok (.aload_n 0, 1) := by decide +kernel
theorem dX8_number_17 : decode cX8_number 17 = .ok (.aload_n 0, 1) := by decide +kernel
theorem dX8_number_18 : decode cX8_number 18 = .ok (.getfield 61, 3) := by decide +kernel
theorem dX8_number_21 : decode cX8_number 21 = .ok (.invokevirtual 64, 3) := by decide +kernel
theorem dX8_number_24 : decode cX8_number 24 = .ok (.bipush 48, 2) := by decide +kernel
theorem dX8_number_26 : decode cX8_number 26 = .ok (.isub, 1) := by decide +kernel
theorem dX8_number_27 : decode cX8_number 27 = .ok (.istore 4, 2) := by decide +kernel
theorem dX8_number_29 : decode cX8_number 29 = .ok (.aload_n 0, 1) := by decide +kernel
theorem dX8_number_30 : decode cX8_number 30 = .ok (.dup, 1) := by decide +kernel
theorem dX8_number_31 : decode cX8_number 31 = .ok (.getfield 61, 3) := by decide +kernel
theorem dX8_number_34 : decode cX8_number 34 = .ok (.iconst 1, 1) := by decide +kernel
theorem dX8_number_35 : decode cX8_number 35 = .ok (.iadd, 1) := by decide +kernel
theorem dX8_number_36 : decode cX8_number 36 = .ok (.putfield 61, 3) := by decide +kernel
theorem dX8_number_39 : decode cX8_number 39 = .ok (.aload_n 0, 1) := by decide +kernel
theorem dX8_number_40 : decode cX8_number 40 = .ok (.aload_n 0, 1) := by decide +kernel
theorem dX8_number_41 : decode cX8_number 41 = .ok (.getfield 61, 3) := by decide +kernel
theorem dX8_number_44 : decode cX8_number 44 = .ok (.invokevirtual 64, 3) := by decide +kernel
theorem dX8_number_47 : decode cX8_number 47 = .ok (.invokestatic 68, 3) := by decide +kernel
theorem dX8_number_50 : decode cX8_number 50 = .ok (.ifCond .eq 32, 3) := by decide +kernel
theorem dX8_number_53 : decode cX8_number 53 = .ok (.bipush 10, 2) := by decide +kernel
theorem dX8_number_55 : decode cX8_number 55 = .ok (.iload 4, 2) := by decide +kernel
theorem dX8_number_57 : decode cX8_number 57 = .ok (.imul, 1) := by decide +kernel
theorem dX8_number_58 : decode cX8_number 58 = .ok (.aload_n 0, 1) := by decide +kernel
theorem dX8_number_59 : decode cX8_number 59 = .ok (.aload_n 0, 1) := by decide +kernel
theorem dX8_number_60 : decode cX8_number 60 = .ok (.getfield 61, 3) := by decide +kernel
theorem dX8_number_63 : decode cX8_number 63 = .ok (.invokevirtual 64, 3) := by decide +kernel
theorem dX8_number_66 : decode cX8_number 66 = .ok (.iadd, 1) := by decide +kernel
theorem dX8_number_67 : decode cX8_number 67 = .ok (.bipush 48, 2) := by decide +kernel
theorem dX8_number_69 : decode cX8_number 69 = .ok (.isub, 1) := by decide +kernel
theorem dX8_number_70 : decode cX8_number 70 = .ok (.istore 4, 2) := by decide +kernel
theorem dX8_number_72 : decode cX8_number 72 = .ok (.aload_n 0, 1) := by decide +kernel
theorem dX8_number_73 : decode cX8_number 73 = .ok (.dup, 1) := by decide +kernel
theorem dX8_number_74 : decode cX8_number 74 = .ok (.getfield 61, 3) := by decide +kernel
theorem dX8_number_77 : decode cX8_number 77 = .ok (.iconst 1, 1) := by decide +kernel
theorem dX8_number_78 : decode cX8_number 78 = .ok (.iadd, 1) := by decide +kernel
theorem dX8_number_79 : decode cX8_number 79 = .ok (.putfield 61, 3) := by decide +kernel
theorem dX8_number_82 : decode cX8_number 82 = .ok (.iload 4, 2) := by decide +kernel
theorem dX8_number_84 : decode cX8_number 84 = .ok (.iload_n 1, 1) := by decide +kernel
theorem dX8_number_85 : decode cX8_number 85 = .ok (.iload_n 2, 1) := by decide +kernel
theorem dX8_number_86 : decode cX8_number 86 = .ok (.invokestatic 53, 3) := by decide +kernel
theorem dX8_number_89 : decode cX8_number 89 = .ok (.ifCond .eq 19, 3) := by decide +kernel
theorem dX8_number_92 : decode cX8_number 92 = .ok (.aload_n 0, 1) := by decide +kernel
theorem dX8_number_93 : decode cX8_number 93 = .ok (.aload_n 0, 1) := by decide +kernel
theorem dX8_number_94 : decode cX8_number 94 = .ok (.getfield 61, 3) := by decide +kernel
theorem dX8_number_97 : decode cX8_number 97 = .ok (.invokevirtual 64, 3) := by decide +kernel
theorem dX8_number_100 : decode cX8_number 100 = .ok (.iload_n 3, 1) := by decide +kernel
theorem dX8_number_101 : decode cX8_number 101 = .ok (.if_icmp .ne 7, 3) := by decide +kernel
theorem dX8_number_104 : decode cX8_number 104 = .ok (.iconst 1, 1) := by decide +kernel
theorem dX8_number_105 : decode cX8_number 105 = .ok (.goto 4, 3) := by decide +kernel
theorem dX8_number_108 : decode cX8_number 108 = .ok (.iconst 0, 1) := by decide +kernel
theorem dX8_number_109 : decode cX8_number 109 = .ok (.istore 5, 2) := by decide +kernel
theorem dX8_number_111 : decode cX8_number 111 = .ok (.aload_n 0, 1) := by decide +kernel
theorem dX8_number_112 : decode cX8_number 112 = .ok (.dup, 1) := by decide +kernel
theorem dX8_number_113 : decode cX8_number 113 = .ok (.getfield 61, 3) := by decide +kernel
theorem dX8_number_116 : decode cX8_number 116 = .ok (.iconst 1, 1) := by decide +kernel
theorem dX8_number_117 : decode cX8_number 117 = .ok (.iadd, 1) := by decide +kernel
theorem dX8_number_118 : decode cX8_number 118 = .ok (.putfield 61, 3) := by decide +kernel
theorem dX8_number_121 : decode cX8_number 121 = .ok (.iload 5, 2) := by decide +kernel
theorem dX8_number_123 : decode cX8_number 123 = .ok (.ifCond .eq 8, 3) := by decide +kernel
theorem dX8_number_126 : decode cX8_number 126 = .ok (.iload 4, 2) := by decide +kernel
theorem dX8_number_128 : decode cX8_number 128 = .ok (.goto 4, 3) := by decide +kernel
theorem dX8_number_131 : decode cX8_number 131 = .ok (.iconst (-1), 1) := by decide +kernel
theorem dX8_number_132 : decode cX8_number 132 = .ok (.ireturn, 1) := by decide +kernel
theorem dX8_begins_0 : decode cX8_begins 0 = .ok (.iconst 0, 1) := by decide +kernel
theorem dX8_begins_1 : decode cX8_begins 1 = .ok (.istore_n 1, 1) := by decide +kernel
theorem dX8_begins_2 : decode cX8_begins 2 = .ok (.iload_n 1, 1) := by decide +kernel
theorem dX8_begins_3 : decode cX8_begins 3 = .ok (.bipush 9, 2) := by decide +kernel
theorem dX8_begins_5 : decode cX8_begins 5 = .ok (.if_icmp .ge 16, 3) := by decide +kernel
theorem dX8_begins_8 : decode cX8_begins 8 = .ok (.aload_n 0, 1) := by decide +kernel
theorem dX8_begins_9 : decode cX8_begins 9 = .ok (.getfield 16, 3) := by decide +kernel
theorem dX8_begins_12 : decode cX8_begins 12 = .ok (.iload_n 1, 1) := by decide +kernel
theorem dX8_begins_13 : decode cX8_begins 13 = .ok (.iconst 0, 1) := by decide +kernel
theorem dX8_begins_14 : decode cX8_begins 14 = .ok (.iastore, 1) := by decide +kernel
theorem dX8_begins_15 : decode cX8_begins 15 = .ok (.iinc 1 1, 3) := by decide +kernel
theorem dX8_begins_18 : decode cX8_begins 18 = .ok (.goto (-16), 3) := by decide +kernel
theorem dX8_begins_21 : decode cX8_begins 21 = .ok (.iconst 0, 1) := by decide +kernel
theorem dX8_begins_22 : decode cX8_begins 22 = .ok (.istore_n 1, 1) := by decide +kernel
theorem dX8_begins_23 : decode cX8_begins 23 = .ok (.iload_n 1, 1) := by decide +kernel
theorem dX8_begins_24 : decode cX8_begins 24 = .ok (.bipush 55, 2) := by decide +kernel
theorem dX8_begins_26 : decode cX8_begins 26 = .ok (.if_icmp .ge 16, 3) := by decide +kernel
theorem dX8_begins_29 : decode cX8_begins 29 = .ok (.aload_n 0, 1) := by decide +kernel
theorem dX8_begins_30 : decode cX8_begins 30 = .ok (.getfield 19, 3) := by decide +kernel
theorem dX8_begins_33 : decode cX8_begins 33 = .ok (.iload_n 1, 1) := by decide +kernel
theorem dX8_begins_34 : decode cX8_begins 34 = .ok (.iconst 0, 1) := by decide +kernel
theorem dX8_begins_35 : decode cX8_begins 35 = .ok (.iastore, 1) := by decide +kernel
theorem dX8_begins_36 : decode cX8_begins 36 = .ok (.iinc 1 1, 3) := by decide +kernel
theorem dX8_begins_39 : decode cX8_begins 39 = .ok (.goto (-16), 3) := by decide +kernel
theorem dX8_begins_42 : decode cX8_begins 42 = .ok (.aload_n 0, 1) := by decide +kernel
theorem dX8_begins_43 : decode cX8_begins 43 = .ok (.getfield 16, 3) := by decide +kernel
theorem dX8_begins_46 : decode cX8_begins 46 = .ok (.iconst 0, 1) := by decide +kernel
theorem dX8_begins_47 : decode cX8_begins 47 = .ok (.bipush 6, 2) := by decide +kernel
theorem dX8_begins_49 : decode cX8_begins 49 = .ok (.iastore, 1) := by decide +kernel
theorem dX8_begins_50 : decode cX8_begins 50 = .ok (.aload_n 0, 1) := by decide +kernel
theorem dX8_begins_51 : decode cX8_begins 51 = .ok (.getfield 16, 3) := by decide +kernel
theorem dX8_begins_54 : decode cX8_begins 54 = .ok (.iconst 1, 1) := by decide +kernel
theorem dX8_begins_55 : decode cX8_begins 55 = .ok (.bipush 6, 2) := by decide +kernel
theorem dX8_begins_57 : decode cX8_begins 57 = .ok (.iastore, 1) := by decide +kernel
theorem dX8_begins_58 : decode cX8_begins 58 = .ok (.return_, 1) := by decide +kernel
theorem dX8_stands_0 : decode cX8_stands 0 = .ok (.aload_n 0, 1) := by decide +kernel
theorem dX8_stands_1 : decode cX8_stands 1 = .ok (.getfield 16, 3) := by decide +kernel
theorem dX8_stands_4 : decode cX8_stands 4 = .ok (.iconst 2, 1) := by decide +kernel
theorem dX8_stands_5 : decode cX8_stands 5 = .ok (.iaload, 1) := by decide +kernel
theorem dX8_stands_6 : decode cX8_stands 6 = .ok (.istore 4, 2) := by decide +kernel
theorem dX8_stands_8 : decode cX8_stands 8 = .ok (.aload_n 0, 1) := by decide +kernel
theorem dX8_stands_9 : decode cX8_stands 9 = .ok (.getfield 16, 3) := by decide +kernel
theorem dX8_stands_12 : decode cX8_stands 12 = .ok (.iconst 3, 1) := by decide +kernel
theorem dX8_stands_13 : decode cX8_stands 13 = .ok (.iload 4, 2) := by decide +kernel
theorem dX8_stands_15 : decode cX8_stands 15 = .ok (.iadd, 1) := by decide +kernel
theorem dX8_stands_16 : decode cX8_stands 16 = .ok (.iload_n 1, 1) := by decide +kernel
theorem dX8_stands_17 : decode cX8_stands 17 = .ok (.iastore, 1) := by decide +kernel
theorem dX8_stands_18 : decode cX8_stands 18 = .ok (.aload_n 0, 1) := by decide +kernel
theorem dX8_stands_19 : decode cX8_stands 19 = .ok (.getfield 19, 3) := by decide +kernel
theorem dX8_stands_22 : decode cX8_stands 22 = .ok (.bipush 7, 2) := by decide +kernel
theorem dX8_stands_24 : decode cX8_stands 24 = .ok (.iload 4, 2) := by decide +kernel
theorem dX8_stands_26 : decode cX8_stands 26 = .ok (.iadd, 1) := by decide +kernel
theorem dX8_stands_27 : decode cX8_stands 27 = .ok (.iload_n 2, 1) := by decide +kernel
theorem dX8_stands_28 : decode cX8_stands 28 = .ok (.iastore, 1) := by decide +kernel
theorem dX8_stands_29 : decode cX8_stands 29 = .ok (.aload_n 0, 1) := by decide +kernel
theorem dX8_stands_30 : decode cX8_stands 30 = .ok (.getfield 19, 3) := by decide +kernel
theorem dX8_stands_33 : decode cX8_stands 33 = .ok (.bipush 13, 2) := by decide +kernel
theorem dX8_stands_35 : decode cX8_stands 35 = .ok (.iload 4, 2) := by decide +kernel
theorem dX8_stands_37 : decode cX8_stands 37 = .ok (.iadd, 1) := by decide +kernel
theorem dX8_stands_38 : decode cX8_stands 38 = .ok (.iload_n 3, 1) := by decide +kernel
theorem dX8_stands_39 : decode cX8_stands 39 = .ok (.iastore, 1) := by decide +kernel
theorem dX8_stands_40 : decode cX8_stands 40 = .ok (.aload_n 0, 1) := by decide +kernel
theorem dX8_stands_41 : decode cX8_stands 41 = .ok (.getfield 16, 3) := by decide +kernel
theorem dX8_stands_44 : decode cX8_stands 44 = .ok (.iconst 2, 1) := by decide +kernel
theorem dX8_stands_45 : decode cX8_stands 45 = .ok (.dup2, 1) := by decide +kernel
theorem dX8_stands_46 : decode cX8_stands 46 = .ok (.iaload, 1) := by decide +kernel
theorem dX8_stands_47 : decode cX8_stands 47 = .ok (.iconst 1, 1) := by decide +kernel
theorem dX8_stands_48 : decode cX8_stands 48 = .ok (.iadd, 1) := by decide +kernel
theorem dX8_stands_49 : decode cX8_stands 49 = .ok (.iastore, 1) := by decide +kernel
theorem dX8_stands_50 : decode cX8_stands 50 = .ok (.return_, 1) := by decide +kernel
theorem dX8_readsRoom_0 : decode cX8_readsRoom 0 = .ok (.aload_n 0, 1) := by decide +kernel
theorem dX8_readsRoom_1 : decode cX8_readsRoom 1 = .ok (.iconst 1, 1) := by decide +kernel
theorem dX8_readsRoom_2 : decode cX8_readsRoom 2 = .ok (.bipush 9, 2) := by decide +kernel
theorem dX8_readsRoom_4 : decode cX8_readsRoom 4 = .ok (.bipush 44, 2) := by decide +kernel
theorem dX8_readsRoom_6 : decode cX8_readsRoom 6 = .ok (.invokevirtual 72, 3) := by decide +kernel
theorem dX8_readsRoom_9 : decode cX8_readsRoom 9 = .ok (.istore_n 1, 1) := by decide +kernel
theorem dX8_readsRoom_10 : decode cX8_readsRoom 10 = .ok (.iload_n 1, 1) := by decide +kernel
theorem dX8_readsRoom_11 : decode cX8_readsRoom 11 = .ok (.ifCond .ge 7, 3) := by decide +kernel
theorem dX8_readsRoom_14 : decode cX8_readsRoom 14 = .ok (.iconst (-1), 1) := by decide +kernel
theorem dX8_readsRoom_15 : decode cX8_readsRoom 15 = .ok (.goto 12, 3) := by decide +kernel
theorem dX8_readsRoom_18 : decode cX8_readsRoom 18 = .ok (.aload_n 0, 1) := by decide +kernel
theorem dX8_readsRoom_19 : decode cX8_readsRoom 19 = .ok (.iconst 1, 1) := by decide +kernel
theorem dX8_readsRoom_20 : decode cX8_readsRoom 20 = .ok (.bipush 9, 2) := by decide +kernel
theorem dX8_readsRoom_22 : decode cX8_readsRoom 22 = .ok (.bipush 59, 2) := by decide +kernel
theorem dX8_readsRoom_24 : decode cX8_readsRoom 24 = .ok (.invokevirtual 72, 3) := by decide +kernel
theorem dX8_readsRoom_27 : decode cX8_readsRoom 27 = .ok (.istore_n 2, 1) := by decide +kernel
theorem dX8_readsRoom_28 : decode cX8_readsRoom 28 = .ok (.iload_n 2, 1) := by decide +kernel
theorem dX8_readsRoom_29 : decode cX8_readsRoom 29 = .ok (.ifCond .ge 5, 3) := by decide +kernel
theorem dX8_readsRoom_32 : decode cX8_readsRoom 32 = .ok (.iconst 0, 1) := by decide +kernel
theorem dX8_readsRoom_33 : decode cX8_readsRoom 33 = .ok (.ireturn, 1) := by decide +kernel
theorem dX8_readsRoom_34 : decode cX8_readsRoom 34 = .ok (.aload_n 0, 1) := by decide +kernel
theorem dX8_readsRoom_35 : decode cX8_readsRoom 35 = .ok (.getfield 16, 3) := by decide +kernel
theorem dX8_readsRoom_38 : decode cX8_readsRoom 38 = .ok (.iconst 0, 1) := by decide +kernel
theorem dX8_readsRoom_39 : decode cX8_readsRoom 39 = .ok (.iload_n 1, 1) := by decide +kernel
theorem dX8_readsRoom_40 : decode cX8_readsRoom 40 = .ok (.iastore, 1) := by decide +kernel
theorem dX8_readsRoom_41 : decode cX8_readsRoom 41 = .ok (.aload_n 0, 1) := by decide +kernel
theorem dX8_readsRoom_42 : decode cX8_readsRoom 42 = .ok (.getfield 16, 3) := by decide +kernel
theorem dX8_readsRoom_45 : decode cX8_readsRoom 45 = .ok (.iconst 1, 1) := by decide +kernel
theorem dX8_readsRoom_46 : decode cX8_readsRoom 46 = .ok (.iload_n 2, 1) := by decide +kernel
theorem dX8_readsRoom_47 : decode cX8_readsRoom 47 = .ok (.iastore, 1) := by decide +kernel
theorem dX8_readsRoom_48 : decode cX8_readsRoom 48 = .ok (.iconst 1, 1) := by decide +kernel
theorem dX8_readsRoom_49 : decode cX8_readsRoom 49 = .ok (.ireturn, 1) := by decide +kernel
theorem dX8_readsPerson_0 : decode cX8_readsPerson 0 = .ok (.aload_n 0, 1) := by decide +kernel
theorem dX8_readsPerson_1 : decode cX8_readsPerson 1 = .ok (.iconst 0, 1) := by decide +kernel
theorem dX8_readsPerson_2 : decode cX8_readsPerson 2 = .ok (.iconst 3, 1) := by decide +kernel
theorem dX8_readsPerson_3 : decode cX8_readsPerson 3 = .ok (.bipush 44, 2) := by decide +kernel
theorem dX8_readsPerson_5 : decode cX8_readsPerson 5 = .ok (.invokevirtual 72, 3) := by decide +kernel
theorem dX8_readsPerson_8 : decode cX8_readsPerson 8 = .ok (.istore_n 1, 1) := by decide +kernel
theorem dX8_readsPerson_9 : decode cX8_readsPerson 9 = .ok (.iload_n 1, 1) := by decide +kernel
theorem dX8_readsPerson_10 : decode cX8_readsPerson 10 = .ok (.ifCond .ge 7, 3) := by decide +kernel
theorem dX8_readsPerson_13 : decode cX8_readsPerson 13 = .ok (.iconst (-1), 1) := by decide +kernel
theorem dX8_readsPerson_14 : decode cX8_readsPerson 14 = .ok (.goto 18, 3) := by decide +kernel
theorem dX8_readsPerson_17 : decode cX8_readsPerson 17 = .ok (.aload_n 0, 1) := by decide +kernel
theorem dX8_readsPerson_18 : decode cX8_readsPerson 18 = .ok (.iconst 0, 1) := by decide +kernel
theorem dX8_readsPerson_19 : decode cX8_readsPerson 19 = .ok (.aload_n 0, 1) := by decide +kernel
theorem dX8_readsPerson_20 : decode cX8_readsPerson 20 = .ok (.getfield 16, 3) := by decide +kernel
theorem dX8_readsPerson_23 : decode cX8_readsPerson 23 = .ok (.iconst 0, 1) := by decide +kernel
theorem dX8_readsPerson_24 : decode cX8_readsPerson 24 = .ok (.iaload, 1) := by decide +kernel
theorem dX8_readsPerson_25 : decode cX8_readsPerson 25 = .ok (.iconst 1, 1) := by decide +kernel
theorem dX8_readsPerson_26 : decode cX8_readsPerson 26 = .ok (.isub, 1) := by decide +kernel
theorem dX8_readsPerson_27 : decode cX8_readsPerson 27 = .ok (.bipush 44, 2) := by decide +kernel
theorem dX8_readsPerson_29 : decode cX8_readsPerson 29 = .ok (.invokevirtual 72, 3) := by decide +kernel
theorem dX8_readsPerson_32 : decode cX8_readsPerson 32 = .ok (.istore_n 2, 1) := by decide +kernel
theorem dX8_readsPerson_33 : decode cX8_readsPerson 33 = .ok (.iload_n 2, 1) := by decide +kernel
theorem dX8_readsPerson_34 : decode cX8_readsPerson 34 = .ok (.ifCond .ge 7, 3) := by decide +kernel
theorem dX8_readsPerson_37 : decode cX8_readsPerson 37 = .ok (.iconst (-1), 1) := by decide +kernel
theorem dX8_readsPerson_38 : decode cX8_readsPerson 38 = .ok (.goto 18, 3) := by decide +kernel
theorem dX8_readsPerson_41 : decode cX8_readsPerson 41 = .ok (.aload_n 0, 1) := by decide +kernel
theorem dX8_readsPerson_42 : decode cX8_readsPerson 42 = .ok (.iconst 0, 1) := by decide +kernel
theorem dX8_readsPerson_43 : decode cX8_readsPerson 43 = .ok (.aload_n 0, 1) := by decide +kernel
theorem dX8_readsPerson_44 : decode cX8_readsPerson 44 = .ok (.getfield 16, 3) := by decide +kernel
theorem dX8_readsPerson_47 : decode cX8_readsPerson 47 = .ok (.iconst 1, 1) := by decide +kernel
theorem dX8_readsPerson_48 : decode cX8_readsPerson 48 = .ok (.iaload, 1) := by decide +kernel
theorem dX8_readsPerson_49 : decode cX8_readsPerson 49 = .ok (.iconst 1, 1) := by decide +kernel
theorem dX8_readsPerson_50 : decode cX8_readsPerson 50 = .ok (.isub, 1) := by decide +kernel
theorem dX8_readsPerson_51 : decode cX8_readsPerson 51 = .ok (.bipush 59, 2) := by decide +kernel
theorem dX8_readsPerson_53 : decode cX8_readsPerson 53 = .ok (.invokevirtual 72, 3) := by decide +kernel
theorem dX8_readsPerson_56 : decode cX8_readsPerson 56 = .ok (.istore_n 3, 1) := by decide +kernel
theorem dX8_readsPerson_57 : decode cX8_readsPerson 57 = .ok (.iload_n 3, 1) := by decide +kernel
theorem dX8_readsPerson_58 : decode cX8_readsPerson 58 = .ok (.ifCond .lt 18, 3) := by decide +kernel
theorem dX8_readsPerson_61 : decode cX8_readsPerson 61 = .ok (.aload_n 0, 1) := by decide +kernel
theorem dX8_readsPerson_62 : decode cX8_readsPerson 62 = .ok (.getfield 16, 3) := by decide +kernel
theorem dX8_readsPerson_65 : decode cX8_readsPerson 65 = .ok (.iconst 2, 1) := by decide +kernel
theorem dX8_readsPerson_66 : decode cX8_readsPerson 66 = .ok (.iaload, 1) := by decide +kernel
theorem dX8_readsPerson_67 : decode cX8_readsPerson 67 = .ok (.bipush 6, 2) := by decide +kernel
theorem dX8_readsPerson_69 : decode cX8_readsPerson 69 = .ok (.if_icmp .ge 7, 3) := by decide +kernel
theorem dX8_readsPerson_72 : decode cX8_readsPerson 72 = .ok (.iconst 1, 1) := by decide +kernel
theorem dX8_readsPerson_73 : decode cX8_readsPerson 73 = .ok (.goto 4, 3) := by decide +kernel
theorem dX8_readsPerson_76 : decode cX8_readsPerson 76 = .ok (.iconst 0, 1) := by decide +kernel
theorem dX8_readsPerson_77 : decode cX8_readsPerson 77 = .ok (.istore 4, 2) := by decide +kernel
theorem dX8_readsPerson_79 : decode cX8_readsPerson 79 = .ok (.iconst 0, 1) := by decide +kernel
theorem dX8_readsPerson_80 : decode cX8_readsPerson 80 = .ok (.istore 5, 2) := by decide +kernel
theorem dX8_readsPerson_82 : decode cX8_readsPerson 82 = .ok (.iload 5, 2) := by decide +kernel
theorem dX8_readsPerson_84 : decode cX8_readsPerson 84 = .ok (.aload_n 0, 1) := by decide +kernel
theorem dX8_readsPerson_85 : decode cX8_readsPerson 85 = .ok (.getfield 16, 3) := by decide +kernel
theorem dX8_readsPerson_88 : decode cX8_readsPerson 88 = .ok (.iconst 2, 1) := by decide +kernel
theorem dX8_readsPerson_89 : decode cX8_readsPerson 89 = .ok (.iaload, 1) := by decide +kernel
theorem dX8_readsPerson_90 : decode cX8_readsPerson 90 = .ok (.if_icmp .ge 49, 3) := by decide +kernel
theorem dX8_readsPerson_93 : decode cX8_readsPerson 93 = .ok (.iload 4, 2) := by decide +kernel
theorem dX8_readsPerson_95 : decode cX8_readsPerson 95 = .ok (.ifCond .eq 35, 3) := by decide +kernel
theorem dX8_readsPerson_98 : decode cX8_readsPerson 98 = .ok (.aload_n 0, 1) := by decide +kernel
theorem dX8_readsPerson_99 : decode cX8_readsPerson 99 = .ok (.getfield 19, 3) := by decide +kernel
theorem dX8_readsPerson_102 : decode cX8_readsPerson 102 = .ok (.bipush 7, 2) := by decide +kernel
theorem dX8_readsPerson_104 : decode cX8_readsPerson 104 = .ok (.iload 5, 2) := by decide +kernel
theorem dX8_readsPerson_106 : decode cX8_readsPerson 106 = .ok (.iadd, 1) := by decide +kernel
theorem dX8_readsPerson_107 : decode cX8_readsPerson 107 = .ok (.iaload, 1) := by decide +kernel
theorem dX8_readsPerson_108 : decode cX8_readsPerson 108 = .ok (.iload_n 2, 1) := by decide +kernel
theorem dX8_readsPerson_109 : decode cX8_readsPerson 109 = .ok (.if_icmp .ne 17, 3) := by decide +kernel
theorem dX8_readsPerson_112 : decode cX8_readsPerson 112 = .ok (.aload_n 0, 1) := by decide +kernel
theorem dX8_readsPerson_113 : decode cX8_readsPerson 113 = .ok (.getfield 19, 3) := by decide +kernel
theorem dX8_readsPerson_116 : decode cX8_readsPerson 116 = .ok (.bipush 13, 2) := by decide +kernel
theorem dX8_readsPerson_118 : decode cX8_readsPerson 118 = .ok (.iload 5, 2) := by decide +kernel
theorem dX8_readsPerson_120 : decode cX8_readsPerson 120 = .ok (.iadd, 1) := by decide +kernel
theorem dX8_readsPerson_121 : decode cX8_readsPerson 121 = .ok (.iaload, 1) := by decide +kernel
theorem dX8_readsPerson_122 : decode cX8_readsPerson 122 = .ok (.iload_n 3, 1) := by decide +kernel
theorem dX8_readsPerson_123 : decode cX8_readsPerson 123 = .ok (.if_icmp .eq 7, 3) := by decide +kernel
theorem dX8_readsPerson_126 : decode cX8_readsPerson 126 = .ok (.iconst 1, 1) := by decide +kernel
theorem dX8_readsPerson_127 : decode cX8_readsPerson 127 = .ok (.goto 4, 3) := by decide +kernel
theorem dX8_readsPerson_130 : decode cX8_readsPerson 130 = .ok (.iconst 0, 1) := by decide +kernel
theorem dX8_readsPerson_131 : decode cX8_readsPerson 131 = .ok (.istore 4, 2) := by decide +kernel
theorem dX8_readsPerson_133 : decode cX8_readsPerson 133 = .ok (.iinc 5 1, 3) := by decide +kernel
theorem dX8_readsPerson_136 : decode cX8_readsPerson 136 = .ok (.goto (-54), 3) := by decide +kernel
theorem dX8_readsPerson_139 : decode cX8_readsPerson 139 = .ok (.iload 4, 2) := by decide +kernel
theorem dX8_readsPerson_141 : decode cX8_readsPerson 141 = .ok (.ifCond .eq 10, 3) := by decide +kernel
theorem dX8_readsPerson_144 : decode cX8_readsPerson 144 = .ok (.aload_n 0, 1) := by decide +kernel
theorem dX8_readsPerson_145 : decode cX8_readsPerson 145 = .ok (.iload_n 1, 1) := by decide +kernel
theorem dX8_readsPerson_146 : decode cX8_readsPerson 146 = .ok (.iload_n 2, 1) := by decide +kernel
theorem dX8_readsPerson_147 : decode cX8_readsPerson 147 = .ok (.iload_n 3, 1) := by decide +kernel
theorem dX8_readsPerson_148 : decode cX8_readsPerson 148 = .ok (.invokevirtual 46, 3) := by decide +kernel
theorem dX8_readsPerson_151 : decode cX8_readsPerson 151 = .ok (.iload 4, 2) := by decide +kernel
theorem dX8_readsPerson_153 : decode cX8_readsPerson 153 = .ok (.ireturn, 1) := by decide +kernel
theorem dX8_readsLeaning_0 : decode cX8_readsLeaning 0 = .ok (.aload_n 0, 1) := by decide +kernel
theorem dX8_readsLeaning_1 : decode cX8_readsLeaning 1 = .ok (.iconst 0, 1) := by decide +kernel
theorem dX8_readsLeaning_2 : decode cX8_readsLeaning 2 = .ok (.aload_n 0, 1) := by decide +kernel
theorem dX8_readsLeaning_3 : decode cX8_readsLeaning 3 = .ok (.getfield 16, 3) := by decide +kernel
theorem dX8_readsLeaning_6 : decode cX8_readsLeaning 6 = .ok (.iconst 2, 1) := by decide +kernel
theorem dX8_readsLeaning_7 : decode cX8_readsLeaning 7 = .ok (.iaload, 1) := by decide +kernel
theorem dX8_readsLeaning_8 : decode cX8_readsLeaning 8 = .ok (.iconst 1, 1) := by decide +kernel
theorem dX8_readsLeaning_9 : decode cX8_readsLeaning 9 = .ok (.isub, 1) := by decide +kernel
theorem dX8_readsLeaning_10 : decode cX8_readsLeaning 10 = .ok (.bipush 44, 2) := by decide +kernel
theorem dX8_readsLeaning_12 : decode cX8_readsLeaning 12 = .ok (.invokevirtual 72, 3) := by decide +kernel
theorem dX8_readsLeaning_15 : decode cX8_readsLeaning 15 = .ok (.istore_n 1, 1) := by decide +kernel
theorem dX8_readsLeaning_16 : decode cX8_readsLeaning 16 = .ok (.iload_n 1, 1) := by decide +kernel
theorem dX8_readsLeaning_17 : decode cX8_readsLeaning 17 = .ok (.ifCond .ge 7, 3) := by decide +kernel
theorem dX8_readsLeaning_20 : decode cX8_readsLeaning 20 = .ok (.iconst (-1), 1) := by decide +kernel
theorem dX8_readsLeaning_21 : decode cX8_readsLeaning 21 = .ok (.goto 18, 3) := by decide +kernel
theorem dX8_readsLeaning_24 : decode cX8_readsLeaning 24 = .ok (.aload_n 0, 1) := by decide +kernel
theorem dX8_readsLeaning_25 : decode cX8_readsLeaning 25 = .ok (.iconst 0, 1) := by decide +kernel
theorem dX8_readsLeaning_26 : decode cX8_readsLeaning 26 = .ok (.aload_n 0, 1) := by decide +kernel
theorem dX8_readsLeaning_27 : decode cX8_readsLeaning 27 = .ok (.getfield 16, 3) := by decide +kernel
theorem dX8_readsLeaning_30 : decode cX8_readsLeaning 30 = .ok (.iconst 2, 1) := by decide +kernel
theorem dX8_readsLeaning_31 : decode cX8_readsLeaning 31 = .ok (.iaload, 1) := by decide +kernel
theorem dX8_readsLeaning_32 : decode cX8_readsLeaning 32 = .ok (.iconst 1, 1) := by decide +kernel
theorem dX8_readsLeaning_33 : decode cX8_readsLeaning 33 = .ok (.isub, 1) := by decide +kernel
theorem dX8_readsLeaning_34 : decode cX8_readsLeaning 34 = .ok (.bipush 44, 2) := by decide +kernel
theorem dX8_readsLeaning_36 : decode cX8_readsLeaning 36 = .ok (.invokevirtual 72, 3) := by decide +kernel
theorem dX8_readsLeaning_39 : decode cX8_readsLeaning 39 = .ok (.istore_n 2, 1) := by decide +kernel
theorem dX8_readsLeaning_40 : decode cX8_readsLeaning 40 = .ok (.iload_n 2, 1) := by decide +kernel
theorem dX8_readsLeaning_41 : decode cX8_readsLeaning 41 = .ok (.ifCond .ge 7, 3) := by decide +kernel
theorem dX8_readsLeaning_44 : decode cX8_readsLeaning 44 = .ok (.iconst (-1), 1) := by decide +kernel
theorem dX8_readsLeaning_45 : decode cX8_readsLeaning 45 = .ok (.goto 11, 3) := by decide +kernel
theorem dX8_readsLeaning_48 : decode cX8_readsLeaning 48 = .ok (.aload_n 0, 1) := by decide +kernel
theorem dX8_readsLeaning_49 : decode cX8_readsLeaning 49 = .ok (.iconst 0, 1) := by decide +kernel
theorem dX8_readsLeaning_50 : decode cX8_readsLeaning 50 = .ok (.iconst 1, 1) := by decide +kernel
theorem dX8_readsLeaning_51 : decode cX8_readsLeaning 51 = .ok (.bipush 44, 2) := by decide +kernel
theorem dX8_readsLeaning_53 : decode cX8_readsLeaning 53 = .ok (.invokevirtual 72, 3) := by decide +kernel
theorem dX8_readsLeaning_56 : decode cX8_readsLeaning 56 = .ok (.istore_n 3, 1) := by decide +kernel
theorem dX8_readsLeaning_57 : decode cX8_readsLeaning 57 = .ok (.iload_n 3, 1) := by decide +kernel
theorem dX8_readsLeaning_58 : decode cX8_readsLeaning 58 = .ok (.ifCond .ge 7, 3) := by decide +kernel
theorem dX8_readsLeaning_61 : decode cX8_readsLeaning 61 = .ok (.iconst (-1), 1) := by decide +kernel
theorem dX8_readsLeaning_62 : decode cX8_readsLeaning 62 = .ok (.goto 12, 3) := by decide +kernel
theorem dX8_readsLeaning_65 : decode cX8_readsLeaning 65 = .ok (.aload_n 0, 1) := by decide +kernel
theorem dX8_readsLeaning_66 : decode cX8_readsLeaning 66 = .ok (.iconst 0, 1) := by decide +kernel
theorem dX8_readsLeaning_67 : decode cX8_readsLeaning 67 = .ok (.bipush 20, 2) := by decide +kernel
theorem dX8_readsLeaning_69 : decode cX8_readsLeaning 69 = .ok (.bipush 59, 2) := by decide +kernel
theorem dX8_readsLeaning_71 : decode cX8_readsLeaning 71 = .ok (.invokevirtual 72, 3) := by decide +kernel
theorem dX8_readsLeaning_74 : decode cX8_readsLeaning 74 = .ok (.istore 4, 2) := by decide +kernel
theorem dX8_readsLeaning_76 : decode cX8_readsLeaning 76 = .ok (.iload 4, 2) := by decide +kernel
theorem dX8_readsLeaning_78 : decode cX8_readsLeaning 78 = .ok (.ifCond .lt 8, 3) := by decide +kernel
theorem dX8_readsLeaning_81 : decode cX8_readsLeaning 81 = .ok (.iload_n 1, 1) := by decide +kernel
theorem dX8_readsLeaning_82 : decode cX8_readsLeaning 82 = .ok (.iload_n 2, 1) := by decide +kernel
theorem dX8_readsLeaning_83 : decode cX8_readsLeaning 83 = .ok (.if_icmp .ne 5, 3) := by decide +kernel
theorem dX8_readsLeaning_86 : decode cX8_readsLeaning 86 = .ok (.iconst 0, 1) := by decide +kernel
theorem dX8_readsLeaning_87 : decode cX8_readsLeaning 87 = .ok (.ireturn, 1) := by decide +kernel
theorem dX8_readsLeaning_88 : decode cX8_readsLeaning 88 = .ok (.aload_n 0, 1) := by decide +kernel
theorem dX8_readsLeaning_89 : decode cX8_readsLeaning 89 = .ok (.getfield 19, 3) := by decide +kernel
theorem dX8_readsLeaning_92 : decode cX8_readsLeaning 92 = .ok (.bipush 19, 2) := by decide +kernel
theorem dX8_readsLeaning_94 : decode cX8_readsLeaning 94 = .ok (.bipush 6, 2) := by decide +kernel
theorem dX8_readsLeaning_96 : decode cX8_readsLeaning 96 = .ok (.iload_n 1, 1) := by decide +kernel
theorem dX8_readsLeaning_97 : decode cX8_readsLeaning 97 = .ok (.imul, 1) := by decide +kernel
theorem dX8_readsLeaning_98 : decode cX8_readsLeaning 98 = .ok (.iadd, 1) := by decide +kernel
theorem dX8_readsLeaning_99 : decode cX8_readsLeaning 99 = .ok (.iload_n 2, 1) := by decide +kernel
theorem dX8_readsLeaning_100 : decode cX8_readsLeaning 100 = .ok (.iadd, 1) := by decide +kernel
theorem dX8_readsLeaning_101 : decode cX8_readsLeaning 101 = .ok (.iload_n 3, 1) := by decide +kernel
theorem dX8_readsLeaning_102 : decode cX8_readsLeaning 102 = .ok (.iconst 1, 1) := by decide +kernel
theorem dX8_readsLeaning_103 : decode cX8_readsLeaning 103 = .ok (.if_icmp .ne 9, 3) := by decide +kernel
theorem dX8_readsLeaning_106 : decode cX8_readsLeaning 106 = .ok (.iload 4, 2) := by decide +kernel
theorem dX8_readsLeaning_108 : decode cX8_readsLeaning 108 = .ok (.ineg, 1) := by decide +kernel
theorem dX8_readsLeaning_109 : decode cX8_readsLeaning 109 = .ok (.goto 5, 3) := by decide +kernel
theorem dX8_readsLeaning_112 : decode cX8_readsLeaning 112 = .ok (.iload 4, 2) := by decide +kernel
theorem dX8_readsLeaning_114 : decode cX8_readsLeaning 114 = .ok (.iastore, 1) := by decide +kernel
theorem dX8_readsLeaning_115 : decode cX8_readsLeaning 115 = .ok (.iconst 1, 1) := by decide +kernel
theorem dX8_readsLeaning_116 : decode cX8_readsLeaning 116 = .ok (.ireturn, 1) := by decide +kernel
theorem dX8_readsAll_0 : decode cX8_readsAll 0 = .ok (.aload_n 0, 1) := by decide +kernel
theorem dX8_readsAll_1 : decode cX8_readsAll 1 = .ok (.invokevirtual 43, 3) := by decide +kernel
theorem dX8_readsAll_4 : decode cX8_readsAll 4 = .ok (.aload_n 0, 1) := by decide +kernel
theorem dX8_readsAll_5 : decode cX8_readsAll 5 = .ok (.iconst 0, 1) := by decide +kernel
theorem dX8_readsAll_6 : decode cX8_readsAll 6 = .ok (.putfield 61, 3) := by decide +kernel
theorem dX8_readsAll_9 : decode cX8_readsAll 9 = .ok (.iconst 1, 1) := by decide +kernel
theorem dX8_readsAll_10 : decode cX8_readsAll 10 = .ok (.istore_n 1, 1) := by decide +kernel
theorem dX8_readsAll_11 : decode cX8_readsAll 11 = .ok (.aload_n 0, 1) := by decide +kernel
theorem dX8_readsAll_12 : decode cX8_readsAll 12 = .ok (.getfield 61, 3) := by decide +kernel
theorem dX8_readsAll_15 : decode cX8_readsAll 15 = .ok (.aload_n 0, 1) := by decide +kernel
theorem dX8_readsAll_16 : decode cX8_readsAll 16 = .ok (.getfield 57, 3) := by decide +kernel
theorem dX8_readsAll_19 : decode cX8_readsAll 19 = .ok (.if_icmp .ge 109, 3) := by decide +kernel
theorem dX8_readsAll_22 : decode cX8_readsAll 22 = .ok (.aload_n 0, 1) := by decide +kernel
theorem dX8_readsAll_23 : decode cX8_readsAll 23 = .ok (.getfield 61, 3) := by decide +kernel
theorem dX8_readsAll_26 : decode cX8_readsAll 26 = .ok (.istore_n 2, 1) := by decide +kernel
theorem dX8_readsAll_27 : decode cX8_readsAll 27 = .ok (.aload_n 0, 1) := by decide +kernel
theorem dX8_readsAll_28 : decode cX8_readsAll 28 = .ok (.getfield 7, 3) := by decide +kernel
theorem dX8_readsAll_31 : decode cX8_readsAll 31 = .ok (.iload_n 2, 1) := by decide +kernel
theorem dX8_readsAll_32 : decode cX8_readsAll 32 = .ok (.iaload, 1) := by decide +kernel
theorem dX8_readsAll_33 : decode cX8_readsAll 33 = .ok (.istore_n 3, 1) := by decide +kernel
theorem dX8_readsAll_34 : decode cX8_readsAll 34 = .ok (.aload_n 0, 1) := by decide +kernel
theorem dX8_readsAll_35 : decode cX8_readsAll 35 = .ok (.dup, 1) := by decide +kernel
theorem dX8_readsAll_36 : decode cX8_readsAll 36 = .ok (.getfield 61, 3) := by decide +kernel
theorem dX8_readsAll_39 : decode cX8_readsAll 39 = .ok (.iconst 1, 1) := by decide +kernel
theorem dX8_readsAll_40 : decode cX8_readsAll 40 = .ok (.iadd, 1) := by decide +kernel
theorem dX8_readsAll_41 : decode cX8_readsAll 41 = .ok (.putfield 61, 3) := by decide +kernel
theorem dX8_readsAll_44 : decode cX8_readsAll 44 = .ok (.iload_n 3, 1) := by decide +kernel
theorem dX8_readsAll_45 : decode cX8_readsAll 45 = .ok (.bipush 114, 2) := by decide +kernel
theorem dX8_readsAll_47 : decode cX8_readsAll 47 = .ok (.if_icmp .ne 22, 3) := by decide +kernel
theorem dX8_readsAll_50 : decode cX8_readsAll 50 = .ok (.iload_n 1, 1) := by decide +kernel
theorem dX8_readsAll_51 : decode cX8_readsAll 51 = .ok (.ifCond .eq 14, 3) := by decide +kernel
theorem dX8_readsAll_54 : decode cX8_readsAll 54 = .ok (.aload_n 0, 1) := by decide +kernel
theorem dX8_readsAll_55 : decode cX8_readsAll 55 = .ok (.invokevirtual 76, 3) := by decide +kernel
theorem dX8_readsAll_58 : decode cX8_readsAll 58 = .ok (.ifCond .eq 7, 3) := by decide +kernel
theorem dX8_readsAll_61 : decode cX8_readsAll 61 = .ok (.iconst 1, 1) := by decide +kernel
theorem dX8_readsAll_62 : decode cX8_readsAll 62 = .ok (.goto 38, 3) := by decide +kernel
theorem dX8_readsAll_65 : decode cX8_readsAll 65 = .ok (.iconst 0, 1) := by decide +kernel
theorem dX8_readsAll_66 : decode cX8_readsAll 66 = .ok (.goto 34, 3) := by decide +kernel
theorem dX8_readsAll_69 : decode cX8_readsAll 69 = .ok (.iload_n 3, 1) := by decide +kernel
theorem dX8_readsAll_70 : decode cX8_readsAll 70 = .ok (.bipush 112, 2) := by decide +kernel
theorem dX8_readsAll_72 : decode cX8_readsAll 72 = .ok (.if_icmp .ne 10, 3) := by decide +kernel
theorem dX8_readsAll_75 : decode cX8_readsAll 75 = .ok (.aload_n 0, 1) := by decide +kernel
theorem dX8_readsAll_76 : decode cX8_readsAll 76 = .ok (.invokevirtual 80, 3) := by decide +kernel
theorem dX8_readsAll_79 : decode cX8_readsAll 79 = .ok (.goto 21, 3) := by decide +kernel
theorem dX8_readsAll_82 : decode cX8_readsAll 82 = .ok (.iload_n 3, 1) := by decide +kernel
