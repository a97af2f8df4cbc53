theorem dX10_takes_62 : decode cX10_takes 62 = .ok (.getfield 29, 3) := by decide +kernel
theorem dX10_takes_65 : decode cX10_takes 65 = .ok (.bipush 45, 2) := by decide +kernel
theorem dX10_takes_67 : decode cX10_takes 67 = .ok (.iload_n 1, 1) := by decide +kernel
theorem dX10_takes_68 : decode cX10_takes 68 = .ok (.iadd, 1) := by decide +kernel
theorem dX10_takes_69 : decode cX10_takes 69 = .ok (.iaload, 1) := by decide +kernel
theorem dX10_takes_70 : decode cX10_takes 70 = .ok (.iastore, 1) := by decide +kernel
theorem dX10_takes_71 : decode cX10_takes 71 = .ok (.iload_n 1, 1) := by decide +kernel
theorem dX10_takes_72 : decode cX10_takes 72 = .ok (.iconst 5, 1) := by decide +kernel
theorem dX10_takes_73 : decode cX10_takes 73 = .ok (.if_icmp .ge 31, 3) := by decide +kernel
theorem dX10_takes_76 : decode cX10_takes 76 = .ok (.aload_n 0, 1) := by decide +kernel
theorem dX10_takes_77 : decode cX10_takes 77 = .ok (.getfield 20, 3) := by decide +kernel
theorem dX10_takes_80 : decode cX10_takes 80 = .ok (.iload_n 1, 1) := by decide +kernel
theorem dX10_takes_81 : decode cX10_takes 81 = .ok (.aload_n 0, 1) := by decide +kernel
theorem dX10_takes_82 : decode cX10_takes 82 = .ok (.getfield 20, 3) := by decide +kernel
theorem dX10_takes_85 : decode cX10_takes 85 = .ok (.iconst 5, 1) := by decide +kernel
theorem dX10_takes_86 : decode cX10_takes 86 = .ok (.iload_n 1, 1) := by decide +kernel
theorem dX10_takes_87 : decode cX10_takes 87 = .ok (.iadd, 1) := by decide +kernel
theorem dX10_takes_88 : decode cX10_takes 88 = .ok (.iaload, 1) := by decide +kernel
theorem dX10_takes_89 : decode cX10_takes 89 = .ok (.iastore, 1) := by decide +kernel
theorem dX10_takes_90 : decode cX10_takes 90 = .ok (.aload_n 0, 1) := by decide +kernel
theorem dX10_takes_91 : decode cX10_takes 91 = .ok (.getfield 23, 3) := by decide +kernel
theorem dX10_takes_94 : decode cX10_takes 94 = .ok (.iload_n 1, 1) := by decide +kernel
theorem dX10_takes_95 : decode cX10_takes 95 = .ok (.aload_n 0, 1) := by decide +kernel
theorem dX10_takes_96 : decode cX10_takes 96 = .ok (.getfield 23, 3) := by decide +kernel
theorem dX10_takes_99 : decode cX10_takes 99 = .ok (.iconst 5, 1) := by decide +kernel
theorem dX10_takes_100 : decode cX10_takes 100 = .ok (.iload_n 1, 1) := by decide +kernel
theorem dX10_takes_101 : decode cX10_takes 101 = .ok (.iadd, 1) := by decide +kernel
theorem dX10_takes_102 : decode cX10_takes 102 = .ok (.iaload, 1) := by decide +kernel
theorem dX10_takes_103 : decode cX10_takes 103 = .ok (.iastore, 1) := by decide +kernel
theorem dX10_takes_104 : decode cX10_takes 104 = .ok (.iinc 1 1, 3) := by decide +kernel
theorem dX10_takes_107 : decode cX10_takes 107 = .ok (.goto (-57), 3) := by decide +kernel
theorem dX10_takes_110 : decode cX10_takes 110 = .ok (.aload_n 0, 1) := by decide +kernel
theorem dX10_takes_111 : decode cX10_takes 111 = .ok (.getfield 32, 3) := by decide +kernel
theorem dX10_takes_114 : decode cX10_takes 114 = .ok (.iconst 0, 1) := by decide +kernel
theorem dX10_takes_115 : decode cX10_takes 115 = .ok (.iconst 0, 1) := by decide +kernel
theorem dX10_takes_116 : decode cX10_takes 116 = .ok (.iastore, 1) := by decide +kernel
theorem dX10_takes_117 : decode cX10_takes 117 = .ok (.aload_n 0, 1) := by decide +kernel
theorem dX10_takes_118 : decode cX10_takes 118 = .ok (.getfield 32, 3) := by decide +kernel
theorem dX10_takes_121 : decode cX10_takes 121 = .ok (.iconst 1, 1) := by decide +kernel
theorem dX10_takes_122 : decode cX10_takes 122 = .ok (.bipush (-4), 2) := by decide +kernel
theorem dX10_takes_124 : decode cX10_takes 124 = .ok (.iastore, 1) := by decide +kernel
theorem dX10_takes_125 : decode cX10_takes 125 = .ok (.aload_n 0, 1) := by decide +kernel
theorem dX10_takes_126 : decode cX10_takes 126 = .ok (.getfield 32, 3) := by decide +kernel
theorem dX10_takes_129 : decode cX10_takes 129 = .ok (.iconst 2, 1) := by decide +kernel
theorem dX10_takes_130 : decode cX10_takes 130 = .ok (.iconst 0, 1) := by decide +kernel
theorem dX10_takes_131 : decode cX10_takes 131 = .ok (.iastore, 1) := by decide +kernel
theorem dX10_takes_132 : decode cX10_takes 132 = .ok (.aload_n 0, 1) := by decide +kernel
theorem dX10_takes_133 : decode cX10_takes 133 = .ok (.iconst 0, 1) := by decide +kernel
theorem dX10_takes_134 : decode cX10_takes 134 = .ok (.putfield 111, 3) := by decide +kernel
theorem dX10_takes_137 : decode cX10_takes 137 = .ok (.aload_n 0, 1) := by decide +kernel
theorem dX10_takes_138 : decode cX10_takes 138 = .ok (.iconst 0, 1) := by decide +kernel
theorem dX10_takes_139 : decode cX10_takes 139 = .ok (.putfield 114, 3) := by decide +kernel
theorem dX10_takes_142 : decode cX10_takes 142 = .ok (.aload_n 0, 1) := by decide +kernel
theorem dX10_takes_143 : decode cX10_takes 143 = .ok (.iconst 0, 1) := by decide +kernel
theorem dX10_takes_144 : decode cX10_takes 144 = .ok (.putfield 117, 3) := by decide +kernel
theorem dX10_takes_147 : decode cX10_takes 147 = .ok (.return_, 1) := by decide +kernel
theorem dX10_fault_0 : decode cX10_fault 0 = .ok (.aload_n 0, 1) := by decide +kernel
theorem dX10_fault_1 : decode cX10_fault 1 = .ok (.iconst 0, 1) := by decide +kernel
theorem dX10_fault_2 : decode cX10_fault 2 = .ok (.putfield 82, 3) := by decide +kernel
theorem dX10_fault_5 : decode cX10_fault 5 = .ok (.aload_n 0, 1) := by decide +kernel
theorem dX10_fault_6 : decode cX10_fault 6 = .ok (.invokevirtual 66, 3) := by decide +kernel
theorem dX10_fault_9 : decode cX10_fault 9 = .ok (.aload_n 0, 1) := by decide +kernel
theorem dX10_fault_10 : decode cX10_fault 10 = .ok (.getfield 82, 3) := by decide +kernel
theorem dX10_fault_13 : decode cX10_fault 13 = .ok (.aload_n 0, 1) := by decide +kernel
theorem dX10_fault_14 : decode cX10_fault 14 = .ok (.getfield 78, 3) := by decide +kernel
theorem dX10_fault_17 : decode cX10_fault 17 = .ok (.if_icmp .ge 20, 3) := by decide +kernel
theorem dX10_fault_20 : decode cX10_fault 20 = .ok (.aload_n 0, 1) := by decide +kernel
theorem dX10_fault_21 : decode cX10_fault 21 = .ok (.getfield 82, 3) := by decide +kernel
theorem dX10_fault_24 : decode cX10_fault 24 = .ok (.istore_n 1, 1) := by decide +kernel
theorem dX10_fault_25 : decode cX10_fault 25 = .ok (.aload_n 0, 1) := by decide +kernel
theorem dX10_fault_26 : decode cX10_fault 26 = .ok (.invokevirtual 120, 3) := by decide +kernel
theorem dX10_fault_29 : decode cX10_fault 29 = .ok (.ifCond .ne 5, 3) := by decide +kernel
theorem dX10_fault_32 : decode cX10_fault 32 = .ok (.iload_n 1, 1) := by decide +kernel
theorem dX10_fault_33 : decode cX10_fault 33 = .ok (.ireturn, 1) := by decide +kernel
theorem dX10_fault_34 : decode cX10_fault 34 = .ok (.goto (-25), 3) := by decide +kernel
theorem dX10_fault_37 : decode cX10_fault 37 = .ok (.bipush (-4), 2) := by decide +kernel
theorem dX10_fault_39 : decode cX10_fault 39 = .ok (.ireturn, 1) := by decide +kernel
theorem dX10_lay_0 : decode cX10_lay 0 = .ok (.aload_n 0, 1) := by decide +kernel
theorem dX10_lay_1 : decode cX10_lay 1 = .ok (.invokevirtual 123, 3) := by decide +kernel
theorem dX10_lay_4 : decode cX10_lay 4 = .ok (.bipush (-4), 2) := by decide +kernel
theorem dX10_lay_6 : decode cX10_lay 6 = .ok (.if_icmp .ne 21, 3) := by decide +kernel
theorem dX10_lay_9 : decode cX10_lay 9 = .ok (.aload_n 0, 1) := by decide +kernel
theorem dX10_lay_10 : decode cX10_lay 10 = .ok (.getfield 17, 3) := by decide +kernel
theorem dX10_lay_13 : decode cX10_lay 13 = .ok (.iconst 1, 1) := by decide +kernel
theorem dX10_lay_14 : decode cX10_lay 14 = .ok (.iaload, 1) := by decide +kernel
theorem dX10_lay_15 : decode cX10_lay 15 = .ok (.ifCond .eq 12, 3) := by decide +kernel
theorem dX10_lay_18 : decode cX10_lay 18 = .ok (.aload_n 0, 1) := by decide +kernel
theorem dX10_lay_19 : decode cX10_lay 19 = .ok (.getfield 26, 3) := by decide +kernel
theorem dX10_lay_22 : decode cX10_lay 22 = .ok (.iconst 1, 1) := by decide +kernel
theorem dX10_lay_23 : decode cX10_lay 23 = .ok (.iaload, 1) := by decide +kernel
theorem dX10_lay_24 : decode cX10_lay 24 = .ok (.ifCond .ne 6, 3) := by decide +kernel
theorem dX10_lay_27 : decode cX10_lay 27 = .ok (.bipush (-2), 2) := by decide +kernel
theorem dX10_lay_29 : decode cX10_lay 29 = .ok (.ireturn, 1) := by decide +kernel
theorem dX10_lay_30 : decode cX10_lay 30 = .ok (.aload_n 0, 1) := by decide +kernel
theorem dX10_lay_31 : decode cX10_lay 31 = .ok (.invokevirtual 69, 3) := by decide +kernel
theorem dX10_lay_34 : decode cX10_lay 34 = .ok (.aload_n 0, 1) := by decide +kernel
theorem dX10_lay_35 : decode cX10_lay 35 = .ok (.getfield 26, 3) := by decide +kernel
theorem dX10_lay_38 : decode cX10_lay 38 = .ok (.iconst 0, 1) := by decide +kernel
theorem dX10_lay_39 : decode cX10_lay 39 = .ok (.iaload, 1) := by decide +kernel
theorem dX10_lay_40 : decode cX10_lay 40 = .ok (.ireturn, 1) := by decide +kernel
theorem dX10_isMan_0 : decode cX10_isMan 0 = .ok (.iload_n 1, 1) := by decide +kernel
theorem dX10_isMan_1 : decode cX10_isMan 1 = .ok (.i2l, 1) := by decide +kernel
theorem dX10_isMan_2 : decode cX10_isMan 2 = .ok (.lconst 0, 1) := by decide +kernel
theorem dX10_isMan_3 : decode cX10_isMan 3 = .ok (.aload_n 0, 1) := by decide +kernel
theorem dX10_isMan_4 : decode cX10_isMan 4 = .ok (.getfield 26, 3) := by decide +kernel
theorem dX10_isMan_7 : decode cX10_isMan 7 = .ok (.iconst 0, 1) := by decide +kernel
theorem dX10_isMan_8 : decode cX10_isMan 8 = .ok (.iaload, 1) := by decide +kernel
theorem dX10_isMan_9 : decode cX10_isMan 9 = .ok (.iconst 1, 1) := by decide +kernel
theorem dX10_isMan_10 : decode cX10_isMan 10 = .ok (.isub, 1) := by decide +kernel
theorem dX10_isMan_11 : decode cX10_isMan 11 = .ok (.i2l, 1) := by decide +kernel
theorem dX10_isMan_12 : decode cX10_isMan 12 = .ok (.invokestatic 74, 3) := by decide +kernel
theorem dX10_isMan_15 : decode cX10_isMan 15 = .ok (.ireturn, 1) := by decide +kernel
theorem dX10_seen_0 : decode cX10_seen 0 = .ok (.aload_n 0, 1) := by decide +kernel
theorem dX10_seen_1 : decode cX10_seen 1 = .ok (.getfield 13, 3) := by decide +kernel
theorem dX10_seen_4 : decode cX10_seen 4 = .ok (.iconst 1, 1) := by decide +kernel
theorem dX10_seen_5 : decode cX10_seen 5 = .ok (.iaload, 1) := by decide +kernel
theorem dX10_seen_6 : decode cX10_seen 6 = .ok (.iconst 1, 1) := by decide +kernel
theorem dX10_seen_7 : decode cX10_seen 7 = .ok (.aload_n 0, 1) := by decide +kernel
theorem dX10_seen_8 : decode cX10_seen 8 = .ok (.getfield 17, 3) := by decide +kernel
theorem dX10_seen_11 : decode cX10_seen 11 = .ok (.iconst 0, 1) := by decide +kernel
theorem dX10_seen_12 : decode cX10_seen 12 = .ok (.iaload, 1) := by decide +kernel
theorem dX10_seen_13 : decode cX10_seen 13 = .ok (.ishl, 1) := by decide +kernel
theorem dX10_seen_14 : decode cX10_seen 14 = .ok (.iconst 1, 1) := by decide +kernel
theorem dX10_seen_15 : decode cX10_seen 15 = .ok (.isub, 1) := by decide +kernel
theorem dX10_seen_16 : decode cX10_seen 16 = .ok (.iand, 1) := by decide +kernel
theorem dX10_seen_17 : decode cX10_seen 17 = .ok (.ireturn, 1) := by decide +kernel
theorem dX10_codeOf_0 : decode cX10_codeOf 0 = .ok (.iconst 0, 1) := by decide +kernel
theorem dX10_codeOf_1 : decode cX10_codeOf 1 = .ok (.istore_n 2, 1) := by decide +kernel
theorem dX10_codeOf_2 : decode cX10_codeOf 2 = .ok (.iconst 0, 1) := by decide +kernel
theorem dX10_codeOf_3 : decode cX10_codeOf 3 = .ok (.istore_n 3, 1) := by decide +kernel
theorem dX10_codeOf_4 : decode cX10_codeOf 4 = .ok (.iload_n 3, 1) := by decide +kernel
theorem dX10_codeOf_5 : decode cX10_codeOf 5 = .ok (.aload_n 0, 1) := by decide +kernel
theorem dX10_codeOf_6 : decode cX10_codeOf 6 = .ok (.getfield 17, 3) := by decide +kernel
theorem dX10_codeOf_9 : decode cX10_codeOf 9 = .ok (.iconst 0, 1) := by decide +kernel
theorem dX10_codeOf_10 : decode cX10_codeOf 10 = .ok (.iaload, 1) := by decide +kernel
theorem dX10_codeOf_11 : decode cX10_codeOf 11 = .ok (.if_icmp .ge 29, 3) := by decide +kernel
theorem dX10_codeOf_14 : decode cX10_codeOf 14 = .ok (.iload_n 2, 1) := by decide +kernel
theorem dX10_codeOf_15 : decode cX10_codeOf 15 = .ok (.aload_n 0, 1) := by decide +kernel
theorem dX10_codeOf_16 : decode cX10_codeOf 16 = .ok (.getfield 20, 3) := by decide +kernel
theorem dX10_codeOf_19 : decode cX10_codeOf 19 = .ok (.iload_n 3, 1) := by decide +kernel
theorem dX10_codeOf_20 : decode cX10_codeOf 20 = .ok (.iaload, 1) := by decide +kernel
theorem dX10_codeOf_21 : decode cX10_codeOf 21 = .ok (.imul, 1) := by decide +kernel
theorem dX10_codeOf_22 : decode cX10_codeOf 22 = .ok (.aload_n 0, 1) := by decide +kernel
theorem dX10_codeOf_23 : decode cX10_codeOf 23 = .ok (.getfield 29, 3) := by decide +kernel
theorem dX10_codeOf_26 : decode cX10_codeOf 26 = .ok (.iconst 5, 1) := by decide +kernel
theorem dX10_codeOf_27 : decode cX10_codeOf 27 = .ok (.iload_n 1, 1) := by decide +kernel
theorem dX10_codeOf_28 : decode cX10_codeOf 28 = .ok (.imul, 1) := by decide +kernel
theorem dX10_codeOf_29 : decode cX10_codeOf 29 = .ok (.iload_n 3, 1) := by decide +kernel
theorem dX10_codeOf_30 : decode cX10_codeOf 30 = .ok (.iadd, 1) := by decide +kernel
theorem dX10_codeOf_31 : decode cX10_codeOf 31 = .ok (.iaload, 1) := by decide +kernel
theorem dX10_codeOf_32 : decode cX10_codeOf 32 = .ok (.iadd, 1) := by decide +kernel
theorem dX10_codeOf_33 : decode cX10_codeOf 33 = .ok (.istore_n 2, 1) := by decide +kernel
theorem dX10_codeOf_34 : decode cX10_codeOf 34 = .ok (.iinc 3 1, 3) := by decide +kernel
theorem dX10_codeOf_37 : decode cX10_codeOf 37 = .ok (.goto (-33), 3) := by decide +kernel
theorem dX10_codeOf_40 : decode cX10_codeOf 40 = .ok (.iload_n 2, 1) := by decide +kernel
theorem dX10_codeOf_41 : decode cX10_codeOf 41 = .ok (.ireturn, 1) := by decide +kernel
theorem dX10_person_0 : decode cX10_person 0 = .ok (.aload_n 0, 1) := by decide +kernel
theorem dX10_person_1 : decode cX10_person 1 = .ok (.iload_n 1, 1) := by decide +kernel
theorem dX10_person_2 : decode cX10_person 2 = .ok (.invokevirtual 126, 3) := by decide +kernel
theorem dX10_person_5 : decode cX10_person 5 = .ok (.ifCond .eq 23, 3) := by decide +kernel
theorem dX10_person_8 : decode cX10_person 8 = .ok (.iload_n 2, 1) := by decide +kernel
theorem dX10_person_9 : decode cX10_person 9 = .ok (.i2l, 1) := by decide +kernel
theorem dX10_person_10 : decode cX10_person 10 = .ok (.ldc2_w 130, 3) := by decide +kernel
theorem dX10_person_13 : decode cX10_person 13 = .ok (.aload_n 0, 1) := by decide +kernel
theorem dX10_person_14 : decode cX10_person 14 = .ok (.getfield 17, 3) := by decide +kernel
theorem dX10_person_17 : decode cX10_person 17 = .ok (.iconst 0, 1) := by decide +kernel
theorem dX10_person_18 : decode cX10_person 18 = .ok (.iaload, 1) := by decide +kernel
theorem dX10_person_19 : decode cX10_person 19 = .ok (.iconst 1, 1) := by decide +kernel
theorem dX10_person_20 : decode cX10_person 20 = .ok (.isub, 1) := by decide +kernel
theorem dX10_person_21 : decode cX10_person 21 = .ok (.i2l, 1) := by decide +kernel
theorem dX10_person_22 : decode cX10_person 22 = .ok (.invokestatic 74, 3) := by decide +kernel
theorem dX10_person_25 : decode cX10_person 25 = .ok (.ifCond .ne 5, 3) := by decide +kernel
theorem dX10_person_28 : decode cX10_person 28 = .ok (.iconst (-1), 1) := by decide +kernel
theorem dX10_person_29 : decode cX10_person 29 = .ok (.ireturn, 1) := by decide +kernel
theorem dX10_person_30 : decode cX10_person 30 = .ok (.iload_n 2, 1) := by decide +kernel
theorem dX10_person_31 : decode cX10_person 31 = .ok (.bipush (-2), 2) := by decide +kernel
theorem dX10_person_33 : decode cX10_person 33 = .ok (.if_icmp .ne 16, 3) := by decide +kernel
theorem dX10_person_36 : decode cX10_person 36 = .ok (.aload_n 0, 1) := by decide +kernel
theorem dX10_person_37 : decode cX10_person 37 = .ok (.getfield 32, 3) := by decide +kernel
theorem dX10_person_40 : decode cX10_person 40 = .ok (.iconst 0, 1) := by decide +kernel
theorem dX10_person_41 : decode cX10_person 41 = .ok (.iaload, 1) := by decide +kernel
theorem dX10_person_42 : decode cX10_person 42 = .ok (.iload_n 1, 1) := by decide +kernel
theorem dX10_person_43 : decode cX10_person 43 = .ok (.ishr, 1) := by decide +kernel
theorem dX10_person_44 : decode cX10_person 44 = .ok (.iconst 1, 1) := by decide +kernel
theorem dX10_person_45 : decode cX10_person 45 = .ok (.iand, 1) := by decide +kernel
theorem dX10_person_46 : decode cX10_person 46 = .ok (.goto 26, 3) := by decide +kernel
theorem dX10_person_49 : decode cX10_person 49 = .ok (.iload_n 2, 1) := by decide +kernel
theorem dX10_person_50 : decode cX10_person 50 = .ok (.iconst (-1), 1) := by decide +kernel
theorem dX10_person_51 : decode cX10_person 51 = .ok (.if_icmp .ne 11, 3) := by decide +kernel
theorem dX10_person_54 : decode cX10_person 54 = .ok (.aload_n 0, 1) := by decide +kernel
theorem dX10_person_55 : decode cX10_person 55 = .ok (.iload_n 1, 1) := by decide +kernel
theorem dX10_person_56 : decode cX10_person 56 = .ok (.invokevirtual 132, 3) := by decide +kernel
theorem dX10_person_59 : decode cX10_person 59 = .ok (.goto 13, 3) := by decide +kernel
theorem dX10_person_62 : decode cX10_person 62 = .ok (.aload_n 0, 1) := by decide +kernel
theorem dX10_person_63 : decode cX10_person 63 = .ok (.getfield 29, 3) := by decide +kernel
theorem dX10_person_66 : decode cX10_person 66 = .ok (.iconst 5, 1) := by decide +kernel
theorem dX10_person_67 : decode cX10_person 67 = .ok (.iload_n 1, 1) := by decide +kernel
theorem dX10_person_68 : decode cX10_person 68 = .ok (.imul, 1) := by decide +kernel
theorem dX10_person_69 : decode cX10_person 69 = .ok (.iload_n 2, 1) := by decide +kernel
theorem dX10_person_70 : decode cX10_person 70 = .ok (.iadd, 1) := by decide +kernel
theorem dX10_person_71 : decode cX10_person 71 = .ok (.iaload, 1) := by decide +kernel
theorem dX10_person_72 : decode cX10_person 72 = .ok (.ireturn, 1) := by decide +kernel
theorem dX10_unlike_0 : decode cX10_unlike 0 = .ok (.iconst 0, 1) := by decide +kernel
theorem dX10_unlike_1 : decode cX10_unlike 1 = .ok (.istore_n 3, 1) := by decide +kernel
theorem dX10_unlike_2 : decode cX10_unlike 2 = .ok (.iconst 0, 1) := by decide +kernel
theorem dX10_unlike_3 : decode cX10_unlike 3 = .ok (.istore 4, 2) := by decide +kernel
theorem dX10_unlike_5 : decode cX10_unlike 5 = .ok (.iload 4, 2) := by decide +kernel
theorem dX10_unlike_7 : decode cX10_unlike 7 = .ok (.aload_n 0, 1) := by decide +kernel
theorem dX10_unlike_8 : decode cX10_unlike 8 = .ok (.getfield 17, 3) := by decide +kernel
theorem dX10_unlike_11 : decode cX10_unlike 11 = .ok (.iconst 0, 1) := by decide +kernel
theorem dX10_unlike_12 : decode cX10_unlike 12 = .ok (.iaload, 1) := by decide +kernel
theorem dX10_unlike_13 : decode cX10_unlike 13 = .ok (.if_icmp .ge 45, 3) := by decide +kernel
theorem dX10_unlike_16 : decode cX10_unlike 16 = .ok (.iload_n 3, 1) := by decide +kernel
theorem dX10_unlike_17 : decode cX10_unlike 17 = .ok (.aload_n 0, 1) := by decide +kernel
theorem dX10_unlike_18 : decode cX10_unlike 18 = .ok (.getfield 29, 3) := by decide +kernel
theorem dX10_unlike_21 : decode cX10_unlike 21 = .ok (.iconst 5, 1) := by decide +kernel
theorem dX10_unlike_22 : decode cX10_unlike 22 = .ok (.iload_n 1, 1) := by decide +kernel
theorem dX10_unlike_23 : decode cX10_unlike 23 = .ok (.imul, 1) := by decide +kernel
theorem dX10_unlike_24 : decode cX10_unlike 24 = .ok (.iload 4, 2) := by decide +kernel
theorem dX10_unlike_26 : decode cX10_unlike 26 = .ok (.iadd, 1) := by decide +kernel
theorem dX10_unlike_27 : decode cX10_unlike 27 = .ok (.iaload, 1) := by decide +kernel
theorem dX10_unlike_28 : decode cX10_unlike 28 = .ok (.aload_n 0, 1) := by decide +kernel
theorem dX10_unlike_29 : decode cX10_unlike 29 = .ok (.getfield 29, 3) := by decide +kernel
theorem dX10_unlike_32 : decode cX10_unlike 32 = .ok (.iconst 5, 1) := by decide +kernel
theorem dX10_unlike_33 : decode cX10_unlike 33 = .ok (.iload_n 2, 1) := by decide +kernel
theorem dX10_unlike_34 : decode cX10_unlike 34 = .ok (.imul, 1) := by decide +kernel
theorem dX10_unlike_35 : decode cX10_unlike 35 = .ok (.iload 4, 2) := by decide +kernel
theorem dX10_unlike_37 : decode cX10_unlike 37 = .ok (.iadd, 1) := by decide +kernel
theorem dX10_unlike_38 : decode cX10_unlike 38 = .ok (.iaload, 1) := by decide +kernel
theorem dX10_unlike_39 : decode cX10_unlike 39 = .ok (.if_icmp .eq 10, 3) := by decide +kernel
theorem dX10_unlike_42 : decode cX10_unlike 42 = .ok (.iconst 1, 1) := by decide +kernel
theorem dX10_unlike_43 : decode cX10_unlike 43 = .ok (.iload 4, 2) := by decide +kernel
theorem dX10_unlike_45 : decode cX10_unlike 45 = .ok (.ishl, 1) := by decide +kernel
theorem dX10_unlike_46 : decode cX10_unlike 46 = .ok (.goto 4, 3) := by decide +kernel
theorem dX10_unlike_49 : decode cX10_unlike 49 = .ok (.iconst 0, 1) := by decide +kernel
theorem dX10_unlike_50 : decode cX10_unlike 50 = .ok (.ior, 1) := by decide +kernel
theorem dX10_unlike_51 : decode cX10_unlike 51 = .ok (.istore_n 3, 1) := by decide +kernel
theorem dX10_unlike_52 : decode cX10_unlike 52 = .ok (.iinc 4 1, 3) := by decide +kernel
theorem dX10_unlike_55 : decode cX10_unlike 55 = .ok (.goto (-50), 3) := by decide +kernel
theorem dX10_unlike_58 : decode cX10_unlike 58 = .ok (.iload_n 3, 1) := by decide +kernel
theorem dX10_unlike_59 : decode cX10_unlike 59 = .ok (.ireturn, 1) := by decide +kernel
theorem dX10_differ_0 : decode cX10_differ 0 = .ok (.aload_n 0, 1) := by decide +kernel
theorem dX10_differ_1 : decode cX10_differ 1 = .ok (.iload_n 1, 1) := by decide +kernel
theorem dX10_differ_2 : decode cX10_differ 2 = .ok (.invokevirtual 126, 3) := by decide +kernel
theorem dX10_differ_5 : decode cX10_differ 5 = .ok (.ifCond .eq 11, 3) := by decide +kernel
theorem dX10_differ_8 : decode cX10_differ 8 = .ok (.aload_n 0, 1) := by decide +kernel
theorem dX10_differ_9 : decode cX10_differ 9 = .ok (.iload_n 2, 1) := by decide +kernel
theorem dX10_differ_10 : decode cX10_differ 10 = .ok (.invokevirtual 126, 3) := by decide +kernel
theorem dX10_differ_13 : decode cX10_differ 13 = .ok (.ifCond .ne 7, 3) := by decide +kernel
theorem dX10_differ_16 : decode cX10_differ 16 = .ok (.iconst (-1), 1) := by decide +kernel
theorem dX10_differ_17 : decode cX10_differ 17 = .ok (.goto 27, 3) := by decide +kernel
theorem dX10_differ_20 : decode cX10_differ 20 = .ok (.iload_n 3, 1) := by decide +kernel
theorem dX10_differ_21 : decode cX10_differ 21 = .ok (.ifCond .eq 17, 3) := by decide +kernel
theorem dX10_differ_24 : decode cX10_differ 24 = .ok (.aload_n 0, 1) := by decide +kernel
theorem dX10_differ_25 : decode cX10_differ 25 = .ok (.iload_n 1, 1) := by decide +kernel
theorem dX10_differ_26 : decode cX10_differ 26 = .ok (.iload_n 2, 1) := by decide +kernel
theorem dX10_differ_27 : decode cX10_differ 27 = .ok (.invokevirtual 136, 3) := by decide +kernel
theorem dX10_differ_30 : decode cX10_differ 30 = .ok (.aload_n 0, 1) := by decide +kernel
theorem dX10_differ_31 : decode cX10_differ 31 = .ok (.invokevirtual 140, 3) := by decide +kernel
theorem dX10_differ_34 : decode cX10_differ 34 = .ok (.iand, 1) := by decide +kernel
theorem dX10_differ_35 : decode cX10_differ 35 = .ok (.goto 9, 3) := by decide +kernel
theorem dX10_differ_38 : decode cX10_differ 38 = .ok (.aload_n 0, 1) := by decide +kernel
theorem dX10_differ_39 : decode cX10_differ 39 = .ok (.iload_n 1, 1) := by decide +kernel
theorem dX10_differ_40 : decode cX10_differ 40 = .ok (.iload_n 2, 1) := by decide +kernel
theorem dX10_differ_41 : decode cX10_differ 41 = .ok (.invokevirtual 136, 3) := by decide +kernel
theorem dX10_differ_44 : decode cX10_differ 44 = .ok (.ireturn, 1) := by decide +kernel
theorem dX10_many_0 : decode cX10_many 0 = .ok (.iconst 0, 1) := by decide +kernel
theorem dX10_many_1 : decode cX10_many 1 = .ok (.istore_n 1, 1) := by decide +kernel
theorem dX10_many_2 : decode cX10_many 2 = .ok (.iconst 0, 1) := by decide +kernel
theorem dX10_many_3 : decode cX10_many 3 = .ok (.istore_n 2, 1) := by decide +kernel
theorem dX10_many_4 : decode cX10_many 4 = .ok (.iload_n 2, 1) := by decide +kernel
theorem dX10_many_5 : decode cX10_many 5 = .ok (.bipush 10, 2) := by decide +kernel
theorem dX10_many_7 : decode cX10_many 7 = .ok (.if_icmp .ge 17, 3) := by decide +kernel
theorem dX10_many_10 : decode cX10_many 10 = .ok (.iload_n 1, 1) := by decide +kernel
theorem dX10_many_11 : decode cX10_many 11 = .ok (.iload_n 0, 1) := by decide +kernel
theorem dX10_many_12 : decode cX10_many 12 = .ok (.iload_n 2, 1) := by decide +kernel
theorem dX10_many_13 : decode cX10_many 13 = .ok (.ishr, 1) := by decide +kernel
theorem dX10_many_14 : decode cX10_many 14 = .ok (.iconst 1, 1) := by decide +kernel
theorem dX10_many_15 : decode cX10_many 15 = .ok (.iand, 1) := by decide +kernel
theorem dX10_many_16 : decode cX10_many 16 = .ok (.iadd, 1) := by decide +kernel
theorem dX10_many_17 : decode cX10_many 17 = .ok (.istore_n 1, 1) := by decide +kernel
theorem dX10_many_18 : decode cX10_many 18 = .ok (.iinc 2 1, 3) := by decide +kernel
theorem dX10_many_21 : decode cX10_many 21 = .ok (.goto (-17), 3) := by decide +kernel
theorem dX10_many_24 : decode cX10_many 24 = .ok (.iload_n 1, 1) := by decide +kernel
theorem dX10_many_25 : decode cX10_many 25 = .ok (.ireturn, 1) := by decide +kernel
theorem dX10_passes_0 : decode cX10_passes 0 = .ok (.iload_n 1, 1) := by decide +kernel
theorem dX10_passes_1 : decode cX10_passes 1 = .ok (.invokestatic 143, 3) := by decide +kernel
theorem dX10_passes_4 : decode cX10_passes 4 = .ok (.istore_n 3, 1) := by decide +kernel
theorem dX10_passes_5 : decode cX10_passes 5 = .ok (.iload_n 0, 1) := by decide +kernel
theorem dX10_passes_6 : decode cX10_passes 6 = .ok (.ifCond .ne 16, 3) := by decide +kernel
theorem dX10_passes_9 : decode cX10_passes 9 = .ok (.iload_n 3, 1) := by decide +kernel
theorem dX10_passes_10 : decode cX10_passes 10 = .ok (.iconst 1, 1) := by decide +kernel
theorem dX10_passes_11 : decode cX10_passes 11 = .ok (.if_icmp .ne 7, 3) := by decide +kernel
theorem dX10_passes_14 : decode cX10_passes 14 = .ok (.iconst 1, 1) := by decide +kernel
theorem dX10_passes_15 : decode cX10_passes 15 = .ok (.goto 58, 3) := by decide +kernel
theorem dX10_passes_18 : decode cX10_passes 18 = .ok (.iconst 0, 1) := by decide +kernel
theorem dX10_passes_19 : decode cX10_passes 19 = .ok (.goto 54, 3) := by decide +kernel
theorem dX10_passes_22 : decode cX10_passes 22 = .ok (.iload_n 0, 1) := by decide +kernel
theorem dX10_passes_23 : decode cX10_passes 23 = .ok (.iconst 1, 1) := by decide +kernel
theorem dX10_passes_24 : decode cX10_passes 24 = .ok (.if_icmp .ne 16, 3) := by decide +kernel
theorem dX10_passes_27 : decode cX10_passes 27 = .ok (.iload_n 3, 1) := by decide +kernel
theorem dX10_passes_28 : decode cX10_passes 28 = .ok (.iconst 2, 1) := by decide +kernel
theorem dX10_passes_29 : decode cX10_passes 29 = .ok (.if_icmp .ne 7, 3) := by decide +kernel
theorem dX10_passes_32 : decode cX10_passes 32 = .ok (.iconst 1, 1) := by decide +kernel
theorem dX10_passes_33 : decode cX10_passes 33 = .ok (.goto 40, 3) := by decide +kernel
theorem dX10_passes_36 : decode cX10_passes 36 = .ok (.iconst 0, 1) := by decide +kernel
theorem dX10_passes_37 : decode cX10_passes 37 = .ok (.goto 36, 3) := by decide +kernel
theorem dX10_passes_40 : decode cX10_passes 40 = .ok (.iload_n 0, 1) := by decide +kernel
theorem dX10_passes_41 : decode cX10_passes 41 = .ok (.iconst 2, 1) := by decide +kernel
theorem dX10_passes_42 : decode cX10_passes 42 = .ok (.if_icmp .ne 21, 3) := by decide +kernel
theorem dX10_passes_45 : decode cX10_passes 45 = .ok (.iload_n 3, 1) := by decide +kernel
theorem dX10_passes_46 : decode cX10_passes 46 = .ok (.iconst 1, 1) := by decide +kernel
theorem dX10_passes_47 : decode cX10_passes 47 = .ok (.if_icmp .ne 12, 3) := by decide +kernel
theorem dX10_passes_50 : decode cX10_passes 50 = .ok (.iload_n 1, 1) := by decide +kernel
theorem dX10_passes_51 : decode cX10_passes 51 = .ok (.iload_n 2, 1) := by decide +kernel
theorem dX10_passes_52 : decode cX10_passes 52 = .ok (.if_icmp .eq 7, 3) := by decide +kernel
theorem dX10_passes_55 : decode cX10_passes 55 = .ok (.iconst 1, 1) := by decide +kernel
theorem dX10_passes_56 : decode cX10_passes 56 = .ok (.goto 17, 3) := by decide +kernel
theorem dX10_passes_59 : decode cX10_passes 59 = .ok (.iconst 0, 1) := by decide +kernel
theorem dX10_passes_60 : decode cX10_passes 60 = .ok (.goto 13, 3) := by decide +kernel
theorem dX10_passes_63 : decode cX10_passes 63 = .ok (.iload_n 3, 1) := by decide +kernel
theorem dX10_passes_64 : decode cX10_passes 64 = .ok (.iconst 2, 1) := by decide +kernel
theorem dX10_passes_65 : decode cX10_passes 65 = .ok (.if_icmp .ge 7, 3) := by decide +kernel
theorem dX10_passes_68 : decode cX10_passes 68 = .ok (.iconst 1, 1) := by decide +kernel
theorem dX10_passes_69 : decode cX10_passes 69 = .ok (.goto 4, 3) := by decide +kernel
theorem dX10_passes_72 : decode cX10_passes 72 = .ok (.iconst 0, 1) := by decide +kernel
theorem dX10_passes_73 : decode cX10_passes 73 = .ok (.ireturn, 1) := by decide +kernel
theorem dX10_mayNow_0 : decode cX10_mayNow 0 = .ok (.aload_n 0, 1) := by decide +kernel
theorem dX10_mayNow_1 : decode cX10_mayNow 1 = .ok (.getfield 32, 3) := by decide +kernel
theorem dX10_mayNow_4 : decode cX10_mayNow 4 = .ok (.iconst 1, 1) := by decide +kernel
theorem dX10_mayNow_5 : decode cX10_mayNow 5 = .ok (.iaload, 1) := by decide +kernel
theorem dX10_mayNow_6 : decode cX10_mayNow 6 = .ok (.ifCond .lt 37, 3) := by decide +kernel
theorem dX10_mayNow_9 : decode cX10_mayNow 9 = .ok (.aload_n 0, 1) := by decide +kernel
theorem dX10_mayNow_10 : decode cX10_mayNow 10 = .ok (.getfield 13, 3) := by decide +kernel
theorem dX10_mayNow_13 : decode cX10_mayNow 13 = .ok (.iconst 0, 1) := by decide +kernel
theorem dX10_mayNow_14 : decode cX10_mayNow 14 = .ok (.iaload, 1) := by decide +kernel
theorem dX10_mayNow_15 : decode cX10_mayNow 15 = .ok (.aload_n 0, 1) := by decide +kernel
theorem dX10_mayNow_16 : decode cX10_mayNow 16 = .ok (.iload_n 1, 1) := by decide +kernel
theorem dX10_mayNow_17 : decode cX10_mayNow 17 = .ok (.aload_n 0, 1) := by decide +kernel
theorem dX10_mayNow_18 : decode cX10_mayNow 18 = .ok (.getfield 32, 3) := by decide +kernel
theorem dX10_mayNow_21 : decode cX10_mayNow 21 = .ok (.iconst 1, 1) := by decide +kernel
theorem dX10_mayNow_22 : decode cX10_mayNow 22 = .ok (.iaload, 1) := by decide +kernel
theorem dX10_mayNow_23 : decode cX10_mayNow 23 = .ok (.invokevirtual 136, 3) := by decide +kernel
theorem dX10_mayNow_26 : decode cX10_mayNow 26 = .ok (.aload_n 0, 1) := by decide +kernel
theorem dX10_mayNow_27 : decode cX10_mayNow 27 = .ok (.invokevirtual 140, 3) := by decide +kernel
theorem dX10_mayNow_30 : decode cX10_mayNow 30 = .ok (.iand, 1) := by decide +kernel
theorem dX10_mayNow_31 : decode cX10_mayNow 31 = .ok (.aload_n 0, 1) := by decide +kernel
theorem dX10_mayNow_32 : decode cX10_mayNow 32 = .ok (.getfield 32, 3) := by decide +kernel
theorem dX10_mayNow_35 : decode cX10_mayNow 35 = .ok (.iconst 2, 1) := by decide +kernel
theorem dX10_mayNow_36 : decode cX10_mayNow 36 = .ok (.iaload, 1) := by decide +kernel
theorem dX10_mayNow_37 : decode cX10_mayNow 37 = .ok (.invokestatic 146, 3) := by decide +kernel
theorem dX10_mayNow_40 : decode cX10_mayNow 40 = .ok (.ifCond .eq 7, 3) := by decide +kernel
theorem dX10_mayNow_43 : decode cX10_mayNow 43 = .ok (.iconst 1, 1) := by decide +kernel
theorem dX10_mayNow_44 : decode cX10_mayNow 44 = .ok (.goto 4, 3) := by decide +kernel
theorem dX10_mayNow_47 : decode cX10_mayNow 47 = .ok (.iconst 0, 1) := by decide +kernel
theorem dX10_mayNow_48 : decode cX10_mayNow 48 = .ok (.ireturn, 1) := by decide +kernel
theorem dX10_may_0 : decode cX10_may 0 = .ok (.aload_n 0, 1) := by decide +kernel
theorem dX10_may_1 : decode cX10_may 1 = .ok (.iload_n 1, 1) := by decide +kernel
theorem dX10_may_2 : decode cX10_may 2 = .ok (.invokevirtual 126, 3) := by decide +kernel
theorem dX10_may_5 : decode cX10_may 5 = .ok (.ifCond .ne 7, 3) := by decide +kernel
theorem dX10_may_8 : decode cX10_may 8 = .ok (.iconst (-1), 1) := by decide +kernel
theorem dX10_may_9 : decode cX10_may 9 = .ok (.goto 16, 3) := by decide +kernel
theorem dX10_may_12 : decode cX10_may 12 = .ok (.aload_n 0, 1) := by decide +kernel
theorem dX10_may_13 : decode cX10_may 13 = .ok (.iload_n 1, 1) := by decide +kernel
theorem dX10_may_14 : decode cX10_may 14 = .ok (.invokevirtual 150, 3) := by decide +kernel
theorem dX10_may_17 : decode cX10_may 17 = .ok (.ifCond .eq 7, 3) := by decide +kernel
theorem dX10_may_20 : decode cX10_may 20 = .ok (.iconst 1, 1) := by decide +kernel
theorem dX10_may_21 : decode cX10_may 21 = .ok (.goto 4, 3) := by decide +kernel
theorem dX10_may_24 : decode cX10_may 24 = .ok (.iconst 0, 1) := by decide +kernel
theorem dX10_may_25 : decode cX10_may 25 = .ok (.ireturn, 1) := by decide +kernel
theorem dX10_goes_0 : decode cX10_goes 0 = .ok (.aload_n 0, 1) := by decide +kernel
theorem dX10_goes_1 : decode cX10_goes 1 = .ok (.iload_n 1, 1) := by decide +kernel
theorem dX10_goes_2 : decode cX10_goes 2 = .ok (.invokevirtual 126, 3) := by decide +kernel
theorem dX10_goes_5 : decode cX10_goes 5 = .ok (.ifCond .ne 5, 3) := by decide +kernel
theorem dX10_goes_8 : decode cX10_goes 8 = .ok (.iconst (-1), 1) := by decide +kernel
theorem dX10_goes_9 : decode cX10_goes 9 = .ok (.ireturn, 1) := by decide +kernel
theorem dX10_goes_10 : decode cX10_goes 10 = .ok (.aload_n 0, 1) := by decide +kernel
theorem dX10_goes_11 : decode cX10_goes 11 = .ok (.getfield 32, 3) := by decide +kernel
theorem dX10_goes_14 : decode cX10_goes 14 = .ok (.iconst 0, 1) := by decide +kernel
theorem dX10_goes_15 : decode cX10_goes 15 = .ok (.iaload, 1) := by decide +kernel
theorem dX10_goes_16 : decode cX10_goes 16 = .ok (.iload_n 1, 1) := by decide +kernel
theorem dX10_goes_17 : decode cX10_goes 17 = .ok (.ishr, 1) := by decide +kernel
theorem dX10_goes_18 : decode cX10_goes 18 = .ok (.iconst 1, 1) := by decide +kernel
theorem dX10_goes_19 : decode cX10_goes 19 = .ok (.iand, 1) := by decide +kernel
theorem dX10_goes_20 : decode cX10_goes 20 = .ok (.iload_n 2, 1) := by decide +kernel
theorem dX10_goes_21 : decode cX10_goes 21 = .ok (.if_icmp .eq 11, 3) := by decide +kernel
theorem dX10_goes_24 : decode cX10_goes 24 = .ok (.aload_n 0, 1) := by decide +kernel
theorem dX10_goes_25 : decode cX10_goes 25 = .ok (.iload_n 1, 1) := by decide +kernel
theorem dX10_goes_26 : decode cX10_goes 26 = .ok (.invokevirtual 150, 3) := by decide +kernel
theorem dX10_goes_29 : decode cX10_goes 29 = .ok (.ifCond .ne 6, 3) := by decide +kernel
theorem dX10_goes_32 : decode cX10_goes 32 = .ok (.bipush (-2), 2) := by decide +kernel
theorem dX10_goes_34 : decode cX10_goes 34 = .ok (.ireturn, 1) := by decide +kernel
theorem dX10_goes_35 : decode cX10_goes 35 = .ok (.aload_n 0, 1) := by decide +kernel
theorem dX10_goes_36 : decode cX10_goes 36 = .ok (.getfield 114, 3) := by decide +kernel
theorem dX10_goes_39 : decode cX10_goes 39 = .ok (.bipush 8, 2) := by decide +kernel
theorem dX10_goes_41 : decode cX10_goes 41 = .ok (.if_icmp .ne 41, 3) := by decide +kernel
theorem dX10_goes_44 : decode cX10_goes 44 = .ok (.iconst 0, 1) := by decide +kernel
theorem dX10_goes_45 : decode cX10_goes 45 = .ok (.istore_n 3, 1) := by decide +kernel
theorem dX10_goes_46 : decode cX10_goes 46 = .ok (.iload_n 3, 1) := by decide +kernel
theorem dX10_goes_47 : decode cX10_goes 47 = .ok (.bipush 21, 2) := by decide +kernel
theorem dX10_goes_49 : decode cX10_goes 49 = .ok (.if_icmp .ge 23, 3) := by decide +kernel
theorem dX10_goes_52 : decode cX10_goes 52 = .ok (.aload_n 0, 1) := by decide +kernel
theorem dX10_goes_53 : decode cX10_goes 53 = .ok (.getfield 35, 3) := by decide +kernel
theorem dX10_goes_56 : decode cX10_goes 56 = .ok (.iload_n 3, 1) := by decide +kernel
theorem dX10_goes_57 : decode cX10_goes 57 = .ok (.aload_n 0, 1) := by decide +kernel
theorem dX10_goes_58 : decode cX10_goes 58 = .ok (.getfield 35, 3) := by decide +kernel
theorem dX10_goes_61 : decode cX10_goes 61 = .ok (.iload_n 3, 1) := by decide +kernel
theorem dX10_goes_62 : decode cX10_goes 62 = .ok (.iconst 3, 1) := by decide +kernel
theorem dX10_goes_63 : decode cX10_goes 63 = .ok (.iadd, 1) := by decide +kernel
theorem dX10_goes_64 : decode cX10_goes 64 = .ok (.iaload, 1) := by decide +kernel
theorem dX10_goes_65 : decode cX10_goes 65 = .ok (.iastore, 1) := by decide +kernel
theorem dX10_goes_66 : decode cX10_goes 66 = .ok (.iinc 3 1, 3) := by decide +kernel
theorem dX10_goes_69 : decode cX10_goes 69 = .ok (.goto (-23), 3) := by decide +kernel
theorem dX10_goes_72 : decode cX10_goes 72 = .ok (.aload_n 0, 1) := by decide +kernel
theorem dX10_goes_73 : decode cX10_goes 73 = .ok (.dup, 1) := by decide +kernel
theorem dX10_goes_74 : decode cX10_goes 74 = .ok (.getfield 114, 3) := by decide +kernel
theorem dX10_goes_77 : decode cX10_goes 77 = .ok (.iconst 1, 1) := by decide +kernel
theorem dX10_goes_78 : decode cX10_goes 78 = .ok (.isub, 1) := by decide +kernel
theorem dX10_goes_79 : decode cX10_goes 79 = .ok (.putfield 114, 3) := by decide +kernel
theorem dX10_goes_82 : decode cX10_goes 82 = .ok (.iconst 0, 1) := by decide +kernel
theorem dX10_goes_83 : decode cX10_goes 83 = .ok (.istore_n 3, 1) := by decide +kernel
theorem dX10_goes_84 : decode cX10_goes 84 = .ok (.iload_n 3, 1) := by decide +kernel
theorem dX10_goes_85 : decode cX10_goes 85 = .ok (.iconst 3, 1) := by decide +kernel
theorem dX10_goes_86 : decode cX10_goes 86 = .ok (.if_icmp .ge 28, 3) := by decide +kernel
theorem dX10_goes_89 : decode cX10_goes 89 = .ok (.aload_n 0, 1) := by decide +kernel
theorem dX10_goes_90 : decode cX10_goes 90 = .ok (.getfield 35, 3) := by decide +kernel
theorem dX10_goes_93 : decode cX10_goes 93 = .ok (.iconst 3, 1) := by decide +kernel
theorem dX10_goes_94 : decode cX10_goes 94 = .ok (.aload_n 0, 1) := by decide +kernel
theorem dX10_goes_95 : decode cX10_goes 95 = .ok (.getfield 114, 3) := by decide +kernel
theorem dX10_goes_98 : decode cX10_goes 98 = .ok (.imul, 1) := by decide +kernel
theorem dX10_goes_99 : decode cX10_goes 99 = .ok (.iload_n 3, 1) := by decide +kernel
theorem dX10_goes_100 : decode cX10_goes 100 = .ok (.iadd, 1) := by decide +kernel
theorem dX10_goes_101 : decode cX10_goes 101 = .ok (.aload_n 0, 1) := by decide +kernel
theorem dX10_goes_102 : decode cX10_goes 102 = .ok (.getfield 32, 3) := by decide +kernel
theorem dX10_goes_105 : decode cX10_goes 105 = .ok (.iload_n 3, 1) := by decide +kernel
theorem dX10_goes_106 : decode cX10_goes 106 = .ok (.iaload, 1) := by decide +kernel
theorem dX10_goes_107 : decode cX10_goes 107 = .ok (.iastore, 1) := by decide +kernel
theorem dX10_goes_108 : decode cX10_goes 108 = .ok (.iinc 3 1, 3) := by decide +kernel
theorem dX10_goes_111 : decode cX10_goes 111 = .ok (.goto (-27), 3) := by decide +kernel
theorem dX10_goes_114 : decode cX10_goes 114 = .ok (.aload_n 0, 1) := by decide +kernel
theorem dX10_goes_115 : decode cX10_goes 115 = .ok (.dup, 1) := by decide +kernel
theorem dX10_goes_116 : decode cX10_goes 116 = .ok (.getfield 114, 3) := by decide +kernel
theorem dX10_goes_119 : decode cX10_goes 119 = .ok (.iconst 1, 1) := by decide +kernel
theorem dX10_goes_120 : decode cX10_goes 120 = .ok (.iadd, 1) := by decide +kernel
theorem dX10_goes_121 : decode cX10_goes 121 = .ok (.putfield 114, 3) := by decide +kernel
theorem dX10_goes_124 : decode cX10_goes 124 = .ok (.aload_n 0, 1) := by decide +kernel
theorem dX10_goes_125 : decode cX10_goes 125 = .ok (.getfield 32, 3) := by decide +kernel
theorem dX10_goes_128 : decode cX10_goes 128 = .ok (.iconst 0, 1) := by decide +kernel
theorem dX10_goes_129 : decode cX10_goes 129 = .ok (.dup2, 1) := by decide +kernel
theorem dX10_goes_130 : decode cX10_goes 130 = .ok (.iaload, 1) := by decide +kernel
theorem dX10_goes_131 : decode cX10_goes 131 = .ok (.iconst 1, 1) := by decide +kernel
theorem dX10_goes_132 : decode cX10_goes 132 = .ok (.iload_n 1, 1) := by decide +kernel
theorem dX10_goes_133 : decode cX10_goes 133 = .ok (.ishl, 1) := by decide +kernel
theorem dX10_goes_134 : decode cX10_goes 134 = .ok (.ixor, 1) := by decide +kernel
theorem dX10_goes_135 : decode cX10_goes 135 = .ok (.iastore, 1) := by decide +kernel
theorem dX10_goes_136 : decode cX10_goes 136 = .ok (.aload_n 0, 1) := by decide +kernel
theorem dX10_goes_137 : decode cX10_goes 137 = .ok (.getfield 32, 3) := by decide +kernel
theorem dX10_goes_140 : decode cX10_goes 140 = .ok (.iconst 2, 1) := by decide +kernel
theorem dX10_goes_141 : decode cX10_goes 141 = .ok (.aload_n 0, 1) := by decide +kernel
theorem dX10_goes_142 : decode cX10_goes 142 = .ok (.getfield 32, 3) := by decide +kernel
theorem dX10_goes_145 : decode cX10_goes 145 = .ok (.iconst 1, 1) := by decide +kernel
theorem dX10_goes_146 : decode cX10_goes 146 = .ok (.iaload, 1) := by decide +kernel
theorem dX10_goes_147 : decode cX10_goes 147 = .ok (.ifCond .ge 7, 3) := by decide +kernel
theorem dX10_goes_150 : decode cX10_goes 150 = .ok (.iconst 0, 1) := by decide +kernel
theorem dX10_goes_151 : decode cX10_goes 151 = .ok (.goto 19, 3) := by decide +kernel
theorem dX10_goes_154 : decode cX10_goes 154 = .ok (.aload_n 0, 1) := by decide +kernel
theorem dX10_goes_155 : decode cX10_goes 155 = .ok (.iload_n 1, 1) := by decide +kernel
theorem dX10_goes_156 : decode cX10_goes 156 = .ok (.aload_n 0, 1) := by decide +kernel
theorem dX10_goes_157 : decode cX10_goes 157 = .ok (.getfield 32, 3) := by decide +kernel
theorem dX10_goes_160 : decode cX10_goes 160 = .ok (.iconst 1, 1) := by decide +kernel
theorem dX10_goes_161 : decode cX10_goes 161 = .ok (.iaload, 1) := by decide +kernel
theorem dX10_goes_162 : decode cX10_goes 162 = .ok (.invokevirtual 136, 3) := by decide +kernel
theorem dX10_goes_165 : decode cX10_goes 165 = .ok (.aload_n 0, 1) := by decide +kernel
theorem dX10_goes_166 : decode cX10_goes 166 = .ok (.invokevirtual 140, 3) := by decide +kernel
theorem dX10_goes_169 : decode cX10_goes 169 = .ok (.iand, 1) := by decide +kernel
theorem dX10_goes_170 : decode cX10_goes 170 = .ok (.iastore, 1) := by decide +kernel
theorem dX10_goes_171 : decode cX10_goes 171 = .ok (.aload_n 0, 1) := by decide +kernel
theorem dX10_goes_172 : decode cX10_goes 172 = .ok (.getfield 32, 3) := by decide +kernel
theorem dX10_goes_175 : decode cX10_goes 175 = .ok (.iconst 1, 1) := by decide +kernel
theorem dX10_goes_176 : decode cX10_goes 176 = .ok (.iload_n 1, 1) := by decide +kernel
theorem dX10_goes_177 : decode cX10_goes 177 = .ok (.iastore, 1) := by decide +kernel
theorem dX10_goes_178 : decode cX10_goes 178 = .ok (.aload_n 0, 1) := by decide +kernel
theorem dX10_goes_179 : decode cX10_goes 179 = .ok (.getfield 32, 3) := by decide +kernel
theorem dX10_goes_182 : decode cX10_goes 182 = .ok (.iconst 0, 1) := by decide +kernel
theorem dX10_goes_183 : decode cX10_goes 183 = .ok (.iaload, 1) := by decide +kernel
theorem dX10_goes_184 : decode cX10_goes 184 = .ok (.invokestatic 143, 3) := by decide +kernel
theorem dX10_goes_187 : decode cX10_goes 187 = .ok (.ireturn, 1) := by decide +kernel
theorem dX10_goIn_0 : decode cX10_goIn 0 = .ok (.aload_n 0, 1) := by decide +kernel
theorem dX10_goIn_1 : decode cX10_goIn 1 = .ok (.iload_n 1, 1) := by decide +kernel
theorem dX10_goIn_2 : decode cX10_goIn 2 = .ok (.iconst 1, 1) := by decide +kernel
theorem dX10_goIn_3 : decode cX10_goIn 3 = .ok (.invokevirtual 153, 3) := by decide +kernel
theorem dX10_goIn_6 : decode cX10_goIn 6 = .ok (.ireturn, 1) := by decide +kernel
theorem dX10_goOut_0 : decode cX10_goOut 0 = .ok (.aload_n 0, 1) := by decide +kernel
theorem dX10_goOut_1 : decode cX10_goOut 1 = .ok (.iload_n 1, 1) := by decide +kernel
theorem dX10_goOut_2 : decode cX10_goOut 2 = .ok (.iconst 0, 1) := by decide +kernel
theorem dX10_goOut_3 : decode cX10_goOut 3 = .ok (.invokevirtual 153, 3) := by decide +kernel
theorem dX10_goOut_6 : decode cX10_goOut 6 = .ok (.ireturn, 1) := by decide +kernel
theorem dX10_undo_0 : decode cX10_undo 0 = .ok (.aload_n 0, 1) := by decide +kernel
theorem dX10_undo_1 : decode cX10_undo 1 = .ok (.getfield 114, 3) := by decide +kernel
theorem dX10_undo_4 : decode cX10_undo 4 = .ok (.ifCond .ne 6, 3) := by decide +kernel
theorem dX10_undo_7 : decode cX10_undo 7 = .ok (.bipush (-2), 2) := by decide +kernel
theorem dX10_undo_9 : decode cX10_undo 9 = .ok (.ireturn, 1) := by decide +kernel
theorem dX10_undo_10 : decode cX10_undo 10 = .ok (.aload_n 0, 1) := by decide +kernel
theorem dX10_undo_11 : decode cX10_undo 11 = .ok (.dup, 1) := by decide +kernel
theorem dX10_undo_12 : decode cX10_undo 12 = .ok (.getfield 114, 3) := by decide +kernel
theorem dX10_undo_15 : decode cX10_undo 15 = .ok (.iconst 1, 1) := by decide +kernel
theorem dX10_undo_16 : decode cX10_undo 16 = .ok (.isub, 1) := by decide +kernel
theorem dX10_undo_17 : decode cX10_undo 17 = .ok (.putfield 114, 3) := by decide +kernel
theorem dX10_undo_20 : decode cX10_undo 20 = .ok (.iconst 0, 1) := by decide +kernel
theorem dX10_undo_21 : decode cX10_undo 21 = .ok (.istore_n 1, 1) := by decide +kernel
theorem dX10_undo_22 : decode cX10_undo 22 = .ok (.iload_n 1, 1) := by decide +kernel
theorem dX10_undo_23 : decode cX10_undo 23 = .ok (.iconst 3, 1) := by decide +kernel
theorem dX10_undo_24 : decode cX10_undo 24 = .ok (.if_icmp .ge 28, 3) := by decide +kernel
theorem dX10_undo_27 : decode cX10_undo 27 = .ok (.aload_n 0, 1) := by decide +kernel
theorem dX10_undo_28 : decode cX10_undo 28 = .ok (.getfield 32, 3) := by decide +kernel
theorem dX10_undo_31 : decode cX10_undo 31 = .ok (.iload_n 1, 1) := by decide +kernel
theorem dX10_undo_32 : decode cX10_undo 32 = .ok (.aload_n 0, 1) := by decide +kernel
theorem dX10_undo_33 : decode cX10_undo 33 = .ok (.getfield 35, 3) := by decide +kernel
theorem dX10_undo_36 : decode cX10_undo 36 = .ok (.iconst 3, 1) := by decide +kernel
theorem dX10_undo_37 : decode cX10_undo 37 = .ok (.aload_n 0, 1) := by decide +kernel
theorem dX10_undo_38 : decode cX10_undo 38 = .ok (.getfield 114, 3) := by decide +kernel
theorem dX10_undo_41 : decode cX10_undo 41 = .ok (.imul, 1) := by decide +kernel
theorem dX10_undo_42 : decode cX10_undo 42 = .ok (.iload_n 1, 1) := by decide +kernel
theorem dX10_undo_43 : decode cX10_undo 43 = .ok (.iadd, 1) := by decide +kernel
theorem dX10_undo_44 : decode cX10_undo 44 = .ok (.iaload, 1) := by decide +kernel
theorem dX10_undo_45 : decode cX10_undo 45 = .ok (.iastore, 1) := by decide +kernel
theorem dX10_undo_46 : decode cX10_undo 46 = .ok (.iinc 1 1, 3) := by decide +kernel
theorem dX10_undo_49 : decode cX10_undo 49 = .ok (.goto (-27), 3) := by decide +kernel
theorem dX10_undo_52 : decode cX10_undo 52 = .ok (.aload_n 0, 1) := by decide +kernel
theorem dX10_undo_53 : decode cX10_undo 53 = .ok (.getfield 114, 3) := by decide +kernel
theorem dX10_undo_56 : decode cX10_undo 56 = .ok (.ireturn, 1) := by decide +kernel
theorem dX10_last_0 : decode cX10_last 0 = .ok (.aload_n 0, 1) := by decide +kernel
theorem dX10_last_1 : decode cX10_last 1 = .ok (.getfield 32, 3) := by decide +kernel
theorem dX10_last_4 : decode cX10_last 4 = .ok (.iconst 1, 1) := by decide +kernel
theorem dX10_last_5 : decode cX10_last 5 = .ok (.iaload, 1) := by decide +kernel
theorem dX10_last_6 : decode cX10_last 6 = .ok (.ireturn, 1) := by decide +kernel
theorem dX10_add_0 : decode cX10_add 0 = .ok (.aload_n 0, 1) := by decide +kernel
theorem dX10_add_1 : decode cX10_add 1 = .ok (.iload_n 1, 1) := by decide +kernel
theorem dX10_add_2 : decode cX10_add 2 = .ok (.invokevirtual 126, 3) := by decide +kernel
theorem dX10_add_5 : decode cX10_add 5 = .ok (.ifCond .ne 5, 3) := by decide +kernel
theorem dX10_add_8 : decode cX10_add 8 = .ok (.iconst (-1), 1) := by decide +kernel
theorem dX10_add_9 : decode cX10_add 9 = .ok (.ireturn, 1) := by decide +kernel
theorem dX10_add_10 : decode cX10_add 10 = .ok (.aload_n 0, 1) := by decide +kernel
theorem dX10_add_11 : decode cX10_add 11 = .ok (.getfield 111, 3) := by decide +kernel
theorem dX10_add_14 : decode cX10_add 14 = .ok (.bipush 16, 2) := by decide +kernel
theorem dX10_add_16 : decode cX10_add 16 = .ok (.if_icmp .ne 6, 3) := by decide +kernel
theorem dX10_add_19 : decode cX10_add 19 = .ok (.bipush (-3), 2) := by decide +kernel
theorem dX10_add_21 : decode cX10_add 21 = .ok (.ireturn, 1) := by decide +kernel
theorem dX10_add_22 : decode cX10_add 22 = .ok (.aload_n 0, 1) := by decide +kernel
theorem dX10_add_23 : decode cX10_add 23 = .ok (.getfield 38, 3) := by decide +kernel
theorem dX10_add_26 : decode cX10_add 26 = .ok (.aload_n 0, 1) := by decide +kernel
theorem dX10_add_27 : decode cX10_add 27 = .ok (.getfield 111, 3) := by decide +kernel
theorem dX10_add_30 : decode cX10_add 30 = .ok (.iload_n 1, 1) := by decide +kernel
theorem dX10_add_31 : decode cX10_add 31 = .ok (.iastore, 1) := by decide +kernel
theorem dX10_add_32 : decode cX10_add 32 = .ok (.aload_n 0, 1) := by decide +kernel
theorem dX10_add_33 : decode cX10_add 33 = .ok (.dup, 1) := by decide +kernel
theorem dX10_add_34 : decode cX10_add 34 = .ok (.getfield 111, 3) := by decide +kernel
theorem dX10_add_37 : decode cX10_add 37 = .ok (.iconst 1, 1) := by decide +kernel
theorem dX10_add_38 : decode cX10_add 38 = .ok (.iadd, 1) := by decide +kernel
theorem dX10_add_39 : decode cX10_add 39 = .ok (.putfield 111, 3) := by decide +kernel
theorem dX10_add_42 : decode cX10_add 42 = .ok (.aload_n 0, 1) := by decide +kernel
theorem dX10_add_43 : decode cX10_add 43 = .ok (.getfield 111, 3) := by decide +kernel
theorem dX10_add_46 : decode cX10_add 46 = .ok (.ireturn, 1) := by decide +kernel
theorem dX10_noRow_0 : decode cX10_noRow 0 = .ok (.aload_n 0, 1) := by decide +kernel
theorem dX10_noRow_1 : decode cX10_noRow 1 = .ok (.getfield 111, 3) := by decide +kernel
theorem dX10_noRow_4 : decode cX10_noRow 4 = .ok (.istore_n 1, 1) := by decide +kernel
theorem dX10_noRow_5 : decode cX10_noRow 5 = .ok (.aload_n 0, 1) := by decide +kernel
theorem dX10_noRow_6 : decode cX10_noRow 6 = .ok (.iconst 0, 1) := by decide +kernel
theorem dX10_noRow_7 : decode cX10_noRow 7 = .ok (.putfield 111, 3) := by decide +kernel
theorem dX10_noRow_10 : decode cX10_noRow 10 = .ok (.iload_n 1, 1) := by decide +kernel
theorem dX10_noRow_11 : decode cX10_noRow 11 = .ok (.ireturn, 1) := by decide +kernel
theorem dX10_judge_0 : decode cX10_judge 0 = .ok (.iconst 0, 1) := by decide +kernel
theorem dX10_judge_1 : decode cX10_judge 1 = .ok (.istore_n 1, 1) := by decide +kernel
theorem dX10_judge_2 : decode cX10_judge 2 = .ok (.iconst 1, 1) := by decide +kernel
theorem dX10_judge_3 : decode cX10_judge 3 = .ok (.istore_n 2, 1) := by decide +kernel
theorem dX10_judge_4 : decode cX10_judge 4 = .ok (.iload_n 2, 1) := by decide +kernel
theorem dX10_judge_5 : decode cX10_judge 5 = .ok (.aload_n 0, 1) := by decide +kernel
theorem dX10_judge_6 : decode cX10_judge 6 = .ok (.getfield 111, 3) := by decide +kernel
theorem dX10_judge_9 : decode cX10_judge 9 = .ok (.if_icmp .ge 51, 3) := by decide +kernel
theorem dX10_judge_12 : decode cX10_judge 12 = .ok (.aload_n 0, 1) := by decide +kernel
theorem dX10_judge_13 : decode cX10_judge 13 = .ok (.aload_n 0, 1) := by decide +kernel
theorem dX10_judge_14 : decode cX10_judge 14 = .ok (.getfield 38, 3) := by decide +kernel
theorem dX10_judge_17 : decode cX10_judge 17 = .ok (.iload_n 2, 1) := by decide +kernel
theorem dX10_judge_18 : decode cX10_judge 18 = .ok (.iaload, 1) := by decide +kernel
theorem dX10_judge_19 : decode cX10_judge 19 = .ok (.aload_n 0, 1) := by decide +kernel
theorem dX10_judge_20 : decode cX10_judge 20 = .ok (.getfield 38, 3) := by decide +kernel
theorem dX10_judge_23 : decode cX10_judge 23 = .ok (.iload_n 2, 1) := by decide +kernel
theorem dX10_judge_24 : decode cX10_judge 24 = .ok (.iconst 1, 1) := by decide +kernel
theorem dX10_judge_25 : decode cX10_judge 25 = .ok (.isub, 1) := by decide +kernel
theorem dX10_judge_26 : decode cX10_judge 26 = .ok (.iaload, 1) := by decide +kernel
theorem dX10_judge_27 : decode cX10_judge 27 = .ok (.invokevirtual 136, 3) := by decide +kernel
theorem dX10_judge_30 : decode cX10_judge 30 = .ok (.aload_n 0, 1) := by decide +kernel
theorem dX10_judge_31 : decode cX10_judge 31 = .ok (.invokevirtual 140, 3) := by decide +kernel
theorem dX10_judge_34 : decode cX10_judge 34 = .ok (.iand, 1) := by decide +kernel
theorem dX10_judge_35 : decode cX10_judge 35 = .ok (.istore_n 3, 1) := by decide +kernel
theorem dX10_judge_36 : decode cX10_judge 36 = .ok (.aload_n 0, 1) := by decide +kernel
theorem dX10_judge_37 : decode cX10_judge 37 = .ok (.getfield 13, 3) := by decide +kernel
theorem dX10_judge_40 : decode cX10_judge 40 = .ok (.iconst 0, 1) := by decide +kernel
theorem dX10_judge_41 : decode cX10_judge 41 = .ok (.iaload, 1) := by decide +kernel
theorem dX10_judge_42 : decode cX10_judge 42 = .ok (.iload_n 3, 1) := by decide +kernel
theorem dX10_judge_43 : decode cX10_judge 43 = .ok (.iload_n 1, 1) := by decide +kernel
theorem dX10_judge_44 : decode cX10_judge 44 = .ok (.invokestatic 146, 3) := by decide +kernel
theorem dX10_judge_47 : decode cX10_judge 47 = .ok (.ifCond .ne 5, 3) := by decide +kernel
theorem dX10_judge_50 : decode cX10_judge 50 = .ok (.iload_n 2, 1) := by decide +kernel
theorem dX10_judge_51 : decode cX10_judge 51 = .ok (.ireturn, 1) := by decide +kernel
theorem dX10_judge_52 : decode cX10_judge 52 = .ok (.iload_n 3, 1) := by decide +kernel
theorem dX10_judge_53 : decode cX10_judge 53 = .ok (.istore_n 1, 1) := by decide +kernel
theorem dX10_judge_54 : decode cX10_judge 54 = .ok (.iinc 2 1, 3) := by decide +kernel
theorem dX10_judge_57 : decode cX10_judge 57 = .ok (.goto (-53), 3) := by decide +kernel
theorem dX10_judge_60 : decode cX10_judge 60 = .ok (.bipush (-4), 2) := by decide +kernel
theorem dX10_judge_62 : decode cX10_judge 62 = .ok (.ireturn, 1) := by decide +kernel
theorem dX10_longestOf_0 : decode cX10_longestOf 0 = .ok (.iconst 0, 1) := by decide +kernel
theorem dX10_longestOf_1 : decode cX10_longestOf 1 = .ok (.istore_n 2, 1) := by decide +kernel
theorem dX10_longestOf_2 : decode cX10_longestOf 2 = .ok (.iconst 0, 1) := by decide +kernel
theorem dX10_longestOf_3 : decode cX10_longestOf 3 = .ok (.istore_n 3, 1) := by decide +kernel
theorem dX10_longestOf_4 : decode cX10_longestOf 4 = .ok (.iconst 0, 1) := by decide +kernel
theorem dX10_longestOf_5 : decode cX10_longestOf 5 = .ok (.istore 4, 2) := by decide +kernel
theorem dX10_longestOf_7 : decode cX10_longestOf 7 = .ok (.aload_n 0, 1) := by decide +kernel
theorem dX10_longestOf_8 : decode cX10_longestOf 8 = .ok (.getfield 41, 3) := by decide +kernel
theorem dX10_longestOf_11 : decode cX10_longestOf 11 = .ok (.iconst 0, 1) := by decide +kernel
theorem dX10_longestOf_12 : decode cX10_longestOf 12 = .ok (.iconst 0, 1) := by decide +kernel
theorem dX10_longestOf_13 : decode cX10_longestOf 13 = .ok (.iastore, 1) := by decide +kernel
theorem dX10_longestOf_14 : decode cX10_longestOf 14 = .ok (.aload_n 0, 1) := by decide +kernel
theorem dX10_longestOf_15 : decode cX10_longestOf 15 = .ok (.getfield 44, 3) := by decide +kernel
theorem dX10_longestOf_18 : decode cX10_longestOf 18 = .ok (.iconst 0, 1) := by decide +kernel
theorem dX10_longestOf_19 : decode cX10_longestOf 19 = .ok (.iconst 0, 1) := by decide +kernel
theorem dX10_longestOf_20 : decode cX10_longestOf 20 = .ok (.iastore, 1) := by decide +kernel
theorem dX10_longestOf_21 : decode cX10_longestOf 21 = .ok (.iload_n 3, 1) := by decide +kernel
theorem dX10_longestOf_22 : decode cX10_longestOf 22 = .ok (.ifCond .lt 219, 3) := by decide +kernel
theorem dX10_longestOf_25 : decode cX10_longestOf 25 = .ok (.aload_n 0, 1) := by decide +kernel
theorem dX10_longestOf_26 : decode cX10_longestOf 26 = .ok (.getfield 41, 3) := by decide +kernel
theorem dX10_longestOf_29 : decode cX10_longestOf 29 = .ok (.iload_n 3, 1) := by decide +kernel
theorem dX10_longestOf_30 : decode cX10_longestOf 30 = .ok (.iaload, 1) := by decide +kernel
theorem dX10_longestOf_31 : decode cX10_longestOf 31 = .ok (.istore 5, 2) := by decide +kernel
theorem dX10_longestOf_33 : decode cX10_longestOf 33 = .ok (.iload 5, 2) := by decide +kernel
theorem dX10_longestOf_35 : decode cX10_longestOf 35 = .ok (.aload_n 0, 1) := by decide +kernel
theorem dX10_longestOf_36 : decode cX10_longestOf 36 = .ok (.getfield 26, 3) := by decide +kernel
theorem dX10_longestOf_39 : decode cX10_longestOf 39 = .ok (.iconst 0, 1) := by decide +kernel
theorem dX10_longestOf_40 : decode cX10_longestOf 40 = .ok (.iaload, 1) := by decide +kernel
theorem dX10_longestOf_41 : decode cX10_longestOf 41 = .ok (.if_icmp .lt 38, 3) := by decide +kernel
theorem dX10_longestOf_44 : decode cX10_longestOf 44 = .ok (.iinc 3 (-1), 3) := by decide +kernel
theorem dX10_longestOf_47 : decode cX10_longestOf 47 = .ok (.iload_n 3, 1) := by decide +kernel
theorem dX10_longestOf_48 : decode cX10_longestOf 48 = .ok (.ifCond .lt (-27), 3) := by decide +kernel
theorem dX10_longestOf_51 : decode cX10_longestOf 51 = .ok (.iload 4, 2) := by decide +kernel
theorem dX10_longestOf_53 : decode cX10_longestOf 53 = .ok (.iconst 1, 1) := by decide +kernel
theorem dX10_longestOf_54 : decode cX10_longestOf 54 = .ok (.aload_n 0, 1) := by decide +kernel
theorem dX10_longestOf_55 : decode cX10_longestOf 55 = .ok (.getfield 41, 3) := by decide +kernel
theorem dX10_longestOf_58 : decode cX10_longestOf 58 = .ok (.iload_n 3, 1) := by decide +kernel
theorem dX10_longestOf_59 : decode cX10_longestOf 59 = .ok (.iaload, 1) := by decide +kernel
theorem dX10_longestOf_60 : decode cX10_longestOf 60 = .ok (.ishl, 1) := by decide +kernel
theorem dX10_longestOf_61 : decode cX10_longestOf 61 = .ok (.iconst (-1), 1) := by decide +kernel
theorem dX10_longestOf_62 : decode cX10_longestOf 62 = .ok (.ixor, 1) := by decide +kernel
theorem dX10_longestOf_63 : decode cX10_longestOf 63 = .ok (.iand, 1) := by decide +kernel
theorem dX10_longestOf_64 : decode cX10_longestOf 64 = .ok (.istore 4, 2) := by decide +kernel
theorem dX10_longestOf_66 : decode cX10_longestOf 66 = .ok (.aload_n 0, 1) := by decide +kernel
theorem dX10_longestOf_67 : decode cX10_longestOf 67 = .ok (.getfield 41, 3) := by decide +kernel
theorem dX10_longestOf_70 : decode cX10_longestOf 70 = .ok (.iload_n 3, 1) := by decide +kernel
theorem dX10_longestOf_71 : decode cX10_longestOf 71 = .ok (.dup2, 1) := by decide +kernel
theorem dX10_longestOf_72 : decode cX10_longestOf 72 = .ok (.iaload, 1) := by decide +kernel
theorem dX10_longestOf_73 : decode cX10_longestOf 73 = .ok (.iconst 1, 1) := by decide +kernel
theorem dX10_longestOf_74 : decode cX10_longestOf 74 = .ok (.iadd, 1) := by decide +kernel
theorem dX10_longestOf_75 : decode cX10_longestOf 75 = .ok (.iastore, 1) := by decide +kernel
theorem dX10_longestOf_76 : decode cX10_longestOf 76 = .ok (.goto (-55), 3) := by decide +kernel
theorem dX10_longestOf_79 : decode cX10_longestOf 79 = .ok (.iload_n 3, 1) := by decide +kernel
theorem dX10_longestOf_80 : decode cX10_longestOf 80 = .ok (.ifCond .ne 7, 3) := by decide +kernel
theorem dX10_longestOf_83 : decode cX10_longestOf 83 = .ok (.iconst 0, 1) := by decide +kernel
theorem dX10_longestOf_84 : decode cX10_longestOf 84 = .ok (.goto 22, 3) := by decide +kernel
theorem dX10_longestOf_87 : decode cX10_longestOf 87 = .ok (.aload_n 0, 1) := by decide +kernel
theorem dX10_longestOf_88 : decode cX10_longestOf 88 = .ok (.iload 5, 2) := by decide +kernel
theorem dX10_longestOf_90 : decode cX10_longestOf 90 = .ok (.aload_n 0, 1) := by decide +kernel
theorem dX10_longestOf_91 : decode cX10_longestOf 91 = .ok (.getfield 41, 3) := by decide +kernel
theorem dX10_longestOf_94 : decode cX10_longestOf 94 = .ok (.iload_n 3, 1) := by decide +kernel
theorem dX10_longestOf_95 : decode cX10_longestOf 95 = .ok (.iconst 1, 1) := by decide +kernel
theorem dX10_longestOf_96 : decode cX10_longestOf 96 = .ok (.isub, 1) := by decide +kernel
theorem dX10_longestOf_97 : decode cX10_longestOf 97 = .ok (.iaload, 1) := by decide +kernel
theorem dX10_longestOf_98 : decode cX10_longestOf 98 = .ok (.invokevirtual 136, 3) := by decide +kernel
theorem dX10_longestOf_101 : decode cX10_longestOf 101 = .ok (.aload_n 0, 1) := by decide +kernel
theorem dX10_longestOf_102 : decode cX10_longestOf 102 = .ok (.invokevirtual 140, 3) := by decide +kernel
theorem dX10_longestOf_105 : decode cX10_longestOf 105 = .ok (.iand, 1) := by decide +kernel
theorem dX10_longestOf_106 : decode cX10_longestOf 106 = .ok (.istore 6, 2) := by decide +kernel
theorem dX10_longestOf_108 : decode cX10_longestOf 108 = .ok (.iload_n 1, 1) := by decide +kernel
theorem dX10_longestOf_109 : decode cX10_longestOf 109 = .ok (.iload 4, 2) := by decide +kernel
theorem dX10_longestOf_111 : decode cX10_longestOf 111 = .ok (.iconst (-1), 1) := by decide +kernel
theorem dX10_longestOf_112 : decode cX10_longestOf 112 = .ok (.ixor, 1) := by decide +kernel
theorem dX10_longestOf_113 : decode cX10_longestOf 113 = .ok (.iand, 1) := by decide +kernel
theorem dX10_longestOf_114 : decode cX10_longestOf 114 = .ok (.iconst 1, 1) := by decide +kernel
theorem dX10_longestOf_115 : decode cX10_longestOf 115 = .ok (.iload 5, 2) := by decide +kernel
theorem dX10_longestOf_117 : decode cX10_longestOf 117 = .ok (.ishl, 1) := by decide +kernel
theorem dX10_longestOf_118 : decode cX10_longestOf 118 = .ok (.iand, 1) := by decide +kernel
theorem dX10_longestOf_119 : decode cX10_longestOf 119 = .ok (.ifCond .eq 31, 3) := by decide +kernel
theorem dX10_longestOf_122 : decode cX10_longestOf 122 = .ok (.iload_n 3, 1) := by decide +kernel
theorem dX10_longestOf_123 : decode cX10_longestOf 123 = .ok (.ifCond .eq 23, 3) := by decide +kernel
theorem dX10_longestOf_126 : decode cX10_longestOf 126 = .ok (.aload_n 0, 1) := by decide +kernel
theorem dX10_longestOf_127 : decode cX10_longestOf 127 = .ok (.getfield 13, 3) := by decide +kernel
theorem dX10_longestOf_130 : decode cX10_longestOf 130 = .ok (.iconst 0, 1) := by decide +kernel
theorem dX10_longestOf_131 : decode cX10_longestOf 131 = .ok (.iaload, 1) := by decide +kernel
theorem dX10_longestOf_132 : decode cX10_longestOf 132 = .ok (.iload 6, 2) := by decide +kernel
theorem dX10_longestOf_134 : decode cX10_longestOf 134 = .ok (.aload_n 0, 1) := by decide +kernel
theorem dX10_longestOf_135 : decode cX10_longestOf 135 = .ok (.getfield 44, 3) := by decide +kernel
theorem dX10_longestOf_138 : decode cX10_longestOf 138 = .ok (.iload_n 3, 1) := by decide +kernel
theorem dX10_longestOf_139 : decode cX10_longestOf 139 = .ok (.iaload, 1) := by decide +kernel
theorem dX10_longestOf_140 : decode cX10_longestOf 140 = .ok (.invokestatic 146, 3) := by decide +kernel
theorem dX10_longestOf_143 : decode cX10_longestOf 143 = .ok (.ifCond .eq 7, 3) := by decide +kernel
theorem dX10_longestOf_146 : decode cX10_longestOf 146 = .ok (.iconst 1, 1) := by decide +kernel
theorem dX10_longestOf_147 : decode cX10_longestOf 147 = .ok (.goto 4, 3) := by decide +kernel
theorem dX10_longestOf_150 : decode cX10_longestOf 150 = .ok (.iconst 0, 1) := by decide +kernel
theorem dX10_longestOf_151 : decode cX10_longestOf 151 = .ok (.istore 7, 2) := by decide +kernel
theorem dX10_longestOf_153 : decode cX10_longestOf 153 = .ok (.iload 7, 2) := by decide +kernel
theorem dX10_longestOf_155 : decode cX10_longestOf 155 = .ok (.ifCond .ne 16, 3) := by decide +kernel
theorem dX10_longestOf_158 : decode cX10_longestOf 158 = .ok (.aload_n 0, 1) := by decide +kernel
theorem dX10_longestOf_159 : decode cX10_longestOf 159 = .ok (.getfield 41, 3) := by decide +kernel
theorem dX10_longestOf_162 : decode cX10_longestOf 162 = .ok (.iload_n 3, 1) := by decide +kernel
theorem dX10_longestOf_163 : decode cX10_longestOf 163 = .ok (.dup2, 1) := by decide +kernel
theorem dX10_longestOf_164 : decode cX10_longestOf 164 = .ok (.iaload, 1) := by decide +kernel
theorem dX10_longestOf_165 : decode cX10_longestOf 165 = .ok (.iconst 1, 1) := by decide +kernel
theorem dX10_longestOf_166 : decode cX10_longestOf 166 = .ok (.iadd, 1) := by decide +kernel
theorem dX10_longestOf_167 : decode cX10_longestOf 167 = .ok (.iastore, 1) := by decide +kernel
theorem dX10_longestOf_168 : decode cX10_longestOf 168 = .ok (.goto (-147), 3) := by decide +kernel
theorem dX10_longestOf_171 : decode cX10_longestOf 171 = .ok (.iload 4, 2) := by decide +kernel
theorem dX10_longestOf_173 : decode cX10_longestOf 173 = .ok (.iconst 1, 1) := by decide +kernel
theorem dX10_longestOf_174 : decode cX10_longestOf 174 = .ok (.iload 5, 2) := by decide +kernel
theorem dX10_longestOf_176 : decode cX10_longestOf 176 = .ok (.ishl, 1) := by decide +kernel
theorem dX10_longestOf_177 : decode cX10_longestOf 177 = .ok (.ior, 1) := by decide +kernel
theorem dX10_longestOf_178 : decode cX10_longestOf 178 = .ok (.istore 4, 2) := by decide +kernel
theorem dX10_longestOf_180 : decode cX10_longestOf 180 = .ok (.iload_n 3, 1) := by decide +kernel
theorem dX10_longestOf_181 : decode cX10_longestOf 181 = .ok (.iconst 1, 1) := by decide +kernel
theorem dX10_longestOf_182 : decode cX10_longestOf 182 = .ok (.iadd, 1) := by decide +kernel
theorem dX10_longestOf_183 : decode cX10_longestOf 183 = .ok (.iload_n 2, 1) := by decide +kernel
theorem dX10_longestOf_184 : decode cX10_longestOf 184 = .ok (.if_icmp .le 36, 3) := by decide +kernel
theorem dX10_longestOf_187 : decode cX10_longestOf 187 = .ok (.iload_n 3, 1) := by decide +kernel
theorem dX10_longestOf_188 : decode cX10_longestOf 188 = .ok (.iconst 1, 1) := by decide +kernel
theorem dX10_longestOf_189 : decode cX10_longestOf 189 = .ok (.iadd, 1) := by decide +kernel
theorem dX10_longestOf_190 : decode cX10_longestOf 190 = .ok (.istore_n 2, 1) := by decide +kernel
theorem dX10_longestOf_191 : decode cX10_longestOf 191 = .ok (.iconst 0, 1) := by decide +kernel
theorem dX10_longestOf_192 : decode cX10_longestOf 192 = .ok (.istore 8, 2) := by decide +kernel
theorem dX10_longestOf_194 : decode cX10_longestOf 194 = .ok (.iload 8, 2) := by decide +kernel
theorem dX10_longestOf_196 : decode cX10_longestOf 196 = .ok (.iload_n 3, 1) := by decide +kernel
theorem dX10_longestOf_197 : decode cX10_longestOf 197 = .ok (.if_icmp .gt 23, 3) := by decide +kernel
theorem dX10_longestOf_200 : decode cX10_longestOf 200 = .ok (.aload_n 0, 1) := by decide +kernel
theorem dX10_longestOf_201 : decode cX10_longestOf 201 = .ok (.getfield 47, 3) := by decide +kernel
theorem dX10_longestOf_204 : decode cX10_longestOf 204 = .ok (.iload 8, 2) := by decide +kernel
theorem dX10_longestOf_206 : decode cX10_longestOf 206 = .ok (.aload_n 0, 1) := by decide +kernel
theorem dX10_longestOf_207 : decode cX10_longestOf 207 = .ok (.getfield 41, 3) := by decide +kernel
theorem dX10_longestOf_210 : decode cX10_longestOf 210 = .ok (.iload 8, 2) := by decide +kernel
theorem dX10_longestOf_212 : decode cX10_longestOf 212 = .ok (.iaload, 1) := by decide +kernel
theorem dX10_longestOf_213 : decode cX10_longestOf 213 = .ok (.iastore, 1) := by decide +kernel
theorem dX10_longestOf_214 : decode cX10_longestOf 214 = .ok (.iinc 8 1, 3) := by decide +kernel
theorem dX10_longestOf_217 : decode cX10_longestOf 217 = .ok (.goto (-23), 3) := by decide +kernel
theorem dX10_longestOf_220 : decode cX10_longestOf 220 = .ok (.iinc 3 1, 3) := by decide +kernel
theorem dX10_longestOf_223 : decode cX10_longestOf 223 = .ok (.aload_n 0, 1) := by decide +kernel
theorem dX10_longestOf_224 : decode cX10_longestOf 224 = .ok (.getfield 41, 3) := by decide +kernel
theorem dX10_longestOf_227 : decode cX10_longestOf 227 = .ok (.iload_n 3, 1) := by decide +kernel
theorem dX10_longestOf_228 : decode cX10_longestOf 228 = .ok (.iconst 0, 1) := by decide +kernel
theorem dX10_longestOf_229 : decode cX10_longestOf 229 = .ok (.iastore, 1) := by decide +kernel
theorem dX10_longestOf_230 : decode cX10_longestOf 230 = .ok (.aload_n 0, 1) := by decide +kernel
theorem dX10_longestOf_231 : decode cX10_longestOf 231 = .ok (.getfield 44, 3) := by decide +kernel
theorem dX10_longestOf_234 : decode cX10_longestOf 234 = .ok (.iload_n 3, 1) := by decide +kernel
theorem dX10_longestOf_235 : decode cX10_longestOf 235 = .ok (.iload 6, 2) := by decide +kernel
theorem dX10_longestOf_237 : decode cX10_longestOf 237 = .ok (.iastore, 1) := by decide +kernel
theorem dX10_longestOf_238 : decode cX10_longestOf 238 = .ok (.goto (-217), 3) := by decide +kernel
theorem dX10_longestOf_241 : decode cX10_longestOf 241 = .ok (.iload_n 2, 1) := by decide +kernel
theorem dX10_longestOf_242 : decode cX10_longestOf 242 = .ok (.ireturn, 1) := by decide +kernel
theorem dX10_longest_0 : decode cX10_longest 0 = .ok (.iload_n 1, 1) := by decide +kernel
theorem dX10_longest_1 : decode cX10_longest 1 = .ok (.i2l, 1) := by decide +kernel
theorem dX10_longest_2 : decode cX10_longest 2 = .ok (.lconst 0, 1) := by decide +kernel
theorem dX10_longest_3 : decode cX10_longest 3 = .ok (.iconst 1, 1) := by decide +kernel
theorem dX10_longest_4 : decode cX10_longest 4 = .ok (.aload_n 0, 1) := by decide +kernel
theorem dX10_longest_5 : decode cX10_longest 5 = .ok (.getfield 26, 3) := by decide +kernel
theorem dX10_longest_8 : decode cX10_longest 8 = .ok (.iconst 0, 1) := by decide +kernel
theorem dX10_longest_9 : decode cX10_longest 9 = .ok (.iaload, 1) := by decide +kernel
theorem dX10_longest_10 : decode cX10_longest 10 = .ok (.ishl, 1) := by decide +kernel
theorem dX10_longest_11 : decode cX10_longest 11 = .ok (.iconst 1, 1) := by decide +kernel
theorem dX10_longest_12 : decode cX10_longest 12 = .ok (.isub, 1) := by decide +kernel
theorem dX10_longest_13 : decode cX10_longest 13 = .ok (.i2l, 1) := by decide +kernel
theorem dX10_longest_14 : decode cX10_longest 14 = .ok (.invokestatic 74, 3) := by decide +kernel
theorem dX10_longest_17 : decode cX10_longest 17 = .ok (.ifCond .eq 8, 3) := by decide +kernel
theorem dX10_longest_20 : decode cX10_longest 20 = .ok (.iload_n 2, 1) := by decide +kernel
theorem dX10_longest_21 : decode cX10_longest 21 = .ok (.iconst (-1), 1) := by decide +kernel
theorem dX10_longest_22 : decode cX10_longest 22 = .ok (.if_icmp .ge 5, 3) := by decide +kernel
theorem dX10_longest_25 : decode cX10_longest 25 = .ok (.iconst (-1), 1) := by decide +kernel
theorem dX10_longest_26 : decode cX10_longest 26 = .ok (.ireturn, 1) := by decide +kernel
theorem dX10_longest_27 : decode cX10_longest 27 = .ok (.aload_n 0, 1) := by decide +kernel
theorem dX10_longest_28 : decode cX10_longest 28 = .ok (.iload_n 1, 1) := by decide +kernel
theorem dX10_longest_29 : decode cX10_longest 29 = .ok (.invokevirtual 156, 3) := by decide +kernel
theorem dX10_longest_32 : decode cX10_longest 32 = .ok (.istore_n 3, 1) := by decide +kernel
theorem dX10_longest_33 : decode cX10_longest 33 = .ok (.iload_n 2, 1) := by decide +kernel
theorem dX10_longest_34 : decode cX10_longest 34 = .ok (.ifCond .ge 7, 3) := by decide +kernel
theorem dX10_longest_37 : decode cX10_longest 37 = .ok (.iload_n 3, 1) := by decide +kernel
theorem dX10_longest_38 : decode cX10_longest 38 = .ok (.goto 19, 3) := by decide +kernel
theorem dX10_longest_41 : decode cX10_longest 41 = .ok (.iload_n 2, 1) := by decide +kernel
theorem dX10_longest_42 : decode cX10_longest 42 = .ok (.iload_n 3, 1) := by decide +kernel
theorem dX10_longest_43 : decode cX10_longest 43 = .ok (.if_icmp .ge 12, 3) := by decide +kernel
theorem dX10_longest_46 : decode cX10_longest 46 = .ok (.aload_n 0, 1) := by decide +kernel
theorem dX10_longest_47 : decode cX10_longest 47 = .ok (.getfield 47, 3) := by decide +kernel
theorem dX10_longest_50 : decode cX10_longest 50 = .ok (.iload_n 2, 1) := by decide +kernel
theorem dX10_longest_51 : decode cX10_longest 51 = .ok (.iaload, 1) := by decide +kernel
theorem dX10_longest_52 : decode cX10_longest 52 = .ok (.goto 5, 3) := by decide +kernel
theorem dX10_longest_55 : decode cX10_longest 55 = .ok (.bipush (-4), 2) := by decide +kernel
theorem dX10_longest_57 : decode cX10_longest 57 = .ok (.ireturn, 1) := by decide +kernel
theorem dX10_proof_0 : decode cX10_proof 0 = .ok (.aload_n 0, 1) := by decide +kernel
theorem dX10_proof_1 : decode cX10_proof 1 = .ok (.getfield 13, 3) := by decide +kernel
theorem dX10_proof_4 : decode cX10_proof 4 = .ok (.iconst 0, 1) := by decide +kernel
theorem dX10_proof_5 : decode cX10_proof 5 = .ok (.iaload, 1) := by decide +kernel
theorem dX10_proof_6 : decode cX10_proof 6 = .ok (.ifCond .ne 24, 3) := by decide +kernel
theorem dX10_proof_9 : decode cX10_proof 9 = .ok (.aload_n 0, 1) := by decide +kernel
theorem dX10_proof_10 : decode cX10_proof 10 = .ok (.invokevirtual 140, 3) := by decide +kernel
theorem dX10_proof_13 : decode cX10_proof 13 = .ok (.iconst 1, 1) := by decide +kernel
theorem dX10_proof_14 : decode cX10_proof 14 = .ok (.aload_n 0, 1) := by decide +kernel
theorem dX10_proof_15 : decode cX10_proof 15 = .ok (.getfield 17, 3) := by decide +kernel
theorem dX10_proof_18 : decode cX10_proof 18 = .ok (.iconst 0, 1) := by decide +kernel
theorem dX10_proof_19 : decode cX10_proof 19 = .ok (.iaload, 1) := by decide +kernel
theorem dX10_proof_20 : decode cX10_proof 20 = .ok (.ishl, 1) := by decide +kernel
theorem dX10_proof_21 : decode cX10_proof 21 = .ok (.iconst 1, 1) := by decide +kernel
theorem dX10_proof_22 : decode cX10_proof 22 = .ok (.isub, 1) := by decide +kernel
theorem dX10_proof_23 : decode cX10_proof 23 = .ok (.if_icmp .ne 7, 3) := by decide +kernel
theorem dX10_proof_26 : decode cX10_proof 26 = .ok (.iconst 1, 1) := by decide +kernel
theorem dX10_proof_27 : decode cX10_proof 27 = .ok (.goto 4, 3) := by decide +kernel
theorem dX10_proof_30 : decode cX10_proof 30 = .ok (.iconst 0, 1) := by decide +kernel
theorem dX10_proof_31 : decode cX10_proof 31 = .ok (.istore_n 1, 1) := by decide +kernel
theorem dX10_proof_32 : decode cX10_proof 32 = .ok (.iconst 0, 1) := by decide +kernel
theorem dX10_proof_33 : decode cX10_proof 33 = .ok (.istore_n 2, 1) := by decide +kernel
theorem dX10_proof_34 : decode cX10_proof 34 = .ok (.iload_n 2, 1) := by decide +kernel
theorem dX10_proof_35 : decode cX10_proof 35 = .ok (.aload_n 0, 1) := by decide +kernel
theorem dX10_proof_36 : decode cX10_proof 36 = .ok (.getfield 17, 3) := by decide +kernel
theorem dX10_proof_39 : decode cX10_proof 39 = .ok (.iconst 0, 1) := by decide +kernel
theorem dX10_proof_40 : decode cX10_proof 40 = .ok (.iaload, 1) := by decide +kernel
theorem dX10_proof_41 : decode cX10_proof 41 = .ok (.if_icmp .ge 29, 3) := by decide +kernel
theorem dX10_proof_44 : decode cX10_proof 44 = .ok (.iload_n 1, 1) := by decide +kernel
theorem dX10_proof_45 : decode cX10_proof 45 = .ok (.ifCond .eq 17, 3) := by decide +kernel
theorem dX10_proof_48 : decode cX10_proof 48 = .ok (.aload_n 0, 1) := by decide +kernel
theorem dX10_proof_49 : decode cX10_proof 49 = .ok (.getfield 20, 3) := by decide +kernel
theorem dX10_proof_52 : decode cX10_proof 52 = .ok (.iload_n 2, 1) := by decide +kernel
theorem dX10_proof_53 : decode cX10_proof 53 = .ok (.iaload, 1) := by decide +kernel
theorem dX10_proof_54 : decode cX10_proof 54 = .ok (.iconst 3, 1) := by decide +kernel
theorem dX10_proof_55 : decode cX10_proof 55 = .ok (.if_icmp .ge 7, 3) := by decide +kernel
theorem dX10_proof_58 : decode cX10_proof 58 = .ok (.iconst 1, 1) := by decide +kernel
theorem dX10_proof_59 : decode cX10_proof 59 = .ok (.goto 4, 3) := by decide +kernel
theorem dX10_proof_62 : decode cX10_proof 62 = .ok (.iconst 0, 1) := by decide +kernel
theorem dX10_proof_63 : decode cX10_proof 63 = .ok (.istore_n 1, 1) := by decide +kernel
theorem dX10_proof_64 : decode cX10_proof 64 = .ok (.iinc 2 1, 3) := by decide +kernel
theorem dX10_proof_67 : decode cX10_proof 67 = .ok (.goto (-33), 3) := by decide +kernel
theorem dX10_proof_70 : decode cX10_proof 70 = .ok (.iconst 0, 1) := by decide +kernel
theorem dX10_proof_71 : decode cX10_proof 71 = .ok (.istore_n 2, 1) := by decide +kernel
theorem dX10_proof_72 : decode cX10_proof 72 = .ok (.iconst 0, 1) := by decide +kernel
theorem dX10_proof_73 : decode cX10_proof 73 = .ok (.istore_n 3, 1) := by decide +kernel
theorem dX10_proof_74 : decode cX10_proof 74 = .ok (.iload_n 3, 1) := by decide +kernel
theorem dX10_proof_75 : decode cX10_proof 75 = .ok (.aload_n 0, 1) := by decide +kernel
theorem dX10_proof_76 : decode cX10_proof 76 = .ok (.getfield 26, 3) := by decide +kernel
theorem dX10_proof_79 : decode cX10_proof 79 = .ok (.iconst 0, 1) := by decide +kernel
theorem dX10_proof_80 : decode cX10_proof 80 = .ok (.iaload, 1) := by decide +kernel
theorem dX10_proof_81 : decode cX10_proof 81 = .ok (.if_icmp .ge 55, 3) := by decide +kernel
theorem dX10_proof_84 : decode cX10_proof 84 = .ok (.iconst 0, 1) := by decide +kernel
theorem dX10_proof_85 : decode cX10_proof 85 = .ok (.istore 4, 2) := by decide +kernel
theorem dX10_proof_87 : decode cX10_proof 87 = .ok (.iconst 0, 1) := by decide +kernel
theorem dX10_proof_88 : decode cX10_proof 88 = .ok (.istore 5, 2) := by decide +kernel
theorem dX10_proof_90 : decode cX10_proof 90 = .ok (.iload 5, 2) := by decide +kernel
theorem dX10_proof_92 : decode cX10_proof 92 = .ok (.aload_n 0, 1) := by decide +kernel
theorem dX10_proof_93 : decode cX10_proof 93 = .ok (.getfield 17, 3) := by decide +kernel
theorem dX10_proof_96 : decode cX10_proof 96 = .ok (.iconst 0, 1) := by decide +kernel
theorem dX10_proof_97 : decode cX10_proof 97 = .ok (.iaload, 1) := by decide +kernel
theorem dX10_proof_98 : decode cX10_proof 98 = .ok (.if_icmp .ge 25, 3) := by decide +kernel
theorem dX10_proof_101 : decode cX10_proof 101 = .ok (.iload 4, 2) := by decide +kernel
theorem dX10_proof_103 : decode cX10_proof 103 = .ok (.aload_n 0, 1) := by decide +kernel
theorem dX10_proof_104 : decode cX10_proof 104 = .ok (.getfield 29, 3) := by decide +kernel
theorem dX10_proof_107 : decode cX10_proof 107 = .ok (.iconst 5, 1) := by decide +kernel
theorem dX10_proof_108 : decode cX10_proof 108 = .ok (.iload_n 3, 1) := by decide +kernel
theorem dX10_proof_109 : decode cX10_proof 109 = .ok (.imul, 1) := by decide +kernel
theorem dX10_proof_110 : decode cX10_proof 110 = .ok (.iload 5, 2) := by decide +kernel
theorem dX10_proof_112 : decode cX10_proof 112 = .ok (.iadd, 1) := by decide +kernel
theorem dX10_proof_113 : decode cX10_proof 113 = .ok (.iaload, 1) := by decide +kernel
theorem dX10_proof_114 : decode cX10_proof 114 = .ok (.iadd, 1) := by decide +kernel
theorem dX10_proof_115 : decode cX10_proof 115 = .ok (.istore 4, 2) := by decide +kernel
theorem dX10_proof_117 : decode cX10_proof 117 = .ok (.iinc 5 1, 3) := by decide +kernel
theorem dX10_proof_120 : decode cX10_proof 120 = .ok (.goto (-30), 3) := by decide +kernel
theorem dX10_proof_123 : decode cX10_proof 123 = .ok (.iload_n 2, 1) := by decide +kernel
theorem dX10_proof_124 : decode cX10_proof 124 = .ok (.iload 4, 2) := by decide +kernel
theorem dX10_proof_126 : decode cX10_proof 126 = .ok (.iconst 2, 1) := by decide +kernel
theorem dX10_proof_127 : decode cX10_proof 127 = .ok (.irem, 1) := by decide +kernel
theorem dX10_proof_128 : decode cX10_proof 128 = .ok (.iadd, 1) := by decide +kernel
theorem dX10_proof_129 : decode cX10_proof 129 = .ok (.istore_n 2, 1) := by decide +kernel
theorem dX10_proof_130 : decode cX10_proof 130 = .ok (.iinc 3 1, 3) := by decide +kernel
theorem dX10_proof_133 : decode cX10_proof 133 = .ok (.goto (-59), 3) := by decide +kernel
theorem dX10_proof_136 : decode cX10_proof 136 = .ok (.iconst 2, 1) := by decide +kernel
theorem dX10_proof_137 : decode cX10_proof 137 = .ok (.iload_n 2, 1) := by decide +kernel
theorem dX10_proof_138 : decode cX10_proof 138 = .ok (.imul, 1) := by decide +kernel
theorem dX10_proof_139 : decode cX10_proof 139 = .ok (.aload_n 0, 1) := by decide +kernel
theorem dX10_proof_140 : decode cX10_proof 140 = .ok (.getfield 26, 3) := by decide +kernel
theorem dX10_proof_143 : decode cX10_proof 143 = .ok (.iconst 0, 1) := by decide +kernel
theorem dX10_proof_144 : decode cX10_proof 144 = .ok (.iaload, 1) := by decide +kernel
theorem dX10_proof_145 : decode cX10_proof 145 = .ok (.isub, 1) := by decide +kernel
theorem dX10_proof_146 : decode cX10_proof 146 = .ok (.istore_n 3, 1) := by decide +kernel
theorem dX10_proof_147 : decode cX10_proof 147 = .ok (.iload_n 1, 1) := by decide +kernel
theorem dX10_proof_148 : decode cX10_proof 148 = .ok (.ifCond .eq 17, 3) := by decide +kernel
theorem dX10_proof_151 : decode cX10_proof 151 = .ok (.iload_n 3, 1) := by decide +kernel
theorem dX10_proof_152 : decode cX10_proof 152 = .ok (.iconst 1, 1) := by decide +kernel
theorem dX10_proof_153 : decode cX10_proof 153 = .ok (.if_icmp .gt 8, 3) := by decide +kernel
theorem dX10_proof_156 : decode cX10_proof 156 = .ok (.iload_n 3, 1) := by decide +kernel
theorem dX10_proof_157 : decode cX10_proof 157 = .ok (.iconst (-1), 1) := by decide +kernel
theorem dX10_proof_158 : decode cX10_proof 158 = .ok (.if_icmp .ge 7, 3) := by decide +kernel
theorem dX10_proof_161 : decode cX10_proof 161 = .ok (.iconst 1, 1) := by decide +kernel
theorem dX10_proof_162 : decode cX10_proof 162 = .ok (.goto 4, 3) := by decide +kernel
theorem dX10_proof_165 : decode cX10_proof 165 = .ok (.iconst 0, 1) := by decide +kernel
theorem dX10_proof_166 : decode cX10_proof 166 = .ok (.ireturn, 1) := by decide +kernel
theorem dX10_rows_0 : decode cX10_rows 0 = .ok (.iconst 0, 1) := by decide +kernel
theorem dX10_rows_1 : decode cX10_rows 1 = .ok (.istore 4, 2) := by decide +kernel
theorem dX10_rows_3 : decode cX10_rows 3 = .ok (.iload 4, 2) := by decide +kernel
theorem dX10_rows_5 : decode cX10_rows 5 = .ok (.sipush 324, 3) := by decide +kernel
theorem dX10_rows_8 : decode cX10_rows 8 = .ok (.if_icmp .ge 32, 3) := by decide +kernel
theorem dX10_rows_11 : decode cX10_rows 11 = .ok (.aload_n 0, 1) := by decide +kernel
theorem dX10_rows_12 : decode cX10_rows 12 = .ok (.getfield 50, 3) := by decide +kernel
theorem dX10_rows_15 : decode cX10_rows 15 = .ok (.iload 4, 2) := by decide +kernel
theorem dX10_rows_17 : decode cX10_rows 17 = .ok (.iload 4, 2) := by decide +kernel
theorem dX10_rows_19 : decode cX10_rows 19 = .ok (.bipush 6, 2) := by decide +kernel
theorem dX10_rows_21 : decode cX10_rows 21 = .ok (.iload_n 1, 1) := by decide +kernel
theorem dX10_rows_22 : decode cX10_rows 22 = .ok (.imul, 1) := by decide +kernel
theorem dX10_rows_23 : decode cX10_rows 23 = .ok (.iconst 5, 1) := by decide +kernel
theorem dX10_rows_24 : decode cX10_rows 24 = .ok (.iadd, 1) := by decide +kernel
theorem dX10_rows_25 : decode cX10_rows 25 = .ok (.if_icmp .ne 7, 3) := by decide +kernel
theorem dX10_rows_28 : decode cX10_rows 28 = .ok (.lconst 1, 1) := by decide +kernel
theorem dX10_rows_29 : decode cX10_rows 29 = .ok (.goto 4, 3) := by decide +kernel
theorem dX10_rows_32 : decode cX10_rows 32 = .ok (.lconst 0, 1) := by decide +kernel
theorem dX10_rows_33 : decode cX10_rows 33 = .ok (.lastore, 1) := by decide +kernel
theorem dX10_rows_34 : decode cX10_rows 34 = .ok (.iinc 4 1, 3) := by decide +kernel
theorem dX10_rows_37 : decode cX10_rows 37 = .ok (.goto (-34), 3) := by decide +kernel
theorem dX10_rows_40 : decode cX10_rows 40 = .ok (.iconst 0, 1) := by decide +kernel
theorem dX10_rows_41 : decode cX10_rows 41 = .ok (.istore 4, 2) := by decide +kernel
theorem dX10_rows_43 : decode cX10_rows 43 = .ok (.iload 4, 2) := by decide +kernel
theorem dX10_rows_45 : decode cX10_rows 45 = .ok (.iload_n 3, 1) := by decide +kernel
theorem dX10_rows_46 : decode cX10_rows 46 = .ok (.if_icmp .ge 199, 3) := by decide +kernel
theorem dX10_rows_49 : decode cX10_rows 49 = .ok (.iconst 0, 1) := by decide +kernel
theorem dX10_rows_50 : decode cX10_rows 50 = .ok (.istore 5, 2) := by decide +kernel
theorem dX10_rows_52 : decode cX10_rows 52 = .ok (.iload 5, 2) := by decide +kernel
theorem dX10_rows_54 : decode cX10_rows 54 = .ok (.bipush 54, 2) := by decide +kernel
theorem dX10_rows_56 : decode cX10_rows 56 = .ok (.if_icmp .ge 20, 3) := by decide +kernel
theorem dX10_rows_59 : decode cX10_rows 59 = .ok (.aload_n 0, 1) := by decide +kernel
theorem dX10_rows_60 : decode cX10_rows 60 = .ok (.getfield 50, 3) := by decide +kernel
theorem dX10_rows_63 : decode cX10_rows 63 = .ok (.bipush 54, 2) := by decide +kernel
theorem dX10_rows_65 : decode cX10_rows 65 = .ok (.iload 5, 2) := by decide +kernel
theorem dX10_rows_67 : decode cX10_rows 67 = .ok (.iadd, 1) := by decide +kernel
theorem dX10_rows_68 : decode cX10_rows 68 = .ok (.lconst 0, 1) := by decide +kernel
theorem dX10_rows_69 : decode cX10_rows 69 = .ok (.lastore, 1) := by decide +kernel
theorem dX10_rows_70 : decode cX10_rows 70 = .ok (.iinc 5 1, 3) := by decide +kernel
theorem dX10_rows_73 : decode cX10_rows 73 = .ok (.goto (-21), 3) := by decide +kernel
theorem dX10_rows_76 : decode cX10_rows 76 = .ok (.iconst 0, 1) := by decide +kernel
theorem dX10_rows_77 : decode cX10_rows 77 = .ok (.istore 5, 2) := by decide +kernel
theorem dX10_rows_79 : decode cX10_rows 79 = .ok (.iload 5, 2) := by decide +kernel
theorem dX10_rows_81 : decode cX10_rows 81 = .ok (.bipush 54, 2) := by decide +kernel
theorem dX10_rows_83 : decode cX10_rows 83 = .ok (.if_icmp .ge 123, 3) := by decide +kernel
theorem dX10_rows_86 : decode cX10_rows 86 = .ok (.iconst 0, 1) := by decide +kernel
theorem dX10_rows_87 : decode cX10_rows 87 = .ok (.istore 6, 2) := by decide +kernel
theorem dX10_rows_89 : decode cX10_rows 89 = .ok (.iload 6, 2) := by decide +kernel
theorem dX10_rows_91 : decode cX10_rows 91 = .ok (.aload_n 0, 1) := by decide +kernel
theorem dX10_rows_92 : decode cX10_rows 92 = .ok (.getfield 26, 3) := by decide +kernel
theorem dX10_rows_95 : decode cX10_rows 95 = .ok (.iconst 0, 1) := by decide +kernel
theorem dX10_rows_96 : decode cX10_rows 96 = .ok (.iaload, 1) := by decide +kernel
theorem dX10_rows_97 : decode cX10_rows 97 = .ok (.if_icmp .ge 103, 3) := by decide +kernel
theorem dX10_rows_100 : decode cX10_rows 100 = .ok (.aload_n 0, 1) := by decide +kernel
theorem dX10_rows_101 : decode cX10_rows 101 = .ok (.getfield 50, 3) := by decide +kernel
theorem dX10_rows_104 : decode cX10_rows 104 = .ok (.iload 5, 2) := by decide +kernel
theorem dX10_rows_106 : decode cX10_rows 106 = .ok (.laload, 1) := by decide +kernel
theorem dX10_rows_107 : decode cX10_rows 107 = .ok (.lconst 0, 1) := by decide +kernel
theorem dX10_rows_108 : decode cX10_rows 108 = .ok (.lcmp, 1) := by decide +kernel
theorem dX10_rows_109 : decode cX10_rows 109 = .ok (.ifCond .le 91, 3) := by decide +kernel
theorem dX10_rows_112 : decode cX10_rows 112 = .ok (.aload_n 0, 1) := by decide +kernel
theorem dX10_rows_113 : decode cX10_rows 113 = .ok (.iload 6, 2) := by decide +kernel
theorem dX10_rows_115 : decode cX10_rows 115 = .ok (.iload 5, 2) := by decide +kernel
theorem dX10_rows_117 : decode cX10_rows 117 = .ok (.bipush 6, 2) := by decide +kernel
theorem dX10_rows_119 : decode cX10_rows 119 = .ok (.idiv, 1) := by decide +kernel
theorem dX10_rows_120 : decode cX10_rows 120 = .ok (.invokevirtual 136, 3) := by decide +kernel
theorem dX10_rows_123 : decode cX10_rows 123 = .ok (.aload_n 0, 1) := by decide +kernel
theorem dX10_rows_124 : decode cX10_rows 124 = .ok (.invokevirtual 140, 3) := by decide +kernel
theorem dX10_rows_127 : decode cX10_rows 127 = .ok (.iand, 1) := by decide +kernel
theorem dX10_rows_128 : decode cX10_rows 128 = .ok (.istore 7, 2) := by decide +kernel
theorem dX10_rows_130 : decode cX10_rows 130 = .ok (.aload_n 0, 1) := by decide +kernel
theorem dX10_rows_131 : decode cX10_rows 131 = .ok (.getfield 13, 3) := by decide +kernel
theorem dX10_rows_134 : decode cX10_rows 134 = .ok (.iconst 0, 1) := by decide +kernel
theorem dX10_rows_135 : decode cX10_rows 135 = .ok (.iaload, 1) := by decide +kernel
theorem dX10_rows_136 : decode cX10_rows 136 = .ok (.iload 7, 2) := by decide +kernel
theorem dX10_rows_138 : decode cX10_rows 138 = .ok (.iload 5, 2) := by decide +kernel
theorem dX10_rows_140 : decode cX10_rows 140 = .ok (.bipush 6, 2) := by decide +kernel
theorem dX10_rows_142 : decode cX10_rows 142 = .ok (.irem, 1) := by decide +kernel
theorem dX10_rows_143 : decode cX10_rows 143 = .ok (.iconst 5, 1) := by decide +kernel
theorem dX10_rows_144 : decode cX10_rows 144 = .ok (.if_icmp .ne 7, 3) := by decide +kernel
theorem dX10_rows_147 : decode cX10_rows 147 = .ok (.iconst 0, 1) := by decide +kernel
theorem dX10_rows_148 : decode cX10_rows 148 = .ok (.goto 10, 3) := by decide +kernel
theorem dX10_rows_151 : decode cX10_rows 151 = .ok (.iconst 1, 1) := by decide +kernel
theorem dX10_rows_152 : decode cX10_rows 152 = .ok (.iload 5, 2) := by decide +kernel
theorem dX10_rows_154 : decode cX10_rows 154 = .ok (.bipush 6, 2) := by decide +kernel
theorem dX10_rows_156 : decode cX10_rows 156 = .ok (.irem, 1) := by decide +kernel
theorem dX10_rows_157 : decode cX10_rows 157 = .ok (.ishl, 1) := by decide +kernel
theorem dX10_rows_158 : decode cX10_rows 158 = .ok (.invokestatic 146, 3) := by decide +kernel
theorem dX10_rows_161 : decode cX10_rows 161 = .ok (.ifCond .eq 33, 3) := by decide +kernel
theorem dX10_rows_164 : decode cX10_rows 164 = .ok (.aload_n 0, 1) := by decide +kernel
theorem dX10_rows_165 : decode cX10_rows 165 = .ok (.getfield 50, 3) := by decide +kernel
theorem dX10_rows_168 : decode cX10_rows 168 = .ok (.bipush 54, 2) := by decide +kernel
theorem dX10_rows_170 : decode cX10_rows 170 = .ok (.bipush 6, 2) := by decide +kernel
theorem dX10_rows_172 : decode cX10_rows 172 = .ok (.iload 6, 2) := by decide +kernel
theorem dX10_rows_174 : decode cX10_rows 174 = .ok (.imul, 1) := by decide +kernel
theorem dX10_rows_175 : decode cX10_rows 175 = .ok (.iadd, 1) := by decide +kernel
theorem dX10_rows_176 : decode cX10_rows 176 = .ok (.aload_n 0, 1) := by decide +kernel
theorem dX10_rows_177 : decode cX10_rows 177 = .ok (.iload 7, 2) := by decide +kernel
theorem dX10_rows_179 : decode cX10_rows 179 = .ok (.invokevirtual 159, 3) := by decide +kernel
theorem dX10_rows_182 : decode cX10_rows 182 = .ok (.iadd, 1) := by decide +kernel
theorem dX10_rows_183 : decode cX10_rows 183 = .ok (.dup2, 1) := by decide +kernel
theorem dX10_rows_184 : decode cX10_rows 184 = .ok (.laload, 1) := by decide +kernel
theorem dX10_rows_185 : decode cX10_rows 185 = .ok (.aload_n 0, 1) := by decide +kernel
theorem dX10_rows_186 : decode cX10_rows 186 = .ok (.getfield 50, 3) := by decide +kernel
theorem dX10_rows_189 : decode cX10_rows 189 = .ok (.iload 5, 2) := by decide +kernel
theorem dX10_rows_191 : decode cX10_rows 191 = .ok (.laload, 1) := by decide +kernel
theorem dX10_rows_192 : decode cX10_rows 192 = .ok (.ladd, 1) := by decide +kernel
theorem dX10_rows_193 : decode cX10_rows 193 = .ok (.lastore, 1) := by decide +kernel
theorem dX10_rows_194 : decode cX10_rows 194 = .ok (.iinc 6 1, 3) := by decide +kernel
theorem dX10_rows_197 : decode cX10_rows 197 = .ok (.goto (-108), 3) := by decide +kernel
theorem dX10_rows_200 : decode cX10_rows 200 = .ok (.iinc 5 1, 3) := by decide +kernel
theorem dX10_rows_203 : decode cX10_rows 203 = .ok (.goto (-124), 3) := by decide +kernel
theorem dX10_rows_206 : decode cX10_rows 206 = .ok (.iconst 0, 1) := by decide +kernel
theorem dX10_rows_207 : decode cX10_rows 207 = .ok (.istore 5, 2) := by decide +kernel
theorem dX10_rows_209 : decode cX10_rows 209 = .ok (.iload 5, 2) := by decide +kernel
theorem dX10_rows_211 : decode cX10_rows 211 = .ok (.bipush 54, 2) := by decide +kernel
theorem dX10_rows_213 : decode cX10_rows 213 = .ok (.if_icmp .ge 26, 3) := by decide +kernel
theorem dX10_rows_216 : decode cX10_rows 216 = .ok (.aload_n 0, 1) := by decide +kernel
theorem dX10_rows_217 : decode cX10_rows 217 = .ok (.getfield 50, 3) := by decide +kernel
theorem dX10_rows_220 : decode cX10_rows 220 = .ok (.iload 5, 2) := by decide +kernel
theorem dX10_rows_222 : decode cX10_rows 222 = .ok (.aload_n 0, 1) := by decide +kernel
theorem dX10_rows_223 : decode cX10_rows 223 = .ok (.getfield 50, 3) := by decide +kernel
theorem dX10_rows_226 : decode cX10_rows 226 = .ok (.bipush 54, 2) := by decide +kernel
theorem dX10_rows_228 : decode cX10_rows 228 = .ok (.iload 5, 2) := by decide +kernel
theorem dX10_rows_230 : decode cX10_rows 230 = .ok (.iadd, 1) := by decide +kernel
theorem dX10_rows_231 : decode cX10_rows 231 = .ok (.laload, 1) := by decide +kernel
theorem dX10_rows_232 : decode cX10_rows 232 = .ok (.lastore, 1) := by decide +kernel
theorem dX10_rows_233 : decode cX10_rows 233 = .ok (.iinc 5 1, 3) := by decide +kernel
theorem dX10_rows_236 : decode cX10_rows 236 = .ok (.goto (-27), 3) := by decide +kernel
theorem dX10_rows_239 : decode cX10_rows 239 = .ok (.iinc 4 1, 3) := by decide +kernel
theorem dX10_rows_242 : decode cX10_rows 242 = .ok (.goto (-199), 3) := by decide +kernel
theorem dX10_rows_245 : decode cX10_rows 245 = .ok (.lconst 0, 1) := by decide +kernel
theorem dX10_rows_246 : decode cX10_rows 246 = .ok (.lstore 4, 2) := by decide +kernel
theorem dX10_rows_248 : decode cX10_rows 248 = .ok (.iconst 0, 1) := by decide +kernel
theorem dX10_rows_249 : decode cX10_rows 249 = .ok (.istore 6, 2) := by decide +kernel
theorem dX10_rows_251 : decode cX10_rows 251 = .ok (.iload 6, 2) := by decide +kernel
theorem dX10_rows_253 : decode cX10_rows 253 = .ok (.bipush 54, 2) := by decide +kernel
theorem dX10_rows_255 : decode cX10_rows 255 = .ok (.if_icmp .ge 79, 3) := by decide +kernel
theorem dX10_rows_258 : decode cX10_rows 258 = .ok (.lload 4, 2) := by decide +kernel
theorem dX10_rows_260 : decode cX10_rows 260 = .ok (.aload_n 0, 1) := by decide +kernel
theorem dX10_rows_261 : decode cX10_rows 261 = .ok (.getfield 13, 3) := by decide +kernel
theorem dX10_rows_264 : decode cX10_rows 264 = .ok (.iconst 0, 1) := by decide +kernel
theorem dX10_rows_265 : decode cX10_rows 265 = .ok (.iaload, 1) := by decide +kernel
theorem dX10_rows_266 : decode cX10_rows 266 = .ok (.aload_n 0, 1) := by decide +kernel
theorem dX10_rows_267 : decode cX10_rows 267 = .ok (.iload_n 2, 1) := by decide +kernel
theorem dX10_rows_268 : decode cX10_rows 268 = .ok (.iload 6, 2) := by decide +kernel
theorem dX10_rows_270 : decode cX10_rows 270 = .ok (.bipush 6, 2) := by decide +kernel
theorem dX10_rows_272 : decode cX10_rows 272 = .ok (.idiv, 1) := by decide +kernel
theorem dX10_rows_273 : decode cX10_rows 273 = .ok (.aload_n 0, 1) := by decide +kernel
theorem dX10_rows_274 : decode cX10_rows 274 = .ok (.getfield 26, 3) := by decide +kernel
theorem dX10_rows_277 : decode cX10_rows 277 = .ok (.iconst 0, 1) := by decide +kernel
theorem dX10_rows_278 : decode cX10_rows 278 = .ok (.iaload, 1) := by decide +kernel
theorem dX10_rows_279 : decode cX10_rows 279 = .ok (.irem, 1) := by decide +kernel
theorem dX10_rows_280 : decode cX10_rows 280 = .ok (.invokevirtual 136, 3) := by decide +kernel
theorem dX10_rows_283 : decode cX10_rows 283 = .ok (.aload_n 0, 1) := by decide +kernel
theorem dX10_rows_284 : decode cX10_rows 284 = .ok (.invokevirtual 140, 3) := by decide +kernel
theorem dX10_rows_287 : decode cX10_rows 287 = .ok (.iand, 1) := by decide +kernel
theorem dX10_rows_288 : decode cX10_rows 288 = .ok (.iload 6, 2) := by decide +kernel
theorem dX10_rows_290 : decode cX10_rows 290 = .ok (.bipush 6, 2) := by decide +kernel
theorem dX10_rows_292 : decode cX10_rows 292 = .ok (.irem, 1) := by decide +kernel
theorem dX10_rows_293 : decode cX10_rows 293 = .ok (.iconst 5, 1) := by decide +kernel
theorem dX10_rows_294 : decode cX10_rows 294 = .ok (.if_icmp .ne 7, 3) := by decide +kernel
theorem dX10_rows_297 : decode cX10_rows 297 = .ok (.iconst 0, 1) := by decide +kernel
theorem dX10_rows_298 : decode cX10_rows 298 = .ok (.goto 10, 3) := by decide +kernel
theorem dX10_rows_301 : decode cX10_rows 301 = .ok (.iconst 1, 1) := by decide +kernel
theorem dX10_rows_302 : decode cX10_rows 302 = .ok (.iload 6, 2) := by decide +kernel
theorem dX10_rows_304 : decode cX10_rows 304 = .ok (.bipush 6, 2) := by decide +kernel
theorem dX10_rows_306 : decode cX10_rows 306 = .ok (.irem, 1) := by decide +kernel
theorem dX10_rows_307 : decode cX10_rows 307 = .ok (.ishl, 1) := by decide +kernel
theorem dX10_rows_308 : decode cX10_rows 308 = .ok (.invokestatic 146, 3) := by decide +kernel
theorem dX10_rows_311 : decode cX10_rows 311 = .ok (.ifCond .eq 13, 3) := by decide +kernel
theorem dX10_rows_314 : decode cX10_rows 314 = .ok (.aload_n 0, 1) := by decide +kernel
theorem dX10_rows_315 : decode cX10_rows 315 = .ok (.getfield 50, 3) := by decide +kernel
theorem dX10_rows_318 : decode cX10_rows 318 = .ok (.iload 6, 2) := by decide +kernel
theorem dX10_rows_320 : decode cX10_rows 320 = .ok (.laload, 1) := by decide +kernel
theorem dX10_rows_321 : decode cX10_rows 321 = .ok (.goto 4, 3) := by decide +kernel
theorem dX10_rows_324 : decode cX10_rows 324 = .ok (.lconst 0, 1) := by decide +kernel
theorem dX10_rows_325 : decode cX10_rows 325 = .ok (.ladd, 1) := by decide +kernel
theorem dX10_rows_326 : decode cX10_rows 326 = .ok (.lstore 4, 2) := by decide +kernel
theorem dX10_rows_328 : decode cX10_rows 328 = .ok (.iinc 6 1, 3) := by decide +kernel
theorem dX10_rows_331 : decode cX10_rows 331 = .ok (.goto (-80), 3) := by decide +kernel
theorem dX10_rows_334 : decode cX10_rows 334 = .ok (.lload 4, 2) := by decide +kernel
theorem dX10_rows_336 : decode cX10_rows 336 = .ok (.lreturn, 1) := by decide +kernel
theorem dX10_mark_0 : decode cX10_mark 0 = .ok (.iconst 0, 1) := by decide +kernel
theorem dX10_mark_1 : decode cX10_mark 1 = .ok (.istore_n 2, 1) := by decide +kernel
theorem dX10_mark_2 : decode cX10_mark 2 = .ok (.aload_n 0, 1) := by decide +kernel
theorem dX10_mark_3 : decode cX10_mark 3 = .ok (.getfield 13, 3) := by decide +kernel
theorem dX10_mark_6 : decode cX10_mark 6 = .ok (.iconst 0, 1) := by decide +kernel
theorem dX10_mark_7 : decode cX10_mark 7 = .ok (.iaload, 1) := by decide +kernel
theorem dX10_mark_8 : decode cX10_mark 8 = .ok (.iconst 2, 1) := by decide +kernel
theorem dX10_mark_9 : decode cX10_mark 9 = .ok (.if_icmp .ne 22, 3) := by decide +kernel
theorem dX10_mark_12 : decode cX10_mark 12 = .ok (.iload_n 2, 1) := by decide +kernel
theorem dX10_mark_13 : decode cX10_mark 13 = .ok (.iconst 5, 1) := by decide +kernel
theorem dX10_mark_14 : decode cX10_mark 14 = .ok (.if_icmp .ge 17, 3) := by decide +kernel
theorem dX10_mark_17 : decode cX10_mark 17 = .ok (.iload_n 1, 1) := by decide +kernel
theorem dX10_mark_18 : decode cX10_mark 18 = .ok (.iload_n 2, 1) := by decide +kernel
theorem dX10_mark_19 : decode cX10_mark 19 = .ok (.ishr, 1) := by decide +kernel
theorem dX10_mark_20 : decode cX10_mark 20 = .ok (.iconst 1, 1) := by decide +kernel
theorem dX10_mark_21 : decode cX10_mark 21 = .ok (.iand, 1) := by decide +kernel
theorem dX10_mark_22 : decode cX10_mark 22 = .ok (.ifCond .ne 9, 3) := by decide +kernel
theorem dX10_mark_25 : decode cX10_mark 25 = .ok (.iinc 2 1, 3) := by decide +kernel
theorem dX10_mark_28 : decode cX10_mark 28 = .ok (.goto (-26), 3) := by decide +kernel
theorem dX10_mark_31 : decode cX10_mark 31 = .ok (.aload_n 0, 1) := by decide +kernel
theorem dX10_mark_32 : decode cX10_mark 32 = .ok (.getfield 13, 3) := by decide +kernel
theorem dX10_mark_35 : decode cX10_mark 35 = .ok (.iconst 0, 1) := by decide +kernel
theorem dX10_mark_36 : decode cX10_mark 36 = .ok (.iaload, 1) := by decide +kernel
theorem dX10_mark_37 : decode cX10_mark 37 = .ok (.iconst 2, 1) := by decide +kernel
theorem dX10_mark_38 : decode cX10_mark 38 = .ok (.if_icmp .ne 7, 3) := by decide +kernel
theorem dX10_mark_41 : decode cX10_mark 41 = .ok (.iload_n 2, 1) := by decide +kernel
theorem dX10_mark_42 : decode cX10_mark 42 = .ok (.goto 4, 3) := by decide +kernel
theorem dX10_mark_45 : decode cX10_mark 45 = .ok (.iconst 5, 1) := by decide +kernel
theorem dX10_mark_46 : decode cX10_mark 46 = .ok (.ireturn, 1) := by decide +kernel
theorem dX10_between_0 : decode cX10_between 0 = .ok (.aload_n 0, 1) := by decide +kernel
theorem dX10_between_1 : decode cX10_between 1 = .ok (.iload_n 1, 1) := by decide +kernel
theorem dX10_between_2 : decode cX10_between 2 = .ok (.invokevirtual 126, 3) := by decide +kernel
theorem dX10_between_5 : decode cX10_between 5 = .ok (.ifCond .eq 33, 3) := by decide +kernel
theorem dX10_between_8 : decode cX10_between 8 = .ok (.aload_n 0, 1) := by decide +kernel
theorem dX10_between_9 : decode cX10_between 9 = .ok (.iload_n 2, 1) := by decide +kernel
theorem dX10_between_10 : decode cX10_between 10 = .ok (.invokevirtual 126, 3) := by decide +kernel
theorem dX10_between_13 : decode cX10_between 13 = .ok (.ifCond .eq 25, 3) := by decide +kernel
theorem dX10_between_16 : decode cX10_between 16 = .ok (.iload_n 3, 1) := by decide +kernel
theorem dX10_between_17 : decode cX10_between 17 = .ok (.i2l, 1) := by decide +kernel
theorem dX10_between_18 : decode cX10_between 18 = .ok (.lconst 0, 1) := by decide +kernel
theorem dX10_between_19 : decode cX10_between 19 = .ok (.ldc2_w 162, 3) := by decide +kernel
theorem dX10_between_22 : decode cX10_between 22 = .ok (.invokestatic 74, 3) := by decide +kernel
theorem dX10_between_25 : decode cX10_between 25 = .ok (.ifCond .eq 13, 3) := by decide +kernel
theorem dX10_between_28 : decode cX10_between 28 = .ok (.aload_n 0, 1) := by decide +kernel
theorem dX10_between_29 : decode cX10_between 29 = .ok (.iload_n 1, 1) := by decide +kernel
theorem dX10_between_30 : decode cX10_between 30 = .ok (.iload_n 2, 1) := by decide +kernel
theorem dX10_between_31 : decode cX10_between 31 = .ok (.iload_n 3, 1) := by decide +kernel
theorem dX10_between_32 : decode cX10_between 32 = .ok (.invokevirtual 164, 3) := by decide +kernel
theorem dX10_between_35 : decode cX10_between 35 = .ok (.goto 6, 3) := by decide +kernel
theorem dX10_between_38 : decode cX10_between 38 = .ok (.ldc2_w 168, 3) := by decide +kernel
theorem dX10_between_41 : decode cX10_between 41 = .ok (.lreturn, 1) := by decide +kernel
theorem dX10_nearest_0 : decode cX10_nearest 0 = .ok (.aload_n 0, 1) := by decide +kernel
theorem dX10_nearest_1 : decode cX10_nearest 1 = .ok (.iload_n 1, 1) := by decide +kernel
theorem dX10_nearest_2 : decode cX10_nearest 2 = .ok (.invokevirtual 126, 3) := by decide +kernel
theorem dX10_nearest_5 : decode cX10_nearest 5 = .ok (.ifCond .eq 11, 3) := by decide +kernel
theorem dX10_nearest_8 : decode cX10_nearest 8 = .ok (.aload_n 0, 1) := by decide +kernel
theorem dX10_nearest_9 : decode cX10_nearest 9 = .ok (.iload_n 2, 1) := by decide +kernel
theorem dX10_nearest_10 : decode cX10_nearest 10 = .ok (.invokevirtual 126, 3) := by decide +kernel
theorem dX10_nearest_13 : decode cX10_nearest 13 = .ok (.ifCond .ne 5, 3) := by decide +kernel
theorem dX10_nearest_16 : decode cX10_nearest 16 = .ok (.iconst (-1), 1) := by decide +kernel
theorem dX10_nearest_17 : decode cX10_nearest 17 = .ok (.ireturn, 1) := by decide +kernel
theorem dX10_nearest_18 : decode cX10_nearest 18 = .ok (.iconst 0, 1) := by decide +kernel
theorem dX10_nearest_19 : decode cX10_nearest 19 = .ok (.istore_n 3, 1) := by decide +kernel
theorem dX10_nearest_20 : decode cX10_nearest 20 = .ok (.iload_n 3, 1) := by decide +kernel
theorem dX10_nearest_21 : decode cX10_nearest 21 = .ok (.bipush 12, 2) := by decide +kernel
theorem dX10_nearest_23 : decode cX10_nearest 23 = .ok (.if_icmp .gt 23, 3) := by decide +kernel
theorem dX10_nearest_26 : decode cX10_nearest 26 = .ok (.aload_n 0, 1) := by decide +kernel
theorem dX10_nearest_27 : decode cX10_nearest 27 = .ok (.iload_n 1, 1) := by decide +kernel
theorem dX10_nearest_28 : decode cX10_nearest 28 = .ok (.iload_n 2, 1) := by decide +kernel
theorem dX10_nearest_29 : decode cX10_nearest 29 = .ok (.iload_n 3, 1) := by decide +kernel
theorem dX10_nearest_30 : decode cX10_nearest 30 = .ok (.invokevirtual 164, 3) := by decide +kernel
theorem dX10_nearest_33 : decode cX10_nearest 33 = .ok (.lconst 0, 1) := by decide +kernel
theorem dX10_nearest_34 : decode cX10_nearest 34 = .ok (.lcmp, 1) := by decide +kernel
theorem dX10_nearest_35 : decode cX10_nearest 35 = .ok (.ifCond .le 5, 3) := by decide +kernel
theorem dX10_nearest_38 : decode cX10_nearest 38 = .ok (.iload_n 3, 1) := by decide +kernel
theorem dX10_nearest_39 : decode cX10_nearest 39 = .ok (.ireturn, 1) := by decide +kernel
theorem dX10_nearest_40 : decode cX10_nearest 40 = .ok (.iinc 3 1, 3) := by decide +kernel
theorem dX10_nearest_43 : decode cX10_nearest 43 = .ok (.goto (-23), 3) := by decide +kernel
theorem dX10_nearest_46 : decode cX10_nearest 46 = .ok (.bipush (-4), 2) := by decide +kernel
theorem dX10_nearest_48 : decode cX10_nearest 48 = .ok (.ireturn, 1) := by decide +kernel
theorem dX10_valueOf_0 : decode cX10_valueOf 0 = .ok (.iload_n 1, 1) := by decide +kernel
theorem dX10_valueOf_1 : decode cX10_valueOf 1 = .ok (.istore_n 3, 1) := by decide +kernel
theorem dX10_valueOf_2 : decode cX10_valueOf 2 = .ok (.aload_n 0, 1) := by decide +kernel
theorem dX10_valueOf_3 : decode cX10_valueOf 3 = .ok (.getfield 17, 3) := by decide +kernel
theorem dX10_valueOf_6 : decode cX10_valueOf 6 = .ok (.iconst 0, 1) := by decide +kernel
theorem dX10_valueOf_7 : decode cX10_valueOf 7 = .ok (.iaload, 1) := by decide +kernel
theorem dX10_valueOf_8 : decode cX10_valueOf 8 = .ok (.iconst 1, 1) := by decide +kernel
theorem dX10_valueOf_9 : decode cX10_valueOf 9 = .ok (.isub, 1) := by decide +kernel
theorem dX10_valueOf_10 : decode cX10_valueOf 10 = .ok (.istore 4, 2) := by decide +kernel
theorem dX10_valueOf_12 : decode cX10_valueOf 12 = .ok (.iload 4, 2) := by decide +kernel
theorem dX10_valueOf_14 : decode cX10_valueOf 14 = .ok (.iload_n 2, 1) := by decide +kernel
theorem dX10_valueOf_15 : decode cX10_valueOf 15 = .ok (.if_icmp .le 19, 3) := by decide +kernel
theorem dX10_valueOf_18 : decode cX10_valueOf 18 = .ok (.iload_n 3, 1) := by decide +kernel
theorem dX10_valueOf_19 : decode cX10_valueOf 19 = .ok (.aload_n 0, 1) := by decide +kernel
theorem dX10_valueOf_20 : decode cX10_valueOf 20 = .ok (.getfield 20, 3) := by decide +kernel
theorem dX10_valueOf_23 : decode cX10_valueOf 23 = .ok (.iload 4, 2) := by decide +kernel
theorem dX10_valueOf_25 : decode cX10_valueOf 25 = .ok (.iaload, 1) := by decide +kernel
theorem dX10_valueOf_26 : decode cX10_valueOf 26 = .ok (.idiv, 1) := by decide +kernel
theorem dX10_valueOf_27 : decode cX10_valueOf 27 = .ok (.istore_n 3, 1) := by decide +kernel
theorem dX10_valueOf_28 : decode cX10_valueOf 28 = .ok (.iinc 4 (-1), 3) := by decide +kernel
theorem dX10_valueOf_31 : decode cX10_valueOf 31 = .ok (.goto (-19), 3) := by decide +kernel
theorem dX10_valueOf_34 : decode cX10_valueOf 34 = .ok (.iload_n 3, 1) := by decide +kernel
theorem dX10_valueOf_35 : decode cX10_valueOf 35 = .ok (.aload_n 0, 1) := by decide +kernel
theorem dX10_valueOf_36 : decode cX10_valueOf 36 = .ok (.getfield 20, 3) := by decide +kernel
theorem dX10_valueOf_39 : decode cX10_valueOf 39 = .ok (.iload_n 2, 1) := by decide +kernel
theorem dX10_valueOf_40 : decode cX10_valueOf 40 = .ok (.iaload, 1) := by decide +kernel
theorem dX10_valueOf_41 : decode cX10_valueOf 41 = .ok (.irem, 1) := by decide +kernel
theorem dX10_valueOf_42 : decode cX10_valueOf 42 = .ok (.ireturn, 1) := by decide +kernel
theorem dX10_all_0 : decode cX10_all 0 = .ok (.iconst 1, 1) := by decide +kernel
theorem dX10_all_1 : decode cX10_all 1 = .ok (.istore_n 1, 1) := by decide +kernel
theorem dX10_all_2 : decode cX10_all 2 = .ok (.iconst 0, 1) := by decide +kernel
theorem dX10_all_3 : decode cX10_all 3 = .ok (.istore_n 2, 1) := by decide +kernel
theorem dX10_all_4 : decode cX10_all 4 = .ok (.iload_n 2, 1) := by decide +kernel
theorem dX10_all_5 : decode cX10_all 5 = .ok (.aload_n 0, 1) := by decide +kernel
theorem dX10_all_6 : decode cX10_all 6 = .ok (.getfield 17, 3) := by decide +kernel
theorem dX10_all_9 : decode cX10_all 9 = .ok (.iconst 0, 1) := by decide +kernel
theorem dX10_all_10 : decode cX10_all 10 = .ok (.iaload, 1) := by decide +kernel
theorem dX10_all_11 : decode cX10_all 11 = .ok (.if_icmp .ge 18, 3) := by decide +kernel
theorem dX10_all_14 : decode cX10_all 14 = .ok (.iload_n 1, 1) := by decide +kernel
theorem dX10_all_15 : decode cX10_all 15 = .ok (.aload_n 0, 1) := by decide +kernel
theorem dX10_all_16 : decode cX10_all 16 = .ok (.getfield 20, 3) := by decide +kernel
theorem dX10_all_19 : decode cX10_all 19 = .ok (.iload_n 2, 1) := by decide +kernel
theorem dX10_all_20 : decode cX10_all 20 = .ok (.iaload, 1) := by decide +kernel
theorem dX10_all_21 : decode cX10_all 21 = .ok (.imul, 1) := by decide +kernel
theorem dX10_all_22 : decode cX10_all 22 = .ok (.istore_n 1, 1) := by decide +kernel
theorem dX10_all_23 : decode cX10_all 23 = .ok (.iinc 2 1, 3) := by decide +kernel
theorem dX10_all_26 : decode cX10_all 26 = .ok (.goto (-22), 3) := by decide +kernel
theorem dX10_all_29 : decode cX10_all 29 = .ok (.iload_n 1, 1) := by decide +kernel
theorem dX10_all_30 : decode cX10_all 30 = .ok (.ireturn, 1) := by decide +kernel
theorem dX10_unlikeCodes_0 : decode cX10_unlikeCodes 0 = .ok (.iconst 0, 1) := by decide +kernel
theorem dX10_unlikeCodes_1 : decode cX10_unlikeCodes 1 = .ok (.istore_n 3, 1) := by decide +kernel
theorem dX10_unlikeCodes_2 : decode cX10_unlikeCodes 2 = .ok (.iconst 0, 1) := by decide +kernel
theorem dX10_unlikeCodes_3 : decode cX10_unlikeCodes 3 = .ok (.istore 4, 2) := by decide +kernel
theorem dX10_unlikeCodes_5 : decode cX10_unlikeCodes 5 = .ok (.iload 4, 2) := by decide +kernel
theorem dX10_unlikeCodes_7 : decode cX10_unlikeCodes 7 = .ok (.aload_n 0, 1) := by decide +kernel
theorem dX10_unlikeCodes_8 : decode cX10_unlikeCodes 8 = .ok (.getfield 17, 3) := by decide +kernel
theorem dX10_unlikeCodes_11 : decode cX10_unlikeCodes 11 = .ok (.iconst 0, 1) := by decide +kernel
theorem dX10_unlikeCodes_12 : decode cX10_unlikeCodes 12 = .ok (.iaload, 1) := by decide +kernel
theorem dX10_unlikeCodes_13 : decode cX10_unlikeCodes 13 = .ok (.if_icmp .ge 50, 3) := by decide +kernel
theorem dX10_unlikeCodes_16 : decode cX10_unlikeCodes 16 = .ok (.iload_n 3, 1) := by decide +kernel
theorem dX10_unlikeCodes_17 : decode cX10_unlikeCodes 17 = .ok (.aload_n 0, 1) := by decide +kernel
theorem dX10_unlikeCodes_18 : decode cX10_unlikeCodes 18 = .ok (.invokevirtual 140, 3) := by decide +kernel
theorem dX10_unlikeCodes_21 : decode cX10_unlikeCodes 21 = .ok (.iload 4, 2) := by decide +kernel
theorem dX10_unlikeCodes_23 : decode cX10_unlikeCodes 23 = .ok (.ishr, 1) := by decide +kernel
theorem dX10_unlikeCodes_24 : decode cX10_unlikeCodes 24 = .ok (.iconst 1, 1) := by decide +kernel
theorem dX10_unlikeCodes_25 : decode cX10_unlikeCodes 25 = .ok (.iand, 1) := by decide +kernel
theorem dX10_unlikeCodes_26 : decode cX10_unlikeCodes 26 = .ok (.iconst 1, 1) := by decide +kernel
theorem dX10_unlikeCodes_27 : decode cX10_unlikeCodes 27 = .ok (.if_icmp .ne 27, 3) := by decide +kernel
theorem dX10_unlikeCodes_30 : decode cX10_unlikeCodes 30 = .ok (.aload_n 0, 1) := by decide +kernel
theorem dX10_unlikeCodes_31 : decode cX10_unlikeCodes 31 = .ok (.iload_n 1, 1) := by decide +kernel
theorem dX10_unlikeCodes_32 : decode cX10_unlikeCodes 32 = .ok (.iload 4, 2) := by decide +kernel
theorem dX10_unlikeCodes_34 : decode cX10_unlikeCodes 34 = .ok (.invokevirtual 170, 3) := by decide +kernel
theorem dX10_unlikeCodes_37 : decode cX10_unlikeCodes 37 = .ok (.aload_n 0, 1) := by decide +kernel
theorem dX10_unlikeCodes_38 : decode cX10_unlikeCodes 38 = .ok (.iload_n 2, 1) := by decide +kernel
theorem dX10_unlikeCodes_39 : decode cX10_unlikeCodes 39 = .ok (.iload 4, 2) := by decide +kernel
theorem dX10_unlikeCodes_41 : decode cX10_unlikeCodes 41 = .ok (.invokevirtual 170, 3) := by decide +kernel
theorem dX10_unlikeCodes_44 : decode cX10_unlikeCodes 44 = .ok (.if_icmp .eq 10, 3) := by decide +kernel
theorem dX10_unlikeCodes_47 : decode cX10_unlikeCodes 47 = .ok (.iconst 1, 1) := by decide +kernel
theorem dX10_unlikeCodes_48 : decode cX10_unlikeCodes 48 = .ok (.iload 4, 2) := by decide +kernel
theorem dX10_unlikeCodes_50 : decode cX10_unlikeCodes 50 = .ok (.ishl, 1) := by decide +kernel
theorem dX10_unlikeCodes_51 : decode cX10_unlikeCodes 51 = .ok (.goto 4, 3) := by decide +kernel
theorem dX10_unlikeCodes_54 : decode cX10_unlikeCodes 54 = .ok (.iconst 0, 1) := by decide +kernel
theorem dX10_unlikeCodes_55 : decode cX10_unlikeCodes 55 = .ok (.ior, 1) := by decide +kernel
theorem dX10_unlikeCodes_56 : decode cX10_unlikeCodes 56 = .ok (.istore_n 3, 1) := by decide +kernel
theorem dX10_unlikeCodes_57 : decode cX10_unlikeCodes 57 = .ok (.iinc 4 1, 3) := by decide +kernel
theorem dX10_unlikeCodes_60 : decode cX10_unlikeCodes 60 = .ok (.goto (-55), 3) := by decide +kernel
theorem dX10_unlikeCodes_63 : decode cX10_unlikeCodes 63 = .ok (.iload_n 3, 1) := by decide +kernel
theorem dX10_unlikeCodes_64 : decode cX10_unlikeCodes 64 = .ok (.ireturn, 1) := by decide +kernel
theorem dX10_plain_0 : decode cX10_plain 0 = .ok (.iconst 0, 1) := by decide +kernel
theorem dX10_plain_1 : decode cX10_plain 1 = .ok (.istore_n 2, 1) := by decide +kernel
theorem dX10_plain_2 : decode cX10_plain 2 = .ok (.iconst 0, 1) := by decide +kernel
theorem dX10_plain_3 : decode cX10_plain 3 = .ok (.istore_n 3, 1) := by decide +kernel
theorem dX10_plain_4 : decode cX10_plain 4 = .ok (.iload_n 3, 1) := by decide +kernel
theorem dX10_plain_5 : decode cX10_plain 5 = .ok (.aload_n 0, 1) := by decide +kernel
theorem dX10_plain_6 : decode cX10_plain 6 = .ok (.getfield 17, 3) := by decide +kernel
theorem dX10_plain_9 : decode cX10_plain 9 = .ok (.iconst 0, 1) := by decide +kernel
theorem dX10_plain_10 : decode cX10_plain 10 = .ok (.iaload, 1) := by decide +kernel
theorem dX10_plain_11 : decode cX10_plain 11 = .ok (.if_icmp .ge 41, 3) := by decide +kernel
theorem dX10_plain_14 : decode cX10_plain 14 = .ok (.iload_n 2, 1) := by decide +kernel
theorem dX10_plain_15 : decode cX10_plain 15 = .ok (.aload_n 0, 1) := by decide +kernel
theorem dX10_plain_16 : decode cX10_plain 16 = .ok (.getfield 20, 3) := by decide +kernel
theorem dX10_plain_19 : decode cX10_plain 19 = .ok (.iload_n 3, 1) := by decide +kernel
theorem dX10_plain_20 : decode cX10_plain 20 = .ok (.iaload, 1) := by decide +kernel
theorem dX10_plain_21 : decode cX10_plain 21 = .ok (.imul, 1) := by decide +kernel
theorem dX10_plain_22 : decode cX10_plain 22 = .ok (.aload_n 0, 1) := by decide +kernel
theorem dX10_plain_23 : decode cX10_plain 23 = .ok (.invokevirtual 140, 3) := by decide +kernel
theorem dX10_plain_26 : decode cX10_plain 26 = .ok (.iload_n 3, 1) := by decide +kernel
theorem dX10_plain_27 : decode cX10_plain 27 = .ok (.ishr, 1) := by decide +kernel
theorem dX10_plain_28 : decode cX10_plain 28 = .ok (.iconst 1, 1) := by decide +kernel
theorem dX10_plain_29 : decode cX10_plain 29 = .ok (.iand, 1) := by decide +kernel
theorem dX10_plain_30 : decode cX10_plain 30 = .ok (.iconst 1, 1) := by decide +kernel
theorem dX10_plain_31 : decode cX10_plain 31 = .ok (.if_icmp .ne 12, 3) := by decide +kernel
theorem dX10_plain_34 : decode cX10_plain 34 = .ok (.aload_n 0, 1) := by decide +kernel
theorem dX10_plain_35 : decode cX10_plain 35 = .ok (.iload_n 1, 1) := by decide +kernel
theorem dX10_plain_36 : decode cX10_plain 36 = .ok (.iload_n 3, 1) := by decide +kernel
theorem dX10_plain_37 : decode cX10_plain 37 = .ok (.invokevirtual 170, 3) := by decide +kernel
theorem dX10_plain_40 : decode cX10_plain 40 = .ok (.goto 4, 3) := by decide +kernel
theorem dX10_plain_43 : decode cX10_plain 43 = .ok (.iconst 0, 1) := by decide +kernel
theorem dX10_plain_44 : decode cX10_plain 44 = .ok (.iadd, 1) := by decide +kernel
theorem dX10_plain_45 : decode cX10_plain 45 = .ok (.istore_n 2, 1) := by decide +kernel
theorem dX10_plain_46 : decode cX10_plain 46 = .ok (.iinc 3 1, 3) := by decide +kernel
theorem dX10_plain_49 : decode cX10_plain 49 = .ok (.goto (-45), 3) := by decide +kernel
theorem dX10_plain_52 : decode cX10_plain 52 = .ok (.iload_n 2, 1) := by decide +kernel
theorem dX10_plain_53 : decode cX10_plain 53 = .ok (.ireturn, 1) := by decide +kernel
theorem dX10_circles_0 : decode cX10_circles 0 = .ok (.aload_n 0, 1) := by decide +kernel
theorem dX10_circles_1 : decode cX10_circles 1 = .ok (.invokevirtual 173, 3) := by decide +kernel
theorem dX10_circles_4 : decode cX10_circles 4 = .ok (.istore_n 2, 1) := by decide +kernel
theorem dX10_circles_5 : decode cX10_circles 5 = .ok (.iconst 0, 1) := by decide +kernel
theorem dX10_circles_6 : decode cX10_circles 6 = .ok (.istore_n 3, 1) := by decide +kernel
theorem dX10_circles_7 : decode cX10_circles 7 = .ok (.iload_n 3, 1) := by decide +kernel
theorem dX10_circles_8 : decode cX10_circles 8 = .ok (.sipush 5120, 3) := by decide +kernel
theorem dX10_circles_11 : decode cX10_circles 11 = .ok (.if_icmp .ge 16, 3) := by decide +kernel
theorem dX10_circles_14 : decode cX10_circles 14 = .ok (.aload_n 0, 1) := by decide +kernel
theorem dX10_circles_15 : decode cX10_circles 15 = .ok (.getfield 54, 3) := by decide +kernel
theorem dX10_circles_18 : decode cX10_circles 18 = .ok (.iload_n 3, 1) := by decide +kernel
theorem dX10_circles_19 : decode cX10_circles 19 = .ok (.iconst (-1), 1) := by decide +kernel
theorem dX10_circles_20 : decode cX10_circles 20 = .ok (.iastore, 1) := by decide +kernel
theorem dX10_circles_21 : decode cX10_circles 21 = .ok (.iinc 3 1, 3) := by decide +kernel
theorem dX10_circles_24 : decode cX10_circles 24 = .ok (.goto (-17), 3) := by decide +kernel
theorem dX10_circles_27 : decode cX10_circles 27 = .ok (.iconst 0, 1) := by decide +kernel
theorem dX10_circles_28 : decode cX10_circles 28 = .ok (.istore_n 3, 1) := by decide +kernel
theorem dX10_circles_29 : decode cX10_circles 29 = .ok (.aload_n 0, 1) := by decide +kernel
theorem dX10_circles_30 : decode cX10_circles 30 = .ok (.getfield 13, 3) := by decide +kernel
theorem dX10_circles_33 : decode cX10_circles 33 = .ok (.iconst 0, 1) := by decide +kernel
theorem dX10_circles_34 : decode cX10_circles 34 = .ok (.iaload, 1) := by decide +kernel
theorem dX10_circles_35 : decode cX10_circles 35 = .ok (.istore 4, 2) := by decide +kernel
theorem dX10_circles_37 : decode cX10_circles 37 = .ok (.iconst 0, 1) := by decide +kernel
theorem dX10_circles_38 : decode cX10_circles 38 = .ok (.istore 5, 2) := by decide +kernel
theorem dX10_circles_40 : decode cX10_circles 40 = .ok (.iload 5, 2) := by decide +kernel
theorem dX10_circles_42 : decode cX10_circles 42 = .ok (.iload_n 2, 1) := by decide +kernel
theorem dX10_circles_43 : decode cX10_circles 43 = .ok (.if_icmp .ge 74, 3) := by decide +kernel
theorem dX10_circles_46 : decode cX10_circles 46 = .ok (.aload_n 0, 1) := by decide +kernel
theorem dX10_circles_47 : decode cX10_circles 47 = .ok (.iload 5, 2) := by decide +kernel
theorem dX10_circles_49 : decode cX10_circles 49 = .ok (.iload_n 1, 1) := by decide +kernel
theorem dX10_circles_50 : decode cX10_circles 50 = .ok (.invokevirtual 176, 3) := by decide +kernel
theorem dX10_circles_53 : decode cX10_circles 53 = .ok (.istore 6, 2) := by decide +kernel
theorem dX10_circles_55 : decode cX10_circles 55 = .ok (.aload_n 0, 1) := by decide +kernel
theorem dX10_circles_56 : decode cX10_circles 56 = .ok (.iload 5, 2) := by decide +kernel
theorem dX10_circles_58 : decode cX10_circles 58 = .ok (.invokevirtual 179, 3) := by decide +kernel
theorem dX10_circles_61 : decode cX10_circles 61 = .ok (.iload 5, 2) := by decide +kernel
theorem dX10_circles_63 : decode cX10_circles 63 = .ok (.if_icmp .ne 48, 3) := by decide +kernel
theorem dX10_circles_66 : decode cX10_circles 66 = .ok (.iload 4, 2) := by decide +kernel
theorem dX10_circles_68 : decode cX10_circles 68 = .ok (.iload 6, 2) := by decide +kernel
theorem dX10_circles_70 : decode cX10_circles 70 = .ok (.iconst 0, 1) := by decide +kernel
theorem dX10_circles_71 : decode cX10_circles 71 = .ok (.invokestatic 146, 3) := by decide +kernel
theorem dX10_circles_74 : decode cX10_circles 74 = .ok (.ifCond .eq 37, 3) := by decide +kernel
theorem dX10_circles_77 : decode cX10_circles 77 = .ok (.iconst 5, 1) := by decide +kernel
theorem dX10_circles_78 : decode cX10_circles 78 = .ok (.iload 5, 2) := by decide +kernel
theorem dX10_circles_80 : decode cX10_circles 80 = .ok (.imul, 1) := by decide +kernel
theorem dX10_circles_81 : decode cX10_circles 81 = .ok (.aload_n 0, 1) := by decide +kernel
theorem dX10_circles_82 : decode cX10_circles 82 = .ok (.iload 6, 2) := by decide +kernel
theorem dX10_circles_84 : decode cX10_circles 84 = .ok (.invokevirtual 159, 3) := by decide +kernel
theorem dX10_circles_87 : decode cX10_circles 87 = .ok (.iconst 5, 1) := by decide +kernel
theorem dX10_circles_88 : decode cX10_circles 88 = .ok (.irem, 1) := by decide +kernel
theorem dX10_circles_89 : decode cX10_circles 89 = .ok (.iadd, 1) := by decide +kernel
theorem dX10_circles_90 : decode cX10_circles 90 = .ok (.istore 7, 2) := by decide +kernel
theorem dX10_circles_92 : decode cX10_circles 92 = .ok (.aload_n 0, 1) := by decide +kernel
theorem dX10_circles_93 : decode cX10_circles 93 = .ok (.getfield 54, 3) := by decide +kernel
theorem dX10_circles_96 : decode cX10_circles 96 = .ok (.iload 7, 2) := by decide +kernel
theorem dX10_circles_98 : decode cX10_circles 98 = .ok (.iconst 1, 1) := by decide +kernel
theorem dX10_circles_99 : decode cX10_circles 99 = .ok (.iastore, 1) := by decide +kernel
theorem dX10_circles_100 : decode cX10_circles 100 = .ok (.aload_n 0, 1) := by decide +kernel
theorem dX10_circles_101 : decode cX10_circles 101 = .ok (.getfield 57, 3) := by decide +kernel
theorem dX10_circles_104 : decode cX10_circles 104 = .ok (.iload_n 3, 1) := by decide +kernel
theorem dX10_circles_105 : decode cX10_circles 105 = .ok (.iload 7, 2) := by decide +kernel
theorem dX10_circles_107 : decode cX10_circles 107 = .ok (.iastore, 1) := by decide +kernel
theorem dX10_circles_108 : decode cX10_circles 108 = .ok (.iinc 3 1, 3) := by decide +kernel
theorem dX10_circles_111 : decode cX10_circles 111 = .ok (.iinc 5 1, 3) := by decide +kernel
theorem dX10_circles_114 : decode cX10_circles 114 = .ok (.goto (-74), 3) := by decide +kernel
theorem dX10_circles_117 : decode cX10_circles 117 = .ok (.iconst 0, 1) := by decide +kernel
theorem dX10_circles_118 : decode cX10_circles 118 = .ok (.istore 5, 2) := by decide +kernel
theorem dX10_circles_120 : decode cX10_circles 120 = .ok (.iload 5, 2) := by decide +kernel
theorem dX10_circles_122 : decode cX10_circles 122 = .ok (.iload_n 3, 1) := by decide +kernel
theorem dX10_circles_123 : decode cX10_circles 123 = .ok (.if_icmp .ge 144, 3) := by decide +kernel
theorem dX10_circles_126 : decode cX10_circles 126 = .ok (.aload_n 0, 1) := by decide +kernel
theorem dX10_circles_127 : decode cX10_circles 127 = .ok (.getfield 57, 3) := by decide +kernel
theorem dX10_circles_130 : decode cX10_circles 130 = .ok (.iload 5, 2) := by decide +kernel
theorem dX10_circles_132 : decode cX10_circles 132 = .ok (.iaload, 1) := by decide +kernel
theorem dX10_circles_133 : decode cX10_circles 133 = .ok (.iconst 5, 1) := by decide +kernel
theorem dX10_circles_134 : decode cX10_circles 134 = .ok (.idiv, 1) := by decide +kernel
theorem dX10_circles_135 : decode cX10_circles 135 = .ok (.istore 6, 2) := by decide +kernel
theorem dX10_circles_137 : decode cX10_circles 137 = .ok (.iconst 0, 1) := by decide +kernel
theorem dX10_circles_138 : decode cX10_circles 138 = .ok (.istore 7, 2) := by decide +kernel
theorem dX10_circles_140 : decode cX10_circles 140 = .ok (.iload 7, 2) := by decide +kernel
theorem dX10_circles_142 : decode cX10_circles 142 = .ok (.iload_n 2, 1) := by decide +kernel
theorem dX10_circles_143 : decode cX10_circles 143 = .ok (.if_icmp .ge 118, 3) := by decide +kernel
theorem dX10_circles_146 : decode cX10_circles 146 = .ok (.aload_n 0, 1) := by decide +kernel
theorem dX10_circles_147 : decode cX10_circles 147 = .ok (.iload 7, 2) := by decide +kernel
theorem dX10_circles_149 : decode cX10_circles 149 = .ok (.iload 6, 2) := by decide +kernel
theorem dX10_circles_151 : decode cX10_circles 151 = .ok (.invokevirtual 176, 3) := by decide +kernel
theorem dX10_circles_154 : decode cX10_circles 154 = .ok (.istore 8, 2) := by decide +kernel
theorem dX10_circles_156 : decode cX10_circles 156 = .ok (.iconst 5, 1) := by decide +kernel
theorem dX10_circles_157 : decode cX10_circles 157 = .ok (.iload 7, 2) := by decide +kernel
theorem dX10_circles_159 : decode cX10_circles 159 = .ok (.imul, 1) := by decide +kernel
theorem dX10_circles_160 : decode cX10_circles 160 = .ok (.aload_n 0, 1) := by decide +kernel
theorem dX10_circles_161 : decode cX10_circles 161 = .ok (.iload 8, 2) := by decide +kernel
theorem dX10_circles_163 : decode cX10_circles 163 = .ok (.invokevirtual 159, 3) := by decide +kernel
theorem dX10_circles_166 : decode cX10_circles 166 = .ok (.iconst 5, 1) := by decide +kernel
theorem dX10_circles_167 : decode cX10_circles 167 = .ok (.irem, 1) := by decide +kernel
theorem dX10_circles_168 : decode cX10_circles 168 = .ok (.iadd, 1) := by decide +kernel
theorem dX10_circles_169 : decode cX10_circles 169 = .ok (.istore 9, 2) := by decide +kernel
theorem dX10_circles_171 : decode cX10_circles 171 = .ok (.aload_n 0, 1) := by decide +kernel
theorem dX10_circles_172 : decode cX10_circles 172 = .ok (.iload 7, 2) := by decide +kernel
theorem dX10_circles_174 : decode cX10_circles 174 = .ok (.invokevirtual 179, 3) := by decide +kernel
theorem dX10_circles_177 : decode cX10_circles 177 = .ok (.iload 7, 2) := by decide +kernel
theorem dX10_circles_179 : decode cX10_circles 179 = .ok (.if_icmp .ne 76, 3) := by decide +kernel
theorem dX10_circles_182 : decode cX10_circles 182 = .ok (.aload_n 0, 1) := by decide +kernel
theorem dX10_circles_183 : decode cX10_circles 183 = .ok (.getfield 54, 3) := by decide +kernel
theorem dX10_circles_186 : decode cX10_circles 186 = .ok (.iload 9, 2) := by decide +kernel
theorem dX10_circles_188 : decode cX10_circles 188 = .ok (.iaload, 1) := by decide +kernel
theorem dX10_circles_189 : decode cX10_circles 189 = .ok (.ifCond .ge 66, 3) := by decide +kernel
theorem dX10_circles_192 : decode cX10_circles 192 = .ok (.iload 4, 2) := by decide +kernel
theorem dX10_circles_194 : decode cX10_circles 194 = .ok (.iload 8, 2) := by decide +kernel
theorem dX10_circles_196 : decode cX10_circles 196 = .ok (.iload 4, 2) := by decide +kernel
theorem dX10_circles_198 : decode cX10_circles 198 = .ok (.iconst 2, 1) := by decide +kernel
theorem dX10_circles_199 : decode cX10_circles 199 = .ok (.if_icmp .ne 17, 3) := by decide +kernel
theorem dX10_circles_202 : decode cX10_circles 202 = .ok (.iconst 1, 1) := by decide +kernel
theorem dX10_circles_203 : decode cX10_circles 203 = .ok (.aload_n 0, 1) := by decide +kernel
theorem dX10_circles_204 : decode cX10_circles 204 = .ok (.getfield 57, 3) := by decide +kernel
theorem dX10_circles_207 : decode cX10_circles 207 = .ok (.iload 5, 2) := by decide +kernel
theorem dX10_circles_209 : decode cX10_circles 209 = .ok (.iaload, 1) := by decide +kernel
theorem dX10_circles_210 : decode cX10_circles 210 = .ok (.iconst 5, 1) := by decide +kernel
theorem dX10_circles_211 : decode cX10_circles 211 = .ok (.irem, 1) := by decide +kernel
theorem dX10_circles_212 : decode cX10_circles 212 = .ok (.ishl, 1) := by decide +kernel
theorem dX10_circles_213 : decode cX10_circles 213 = .ok (.goto 4, 3) := by decide +kernel
theorem dX10_circles_216 : decode cX10_circles 216 = .ok (.iconst 0, 1) := by decide +kernel
theorem dX10_circles_217 : decode cX10_circles 217 = .ok (.invokestatic 146, 3) := by decide +kernel
theorem dX10_circles_220 : decode cX10_circles 220 = .ok (.ifCond .eq 35, 3) := by decide +kernel
theorem dX10_circles_223 : decode cX10_circles 223 = .ok (.aload_n 0, 1) := by decide +kernel
theorem dX10_circles_224 : decode cX10_circles 224 = .ok (.getfield 54, 3) := by decide +kernel
theorem dX10_circles_227 : decode cX10_circles 227 = .ok (.iload 9, 2) := by decide +kernel
theorem dX10_circles_229 : decode cX10_circles 229 = .ok (.aload_n 0, 1) := by decide +kernel
theorem dX10_circles_230 : decode cX10_circles 230 = .ok (.getfield 54, 3) := by decide +kernel
theorem dX10_circles_233 : decode cX10_circles 233 = .ok (.aload_n 0, 1) := by decide +kernel
theorem dX10_circles_234 : decode cX10_circles 234 = .ok (.getfield 57, 3) := by decide +kernel
theorem dX10_circles_237 : decode cX10_circles 237 = .ok (.iload 5, 2) := by decide +kernel
theorem dX10_circles_239 : decode cX10_circles 239 = .ok (.iaload, 1) := by decide +kernel
theorem dX10_circles_240 : decode cX10_circles 240 = .ok (.iaload, 1) := by decide +kernel
theorem dX10_circles_241 : decode cX10_circles 241 = .ok (.iconst 1, 1) := by decide +kernel
theorem dX10_circles_242 : decode cX10_circles 242 = .ok (.iadd, 1) := by decide +kernel
theorem dX10_circles_243 : decode cX10_circles 243 = .ok (.iastore, 1) := by decide +kernel
theorem dX10_circles_244 : decode cX10_circles 244 = .ok (.aload_n 0, 1) := by decide +kernel
theorem dX10_circles_245 : decode cX10_circles 245 = .ok (.getfield 57, 3) := by decide +kernel
theorem dX10_circles_248 : decode cX10_circles 248 = .ok (.iload_n 3, 1) := by decide +kernel
theorem dX10_circles_249 : decode cX10_circles 249 = .ok (.iload 9, 2) := by decide +kernel
theorem dX10_circles_251 : decode cX10_circles 251 = .ok (.iastore, 1) := by decide +kernel
theorem dX10_circles_252 : decode cX10_circles 252 = .ok (.iinc 3 1, 3) := by decide +kernel
theorem dX10_circles_255 : decode cX10_circles 255 = .ok (.iinc 7 1, 3) := by decide +kernel
theorem dX10_circles_258 : decode cX10_circles 258 = .ok (.goto (-118), 3) := by decide +kernel
theorem dX10_circles_261 : decode cX10_circles 261 = .ok (.iinc 5 1, 3) := by decide +kernel
theorem dX10_circles_264 : decode cX10_circles 264 = .ok (.goto (-144), 3) := by decide +kernel
theorem dX10_circles_267 : decode cX10_circles 267 = .ok (.return_, 1) := by decide +kernel
theorem dX10_steps_0 : decode cX10_steps 0 = .ok (.aload_n 0, 1) := by decide +kernel
theorem dX10_steps_1 : decode cX10_steps 1 = .ok (.iload_n 1, 1) := by decide +kernel
theorem dX10_steps_2 : decode cX10_steps 2 = .ok (.invokevirtual 126, 3) := by decide +kernel
theorem dX10_steps_5 : decode cX10_steps 5 = .ok (.ifCond .eq 21, 3) := by decide +kernel
theorem dX10_steps_8 : decode cX10_steps 8 = .ok (.aload_n 0, 1) := by decide +kernel
theorem dX10_steps_9 : decode cX10_steps 9 = .ok (.iload_n 2, 1) := by decide +kernel
theorem dX10_steps_10 : decode cX10_steps 10 = .ok (.invokevirtual 126, 3) := by decide +kernel
theorem dX10_steps_13 : decode cX10_steps 13 = .ok (.ifCond .eq 13, 3) := by decide +kernel
theorem dX10_steps_16 : decode cX10_steps 16 = .ok (.iload_n 3, 1) := by decide +kernel
theorem dX10_steps_17 : decode cX10_steps 17 = .ok (.i2l, 1) := by decide +kernel
theorem dX10_steps_18 : decode cX10_steps 18 = .ok (.lconst 0, 1) := by decide +kernel
theorem dX10_steps_19 : decode cX10_steps 19 = .ok (.lconst 1, 1) := by decide +kernel
theorem dX10_steps_20 : decode cX10_steps 20 = .ok (.invokestatic 74, 3) := by decide +kernel
theorem dX10_steps_23 : decode cX10_steps 23 = .ok (.ifCond .ne 5, 3) := by decide +kernel
theorem dX10_steps_26 : decode cX10_steps 26 = .ok (.iconst (-1), 1) := by decide +kernel
theorem dX10_steps_27 : decode cX10_steps 27 = .ok (.ireturn, 1) := by decide +kernel
theorem dX10_steps_28 : decode cX10_steps 28 = .ok (.aload_n 0, 1) := by decide +kernel
theorem dX10_steps_29 : decode cX10_steps 29 = .ok (.getfield 13, 3) := by decide +kernel
theorem dX10_steps_32 : decode cX10_steps 32 = .ok (.iconst 0, 1) := by decide +kernel
theorem dX10_steps_33 : decode cX10_steps 33 = .ok (.iaload, 1) := by decide +kernel
theorem dX10_steps_34 : decode cX10_steps 34 = .ok (.aload_n 0, 1) := by decide +kernel
theorem dX10_steps_35 : decode cX10_steps 35 = .ok (.iload_n 1, 1) := by decide +kernel
theorem dX10_steps_36 : decode cX10_steps 36 = .ok (.iload_n 2, 1) := by decide +kernel
theorem dX10_steps_37 : decode cX10_steps 37 = .ok (.invokevirtual 136, 3) := by decide +kernel
theorem dX10_steps_40 : decode cX10_steps 40 = .ok (.aload_n 0, 1) := by decide +kernel
theorem dX10_steps_41 : decode cX10_steps 41 = .ok (.invokevirtual 140, 3) := by decide +kernel
theorem dX10_steps_44 : decode cX10_steps 44 = .ok (.iand, 1) := by decide +kernel
theorem dX10_steps_45 : decode cX10_steps 45 = .ok (.iconst 0, 1) := by decide +kernel
theorem dX10_steps_46 : decode cX10_steps 46 = .ok (.invokestatic 146, 3) := by decide +kernel
theorem dX10_steps_49 : decode cX10_steps 49 = .ok (.ifCond .eq 14, 3) := by decide +kernel
theorem dX10_steps_52 : decode cX10_steps 52 = .ok (.iload_n 3, 1) := by decide +kernel
theorem dX10_steps_53 : decode cX10_steps 53 = .ok (.ifCond .ne 7, 3) := by decide +kernel
theorem dX10_steps_56 : decode cX10_steps 56 = .ok (.iconst 0, 1) := by decide +kernel
theorem dX10_steps_57 : decode cX10_steps 57 = .ok (.goto 5, 3) := by decide +kernel
theorem dX10_steps_60 : decode cX10_steps 60 = .ok (.bipush (-4), 2) := by decide +kernel
theorem dX10_steps_62 : decode cX10_steps 62 = .ok (.ireturn, 1) := by decide +kernel
theorem dX10_steps_63 : decode cX10_steps 63 = .ok (.aload_n 0, 1) := by decide +kernel
theorem dX10_steps_64 : decode cX10_steps 64 = .ok (.aload_n 0, 1) := by decide +kernel
theorem dX10_steps_65 : decode cX10_steps 65 = .ok (.aload_n 0, 1) := by decide +kernel
theorem dX10_steps_66 : decode cX10_steps 66 = .ok (.iload_n 2, 1) := by decide +kernel
theorem dX10_steps_67 : decode cX10_steps 67 = .ok (.invokevirtual 132, 3) := by decide +kernel
theorem dX10_steps_70 : decode cX10_steps 70 = .ok (.invokevirtual 179, 3) := by decide +kernel
theorem dX10_steps_73 : decode cX10_steps 73 = .ok (.invokevirtual 182, 3) := by decide +kernel
theorem dX10_steps_76 : decode cX10_steps 76 = .ok (.aload_n 0, 1) := by decide +kernel
theorem dX10_steps_77 : decode cX10_steps 77 = .ok (.aload_n 0, 1) := by decide +kernel
theorem dX10_steps_78 : decode cX10_steps 78 = .ok (.iload_n 1, 1) := by decide +kernel
theorem dX10_steps_79 : decode cX10_steps 79 = .ok (.invokevirtual 132, 3) := by decide +kernel
theorem dX10_steps_82 : decode cX10_steps 82 = .ok (.invokevirtual 179, 3) := by decide +kernel
theorem dX10_steps_85 : decode cX10_steps 85 = .ok (.istore 4, 2) := by decide +kernel
theorem dX10_steps_87 : decode cX10_steps 87 = .ok (.bipush (-4), 2) := by decide +kernel
theorem dX10_steps_89 : decode cX10_steps 89 = .ok (.istore 5, 2) := by decide +kernel
theorem dX10_steps_91 : decode cX10_steps 91 = .ok (.bipush (-4), 2) := by decide +kernel
theorem dX10_steps_93 : decode cX10_steps 93 = .ok (.istore 6, 2) := by decide +kernel
theorem dX10_steps_95 : decode cX10_steps 95 = .ok (.iconst 0, 1) := by decide +kernel
theorem dX10_steps_96 : decode cX10_steps 96 = .ok (.istore 7, 2) := by decide +kernel
theorem dX10_steps_98 : decode cX10_steps 98 = .ok (.iload 7, 2) := by decide +kernel
theorem dX10_steps_100 : decode cX10_steps 100 = .ok (.aload_n 0, 1) := by decide +kernel
theorem dX10_steps_101 : decode cX10_steps 101 = .ok (.invokevirtual 173, 3) := by decide +kernel
theorem dX10_steps_104 : decode cX10_steps 104 = .ok (.if_icmp .ge 117, 3) := by decide +kernel
theorem dX10_steps_107 : decode cX10_steps 107 = .ok (.aload_n 0, 1) := by decide +kernel
theorem dX10_steps_108 : decode cX10_steps 108 = .ok (.iload 4, 2) := by decide +kernel
theorem dX10_steps_110 : decode cX10_steps 110 = .ok (.iload 7, 2) := by decide +kernel
theorem dX10_steps_112 : decode cX10_steps 112 = .ok (.invokevirtual 176, 3) := by decide +kernel
theorem dX10_steps_115 : decode cX10_steps 115 = .ok (.istore 8, 2) := by decide +kernel
theorem dX10_steps_117 : decode cX10_steps 117 = .ok (.iconst 0, 1) := by decide +kernel
theorem dX10_steps_118 : decode cX10_steps 118 = .ok (.istore 9, 2) := by decide +kernel
theorem dX10_steps_120 : decode cX10_steps 120 = .ok (.iload 9, 2) := by decide +kernel
theorem dX10_steps_122 : decode cX10_steps 122 = .ok (.iconst 5, 1) := by decide +kernel
theorem dX10_steps_123 : decode cX10_steps 123 = .ok (.if_icmp .ge 92, 3) := by decide +kernel
theorem dX10_steps_126 : decode cX10_steps 126 = .ok (.aload_n 0, 1) := by decide +kernel
theorem dX10_steps_127 : decode cX10_steps 127 = .ok (.getfield 54, 3) := by decide +kernel
theorem dX10_steps_130 : decode cX10_steps 130 = .ok (.iconst 5, 1) := by decide +kernel
theorem dX10_steps_131 : decode cX10_steps 131 = .ok (.iload 7, 2) := by decide +kernel
theorem dX10_steps_133 : decode cX10_steps 133 = .ok (.imul, 1) := by decide +kernel
theorem dX10_steps_134 : decode cX10_steps 134 = .ok (.iload 9, 2) := by decide +kernel
theorem dX10_steps_136 : decode cX10_steps 136 = .ok (.iadd, 1) := by decide +kernel
theorem dX10_steps_137 : decode cX10_steps 137 = .ok (.iaload, 1) := by decide +kernel
theorem dX10_steps_138 : decode cX10_steps 138 = .ok (.istore 10, 2) := by decide +kernel
theorem dX10_steps_140 : decode cX10_steps 140 = .ok (.iload 10, 2) := by decide +kernel
theorem dX10_steps_142 : decode cX10_steps 142 = .ok (.ifCond .le 39, 3) := by decide +kernel
theorem dX10_steps_145 : decode cX10_steps 145 = .ok (.aload_n 0, 1) := by decide +kernel
theorem dX10_steps_146 : decode cX10_steps 146 = .ok (.getfield 13, 3) := by decide +kernel
theorem dX10_steps_149 : decode cX10_steps 149 = .ok (.iconst 0, 1) := by decide +kernel
theorem dX10_steps_150 : decode cX10_steps 150 = .ok (.iaload, 1) := by decide +kernel
theorem dX10_steps_151 : decode cX10_steps 151 = .ok (.iload 8, 2) := by decide +kernel
theorem dX10_steps_153 : decode cX10_steps 153 = .ok (.aload_n 0, 1) := by decide +kernel
theorem dX10_steps_154 : decode cX10_steps 154 = .ok (.getfield 13, 3) := by decide +kernel
theorem dX10_steps_157 : decode cX10_steps 157 = .ok (.iconst 0, 1) := by decide +kernel
theorem dX10_steps_158 : decode cX10_steps 158 = .ok (.iaload, 1) := by decide +kernel
theorem dX10_steps_159 : decode cX10_steps 159 = .ok (.iconst 2, 1) := by decide +kernel
theorem dX10_steps_160 : decode cX10_steps 160 = .ok (.if_icmp .ne 10, 3) := by decide +kernel
theorem dX10_steps_163 : decode cX10_steps 163 = .ok (.iconst 1, 1) := by decide +kernel
theorem dX10_steps_164 : decode cX10_steps 164 = .ok (.iload 9, 2) := by decide +kernel
theorem dX10_steps_166 : decode cX10_steps 166 = .ok (.ishl, 1) := by decide +kernel
theorem dX10_steps_167 : decode cX10_steps 167 = .ok (.goto 4, 3) := by decide +kernel
theorem dX10_steps_170 : decode cX10_steps 170 = .ok (.iconst 0, 1) := by decide +kernel
theorem dX10_steps_171 : decode cX10_steps 171 = .ok (.invokestatic 146, 3) := by decide +kernel
theorem dX10_steps_174 : decode cX10_steps 174 = .ok (.ifCond .eq 7, 3) := by decide +kernel
theorem dX10_steps_177 : decode cX10_steps 177 = .ok (.iconst 1, 1) := by decide +kernel
theorem dX10_steps_178 : decode cX10_steps 178 = .ok (.goto 4, 3) := by decide +kernel
theorem dX10_steps_181 : decode cX10_steps 181 = .ok (.iconst 0, 1) := by decide +kernel
theorem dX10_steps_182 : decode cX10_steps 182 = .ok (.istore 11, 2) := by decide +kernel
theorem dX10_steps_184 : decode cX10_steps 184 = .ok (.iload 11, 2) := by decide +kernel
theorem dX10_steps_186 : decode cX10_steps 186 = .ok (.ifCond .eq 23, 3) := by decide +kernel
theorem dX10_steps_189 : decode cX10_steps 189 = .ok (.iload 5, 2) := by decide +kernel
theorem dX10_steps_191 : decode cX10_steps 191 = .ok (.ifCond .lt 10, 3) := by decide +kernel
theorem dX10_steps_194 : decode cX10_steps 194 = .ok (.iload 10, 2) := by decide +kernel
theorem dX10_steps_196 : decode cX10_steps 196 = .ok (.iload 5, 2) := by decide +kernel
theorem dX10_steps_198 : decode cX10_steps 198 = .ok (.if_icmp .ge 11, 3) := by decide +kernel
theorem dX10_steps_201 : decode cX10_steps 201 = .ok (.iload 10, 2) := by decide +kernel
theorem dX10_steps_203 : decode cX10_steps 203 = .ok (.istore 5, 2) := by decide +kernel
theorem dX10_steps_205 : decode cX10_steps 205 = .ok (.iload 7, 2) := by decide +kernel
theorem dX10_steps_207 : decode cX10_steps 207 = .ok (.istore 6, 2) := by decide +kernel
theorem dX10_steps_209 : decode cX10_steps 209 = .ok (.iinc 9 1, 3) := by decide +kernel
theorem dX10_steps_212 : decode cX10_steps 212 = .ok (.goto (-92), 3) := by decide +kernel
theorem dX10_steps_215 : decode cX10_steps 215 = .ok (.iinc 7 1, 3) := by decide +kernel
theorem dX10_steps_218 : decode cX10_steps 218 = .ok (.goto (-120), 3) := by decide +kernel
theorem dX10_steps_221 : decode cX10_steps 221 = .ok (.iload_n 3, 1) := by decide +kernel
theorem dX10_steps_222 : decode cX10_steps 222 = .ok (.ifCond .ne 8, 3) := by decide +kernel
theorem dX10_steps_225 : decode cX10_steps 225 = .ok (.iload 5, 2) := by decide +kernel
theorem dX10_steps_227 : decode cX10_steps 227 = .ok (.goto 5, 3) := by decide +kernel
theorem dX10_steps_230 : decode cX10_steps 230 = .ok (.iload 6, 2) := by decide +kernel
theorem dX10_steps_232 : decode cX10_steps 232 = .ok (.ireturn, 1) := by decide +kernel
theorem dX10_lentCode_0 : decode cX10_lentCode 0 = .ok (.iconst 0, 1) := by decide +kernel
theorem dX10_lentCode_1 : decode cX10_lentCode 1 = .ok (.istore_n 3, 1) := by decide +kernel
theorem dX10_lentCode_2 : decode cX10_lentCode 2 = .ok (.iload_n 2, 1) := by decide +kernel
theorem dX10_lentCode_3 : decode cX10_lentCode 3 = .ok (.istore 4, 2) := by decide +kernel
theorem dX10_lentCode_5 : decode cX10_lentCode 5 = .ok (.iconst 0, 1) := by decide +kernel
theorem dX10_lentCode_6 : decode cX10_lentCode 6 = .ok (.istore 5, 2) := by decide +kernel
theorem dX10_lentCode_8 : decode cX10_lentCode 8 = .ok (.iload 5, 2) := by decide +kernel
theorem dX10_lentCode_10 : decode cX10_lentCode 10 = .ok (.aload_n 0, 1) := by decide +kernel
theorem dX10_lentCode_11 : decode cX10_lentCode 11 = .ok (.getfield 17, 3) := by decide +kernel
theorem dX10_lentCode_14 : decode cX10_lentCode 14 = .ok (.iconst 0, 1) := by decide +kernel
theorem dX10_lentCode_15 : decode cX10_lentCode 15 = .ok (.iaload, 1) := by decide +kernel
theorem dX10_lentCode_16 : decode cX10_lentCode 16 = .ok (.if_icmp .ge 72, 3) := by decide +kernel
theorem dX10_lentCode_19 : decode cX10_lentCode 19 = .ok (.aload_n 0, 1) := by decide +kernel
theorem dX10_lentCode_20 : decode cX10_lentCode 20 = .ok (.getfield 29, 3) := by decide +kernel
theorem dX10_lentCode_23 : decode cX10_lentCode 23 = .ok (.iconst 5, 1) := by decide +kernel
theorem dX10_lentCode_24 : decode cX10_lentCode 24 = .ok (.iload_n 1, 1) := by decide +kernel
theorem dX10_lentCode_25 : decode cX10_lentCode 25 = .ok (.imul, 1) := by decide +kernel
theorem dX10_lentCode_26 : decode cX10_lentCode 26 = .ok (.iload 5, 2) := by decide +kernel
theorem dX10_lentCode_28 : decode cX10_lentCode 28 = .ok (.iadd, 1) := by decide +kernel
theorem dX10_lentCode_29 : decode cX10_lentCode 29 = .ok (.iaload, 1) := by decide +kernel
theorem dX10_lentCode_30 : decode cX10_lentCode 30 = .ok (.istore 6, 2) := by decide +kernel
theorem dX10_lentCode_32 : decode cX10_lentCode 32 = .ok (.aload_n 0, 1) := by decide +kernel
theorem dX10_lentCode_33 : decode cX10_lentCode 33 = .ok (.getfield 23, 3) := by decide +kernel
theorem dX10_lentCode_36 : decode cX10_lentCode 36 = .ok (.iload 5, 2) := by decide +kernel
theorem dX10_lentCode_38 : decode cX10_lentCode 38 = .ok (.iaload, 1) := by decide +kernel
theorem dX10_lentCode_39 : decode cX10_lentCode 39 = .ok (.iconst 1, 1) := by decide +kernel
theorem dX10_lentCode_40 : decode cX10_lentCode 40 = .ok (.if_icmp .ne 15, 3) := by decide +kernel
theorem dX10_lentCode_43 : decode cX10_lentCode 43 = .ok (.iload 4, 2) := by decide +kernel
theorem dX10_lentCode_45 : decode cX10_lentCode 45 = .ok (.iconst 4, 1) := by decide +kernel
theorem dX10_lentCode_46 : decode cX10_lentCode 46 = .ok (.irem, 1) := by decide +kernel
theorem dX10_lentCode_47 : decode cX10_lentCode 47 = .ok (.istore 6, 2) := by decide +kernel
theorem dX10_lentCode_49 : decode cX10_lentCode 49 = .ok (.iload 4, 2) := by decide +kernel
theorem dX10_lentCode_51 : decode cX10_lentCode 51 = .ok (.iconst 4, 1) := by decide +kernel
theorem dX10_lentCode_52 : decode cX10_lentCode 52 = .ok (.idiv, 1) := by decide +kernel
theorem dX10_lentCode_53 : decode cX10_lentCode 53 = .ok (.istore 4, 2) := by decide +kernel
theorem dX10_lentCode_55 : decode cX10_lentCode 55 = .ok (.iload 6, 2) := by decide +kernel
theorem dX10_lentCode_57 : decode cX10_lentCode 57 = .ok (.aload_n 0, 1) := by decide +kernel
theorem dX10_lentCode_58 : decode cX10_lentCode 58 = .ok (.getfield 20, 3) := by decide +kernel
theorem dX10_lentCode_61 : decode cX10_lentCode 61 = .ok (.iload 5, 2) := by decide +kernel
theorem dX10_lentCode_63 : decode cX10_lentCode 63 = .ok (.iaload, 1) := by decide +kernel
theorem dX10_lentCode_64 : decode cX10_lentCode 64 = .ok (.if_icmp .lt 5, 3) := by decide +kernel
theorem dX10_lentCode_67 : decode cX10_lentCode 67 = .ok (.iconst (-1), 1) := by decide +kernel
theorem dX10_lentCode_68 : decode cX10_lentCode 68 = .ok (.ireturn, 1) := by decide +kernel
theorem dX10_lentCode_69 : decode cX10_lentCode 69 = .ok (.iload_n 3, 1) := by decide +kernel
theorem dX10_lentCode_70 : decode cX10_lentCode 70 = .ok (.aload_n 0, 1) := by decide +kernel
theorem dX10_lentCode_71 : decode cX10_lentCode 71 = .ok (.getfield 20, 3) := by decide +kernel
theorem dX10_lentCode_74 : decode cX10_lentCode 74 = .ok (.iload 5, 2) := by decide +kernel
theorem dX10_lentCode_76 : decode cX10_lentCode 76 = .ok (.iaload, 1) := by decide +kernel
theorem dX10_lentCode_77 : decode cX10_lentCode 77 = .ok (.imul, 1) := by decide +kernel
theorem dX10_lentCode_78 : decode cX10_lentCode 78 = .ok (.iload 6, 2) := by decide +kernel
theorem dX10_lentCode_80 : decode cX10_lentCode 80 = .ok (.iadd, 1) := by decide +kernel
theorem dX10_lentCode_81 : decode cX10_lentCode 81 = .ok (.istore_n 3, 1) := by decide +kernel
theorem dX10_lentCode_82 : decode cX10_lentCode 82 = .ok (.iinc 5 1, 3) := by decide +kernel
theorem dX10_lentCode_85 : decode cX10_lentCode 85 = .ok (.goto (-77), 3) := by decide +kernel
theorem dX10_lentCode_88 : decode cX10_lentCode 88 = .ok (.iload 4, 2) := by decide +kernel
theorem dX10_lentCode_90 : decode cX10_lentCode 90 = .ok (.ifCond .ne 7, 3) := by decide +kernel
theorem dX10_lentCode_93 : decode cX10_lentCode 93 = .ok (.iload_n 3, 1) := by decide +kernel
theorem dX10_lentCode_94 : decode cX10_lentCode 94 = .ok (.goto 4, 3) := by decide +kernel
theorem dX10_lentCode_97 : decode cX10_lentCode 97 = .ok (.iconst (-1), 1) := by decide +kernel
theorem dX10_lentCode_98 : decode cX10_lentCode 98 = .ok (.ireturn, 1) := by decide +kernel
theorem dX10_others_0 : decode cX10_others 0 = .ok (.iconst 0, 1) := by decide +kernel
theorem dX10_others_1 : decode cX10_others 1 = .ok (.istore_n 3, 1) := by decide +kernel
theorem dX10_others_2 : decode cX10_others 2 = .ok (.iconst 0, 1) := by decide +kernel
theorem dX10_others_3 : decode cX10_others 3 = .ok (.istore 4, 2) := by decide +kernel
theorem dX10_others_5 : decode cX10_others 5 = .ok (.iload 4, 2) := by decide +kernel
theorem dX10_others_7 : decode cX10_others 7 = .ok (.aload_n 0, 1) := by decide +kernel
theorem dX10_others_8 : decode cX10_others 8 = .ok (.getfield 17, 3) := by decide +kernel
theorem dX10_others_11 : decode cX10_others 11 = .ok (.iconst 0, 1) := by decide +kernel
theorem dX10_others_12 : decode cX10_others 12 = .ok (.iaload, 1) := by decide +kernel
theorem dX10_others_13 : decode cX10_others 13 = .ok (.if_icmp .ge 38, 3) := by decide +kernel
theorem dX10_others_16 : decode cX10_others 16 = .ok (.iload_n 3, 1) := by decide +kernel
theorem dX10_others_17 : decode cX10_others 17 = .ok (.aload_n 0, 1) := by decide +kernel
theorem dX10_others_18 : decode cX10_others 18 = .ok (.iload_n 2, 1) := by decide +kernel
theorem dX10_others_19 : decode cX10_others 19 = .ok (.iload 4, 2) := by decide +kernel
theorem dX10_others_21 : decode cX10_others 21 = .ok (.invokevirtual 170, 3) := by decide +kernel
theorem dX10_others_24 : decode cX10_others 24 = .ok (.aload_n 0, 1) := by decide +kernel
theorem dX10_others_25 : decode cX10_others 25 = .ok (.getfield 29, 3) := by decide +kernel
theorem dX10_others_28 : decode cX10_others 28 = .ok (.iconst 5, 1) := by decide +kernel
theorem dX10_others_29 : decode cX10_others 29 = .ok (.iload_n 1, 1) := by decide +kernel
theorem dX10_others_30 : decode cX10_others 30 = .ok (.imul, 1) := by decide +kernel
theorem dX10_others_31 : decode cX10_others 31 = .ok (.iload 4, 2) := by decide +kernel
theorem dX10_others_33 : decode cX10_others 33 = .ok (.iadd, 1) := by decide +kernel
theorem dX10_others_34 : decode cX10_others 34 = .ok (.iaload, 1) := by decide +kernel
theorem dX10_others_35 : decode cX10_others 35 = .ok (.if_icmp .eq 7, 3) := by decide +kernel
theorem dX10_others_38 : decode cX10_others 38 = .ok (.iconst 1, 1) := by decide +kernel
theorem dX10_others_39 : decode cX10_others 39 = .ok (.goto 4, 3) := by decide +kernel
theorem dX10_others_42 : decode cX10_others 42 = .ok (.iconst 0, 1) := by decide +kernel
theorem dX10_others_43 : decode cX10_others 43 = .ok (.iadd, 1) := by decide +kernel
theorem dX10_others_44 : decode cX10_others 44 = .ok (.istore_n 3, 1) := by decide +kernel
theorem dX10_others_45 : decode cX10_others 45 = .ok (.iinc 4 1, 3) := by decide +kernel
theorem dX10_others_48 : decode cX10_others 48 = .ok (.goto (-43), 3) := by decide +kernel
theorem dX10_others_51 : decode cX10_others 51 = .ok (.iload_n 3, 1) := by decide +kernel
theorem dX10_others_52 : decode cX10_others 52 = .ok (.ireturn, 1) := by decide +kernel
theorem dX10_goesWith_0 : decode cX10_goesWith 0 = .ok (.aload_n 0, 1) := by decide +kernel
theorem dX10_goesWith_1 : decode cX10_goesWith 1 = .ok (.getfield 13, 3) := by decide +kernel
theorem dX10_goesWith_4 : decode cX10_goesWith 4 = .ok (.iconst 0, 1) := by decide +kernel
theorem dX10_goesWith_5 : decode cX10_goesWith 5 = .ok (.iaload, 1) := by decide +kernel
theorem dX10_goesWith_6 : decode cX10_goesWith 6 = .ok (.iconst 2, 1) := by decide +kernel
theorem dX10_goesWith_7 : decode cX10_goesWith 7 = .ok (.if_icmp .ne 7, 3) := by decide +kernel
theorem dX10_goesWith_10 : decode cX10_goesWith 10 = .ok (.iconst 0, 1) := by decide +kernel
theorem dX10_goesWith_11 : decode cX10_goesWith 11 = .ok (.goto 9, 3) := by decide +kernel
theorem dX10_goesWith_14 : decode cX10_goesWith 14 = .ok (.aload_n 0, 1) := by decide +kernel
theorem dX10_goesWith_15 : decode cX10_goesWith 15 = .ok (.getfield 13, 3) := by decide +kernel
theorem dX10_goesWith_18 : decode cX10_goesWith 18 = .ok (.iconst 0, 1) := by decide +kernel
theorem dX10_goesWith_19 : decode cX10_goesWith 19 = .ok (.iaload, 1) := by decide +kernel
theorem dX10_goesWith_20 : decode cX10_goesWith 20 = .ok (.aload_n 0, 1) := by decide +kernel
theorem dX10_goesWith_21 : decode cX10_goesWith 21 = .ok (.iload_n 1, 1) := by decide +kernel
theorem dX10_goesWith_22 : decode cX10_goesWith 22 = .ok (.iload_n 2, 1) := by decide +kernel
theorem dX10_goesWith_23 : decode cX10_goesWith 23 = .ok (.invokevirtual 176, 3) := by decide +kernel
theorem dX10_goesWith_26 : decode cX10_goesWith 26 = .ok (.iconst 0, 1) := by decide +kernel
theorem dX10_goesWith_27 : decode cX10_goesWith 27 = .ok (.invokestatic 146, 3) := by decide +kernel
theorem dX10_goesWith_30 : decode cX10_goesWith 30 = .ok (.ireturn, 1) := by decide +kernel
theorem dX10_loans_0 : decode cX10_loans 0 = .ok (.aload_n 0, 1) := by decide +kernel
theorem dX10_loans_1 : decode cX10_loans 1 = .ok (.getfield 111, 3) := by decide +kernel
theorem dX10_loans_4 : decode cX10_loans 4 = .ok (.iconst 1, 1) := by decide +kernel
theorem dX10_loans_5 : decode cX10_loans 5 = .ok (.isub, 1) := by decide +kernel
theorem dX10_loans_6 : decode cX10_loans 6 = .ok (.istore_n 1, 1) := by decide +kernel
theorem dX10_loans_7 : decode cX10_loans 7 = .ok (.iload_n 1, 1) := by decide +kernel
theorem dX10_loans_8 : decode cX10_loans 8 = .ok (.ifCond .lt 205, 3) := by decide +kernel
theorem dX10_loans_11 : decode cX10_loans 11 = .ok (.iconst 0, 1) := by decide +kernel
theorem dX10_loans_12 : decode cX10_loans 12 = .ok (.istore_n 2, 1) := by decide +kernel
theorem dX10_loans_13 : decode cX10_loans 13 = .ok (.iload_n 2, 1) := by decide +kernel
theorem dX10_loans_14 : decode cX10_loans 14 = .ok (.bipush 16, 2) := by decide +kernel
theorem dX10_loans_16 : decode cX10_loans 16 = .ok (.if_icmp .ge 191, 3) := by decide +kernel
theorem dX10_loans_19 : decode cX10_loans 19 = .ok (.aload_n 0, 1) := by decide +kernel
theorem dX10_loans_20 : decode cX10_loans 20 = .ok (.aload_n 0, 1) := by decide +kernel
theorem dX10_loans_21 : decode cX10_loans 21 = .ok (.getfield 38, 3) := by decide +kernel
theorem dX10_loans_24 : decode cX10_loans 24 = .ok (.iload_n 1, 1) := by decide +kernel
theorem dX10_loans_25 : decode cX10_loans 25 = .ok (.iaload, 1) := by decide +kernel
theorem dX10_loans_26 : decode cX10_loans 26 = .ok (.iload_n 2, 1) := by decide +kernel
theorem dX10_loans_27 : decode cX10_loans 27 = .ok (.invokevirtual 186, 3) := by decide +kernel
theorem dX10_loans_30 : decode cX10_loans 30 = .ok (.istore_n 3, 1) := by decide +kernel
theorem dX10_loans_31 : decode cX10_loans 31 = .ok (.iload_n 1, 1) := by decide +kernel
theorem dX10_loans_32 : decode cX10_loans 32 = .ok (.aload_n 0, 1) := by decide +kernel
theorem dX10_loans_33 : decode cX10_loans 33 = .ok (.getfield 111, 3) := by decide +kernel
theorem dX10_loans_36 : decode cX10_loans 36 = .ok (.iconst 1, 1) := by decide +kernel
theorem dX10_loans_37 : decode cX10_loans 37 = .ok (.isub, 1) := by decide +kernel
theorem dX10_loans_38 : decode cX10_loans 38 = .ok (.if_icmp .ne 7, 3) := by decide +kernel
theorem dX10_loans_41 : decode cX10_loans 41 = .ok (.iconst 0, 1) := by decide +kernel
