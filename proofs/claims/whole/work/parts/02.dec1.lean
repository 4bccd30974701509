theorem dX10_add_35 : decode cX10_add 35 = .ok (.aload_n 0, 1) := by decide +kernel
theorem dX10_add_36 : decode cX10_add 36 = .ok (.dup, 1) := by decide +kernel
theorem dX10_add_37 : decode cX10_add 37 = .ok (.getfield 15, 3) := by decide +kernel
theorem dX10_add_40 : decode cX10_add 40 = .ok (.iconst 1, 1) := by decide +kernel
theorem dX10_add_41 : decode cX10_add 41 = .ok (.iadd, 1) := by decide +kernel
theorem dX10_add_42 : decode cX10_add 42 = .ok (.putfield 15, 3) := by decide +kernel
theorem dX10_add_45 : decode cX10_add 45 = .ok (.iinc 2 (-8), 3) := by decide +kernel
theorem dX10_add_48 : decode cX10_add 48 = .ok (.goto (-45), 3) := by decide +kernel
theorem dX10_add_51 : decode cX10_add 51 = .ok (.return_, 1) := by decide +kernel
theorem dX10_empty_0 : decode cX10_empty 0 = .ok (.aload_n 0, 1) := by decide +kernel
theorem dX10_empty_1 : decode cX10_empty 1 = .ok (.iconst 0, 1) := by decide +kernel
theorem dX10_empty_2 : decode cX10_empty 2 = .ok (.putfield 15, 3) := by decide +kernel
theorem dX10_empty_5 : decode cX10_empty 5 = .ok (.return_, 1) := by decide +kernel
theorem dX10_begin_0 : decode cX10_begin 0 = .ok (.aload_n 0, 1) := by decide +kernel
theorem dX10_begin_1 : decode cX10_begin 1 = .ok (.iload_n 1, 1) := by decide +kernel
theorem dX10_begin_2 : decode cX10_begin 2 = .ok (.putfield 23, 3) := by decide +kernel
theorem dX10_begin_5 : decode cX10_begin 5 = .ok (.aload_n 0, 1) := by decide +kernel
theorem dX10_begin_6 : decode cX10_begin 6 = .ok (.iconst 0, 1) := by decide +kernel
theorem dX10_begin_7 : decode cX10_begin 7 = .ok (.putfield 26, 3) := by decide +kernel
theorem dX10_begin_10 : decode cX10_begin 10 = .ok (.aload_n 0, 1) := by decide +kernel
theorem dX10_begin_11 : decode cX10_begin 11 = .ok (.invokevirtual 29, 3) := by decide +kernel
theorem dX10_begin_14 : decode cX10_begin 14 = .ok (.return_, 1) := by decide +kernel
theorem dX10_step_0 : decode cX10_step 0 = .ok (.aload_n 0, 1) := by decide +kernel
theorem dX10_step_1 : decode cX10_step 1 = .ok (.getfield 26, 3) := by decide +kernel
theorem dX10_step_4 : decode cX10_step 4 = .ok (.aload_n 0, 1) := by decide +kernel
theorem dX10_step_5 : decode cX10_step 5 = .ok (.getfield 23, 3) := by decide +kernel
theorem dX10_step_8 : decode cX10_step 8 = .ok (.if_icmp .ge 28, 3) := by decide +kernel
theorem dX10_step_11 : decode cX10_step 11 = .ok (.aload_n 0, 1) := by decide +kernel
theorem dX10_step_12 : decode cX10_step 12 = .ok (.aload_n 0, 1) := by decide +kernel
theorem dX10_step_13 : decode cX10_step 13 = .ok (.getfield 26, 3) := by decide +kernel
theorem dX10_step_16 : decode cX10_step 16 = .ok (.invokevirtual 32, 3) := by decide +kernel
theorem dX10_step_19 : decode cX10_step 19 = .ok (.iconst 1, 1) := by decide +kernel
theorem dX10_step_20 : decode cX10_step 20 = .ok (.if_icmp .ne 16, 3) := by decide +kernel
theorem dX10_step_23 : decode cX10_step 23 = .ok (.aload_n 0, 1) := by decide +kernel
theorem dX10_step_24 : decode cX10_step 24 = .ok (.dup, 1) := by decide +kernel
theorem dX10_step_25 : decode cX10_step 25 = .ok (.getfield 26, 3) := by decide +kernel
theorem dX10_step_28 : decode cX10_step 28 = .ok (.iconst 1, 1) := by decide +kernel
theorem dX10_step_29 : decode cX10_step 29 = .ok (.iadd, 1) := by decide +kernel
theorem dX10_step_30 : decode cX10_step 30 = .ok (.putfield 26, 3) := by decide +kernel
theorem dX10_step_33 : decode cX10_step 33 = .ok (.goto (-33), 3) := by decide +kernel
theorem dX10_step_36 : decode cX10_step 36 = .ok (.aload_n 0, 1) := by decide +kernel
theorem dX10_step_37 : decode cX10_step 37 = .ok (.aload_n 0, 1) := by decide +kernel
theorem dX10_step_38 : decode cX10_step 38 = .ok (.getfield 26, 3) := by decide +kernel
theorem dX10_step_41 : decode cX10_step 41 = .ok (.putfield 36, 3) := by decide +kernel
theorem dX10_step_44 : decode cX10_step 44 = .ok (.aload_n 0, 1) := by decide +kernel
theorem dX10_step_45 : decode cX10_step 45 = .ok (.aload_n 0, 1) := by decide +kernel
theorem dX10_step_46 : decode cX10_step 46 = .ok (.aload_n 0, 1) := by decide +kernel
theorem dX10_step_47 : decode cX10_step 47 = .ok (.getfield 36, 3) := by decide +kernel
theorem dX10_step_50 : decode cX10_step 50 = .ok (.invokevirtual 32, 3) := by decide +kernel
theorem dX10_step_53 : decode cX10_step 53 = .ok (.putfield 39, 3) := by decide +kernel
theorem dX10_step_56 : decode cX10_step 56 = .ok (.aload_n 0, 1) := by decide +kernel
theorem dX10_step_57 : decode cX10_step 57 = .ok (.getfield 39, 3) := by decide +kernel
theorem dX10_step_60 : decode cX10_step 60 = .ok (.iconst 2, 1) := by decide +kernel
theorem dX10_step_61 : decode cX10_step 61 = .ok (.if_icmp .ne 8, 3) := by decide +kernel
theorem dX10_step_64 : decode cX10_step 64 = .ok (.bipush 8, 2) := by decide +kernel
theorem dX10_step_66 : decode cX10_step 66 = .ok (.goto 16, 3) := by decide +kernel
theorem dX10_step_69 : decode cX10_step 69 = .ok (.aload_n 0, 1) := by decide +kernel
theorem dX10_step_70 : decode cX10_step 70 = .ok (.getfield 39, 3) := by decide +kernel
theorem dX10_step_73 : decode cX10_step 73 = .ok (.iconst 3, 1) := by decide +kernel
theorem dX10_step_74 : decode cX10_step 74 = .ok (.if_icmp .ne 7, 3) := by decide +kernel
theorem dX10_step_77 : decode cX10_step 77 = .ok (.iconst 3, 1) := by decide +kernel
theorem dX10_step_78 : decode cX10_step 78 = .ok (.goto 4, 3) := by decide +kernel
theorem dX10_step_81 : decode cX10_step 81 = .ok (.iconst 1, 1) := by decide +kernel
theorem dX10_step_82 : decode cX10_step 82 = .ok (.istore_n 1, 1) := by decide +kernel
theorem dX10_step_83 : decode cX10_step 83 = .ok (.aload_n 0, 1) := by decide +kernel
theorem dX10_step_84 : decode cX10_step 84 = .ok (.aload_n 0, 1) := by decide +kernel
theorem dX10_step_85 : decode cX10_step 85 = .ok (.getfield 36, 3) := by decide +kernel
theorem dX10_step_88 : decode cX10_step 88 = .ok (.iconst 1, 1) := by decide +kernel
theorem dX10_step_89 : decode cX10_step 89 = .ok (.iadd, 1) := by decide +kernel
theorem dX10_step_90 : decode cX10_step 90 = .ok (.aload_n 0, 1) := by decide +kernel
theorem dX10_step_91 : decode cX10_step 91 = .ok (.getfield 23, 3) := by decide +kernel
theorem dX10_step_94 : decode cX10_step 94 = .ok (.invokestatic 42, 3) := by decide +kernel
theorem dX10_step_97 : decode cX10_step 97 = .ok (.putfield 26, 3) := by decide +kernel
theorem dX10_step_100 : decode cX10_step 100 = .ok (.aload_n 0, 1) := by decide +kernel
theorem dX10_step_101 : decode cX10_step 101 = .ok (.getfield 26, 3) := by decide +kernel
theorem dX10_step_104 : decode cX10_step 104 = .ok (.aload_n 0, 1) := by decide +kernel
theorem dX10_step_105 : decode cX10_step 105 = .ok (.getfield 23, 3) := by decide +kernel
theorem dX10_step_108 : decode cX10_step 108 = .ok (.if_icmp .ge 36, 3) := by decide +kernel
theorem dX10_step_111 : decode cX10_step 111 = .ok (.iload_n 1, 1) := by decide +kernel
theorem dX10_step_112 : decode cX10_step 112 = .ok (.iconst 1, 1) := by decide +kernel
theorem dX10_step_113 : decode cX10_step 113 = .ok (.if_icmp .le 31, 3) := by decide +kernel
theorem dX10_step_116 : decode cX10_step 116 = .ok (.aload_n 0, 1) := by decide +kernel
theorem dX10_step_117 : decode cX10_step 117 = .ok (.aload_n 0, 1) := by decide +kernel
theorem dX10_step_118 : decode cX10_step 118 = .ok (.getfield 26, 3) := by decide +kernel
theorem dX10_step_121 : decode cX10_step 121 = .ok (.invokevirtual 32, 3) := by decide +kernel
theorem dX10_step_124 : decode cX10_step 124 = .ok (.aload_n 0, 1) := by decide +kernel
theorem dX10_step_125 : decode cX10_step 125 = .ok (.getfield 39, 3) := by decide +kernel
theorem dX10_step_128 : decode cX10_step 128 = .ok (.if_icmp .ne 16, 3) := by decide +kernel
theorem dX10_step_131 : decode cX10_step 131 = .ok (.aload_n 0, 1) := by decide +kernel
theorem dX10_step_132 : decode cX10_step 132 = .ok (.dup, 1) := by decide +kernel
theorem dX10_step_133 : decode cX10_step 133 = .ok (.getfield 26, 3) := by decide +kernel
theorem dX10_step_136 : decode cX10_step 136 = .ok (.iconst 1, 1) := by decide +kernel
theorem dX10_step_137 : decode cX10_step 137 = .ok (.iadd, 1) := by decide +kernel
theorem dX10_step_138 : decode cX10_step 138 = .ok (.putfield 26, 3) := by decide +kernel
theorem dX10_step_141 : decode cX10_step 141 = .ok (.goto (-41), 3) := by decide +kernel
theorem dX10_step_144 : decode cX10_step 144 = .ok (.aload_n 0, 1) := by decide +kernel
theorem dX10_step_145 : decode cX10_step 145 = .ok (.getfield 26, 3) := by decide +kernel
theorem dX10_step_148 : decode cX10_step 148 = .ok (.aload_n 0, 1) := by decide +kernel
theorem dX10_step_149 : decode cX10_step 149 = .ok (.getfield 36, 3) := by decide +kernel
theorem dX10_step_152 : decode cX10_step 152 = .ok (.isub, 1) := by decide +kernel
theorem dX10_step_153 : decode cX10_step 153 = .ok (.iload_n 1, 1) := by decide +kernel
theorem dX10_step_154 : decode cX10_step 154 = .ok (.if_icmp .le 8, 3) := by decide +kernel
theorem dX10_step_157 : decode cX10_step 157 = .ok (.aload_n 0, 1) := by decide +kernel
theorem dX10_step_158 : decode cX10_step 158 = .ok (.iconst 5, 1) := by decide +kernel
theorem dX10_step_159 : decode cX10_step 159 = .ok (.putfield 39, 3) := by decide +kernel
theorem dX10_step_162 : decode cX10_step 162 = .ok (.return_, 1) := by decide +kernel
theorem dX10_byteAt_0 : decode cX10_byteAt 0 = .ok (.iload_n 1, 1) := by decide +kernel
theorem dX10_byteAt_1 : decode cX10_byteAt 1 = .ok (.ifCond .lt 29, 3) := by decide +kernel
theorem dX10_byteAt_4 : decode cX10_byteAt 4 = .ok (.iload_n 1, 1) := by decide +kernel
theorem dX10_byteAt_5 : decode cX10_byteAt 5 = .ok (.aload_n 0, 1) := by decide +kernel
theorem dX10_byteAt_6 : decode cX10_byteAt 6 = .ok (.getfield 23, 3) := by decide +kernel
theorem dX10_byteAt_9 : decode cX10_byteAt 9 = .ok (.if_icmp .ge 21, 3) := by decide +kernel
theorem dX10_byteAt_12 : decode cX10_byteAt 12 = .ok (.iload_n 1, 1) := by decide +kernel
theorem dX10_byteAt_13 : decode cX10_byteAt 13 = .ok (.aload_n 0, 1) := by decide +kernel
theorem dX10_byteAt_14 : decode cX10_byteAt 14 = .ok (.getfield 11, 3) := by decide +kernel
theorem dX10_byteAt_17 : decode cX10_byteAt 17 = .ok (.arraylength, 1) := by decide +kernel
theorem dX10_byteAt_18 : decode cX10_byteAt 18 = .ok (.if_icmp .ge 12, 3) := by decide +kernel
theorem dX10_byteAt_21 : decode cX10_byteAt 21 = .ok (.aload_n 0, 1) := by decide +kernel
theorem dX10_byteAt_22 : decode cX10_byteAt 22 = .ok (.getfield 11, 3) := by decide +kernel
theorem dX10_byteAt_25 : decode cX10_byteAt 25 = .ok (.iload_n 1, 1) := by decide +kernel
theorem dX10_byteAt_26 : decode cX10_byteAt 26 = .ok (.baload, 1) := by decide +kernel
theorem dX10_byteAt_27 : decode cX10_byteAt 27 = .ok (.goto 4, 3) := by decide +kernel
theorem dX10_byteAt_30 : decode cX10_byteAt 30 = .ok (.iconst 0, 1) := by decide +kernel
theorem dX10_byteAt_31 : decode cX10_byteAt 31 = .ok (.ireturn, 1) := by decide +kernel
theorem dX10_sortAt_0 : decode cX10_sortAt 0 = .ok (.iload_n 1, 1) := by decide +kernel
theorem dX10_sortAt_1 : decode cX10_sortAt 1 = .ok (.ifCond .lt 20, 3) := by decide +kernel
theorem dX10_sortAt_4 : decode cX10_sortAt 4 = .ok (.iload_n 1, 1) := by decide +kernel
theorem dX10_sortAt_5 : decode cX10_sortAt 5 = .ok (.aload_n 0, 1) := by decide +kernel
theorem dX10_sortAt_6 : decode cX10_sortAt 6 = .ok (.getfield 23, 3) := by decide +kernel
theorem dX10_sortAt_9 : decode cX10_sortAt 9 = .ok (.if_icmp .ge 12, 3) := by decide +kernel
theorem dX10_sortAt_12 : decode cX10_sortAt 12 = .ok (.iload_n 1, 1) := by decide +kernel
theorem dX10_sortAt_13 : decode cX10_sortAt 13 = .ok (.aload_n 0, 1) := by decide +kernel
theorem dX10_sortAt_14 : decode cX10_sortAt 14 = .ok (.getfield 11, 3) := by decide +kernel
theorem dX10_sortAt_17 : decode cX10_sortAt 17 = .ok (.arraylength, 1) := by decide +kernel
theorem dX10_sortAt_18 : decode cX10_sortAt 18 = .ok (.if_icmp .lt 5, 3) := by decide +kernel
theorem dX10_sortAt_21 : decode cX10_sortAt 21 = .ok (.iconst 0, 1) := by decide +kernel
theorem dX10_sortAt_22 : decode cX10_sortAt 22 = .ok (.ireturn, 1) := by decide +kernel
theorem dX10_sortAt_23 : decode cX10_sortAt 23 = .ok (.aload_n 0, 1) := by decide +kernel
theorem dX10_sortAt_24 : decode cX10_sortAt 24 = .ok (.getfield 11, 3) := by decide +kernel
theorem dX10_sortAt_27 : decode cX10_sortAt 27 = .ok (.iload_n 1, 1) := by decide +kernel
theorem dX10_sortAt_28 : decode cX10_sortAt 28 = .ok (.baload, 1) := by decide +kernel
theorem dX10_sortAt_29 : decode cX10_sortAt 29 = .ok (.istore_n 2, 1) := by decide +kernel
theorem dX10_sortAt_30 : decode cX10_sortAt 30 = .ok (.iload_n 2, 1) := by decide +kernel
theorem dX10_sortAt_31 : decode cX10_sortAt 31 = .ok (.bipush 97, 2) := by decide +kernel
theorem dX10_sortAt_33 : decode cX10_sortAt 33 = .ok (.if_icmp .lt 11, 3) := by decide +kernel
theorem dX10_sortAt_36 : decode cX10_sortAt 36 = .ok (.iload_n 2, 1) := by decide +kernel
theorem dX10_sortAt_37 : decode cX10_sortAt 37 = .ok (.bipush 122, 2) := by decide +kernel
theorem dX10_sortAt_39 : decode cX10_sortAt 39 = .ok (.if_icmp .gt 5, 3) := by decide +kernel
theorem dX10_sortAt_42 : decode cX10_sortAt 42 = .ok (.iconst 2, 1) := by decide +kernel
theorem dX10_sortAt_43 : decode cX10_sortAt 43 = .ok (.ireturn, 1) := by decide +kernel
theorem dX10_sortAt_44 : decode cX10_sortAt 44 = .ok (.iload_n 2, 1) := by decide +kernel
theorem dX10_sortAt_45 : decode cX10_sortAt 45 = .ok (.bipush 48, 2) := by decide +kernel
theorem dX10_sortAt_47 : decode cX10_sortAt 47 = .ok (.if_icmp .lt 11, 3) := by decide +kernel
theorem dX10_sortAt_50 : decode cX10_sortAt 50 = .ok (.iload_n 2, 1) := by decide +kernel
theorem dX10_sortAt_51 : decode cX10_sortAt 51 = .ok (.bipush 57, 2) := by decide +kernel
theorem dX10_sortAt_53 : decode cX10_sortAt 53 = .ok (.if_icmp .gt 5, 3) := by decide +kernel
theorem dX10_sortAt_56 : decode cX10_sortAt 56 = .ok (.iconst 3, 1) := by decide +kernel
theorem dX10_sortAt_57 : decode cX10_sortAt 57 = .ok (.ireturn, 1) := by decide +kernel
theorem dX10_sortAt_58 : decode cX10_sortAt 58 = .ok (.iload_n 2, 1) := by decide +kernel
theorem dX10_sortAt_59 : decode cX10_sortAt 59 = .ok (.bipush 32, 2) := by decide +kernel
theorem dX10_sortAt_61 : decode cX10_sortAt 61 = .ok (.if_icmp .ne 7, 3) := by decide +kernel
theorem dX10_sortAt_64 : decode cX10_sortAt 64 = .ok (.iconst 1, 1) := by decide +kernel
theorem dX10_sortAt_65 : decode cX10_sortAt 65 = .ok (.goto 14, 3) := by decide +kernel
theorem dX10_sortAt_68 : decode cX10_sortAt 68 = .ok (.iload_n 2, 1) := by decide +kernel
theorem dX10_sortAt_69 : decode cX10_sortAt 69 = .ok (.bipush 59, 2) := by decide +kernel
theorem dX10_sortAt_71 : decode cX10_sortAt 71 = .ok (.if_icmp .ne 7, 3) := by decide +kernel
theorem dX10_sortAt_74 : decode cX10_sortAt 74 = .ok (.iconst 4, 1) := by decide +kernel
theorem dX10_sortAt_75 : decode cX10_sortAt 75 = .ok (.goto 4, 3) := by decide +kernel
theorem dX10_sortAt_78 : decode cX10_sortAt 78 = .ok (.iconst 5, 1) := by decide +kernel
theorem dX10_sortAt_79 : decode cX10_sortAt 79 = .ok (.ireturn, 1) := by decide +kernel
theorem dX10_is_0 : decode cX10_is 0 = .ok (.aload_n 0, 1) := by decide +kernel
theorem dX10_is_1 : decode cX10_is 1 = .ok (.getfield 39, 3) := by decide +kernel
theorem dX10_is_4 : decode cX10_is 4 = .ok (.iconst 2, 1) := by decide +kernel
theorem dX10_is_5 : decode cX10_is 5 = .ok (.if_icmp .ne 19, 3) := by decide +kernel
theorem dX10_is_8 : decode cX10_is 8 = .ok (.aload_n 0, 1) := by decide +kernel
theorem dX10_is_9 : decode cX10_is 9 = .ok (.getfield 26, 3) := by decide +kernel
theorem dX10_is_12 : decode cX10_is 12 = .ok (.aload_n 0, 1) := by decide +kernel
theorem dX10_is_13 : decode cX10_is 13 = .ok (.getfield 36, 3) := by decide +kernel
theorem dX10_is_16 : decode cX10_is 16 = .ok (.isub, 1) := by decide +kernel
theorem dX10_is_17 : decode cX10_is 17 = .ok (.aload_n 1, 1) := by decide +kernel
theorem dX10_is_18 : decode cX10_is 18 = .ok (.invokevirtual 48, 3) := by decide +kernel
theorem dX10_is_21 : decode cX10_is 21 = .ok (.if_icmp .eq 5, 3) := by decide +kernel
theorem dX10_is_24 : decode cX10_is 24 = .ok (.iconst 0, 1) := by decide +kernel
theorem dX10_is_25 : decode cX10_is 25 = .ok (.ireturn, 1) := by decide +kernel
theorem dX10_is_26 : decode cX10_is 26 = .ok (.iconst 0, 1) := by decide +kernel
theorem dX10_is_27 : decode cX10_is 27 = .ok (.istore_n 2, 1) := by decide +kernel
theorem dX10_is_28 : decode cX10_is 28 = .ok (.iload_n 2, 1) := by decide +kernel
theorem dX10_is_29 : decode cX10_is 29 = .ok (.aload_n 1, 1) := by decide +kernel
theorem dX10_is_30 : decode cX10_is 30 = .ok (.invokevirtual 48, 3) := by decide +kernel
theorem dX10_is_33 : decode cX10_is 33 = .ok (.if_icmp .ge 29, 3) := by decide +kernel
theorem dX10_is_36 : decode cX10_is 36 = .ok (.aload_n 0, 1) := by decide +kernel
theorem dX10_is_37 : decode cX10_is 37 = .ok (.aload_n 0, 1) := by decide +kernel
theorem dX10_is_38 : decode cX10_is 38 = .ok (.getfield 36, 3) := by decide +kernel
theorem dX10_is_41 : decode cX10_is 41 = .ok (.iload_n 2, 1) := by decide +kernel
theorem dX10_is_42 : decode cX10_is 42 = .ok (.iadd, 1) := by decide +kernel
theorem dX10_is_43 : decode cX10_is 43 = .ok (.invokevirtual 54, 3) := by decide +kernel
theorem dX10_is_46 : decode cX10_is 46 = .ok (.aload_n 1, 1) := by decide +kernel
theorem dX10_is_47 : decode cX10_is 47 = .ok (.iload_n 2, 1) := by decide +kernel
theorem dX10_is_48 : decode cX10_is 48 = .ok (.invokevirtual 57, 3) := by decide +kernel
theorem dX10_is_51 : decode cX10_is 51 = .ok (.if_icmp .eq 5, 3) := by decide +kernel
theorem dX10_is_54 : decode cX10_is 54 = .ok (.iconst 0, 1) := by decide +kernel
theorem dX10_is_55 : decode cX10_is 55 = .ok (.ireturn, 1) := by decide +kernel
theorem dX10_is_56 : decode cX10_is 56 = .ok (.iinc 2 1, 3) := by decide +kernel
theorem dX10_is_59 : decode cX10_is 59 = .ok (.goto (-31), 3) := by decide +kernel
theorem dX10_is_62 : decode cX10_is 62 = .ok (.iconst 1, 1) := by decide +kernel
theorem dX10_is_63 : decode cX10_is 63 = .ok (.ireturn, 1) := by decide +kernel
theorem dX10_name_0 : decode cX10_name 0 = .ok (.lconst 0, 1) := by decide +kernel
theorem dX10_name_1 : decode cX10_name 1 = .ok (.lstore_n 1, 1) := by decide +kernel
theorem dX10_name_2 : decode cX10_name 2 = .ok (.aload_n 0, 1) := by decide +kernel
theorem dX10_name_3 : decode cX10_name 3 = .ok (.getfield 36, 3) := by decide +kernel
theorem dX10_name_6 : decode cX10_name 6 = .ok (.istore_n 3, 1) := by decide +kernel
theorem dX10_name_7 : decode cX10_name 7 = .ok (.iload_n 3, 1) := by decide +kernel
theorem dX10_name_8 : decode cX10_name 8 = .ok (.aload_n 0, 1) := by decide +kernel
theorem dX10_name_9 : decode cX10_name 9 = .ok (.getfield 26, 3) := by decide +kernel
theorem dX10_name_12 : decode cX10_name 12 = .ok (.if_icmp .ge 27, 3) := by decide +kernel
theorem dX10_name_15 : decode cX10_name 15 = .ok (.ldc2_w 61, 3) := by decide +kernel
theorem dX10_name_18 : decode cX10_name 18 = .ok (.lload_n 1, 1) := by decide +kernel
theorem dX10_name_19 : decode cX10_name 19 = .ok (.lmul, 1) := by decide +kernel
theorem dX10_name_20 : decode cX10_name 20 = .ok (.aload_n 0, 1) := by decide +kernel
theorem dX10_name_21 : decode cX10_name 21 = .ok (.iload_n 3, 1) := by decide +kernel
theorem dX10_name_22 : decode cX10_name 22 = .ok (.invokevirtual 54, 3) := by decide +kernel
theorem dX10_name_25 : decode cX10_name 25 = .ok (.bipush 97, 2) := by decide +kernel
theorem dX10_name_27 : decode cX10_name 27 = .ok (.isub, 1) := by decide +kernel
theorem dX10_name_28 : decode cX10_name 28 = .ok (.iconst 1, 1) := by decide +kernel
theorem dX10_name_29 : decode cX10_name 29 = .ok (.iadd, 1) := by decide +kernel
theorem dX10_name_30 : decode cX10_name 30 = .ok (.i2l, 1) := by decide +kernel
theorem dX10_name_31 : decode cX10_name 31 = .ok (.ladd, 1) := by decide +kernel
theorem dX10_name_32 : decode cX10_name 32 = .ok (.lstore_n 1, 1) := by decide +kernel
theorem dX10_name_33 : decode cX10_name 33 = .ok (.iinc 3 1, 3) := by decide +kernel
theorem dX10_name_36 : decode cX10_name 36 = .ok (.goto (-29), 3) := by decide +kernel
theorem dX10_name_39 : decode cX10_name 39 = .ok (.lload_n 1, 1) := by decide +kernel
theorem dX10_name_40 : decode cX10_name 40 = .ok (.lreturn, 1) := by decide +kernel
theorem dX10_whole_0 : decode cX10_whole 0 = .ok (.iconst 0, 1) := by decide +kernel
theorem dX10_whole_1 : decode cX10_whole 1 = .ok (.istore_n 1, 1) := by decide +kernel
theorem dX10_whole_2 : decode cX10_whole 2 = .ok (.aload_n 0, 1) := by decide +kernel
theorem dX10_whole_3 : decode cX10_whole 3 = .ok (.getfield 36, 3) := by decide +kernel
theorem dX10_whole_6 : decode cX10_whole 6 = .ok (.istore_n 2, 1) := by decide +kernel
theorem dX10_whole_7 : decode cX10_whole 7 = .ok (.iload_n 2, 1) := by decide +kernel
theorem dX10_whole_8 : decode cX10_whole 8 = .ok (.aload_n 0, 1) := by decide +kernel
theorem dX10_whole_9 : decode cX10_whole 9 = .ok (.getfield 26, 3) := by decide +kernel
theorem dX10_whole_12 : decode cX10_whole 12 = .ok (.if_icmp .ge 23, 3) := by decide +kernel
theorem dX10_whole_15 : decode cX10_whole 15 = .ok (.bipush 10, 2) := by decide +kernel
theorem dX10_whole_17 : decode cX10_whole 17 = .ok (.iload_n 1, 1) := by decide +kernel
theorem dX10_whole_18 : decode cX10_whole 18 = .ok (.imul, 1) := by decide +kernel
theorem dX10_whole_19 : decode cX10_whole 19 = .ok (.aload_n 0, 1) := by decide +kernel
theorem dX10_whole_20 : decode cX10_whole 20 = .ok (.iload_n 2, 1) := by decide +kernel
theorem dX10_whole_21 : decode cX10_whole 21 = .ok (.invokevirtual 54, 3) := by decide +kernel
theorem dX10_whole_24 : decode cX10_whole 24 = .ok (.bipush 48, 2) := by decide +kernel
theorem dX10_whole_26 : decode cX10_whole 26 = .ok (.isub, 1) := by decide +kernel
theorem dX10_whole_27 : decode cX10_whole 27 = .ok (.iadd, 1) := by decide +kernel
theorem dX10_whole_28 : decode cX10_whole 28 = .ok (.istore_n 1, 1) := by decide +kernel
theorem dX10_whole_29 : decode cX10_whole 29 = .ok (.iinc 2 1, 3) := by decide +kernel
theorem dX10_whole_32 : decode cX10_whole 32 = .ok (.goto (-25), 3) := by decide +kernel
theorem dX10_whole_35 : decode cX10_whole 35 = .ok (.iload_n 1, 1) := by decide +kernel
theorem dX10_whole_36 : decode cX10_whole 36 = .ok (.ireturn, 1) := by decide +kernel
theorem dX10_lookOf_0 : decode cX10_lookOf 0 = .ok (.aload_n 0, 1) := by decide +kernel
theorem dX10_lookOf_1 : decode cX10_lookOf 1 = .ok (.getfield 39, 3) := by decide +kernel
theorem dX10_lookOf_4 : decode cX10_lookOf 4 = .ok (.iconst 2, 1) := by decide +kernel
theorem dX10_lookOf_5 : decode cX10_lookOf 5 = .ok (.if_icmp .ne 16, 3) := by decide +kernel
theorem dX10_lookOf_8 : decode cX10_lookOf 8 = .ok (.aload_n 0, 1) := by decide +kernel
theorem dX10_lookOf_9 : decode cX10_lookOf 9 = .ok (.getfield 26, 3) := by decide +kernel
theorem dX10_lookOf_12 : decode cX10_lookOf 12 = .ok (.aload_n 0, 1) := by decide +kernel
theorem dX10_lookOf_13 : decode cX10_lookOf 13 = .ok (.getfield 36, 3) := by decide +kernel
theorem dX10_lookOf_16 : decode cX10_lookOf 16 = .ok (.isub, 1) := by decide +kernel
theorem dX10_lookOf_17 : decode cX10_lookOf 17 = .ok (.iload_n 1, 1) := by decide +kernel
theorem dX10_lookOf_18 : decode cX10_lookOf 18 = .ok (.if_icmp .eq 6, 3) := by decide +kernel
theorem dX10_lookOf_21 : decode cX10_lookOf 21 = .ok (.bipush (-2), 2) := by decide +kernel
theorem dX10_lookOf_23 : decode cX10_lookOf 23 = .ok (.ireturn, 1) := by decide +kernel
theorem dX10_lookOf_24 : decode cX10_lookOf 24 = .ok (.iconst 0, 1) := by decide +kernel
theorem dX10_lookOf_25 : decode cX10_lookOf 25 = .ok (.istore_n 2, 1) := by decide +kernel
theorem dX10_lookOf_26 : decode cX10_lookOf 26 = .ok (.iconst 0, 1) := by decide +kernel
theorem dX10_lookOf_27 : decode cX10_lookOf 27 = .ok (.istore_n 3, 1) := by decide +kernel
theorem dX10_lookOf_28 : decode cX10_lookOf 28 = .ok (.iload_n 3, 1) := by decide +kernel
theorem dX10_lookOf_29 : decode cX10_lookOf 29 = .ok (.iload_n 1, 1) := by decide +kernel
theorem dX10_lookOf_30 : decode cX10_lookOf 30 = .ok (.if_icmp .ge 41, 3) := by decide +kernel
theorem dX10_lookOf_33 : decode cX10_lookOf 33 = .ok (.aload_n 0, 1) := by decide +kernel
theorem dX10_lookOf_34 : decode cX10_lookOf 34 = .ok (.aload_n 0, 1) := by decide +kernel
theorem dX10_lookOf_35 : decode cX10_lookOf 35 = .ok (.getfield 36, 3) := by decide +kernel
theorem dX10_lookOf_38 : decode cX10_lookOf 38 = .ok (.iload_n 3, 1) := by decide +kernel
theorem dX10_lookOf_39 : decode cX10_lookOf 39 = .ok (.iadd, 1) := by decide +kernel
theorem dX10_lookOf_40 : decode cX10_lookOf 40 = .ok (.invokevirtual 54, 3) := by decide +kernel
theorem dX10_lookOf_43 : decode cX10_lookOf 43 = .ok (.bipush 97, 2) := by decide +kernel
theorem dX10_lookOf_45 : decode cX10_lookOf 45 = .ok (.isub, 1) := by decide +kernel
theorem dX10_lookOf_46 : decode cX10_lookOf 46 = .ok (.istore 4, 2) := by decide +kernel
theorem dX10_lookOf_48 : decode cX10_lookOf 48 = .ok (.iload 4, 2) := by decide +kernel
theorem dX10_lookOf_50 : decode cX10_lookOf 50 = .ok (.iconst 4, 1) := by decide +kernel
theorem dX10_lookOf_51 : decode cX10_lookOf 51 = .ok (.if_icmp .lt 6, 3) := by decide +kernel
theorem dX10_lookOf_54 : decode cX10_lookOf 54 = .ok (.bipush (-2), 2) := by decide +kernel
theorem dX10_lookOf_56 : decode cX10_lookOf 56 = .ok (.ireturn, 1) := by decide +kernel
theorem dX10_lookOf_57 : decode cX10_lookOf 57 = .ok (.iload_n 2, 1) := by decide +kernel
theorem dX10_lookOf_58 : decode cX10_lookOf 58 = .ok (.iload_n 3, 1) := by decide +kernel
theorem dX10_lookOf_59 : decode cX10_lookOf 59 = .ok (.iload 4, 2) := by decide +kernel
theorem dX10_lookOf_61 : decode cX10_lookOf 61 = .ok (.invokestatic 63, 3) := by decide +kernel
theorem dX10_lookOf_64 : decode cX10_lookOf 64 = .ok (.istore_n 2, 1) := by decide +kernel
theorem dX10_lookOf_65 : decode cX10_lookOf 65 = .ok (.iinc 3 1, 3) := by decide +kernel
theorem dX10_lookOf_68 : decode cX10_lookOf 68 = .ok (.goto (-40), 3) := by decide +kernel
theorem dX10_lookOf_71 : decode cX10_lookOf 71 = .ok (.iload_n 2, 1) := by decide +kernel
theorem dX10_lookOf_72 : decode cX10_lookOf 72 = .ok (.ireturn, 1) := by decide +kernel
theorem dX11_init_0 : decode cX11_init 0 = .ok (.aload_n 0, 1) := by decide +kernel
theorem dX11_init_1 : decode cX11_init 1 = .ok (.invokespecial 3, 3) := by decide +kernel
theorem dX11_init_4 : decode cX11_init 4 = .ok (.aload_n 0, 1) := by decide +kernel
theorem dX11_init_5 : decode cX11_init 5 = .ok (.getstatic 9, 3) := by decide +kernel
theorem dX11_init_8 : decode cX11_init 8 = .ok (.arraylength, 1) := by decide +kernel
theorem dX11_init_9 : decode cX11_init 9 = .ok (.newarray .int, 2) := by decide +kernel
theorem dX11_init_11 : decode cX11_init 11 = .ok (.putfield 13, 3) := by decide +kernel
theorem dX11_init_14 : decode cX11_init 14 = .ok (.aload_n 0, 1) := by decide +kernel
theorem dX11_init_15 : decode cX11_init 15 = .ok (.iconst 5, 1) := by decide +kernel
theorem dX11_init_16 : decode cX11_init 16 = .ok (.newarray .long, 2) := by decide +kernel
theorem dX11_init_18 : decode cX11_init 18 = .ok (.putfield 19, 3) := by decide +kernel
theorem dX11_init_21 : decode cX11_init 21 = .ok (.aload_n 0, 1) := by decide +kernel
theorem dX11_init_22 : decode cX11_init 22 = .ok (.iconst 5, 1) := by decide +kernel
theorem dX11_init_23 : decode cX11_init 23 = .ok (.newarray .int, 2) := by decide +kernel
theorem dX11_init_25 : decode cX11_init 25 = .ok (.putfield 23, 3) := by decide +kernel
theorem dX11_init_28 : decode cX11_init 28 = .ok (.aload_n 0, 1) := by decide +kernel
theorem dX11_init_29 : decode cX11_init 29 = .ok (.iconst 5, 1) := by decide +kernel
theorem dX11_init_30 : decode cX11_init 30 = .ok (.newarray .int, 2) := by decide +kernel
theorem dX11_init_32 : decode cX11_init 32 = .ok (.putfield 26, 3) := by decide +kernel
theorem dX11_init_35 : decode cX11_init 35 = .ok (.aload_n 0, 1) := by decide +kernel
theorem dX11_init_36 : decode cX11_init 36 = .ok (.new 29, 3) := by decide +kernel
theorem dX11_init_39 : decode cX11_init 39 = .ok (.dup, 1) := by decide +kernel
theorem dX11_init_40 : decode cX11_init 40 = .ok (.invokespecial 31, 3) := by decide +kernel
theorem dX11_init_43 : decode cX11_init 43 = .ok (.putfield 32, 3) := by decide +kernel
theorem dX11_init_46 : decode cX11_init 46 = .ok (.aload_n 0, 1) := by decide +kernel
theorem dX11_init_47 : decode cX11_init 47 = .ok (.bipush 30, 2) := by decide +kernel
theorem dX11_init_49 : decode cX11_init 49 = .ok (.newarray .int, 2) := by decide +kernel
theorem dX11_init_51 : decode cX11_init 51 = .ok (.putfield 36, 3) := by decide +kernel
theorem dX11_init_54 : decode cX11_init 54 = .ok (.aload_n 0, 1) := by decide +kernel
theorem dX11_init_55 : decode cX11_init 55 = .ok (.iconst 5, 1) := by decide +kernel
theorem dX11_init_56 : decode cX11_init 56 = .ok (.newarray .int, 2) := by decide +kernel
theorem dX11_init_58 : decode cX11_init 58 = .ok (.putfield 39, 3) := by decide +kernel
theorem dX11_init_61 : decode cX11_init 61 = .ok (.aload_n 0, 1) := by decide +kernel
theorem dX11_init_62 : decode cX11_init 62 = .ok (.iconst 5, 1) := by decide +kernel
theorem dX11_init_63 : decode cX11_init 63 = .ok (.newarray .int, 2) := by decide +kernel
theorem dX11_init_65 : decode cX11_init 65 = .ok (.putfield 42, 3) := by decide +kernel
theorem dX11_init_68 : decode cX11_init 68 = .ok (.aload_n 0, 1) := by decide +kernel
theorem dX11_init_69 : decode cX11_init 69 = .ok (.bipush 25, 2) := by decide +kernel
theorem dX11_init_71 : decode cX11_init 71 = .ok (.newarray .int, 2) := by decide +kernel
theorem dX11_init_73 : decode cX11_init 73 = .ok (.putfield 45, 3) := by decide +kernel
theorem dX11_init_76 : decode cX11_init 76 = .ok (.aload_n 0, 1) := by decide +kernel
theorem dX11_init_77 : decode cX11_init 77 = .ok (.iconst 5, 1) := by decide +kernel
theorem dX11_init_78 : decode cX11_init 78 = .ok (.newarray .int, 2) := by decide +kernel
theorem dX11_init_80 : decode cX11_init 80 = .ok (.putfield 48, 3) := by decide +kernel
theorem dX11_init_83 : decode cX11_init 83 = .ok (.aload_n 0, 1) := by decide +kernel
theorem dX11_init_84 : decode cX11_init 84 = .ok (.invokevirtual 51, 3) := by decide +kernel
theorem dX11_init_87 : decode cX11_init 87 = .ok (.return_, 1) := by decide +kernel
theorem dX11_forget_0 : decode cX11_forget 0 = .ok (.aload_n 0, 1) := by decide +kernel
theorem dX11_forget_1 : decode cX11_forget 1 = .ok (.iconst 0, 1) := by decide +kernel
theorem dX11_forget_2 : decode cX11_forget 2 = .ok (.putfield 54, 3) := by decide +kernel
theorem dX11_forget_5 : decode cX11_forget 5 = .ok (.aload_n 0, 1) := by decide +kernel
theorem dX11_forget_6 : decode cX11_forget 6 = .ok (.iconst 0, 1) := by decide +kernel
theorem dX11_forget_7 : decode cX11_forget 7 = .ok (.putfield 58, 3) := by decide +kernel
theorem dX11_forget_10 : decode cX11_forget 10 = .ok (.aload_n 0, 1) := by decide +kernel
theorem dX11_forget_11 : decode cX11_forget 11 = .ok (.iconst 0, 1) := by decide +kernel
theorem dX11_forget_12 : decode cX11_forget 12 = .ok (.putfield 61, 3) := by decide +kernel
theorem dX11_forget_15 : decode cX11_forget 15 = .ok (.aload_n 0, 1) := by decide +kernel
theorem dX11_forget_16 : decode cX11_forget 16 = .ok (.iconst 0, 1) := by decide +kernel
theorem dX11_forget_17 : decode cX11_forget 17 = .ok (.putfield 64, 3) := by decide +kernel
theorem dX11_forget_20 : decode cX11_forget 20 = .ok (.aload_n 0, 1) := by decide +kernel
theorem dX11_forget_21 : decode cX11_forget 21 = .ok (.getfield 13, 3) := by decide +kernel
theorem dX11_forget_24 : decode cX11_forget 24 = .ok (.iconst 0, 1) := by decide +kernel
theorem dX11_forget_25 : decode cX11_forget 25 = .ok (.invokestatic 67, 3) := by decide +kernel
theorem dX11_forget_28 : decode cX11_forget 28 = .ok (.aload_n 0, 1) := by decide +kernel
theorem dX11_forget_29 : decode cX11_forget 29 = .ok (.getfield 36, 3) := by decide +kernel
theorem dX11_forget_32 : decode cX11_forget 32 = .ok (.bipush (-2), 2) := by decide +kernel
theorem dX11_forget_34 : decode cX11_forget 34 = .ok (.invokestatic 67, 3) := by decide +kernel
theorem dX11_forget_37 : decode cX11_forget 37 = .ok (.aload_n 0, 1) := by decide +kernel
theorem dX11_forget_38 : decode cX11_forget 38 = .ok (.getfield 45, 3) := by decide +kernel
theorem dX11_forget_41 : decode cX11_forget 41 = .ok (.bipush (-2), 2) := by decide +kernel
theorem dX11_forget_43 : decode cX11_forget 43 = .ok (.invokestatic 67, 3) := by decide +kernel
theorem dX11_forget_46 : decode cX11_forget 46 = .ok (.aload_n 0, 1) := by decide +kernel
theorem dX11_forget_47 : decode cX11_forget 47 = .ok (.getfield 48, 3) := by decide +kernel
theorem dX11_forget_50 : decode cX11_forget 50 = .ok (.bipush (-2), 2) := by decide +kernel
theorem dX11_forget_52 : decode cX11_forget 52 = .ok (.invokestatic 67, 3) := by decide +kernel
theorem dX11_forget_55 : decode cX11_forget 55 = .ok (.return_, 1) := by decide +kernel
theorem dX11_count_0 : decode cX11_count 0 = .ok (.aload_n 0, 1) := by decide +kernel
theorem dX11_count_1 : decode cX11_count 1 = .ok (.getfield 13, 3) := by decide +kernel
theorem dX11_count_4 : decode cX11_count 4 = .ok (.aload_n 1, 1) := by decide +kernel
theorem dX11_count_5 : decode cX11_count 5 = .ok (.getfield 71, 3) := by decide +kernel
theorem dX11_count_8 : decode cX11_count 8 = .ok (.invokestatic 76, 3) := by decide +kernel
theorem dX11_count_11 : decode cX11_count 11 = .ok (.ireturn, 1) := by decide +kernel
theorem dX11_countOn_0 : decode cX11_countOn 0 = .ok (.aload_n 0, 1) := by decide +kernel
theorem dX11_countOn_1 : decode cX11_countOn 1 = .ok (.getfield 13, 3) := by decide +kernel
theorem dX11_countOn_4 : decode cX11_countOn 4 = .ok (.aload_n 1, 1) := by decide +kernel
theorem dX11_countOn_5 : decode cX11_countOn 5 = .ok (.getfield 71, 3) := by decide +kernel
theorem dX11_countOn_8 : decode cX11_countOn 8 = .ok (.aload_n 0, 1) := by decide +kernel
theorem dX11_countOn_9 : decode cX11_countOn 9 = .ok (.aload_n 1, 1) := by decide +kernel
theorem dX11_countOn_10 : decode cX11_countOn 10 = .ok (.invokevirtual 80, 3) := by decide +kernel
theorem dX11_countOn_13 : decode cX11_countOn 13 = .ok (.iconst 1, 1) := by decide +kernel
theorem dX11_countOn_14 : decode cX11_countOn 14 = .ok (.iadd, 1) := by decide +kernel
theorem dX11_countOn_15 : decode cX11_countOn 15 = .ok (.invokestatic 84, 3) := by decide +kernel
theorem dX11_countOn_18 : decode cX11_countOn 18 = .ok (.return_, 1) := by decide +kernel
theorem dX11_people_0 : decode cX11_people 0 = .ok (.aload_n 0, 1) := by decide +kernel
theorem dX11_people_1 : decode cX11_people 1 = .ok (.getfield 13, 3) := by decide +kernel
theorem dX11_people_4 : decode cX11_people 4 = .ok (.getstatic 88, 3) := by decide +kernel
theorem dX11_people_7 : decode cX11_people 7 = .ok (.getfield 71, 3) := by decide +kernel
theorem dX11_people_10 : decode cX11_people 10 = .ok (.invokestatic 76, 3) := by decide +kernel
theorem dX11_people_13 : decode cX11_people 13 = .ok (.ireturn, 1) := by decide +kernel
theorem dX11_wishes_0 : decode cX11_wishes 0 = .ok (.aload_n 0, 1) := by decide +kernel
theorem dX11_wishes_1 : decode cX11_wishes 1 = .ok (.getfield 13, 3) := by decide +kernel
theorem dX11_wishes_4 : decode cX11_wishes 4 = .ok (.getstatic 92, 3) := by decide +kernel
theorem dX11_wishes_7 : decode cX11_wishes 7 = .ok (.getfield 71, 3) := by decide +kernel
theorem dX11_wishes_10 : decode cX11_wishes 10 = .ok (.invokestatic 76, 3) := by decide +kernel
theorem dX11_wishes_13 : decode cX11_wishes 13 = .ok (.ireturn, 1) := by decide +kernel
theorem dX11_personNamed_0 : decode cX11_personNamed 0 = .ok (.iconst 0, 1) := by decide +kernel
theorem dX11_personNamed_1 : decode cX11_personNamed 1 = .ok (.istore_n 3, 1) := by decide +kernel
theorem dX11_personNamed_2 : decode cX11_personNamed 2 = .ok (.iload_n 3, 1) := by decide +kernel
theorem dX11_personNamed_3 : decode cX11_personNamed 3 = .ok (.aload_n 0, 1) := by decide +kernel
theorem dX11_personNamed_4 : decode cX11_personNamed 4 = .ok (.invokevirtual 95, 3) := by decide +kernel
theorem dX11_personNamed_7 : decode cX11_personNamed 7 = .ok (.if_icmp .ge 31, 3) := by decide +kernel
theorem dX11_personNamed_10 : decode cX11_personNamed 10 = .ok (.iload_n 3, 1) := by decide +kernel
theorem dX11_personNamed_11 : decode cX11_personNamed 11 = .ok (.aload_n 0, 1) := by decide +kernel
theorem dX11_personNamed_12 : decode cX11_personNamed 12 = .ok (.getfield 19, 3) := by decide +kernel
theorem dX11_personNamed_15 : decode cX11_personNamed 15 = .ok (.arraylength, 1) := by decide +kernel
theorem dX11_personNamed_16 : decode cX11_personNamed 16 = .ok (.if_icmp .ge 22, 3) := by decide +kernel
theorem dX11_personNamed_19 : decode cX11_personNamed 19 = .ok (.aload_n 0, 1) := by decide +kernel
theorem dX11_personNamed_20 : decode cX11_personNamed 20 = .ok (.getfield 19, 3) := by decide +kernel
theorem dX11_personNamed_23 : decode cX11_personNamed 23 = .ok (.iload_n 3, 1) := by decide +kernel
theorem dX11_personNamed_24 : decode cX11_personNamed 24 = .ok (.laload, 1) := by decide +kernel
theorem dX11_personNamed_25 : decode cX11_personNamed 25 = .ok (.lload_n 1, 1) := by decide +kernel
theorem dX11_personNamed_26 : decode cX11_personNamed 26 = .ok (.lcmp, 1) := by decide +kernel
theorem dX11_personNamed_27 : decode cX11_personNamed 27 = .ok (.ifCond .ne 5, 3) := by decide +kernel
theorem dX11_personNamed_30 : decode cX11_personNamed 30 = .ok (.iload_n 3, 1) := by decide +kernel
theorem dX11_personNamed_31 : decode cX11_personNamed 31 = .ok (.ireturn, 1) := by decide +kernel
theorem dX11_personNamed_32 : decode cX11_personNamed 32 = .ok (.iinc 3 1, 3) := by decide +kernel
theorem dX11_personNamed_35 : decode cX11_personNamed 35 = .ok (.goto (-33), 3) := by decide +kernel
theorem dX11_personNamed_38 : decode cX11_personNamed 38 = .ok (.bipush (-2), 2) := by decide +kernel
theorem dX11_personNamed_40 : decode cX11_personNamed 40 = .ok (.ireturn, 1) := by decide +kernel
theorem dX11_addPerson_0 : decode cX11_addPerson 0 = .ok (.aload_n 0, 1) := by decide +kernel
theorem dX11_addPerson_1 : decode cX11_addPerson 1 = .ok (.invokevirtual 95, 3) := by decide +kernel
theorem dX11_addPerson_4 : decode cX11_addPerson 4 = .ok (.istore 5, 2) := by decide +kernel
theorem dX11_addPerson_6 : decode cX11_addPerson 6 = .ok (.iload 5, 2) := by decide +kernel
theorem dX11_addPerson_8 : decode cX11_addPerson 8 = .ok (.aload_n 0, 1) := by decide +kernel
theorem dX11_addPerson_9 : decode cX11_addPerson 9 = .ok (.getfield 19, 3) := by decide +kernel
theorem dX11_addPerson_12 : decode cX11_addPerson 12 = .ok (.arraylength, 1) := by decide +kernel
theorem dX11_addPerson_13 : decode cX11_addPerson 13 = .ok (.invokestatic 99, 3) := by decide +kernel
theorem dX11_addPerson_16 : decode cX11_addPerson 16 = .ok (.ifCond .ne 4, 3) := by decide +kernel
theorem dX11_addPerson_19 : decode cX11_addPerson 19 = .ok (.return_, 1) := by decide +kernel
theorem dX11_addPerson_20 : decode cX11_addPerson 20 = .ok (.aload_n 0, 1) := by decide +kernel
theorem dX11_addPerson_21 : decode cX11_addPerson 21 = .ok (.getfield 19, 3) := by decide +kernel
theorem dX11_addPerson_24 : decode cX11_addPerson 24 = .ok (.iload 5, 2) := by decide +kernel
theorem dX11_addPerson_26 : decode cX11_addPerson 26 = .ok (.lload_n 1, 1) := by decide +kernel
theorem dX11_addPerson_27 : decode cX11_addPerson 27 = .ok (.lastore, 1) := by decide +kernel
theorem dX11_addPerson_28 : decode cX11_addPerson 28 = .ok (.aload_n 0, 1) := by decide +kernel
theorem dX11_addPerson_29 : decode cX11_addPerson 29 = .ok (.getfield 23, 3) := by decide +kernel
theorem dX11_addPerson_32 : decode cX11_addPerson 32 = .ok (.iload 5, 2) := by decide +kernel
theorem dX11_addPerson_34 : decode cX11_addPerson 34 = .ok (.iload_n 3, 1) := by decide +kernel
theorem dX11_addPerson_35 : decode cX11_addPerson 35 = .ok (.invokestatic 84, 3) := by decide +kernel
theorem dX11_addPerson_38 : decode cX11_addPerson 38 = .ok (.aload_n 0, 1) := by decide +kernel
theorem dX11_addPerson_39 : decode cX11_addPerson 39 = .ok (.getfield 26, 3) := by decide +kernel
theorem dX11_addPerson_42 : decode cX11_addPerson 42 = .ok (.iload 5, 2) := by decide +kernel
theorem dX11_addPerson_44 : decode cX11_addPerson 44 = .ok (.iload 4, 2) := by decide +kernel
theorem dX11_addPerson_46 : decode cX11_addPerson 46 = .ok (.invokestatic 84, 3) := by decide +kernel
theorem dX11_addPerson_49 : decode cX11_addPerson 49 = .ok (.aload_n 0, 1) := by decide +kernel
theorem dX11_addPerson_50 : decode cX11_addPerson 50 = .ok (.getfield 32, 3) := by decide +kernel
theorem dX11_addPerson_53 : decode cX11_addPerson 53 = .ok (.iload 5, 2) := by decide +kernel
theorem dX11_addPerson_55 : decode cX11_addPerson 55 = .ok (.iload 4, 2) := by decide +kernel
theorem dX11_addPerson_57 : decode cX11_addPerson 57 = .ok (.invokevirtual 103, 3) := by decide +kernel
theorem dX11_addPerson_60 : decode cX11_addPerson 60 = .ok (.iload_n 3, 1) := by decide +kernel
theorem dX11_addPerson_61 : decode cX11_addPerson 61 = .ok (.iconst 1, 1) := by decide +kernel
theorem dX11_addPerson_62 : decode cX11_addPerson 62 = .ok (.if_icmp .ne 12, 3) := by decide +kernel
theorem dX11_addPerson_65 : decode cX11_addPerson 65 = .ok (.aload_n 0, 1) := by decide +kernel
theorem dX11_addPerson_66 : decode cX11_addPerson 66 = .ok (.iload 5, 2) := by decide +kernel
theorem dX11_addPerson_68 : decode cX11_addPerson 68 = .ok (.iconst 0, 1) := by decide +kernel
theorem dX11_addPerson_69 : decode cX11_addPerson 69 = .ok (.bipush 10, 2) := by decide +kernel
theorem dX11_addPerson_71 : decode cX11_addPerson 71 = .ok (.invokevirtual 107, 3) := by decide +kernel
theorem dX11_addPerson_74 : decode cX11_addPerson 74 = .ok (.iload_n 3, 1) := by decide +kernel
theorem dX11_addPerson_75 : decode cX11_addPerson 75 = .ok (.iconst 2, 1) := by decide +kernel
theorem dX11_addPerson_76 : decode cX11_addPerson 76 = .ok (.if_icmp .ne 11, 3) := by decide +kernel
theorem dX11_addPerson_79 : decode cX11_addPerson 79 = .ok (.aload_n 0, 1) := by decide +kernel
theorem dX11_addPerson_80 : decode cX11_addPerson 80 = .ok (.iload 5, 2) := by decide +kernel
theorem dX11_addPerson_82 : decode cX11_addPerson 82 = .ok (.iconst 1, 1) := by decide +kernel
theorem dX11_addPerson_83 : decode cX11_addPerson 83 = .ok (.iconst 4, 1) := by decide +kernel
theorem dX11_addPerson_84 : decode cX11_addPerson 84 = .ok (.invokevirtual 107, 3) := by decide +kernel
theorem dX11_addPerson_87 : decode cX11_addPerson 87 = .ok (.return_, 1) := by decide +kernel
theorem dX11_goOnEach_0 : decode cX11_goOnEach 0 = .ok (.iconst 0, 1) := by decide +kernel
theorem dX11_goOnEach_1 : decode cX11_goOnEach 1 = .ok (.istore 4, 2) := by decide +kernel
theorem dX11_goOnEach_3 : decode cX11_goOnEach 3 = .ok (.iload 4, 2) := by decide +kernel
theorem dX11_goOnEach_5 : decode cX11_goOnEach 5 = .ok (.bipush 30, 2) := by decide +kernel
theorem dX11_goOnEach_7 : decode cX11_goOnEach 7 = .ok (.if_icmp .ge 37, 3) := by decide +kernel
theorem dX11_goOnEach_10 : decode cX11_goOnEach 10 = .ok (.iload 4, 2) := by decide +kernel
theorem dX11_goOnEach_12 : decode cX11_goOnEach 12 = .ok (.ifCond .le 26, 3) := by decide +kernel
theorem dX11_goOnEach_15 : decode cX11_goOnEach 15 = .ok (.iload_n 3, 1) := by decide +kernel
theorem dX11_goOnEach_16 : decode cX11_goOnEach 16 = .ok (.ifCond .le 22, 3) := by decide +kernel
theorem dX11_goOnEach_19 : decode cX11_goOnEach 19 = .ok (.iload 4, 2) := by decide +kernel
theorem dX11_goOnEach_21 : decode cX11_goOnEach 21 = .ok (.iload_n 3, 1) := by decide +kernel
theorem dX11_goOnEach_22 : decode cX11_goOnEach 22 = .ok (.irem, 1) := by decide +kernel
theorem dX11_goOnEach_23 : decode cX11_goOnEach 23 = .ok (.ifCond .ne 15, 3) := by decide +kernel
theorem dX11_goOnEach_26 : decode cX11_goOnEach 26 = .ok (.aload_n 0, 1) := by decide +kernel
theorem dX11_goOnEach_27 : decode cX11_goOnEach 27 = .ok (.getfield 32, 3) := by decide +kernel
theorem dX11_goOnEach_30 : decode cX11_goOnEach 30 = .ok (.iload_n 1, 1) := by decide +kernel
theorem dX11_goOnEach_31 : decode cX11_goOnEach 31 = .ok (.iload_n 2, 1) := by decide +kernel
theorem dX11_goOnEach_32 : decode cX11_goOnEach 32 = .ok (.iload 4, 2) := by decide +kernel
theorem dX11_goOnEach_34 : decode cX11_goOnEach 34 = .ok (.iconst 1, 1) := by decide +kernel
theorem dX11_goOnEach_35 : decode cX11_goOnEach 35 = .ok (.invokevirtual 111, 3) := by decide +kernel
theorem dX11_goOnEach_38 : decode cX11_goOnEach 38 = .ok (.iinc 4 1, 3) := by decide +kernel
theorem dX11_goOnEach_41 : decode cX11_goOnEach 41 = .ok (.goto (-38), 3) := by decide +kernel
theorem dX11_goOnEach_44 : decode cX11_goOnEach 44 = .ok (.return_, 1) := by decide +kernel
theorem dX11_isShut_0 : decode cX11_isShut 0 = .ok (.iload_n 1, 1) := by decide +kernel
theorem dX11_isShut_1 : decode cX11_isShut 1 = .ok (.bipush 7, 2) := by decide +kernel
theorem dX11_isShut_3 : decode cX11_isShut 3 = .ok (.irem, 1) := by decide +kernel
theorem dX11_isShut_4 : decode cX11_isShut 4 = .ok (.aload_n 0, 1) := by decide +kernel
theorem dX11_isShut_5 : decode cX11_isShut 5 = .ok (.getfield 64, 3) := by decide +kernel
theorem dX11_isShut_8 : decode cX11_isShut 8 = .ok (.if_icmp .ne 7, 3) := by decide +kernel
theorem dX11_isShut_11 : decode cX11_isShut 11 = .ok (.iconst 1, 1) := by decide +kernel
theorem dX11_isShut_12 : decode cX11_isShut 12 = .ok (.goto 4, 3) := by decide +kernel
theorem dX11_isShut_15 : decode cX11_isShut 15 = .ok (.iconst 0, 1) := by decide +kernel
theorem dX11_isShut_16 : decode cX11_isShut 16 = .ok (.ireturn, 1) := by decide +kernel
theorem dX11_isWished_0 : decode cX11_isWished 0 = .ok (.iconst 0, 1) := by decide +kernel
theorem dX11_isWished_1 : decode cX11_isWished 1 = .ok (.istore_n 3, 1) := by decide +kernel
theorem dX11_isWished_2 : decode cX11_isWished 2 = .ok (.iload_n 3, 1) := by decide +kernel
theorem dX11_isWished_3 : decode cX11_isWished 3 = .ok (.aload_n 0, 1) := by decide +kernel
theorem dX11_isWished_4 : decode cX11_isWished 4 = .ok (.invokevirtual 115, 3) := by decide +kernel
theorem dX11_isWished_7 : decode cX11_isWished 7 = .ok (.if_icmp .ge 35, 3) := by decide +kernel
theorem dX11_isWished_10 : decode cX11_isWished 10 = .ok (.aload_n 0, 1) := by decide +kernel
theorem dX11_isWished_11 : decode cX11_isWished 11 = .ok (.getfield 39, 3) := by decide +kernel
theorem dX11_isWished_14 : decode cX11_isWished 14 = .ok (.iload_n 3, 1) := by decide +kernel
theorem dX11_isWished_15 : decode cX11_isWished 15 = .ok (.invokestatic 76, 3) := by decide +kernel
theorem dX11_isWished_18 : decode cX11_isWished 18 = .ok (.iload_n 1, 1) := by decide +kernel
theorem dX11_isWished_19 : decode cX11_isWished 19 = .ok (.if_icmp .ne 17, 3) := by decide +kernel
theorem dX11_isWished_22 : decode cX11_isWished 22 = .ok (.aload_n 0, 1) := by decide +kernel
theorem dX11_isWished_23 : decode cX11_isWished 23 = .ok (.getfield 42, 3) := by decide +kernel
theorem dX11_isWished_26 : decode cX11_isWished 26 = .ok (.iload_n 3, 1) := by decide +kernel
theorem dX11_isWished_27 : decode cX11_isWished 27 = .ok (.invokestatic 76, 3) := by decide +kernel
theorem dX11_isWished_30 : decode cX11_isWished 30 = .ok (.iload_n 2, 1) := by decide +kernel
theorem dX11_isWished_31 : decode cX11_isWished 31 = .ok (.if_icmp .ne 5, 3) := by decide +kernel
theorem dX11_isWished_34 : decode cX11_isWished 34 = .ok (.iconst 1, 1) := by decide +kernel
theorem dX11_isWished_35 : decode cX11_isWished 35 = .ok (.ireturn, 1) := by decide +kernel
theorem dX11_isWished_36 : decode cX11_isWished 36 = .ok (.iinc 3 1, 3) := by decide +kernel
theorem dX11_isWished_39 : decode cX11_isWished 39 = .ok (.goto (-37), 3) := by decide +kernel
theorem dX11_isWished_42 : decode cX11_isWished 42 = .ok (.iconst 0, 1) := by decide +kernel
theorem dX11_isWished_43 : decode cX11_isWished 43 = .ok (.ireturn, 1) := by decide +kernel
theorem dX11_firstWish_0 : decode cX11_firstWish 0 = .ok (.iconst 0, 1) := by decide +kernel
theorem dX11_firstWish_1 : decode cX11_firstWish 1 = .ok (.istore_n 2, 1) := by decide +kernel
theorem dX11_firstWish_2 : decode cX11_firstWish 2 = .ok (.iload_n 2, 1) := by decide +kernel
theorem dX11_firstWish_3 : decode cX11_firstWish 3 = .ok (.aload_n 0, 1) := by decide +kernel
theorem dX11_firstWish_4 : decode cX11_firstWish 4 = .ok (.invokevirtual 115, 3) := by decide +kernel
theorem dX11_firstWish_7 : decode cX11_firstWish 7 = .ok (.if_icmp .ge 30, 3) := by decide +kernel
theorem dX11_firstWish_10 : decode cX11_firstWish 10 = .ok (.aload_n 0, 1) := by decide +kernel
theorem dX11_firstWish_11 : decode cX11_firstWish 11 = .ok (.getfield 39, 3) := by decide +kernel
theorem dX11_firstWish_14 : decode cX11_firstWish 14 = .ok (.iload_n 2, 1) := by decide +kernel
theorem dX11_firstWish_15 : decode cX11_firstWish 15 = .ok (.invokestatic 76, 3) := by decide +kernel
theorem dX11_firstWish_18 : decode cX11_firstWish 18 = .ok (.iload_n 1, 1) := by decide +kernel
theorem dX11_firstWish_19 : decode cX11_firstWish 19 = .ok (.if_icmp .ne 12, 3) := by decide +kernel
theorem dX11_firstWish_22 : decode cX11_firstWish 22 = .ok (.aload_n 0, 1) := by decide +kernel
theorem dX11_firstWish_23 : decode cX11_firstWish 23 = .ok (.getfield 42, 3) := by decide +kernel
theorem dX11_firstWish_26 : decode cX11_firstWish 26 = .ok (.iload_n 2, 1) := by decide +kernel
theorem dX11_firstWish_27 : decode cX11_firstWish 27 = .ok (.invokestatic 76, 3) := by decide +kernel
theorem dX11_firstWish_30 : decode cX11_firstWish 30 = .ok (.ireturn, 1) := by decide +kernel
theorem dX11_firstWish_31 : decode cX11_firstWish 31 = .ok (.iinc 2 1, 3) := by decide +kernel
theorem dX11_firstWish_34 : decode cX11_firstWish 34 = .ok (.goto (-32), 3) := by decide +kernel
theorem dX11_firstWish_37 : decode cX11_firstWish 37 = .ok (.bipush (-2), 2) := by decide +kernel
theorem dX11_firstWish_39 : decode cX11_firstWish 39 = .ok (.ireturn, 1) := by decide +kernel
theorem dX11_asks_0 : decode cX11_asks 0 = .ok (.aload_n 0, 1) := by decide +kernel
theorem dX11_asks_1 : decode cX11_asks 1 = .ok (.iload_n 1, 1) := by decide +kernel
theorem dX11_asks_2 : decode cX11_asks 2 = .ok (.iload_n 2, 1) := by decide +kernel
theorem dX11_asks_3 : decode cX11_asks 3 = .ok (.invokevirtual 118, 3) := by decide +kernel
theorem dX11_asks_6 : decode cX11_asks 6 = .ok (.ifCond .lt 7, 3) := by decide +kernel
theorem dX11_asks_9 : decode cX11_asks 9 = .ok (.iconst 1, 1) := by decide +kernel
theorem dX11_asks_10 : decode cX11_asks 10 = .ok (.goto 4, 3) := by decide +kernel
theorem dX11_asks_13 : decode cX11_asks 13 = .ok (.iconst 0, 1) := by decide +kernel
theorem dX11_asks_14 : decode cX11_asks 14 = .ok (.ireturn, 1) := by decide +kernel
theorem dX11_oddsOf_0 : decode cX11_oddsOf 0 = .ok (.iload_n 1, 1) := by decide +kernel
theorem dX11_oddsOf_1 : decode cX11_oddsOf 1 = .ok (.aload_n 0, 1) := by decide +kernel
theorem dX11_oddsOf_2 : decode cX11_oddsOf 2 = .ok (.invokevirtual 95, 3) := by decide +kernel
theorem dX11_oddsOf_5 : decode cX11_oddsOf 5 = .ok (.invokestatic 99, 3) := by decide +kernel
theorem dX11_oddsOf_8 : decode cX11_oddsOf 8 = .ok (.ifCond .eq 29, 3) := by decide +kernel
theorem dX11_oddsOf_11 : decode cX11_oddsOf 11 = .ok (.iload_n 2, 1) := by decide +kernel
theorem dX11_oddsOf_12 : decode cX11_oddsOf 12 = .ok (.aload_n 0, 1) := by decide +kernel
theorem dX11_oddsOf_13 : decode cX11_oddsOf 13 = .ok (.invokevirtual 95, 3) := by decide +kernel
theorem dX11_oddsOf_16 : decode cX11_oddsOf 16 = .ok (.invokestatic 99, 3) := by decide +kernel
theorem dX11_oddsOf_19 : decode cX11_oddsOf 19 = .ok (.ifCond .eq 18, 3) := by decide +kernel
theorem dX11_oddsOf_22 : decode cX11_oddsOf 22 = .ok (.aload_n 0, 1) := by decide +kernel
theorem dX11_oddsOf_23 : decode cX11_oddsOf 23 = .ok (.getfield 45, 3) := by decide +kernel
theorem dX11_oddsOf_26 : decode cX11_oddsOf 26 = .ok (.iload_n 1, 1) := by decide +kernel
theorem dX11_oddsOf_27 : decode cX11_oddsOf 27 = .ok (.iconst 5, 1) := by decide +kernel
theorem dX11_oddsOf_28 : decode cX11_oddsOf 28 = .ok (.imul, 1) := by decide +kernel
theorem dX11_oddsOf_29 : decode cX11_oddsOf 29 = .ok (.iload_n 2, 1) := by decide +kernel
theorem dX11_oddsOf_30 : decode cX11_oddsOf 30 = .ok (.iadd, 1) := by decide +kernel
theorem dX11_oddsOf_31 : decode cX11_oddsOf 31 = .ok (.invokestatic 76, 3) := by decide +kernel
theorem dX11_oddsOf_34 : decode cX11_oddsOf 34 = .ok (.goto 5, 3) := by decide +kernel
theorem dX11_oddsOf_37 : decode cX11_oddsOf 37 = .ok (.bipush (-2), 2) := by decide +kernel
theorem dX11_oddsOf_39 : decode cX11_oddsOf 39 = .ok (.ireturn, 1) := by decide +kernel
theorem dX11_isStaredAt_0 : decode cX11_isStaredAt 0 = .ok (.aload_n 0, 1) := by decide +kernel
theorem dX11_isStaredAt_1 : decode cX11_isStaredAt 1 = .ok (.getfield 48, 3) := by decide +kernel
theorem dX11_isStaredAt_4 : decode cX11_isStaredAt 4 = .ok (.iload_n 1, 1) := by decide +kernel
theorem dX11_isStaredAt_5 : decode cX11_isStaredAt 5 = .ok (.invokestatic 76, 3) := by decide +kernel
theorem dX11_isStaredAt_8 : decode cX11_isStaredAt 8 = .ok (.ifCond .lt 7, 3) := by decide +kernel
theorem dX11_isStaredAt_11 : decode cX11_isStaredAt 11 = .ok (.iconst 1, 1) := by decide +kernel
theorem dX11_isStaredAt_12 : decode cX11_isStaredAt 12 = .ok (.goto 4, 3) := by decide +kernel
theorem dX11_isStaredAt_15 : decode cX11_isStaredAt 15 = .ok (.iconst 0, 1) := by decide +kernel
theorem dX11_isStaredAt_16 : decode cX11_isStaredAt 16 = .ok (.ireturn, 1) := by decide +kernel
theorem dX12_init_0 : decode cX12_init 0 = .ok (.aload_n 0, 1) := by decide +kernel
theorem dX12_init_1 : decode cX12_init 1 = .ok (.invokespecial 1, 3) := by decide +kernel
theorem dX12_init_4 : decode cX12_init 4 = .ok (.aload_n 0, 1) := by decide +kernel
theorem dX12_init_5 : decode cX12_init 5 = .ok (.new 7, 3) := by decide +kernel
theorem dX12_init_8 : decode cX12_init 8 = .ok (.dup, 1) := by decide +kernel
theorem dX12_init_9 : decode cX12_init 9 = .ok (.invokespecial 9, 3) := by decide +kernel
theorem dX12_init_12 : decode cX12_init 12 = .ok (.putfield 10, 3) := by decide +kernel
theorem dX12_init_15 : decode cX12_init 15 = .ok (.aload_n 0, 1) := by decide +kernel
theorem dX12_init_16 : decode cX12_init 16 = .ok (.new 16, 3) := by decide +kernel
theorem dX12_init_19 : decode cX12_init 19 = .ok (.dup, 1) := by decide +kernel
theorem dX12_init_20 : decode cX12_init 20 = .ok (.invokespecial 18, 3) := by decide +kernel
theorem dX12_init_23 : decode cX12_init 23 = .ok (.putfield 19, 3) := by decide +kernel
theorem dX12_init_26 : decode cX12_init 26 = .ok (.aload_n 0, 1) := by decide +kernel
theorem dX12_init_27 : decode cX12_init 27 = .ok (.new 16, 3) := by decide +kernel
theorem dX12_init_30 : decode cX12_init 30 = .ok (.dup, 1) := by decide +kernel
theorem dX12_init_31 : decode cX12_init 31 = .ok (.invokespecial 18, 3) := by decide +kernel
theorem dX12_init_34 : decode cX12_init 34 = .ok (.putfield 23, 3) := by decide +kernel
theorem dX12_init_37 : decode cX12_init 37 = .ok (.aload_n 0, 1) := by decide +kernel
theorem dX12_init_38 : decode cX12_init 38 = .ok (.new 26, 3) := by decide +kernel
theorem dX12_init_41 : decode cX12_init 41 = .ok (.dup, 1) := by decide +kernel
theorem dX12_init_42 : decode cX12_init 42 = .ok (.aload_n 0, 1) := by decide +kernel
theorem dX12_init_43 : decode cX12_init 43 = .ok (.getfield 10, 3) := by decide +kernel
theorem dX12_init_46 : decode cX12_init 46 = .ok (.aload_n 0, 1) := by decide +kernel
theorem dX12_init_47 : decode cX12_init 47 = .ok (.getfield 23, 3) := by decide +kernel
theorem dX12_init_50 : decode cX12_init 50 = .ok (.invokespecial 28, 3) := by decide +kernel
theorem dX12_init_53 : decode cX12_init 53 = .ok (.putfield 31, 3) := by decide +kernel
theorem dX12_init_56 : decode cX12_init 56 = .ok (.aload_n 0, 1) := by decide +kernel
theorem dX12_init_57 : decode cX12_init 57 = .ok (.new 35, 3) := by decide +kernel
theorem dX12_init_60 : decode cX12_init 60 = .ok (.dup, 1) := by decide +kernel
theorem dX12_init_61 : decode cX12_init 61 = .ok (.aload_n 0, 1) := by decide +kernel
theorem dX12_init_62 : decode cX12_init 62 = .ok (.getfield 19, 3) := by decide +kernel
theorem dX12_init_65 : decode cX12_init 65 = .ok (.invokespecial 37, 3) := by decide +kernel
theorem dX12_init_68 : decode cX12_init 68 = .ok (.putfield 40, 3) := by decide +kernel
theorem dX12_init_71 : decode cX12_init 71 = .ok (.aload_n 0, 1) := by decide +kernel
theorem dX12_init_72 : decode cX12_init 72 = .ok (.new 35, 3) := by decide +kernel
theorem dX12_init_75 : decode cX12_init 75 = .ok (.dup, 1) := by decide +kernel
theorem dX12_init_76 : decode cX12_init 76 = .ok (.aload_n 0, 1) := by decide +kernel
theorem dX12_init_77 : decode cX12_init 77 = .ok (.getfield 19, 3) := by decide +kernel
theorem dX12_init_80 : decode cX12_init 80 = .ok (.invokespecial 37, 3) := by decide +kernel
theorem dX12_init_83 : decode cX12_init 83 = .ok (.putfield 44, 3) := by decide +kernel
theorem dX12_init_86 : decode cX12_init 86 = .ok (.aload_n 0, 1) := by decide +kernel
theorem dX12_init_87 : decode cX12_init 87 = .ok (.iconst 3, 1) := by decide +kernel
theorem dX12_init_88 : decode cX12_init 88 = .ok (.anewarray 35, 3) := by decide +kernel
theorem dX12_init_91 : decode cX12_init 91 = .ok (.putfield 47, 3) := by decide +kernel
theorem dX12_init_94 : decode cX12_init 94 = .ok (.iconst 0, 1) := by decide +kernel
theorem dX12_init_95 : decode cX12_init 95 = .ok (.istore_n 1, 1) := by decide +kernel
theorem dX12_init_96 : decode cX12_init 96 = .ok (.iload_n 1, 1) := by decide +kernel
theorem dX12_init_97 : decode cX12_init 97 = .ok (.aload_n 0, 1) := by decide +kernel
theorem dX12_init_98 : decode cX12_init 98 = .ok (.getfield 47, 3) := by decide +kernel
theorem dX12_init_101 : decode cX12_init 101 = .ok (.arraylength, 1) := by decide +kernel
theorem dX12_init_102 : decode cX12_init 102 = .ok (.if_icmp .ge 26, 3) := by decide +kernel
theorem dX12_init_105 : decode cX12_init 105 = .ok (.aload_n 0, 1) := by decide +kernel
theorem dX12_init_106 : decode cX12_init 106 = .ok (.getfield 47, 3) := by decide +kernel
theorem dX12_init_109 : decode cX12_init 109 = .ok (.iload_n 1, 1) := by decide +kernel
theorem dX12_init_110 : decode cX12_init 110 = .ok (.new 35, 3) := by decide +kernel
theorem dX12_init_113 : decode cX12_init 113 = .ok (.dup, 1) := by decide +kernel
theorem dX12_init_114 : decode cX12_init 114 = .ok (.aload_n 0, 1) := by decide +kernel
theorem dX12_init_115 : decode cX12_init 115 = .ok (.getfield 19, 3) := by decide +kernel
theorem dX12_init_118 : decode cX12_init 118 = .ok (.invokespecial 37, 3) := by decide +kernel
theorem dX12_init_121 : decode cX12_init 121 = .ok (.aastore, 1) := by decide +kernel
theorem dX12_init_122 : decode cX12_init 122 = .ok (.iinc 1 1, 3) := by decide +kernel
theorem dX12_init_125 : decode cX12_init 125 = .ok (.goto (-29), 3) := by decide +kernel
theorem dX12_init_128 : decode cX12_init 128 = .ok (.aload_n 0, 1) := by decide +kernel
theorem dX12_init_129 : decode cX12_init 129 = .ok (.new 51, 3) := by decide +kernel
theorem dX12_init_132 : decode cX12_init 132 = .ok (.dup, 1) := by decide +kernel
theorem dX12_init_133 : decode cX12_init 133 = .ok (.invokespecial 53, 3) := by decide +kernel
theorem dX12_init_136 : decode cX12_init 136 = .ok (.putfield 54, 3) := by decide +kernel
theorem dX12_init_139 : decode cX12_init 139 = .ok (.aload_n 0, 1) := by decide +kernel
theorem dX12_init_140 : decode cX12_init 140 = .ok (.new 58, 3) := by decide +kernel
theorem dX12_init_143 : decode cX12_init 143 = .ok (.dup, 1) := by decide +kernel
theorem dX12_init_144 : decode cX12_init 144 = .ok (.invokespecial 60, 3) := by decide +kernel
theorem dX12_init_147 : decode cX12_init 147 = .ok (.putfield 61, 3) := by decide +kernel
theorem dX12_init_150 : decode cX12_init 150 = .ok (.aload_n 0, 1) := by decide +kernel
theorem dX12_init_151 : decode cX12_init 151 = .ok (.new 65, 3) := by decide +kernel
theorem dX12_init_154 : decode cX12_init 154 = .ok (.dup, 1) := by decide +kernel
theorem dX12_init_155 : decode cX12_init 155 = .ok (.invokespecial 67, 3) := by decide +kernel
theorem dX12_init_158 : decode cX12_init 158 = .ok (.putfield 68, 3) := by decide +kernel
theorem dX12_init_161 : decode cX12_init 161 = .ok (.aload_n 0, 1) := by decide +kernel
theorem dX12_init_162 : decode cX12_init 162 = .ok (.new 72, 3) := by decide +kernel
theorem dX12_init_165 : decode cX12_init 165 = .ok (.dup, 1) := by decide +kernel
theorem dX12_init_166 : decode cX12_init 166 = .ok (.invokespecial 74, 3) := by decide +kernel
theorem dX12_init_169 : decode cX12_init 169 = .ok (.putfield 75, 3) := by decide +kernel
theorem dX12_init_172 : decode cX12_init 172 = .ok (.aload_n 0, 1) := by decide +kernel
theorem dX12_init_173 : decode cX12_init 173 = .ok (.new 79, 3) := by decide +kernel
theorem dX12_init_176 : decode cX12_init 176 = .ok (.dup, 1) := by decide +kernel
theorem dX12_init_177 : decode cX12_init 177 = .ok (.invokespecial 81, 3) := by decide +kernel
theorem dX12_init_180 : decode cX12_init 180 = .ok (.putfield 82, 3) := by decide +kernel
theorem dX12_init_183 : decode cX12_init 183 = .ok (.return_, 1) := by decide +kernel
theorem dX12_feed_0 : decode cX12_feed 0 = .ok (.aload_n 0, 1) := by decide +kernel
theorem dX12_feed_1 : decode cX12_feed 1 = .ok (.getfield 10, 3) := by decide +kernel
theorem dX12_feed_4 : decode cX12_feed 4 = .ok (.invokevirtual 86, 3) := by decide +kernel
theorem dX12_feed_7 : decode cX12_feed 7 = .ok (.ifCond .ne 5, 3) := by decide +kernel
theorem dX12_feed_10 : decode cX12_feed 10 = .ok (.iconst (-1), 1) := by decide +kernel
theorem dX12_feed_11 : decode cX12_feed 11 = .ok (.ireturn, 1) := by decide +kernel
theorem dX12_feed_12 : decode cX12_feed 12 = .ok (.aload_n 0, 1) := by decide +kernel
theorem dX12_feed_13 : decode cX12_feed 13 = .ok (.getfield 10, 3) := by decide +kernel
theorem dX12_feed_16 : decode cX12_feed 16 = .ok (.iload_n 1, 1) := by decide +kernel
theorem dX12_feed_17 : decode cX12_feed 17 = .ok (.invokevirtual 90, 3) := by decide +kernel
theorem dX12_feed_20 : decode cX12_feed 20 = .ok (.aload_n 0, 1) := by decide +kernel
theorem dX12_feed_21 : decode cX12_feed 21 = .ok (.getfield 10, 3) := by decide +kernel
theorem dX12_feed_24 : decode cX12_feed 24 = .ok (.iload_n 2, 1) := by decide +kernel
theorem dX12_feed_25 : decode cX12_feed 25 = .ok (.invokevirtual 90, 3) := by decide +kernel
theorem dX12_feed_28 : decode cX12_feed 28 = .ok (.aload_n 0, 1) := by decide +kernel
theorem dX12_feed_29 : decode cX12_feed 29 = .ok (.getfield 10, 3) := by decide +kernel
theorem dX12_feed_32 : decode cX12_feed 32 = .ok (.iload_n 3, 1) := by decide +kernel
theorem dX12_feed_33 : decode cX12_feed 33 = .ok (.invokevirtual 90, 3) := by decide +kernel
theorem dX12_feed_36 : decode cX12_feed 36 = .ok (.aload_n 0, 1) := by decide +kernel
theorem dX12_feed_37 : decode cX12_feed 37 = .ok (.getfield 10, 3) := by decide +kernel
theorem dX12_feed_40 : decode cX12_feed 40 = .ok (.iload 4, 2) := by decide +kernel
theorem dX12_feed_42 : decode cX12_feed 42 = .ok (.invokevirtual 90, 3) := by decide +kernel
theorem dX12_feed_45 : decode cX12_feed 45 = .ok (.aload_n 0, 1) := by decide +kernel
theorem dX12_feed_46 : decode cX12_feed 46 = .ok (.getfield 10, 3) := by decide +kernel
theorem dX12_feed_49 : decode cX12_feed 49 = .ok (.iload 5, 2) := by decide +kernel
theorem dX12_feed_51 : decode cX12_feed 51 = .ok (.invokevirtual 90, 3) := by decide +kernel
theorem dX12_feed_54 : decode cX12_feed 54 = .ok (.aload_n 0, 1) := by decide +kernel
theorem dX12_feed_55 : decode cX12_feed 55 = .ok (.getfield 10, 3) := by decide +kernel
theorem dX12_feed_58 : decode cX12_feed 58 = .ok (.getfield 94, 3) := by decide +kernel
theorem dX12_feed_61 : decode cX12_feed 61 = .ok (.ireturn, 1) := by decide +kernel
theorem dX12_town_0 : decode cX12_town 0 = .ok (.aload_n 0, 1) := by decide +kernel
theorem dX12_town_1 : decode cX12_town 1 = .ok (.iload_n 1, 1) := by decide +kernel
theorem dX12_town_2 : decode cX12_town 2 = .ok (.ifCond .lt 14, 3) := by decide +kernel
theorem dX12_town_5 : decode cX12_town 5 = .ok (.iload_n 1, 1) := by decide +kernel
theorem dX12_town_6 : decode cX12_town 6 = .ok (.aload_n 0, 1) := by decide +kernel
theorem dX12_town_7 : decode cX12_town 7 = .ok (.getfield 10, 3) := by decide +kernel
theorem dX12_town_10 : decode cX12_town 10 = .ok (.getfield 94, 3) := by decide +kernel
theorem dX12_town_13 : decode cX12_town 13 = .ok (.if_icmp .le 7, 3) := by decide +kernel
theorem dX12_town_16 : decode cX12_town 16 = .ok (.iconst 2, 1) := by decide +kernel
theorem dX12_town_17 : decode cX12_town 17 = .ok (.goto 4, 3) := by decide +kernel
theorem dX12_town_20 : decode cX12_town 20 = .ok (.iconst 0, 1) := by decide +kernel
theorem dX12_town_21 : decode cX12_town 21 = .ok (.invokevirtual 98, 3) := by decide +kernel
theorem dX12_town_24 : decode cX12_town 24 = .ok (.ifCond .eq 5, 3) := by decide +kernel
theorem dX12_town_27 : decode cX12_town 27 = .ok (.iconst (-1), 1) := by decide +kernel
theorem dX12_town_28 : decode cX12_town 28 = .ok (.ireturn, 1) := by decide +kernel
theorem dX12_town_29 : decode cX12_town 29 = .ok (.aload_n 0, 1) := by decide +kernel
theorem dX12_town_30 : decode cX12_town 30 = .ok (.aload_n 0, 1) := by decide +kernel
theorem dX12_town_31 : decode cX12_town 31 = .ok (.getfield 31, 3) := by decide +kernel
theorem dX12_town_34 : decode cX12_town 34 = .ok (.aload_n 0, 1) := by decide +kernel
theorem dX12_town_35 : decode cX12_town 35 = .ok (.getfield 23, 3) := by decide +kernel
theorem dX12_town_38 : decode cX12_town 38 = .ok (.iload_n 1, 1) := by decide +kernel
theorem dX12_town_39 : decode cX12_town 39 = .ok (.invokevirtual 102, 3) := by decide +kernel
theorem dX12_town_42 : decode cX12_town 42 = .ok (.putfield 106, 3) := by decide +kernel
theorem dX12_town_45 : decode cX12_town 45 = .ok (.aload_n 0, 1) := by decide +kernel
theorem dX12_town_46 : decode cX12_town 46 = .ok (.aload_n 0, 1) := by decide +kernel
theorem dX12_town_47 : decode cX12_town 47 = .ok (.getfield 31, 3) := by decide +kernel
theorem dX12_town_50 : decode cX12_town 50 = .ok (.getfield 109, 3) := by decide +kernel
theorem dX12_town_53 : decode cX12_town 53 = .ok (.putfield 112, 3) := by decide +kernel
theorem dX12_town_56 : decode cX12_town 56 = .ok (.aload_n 0, 1) := by decide +kernel
theorem dX12_town_57 : decode cX12_town 57 = .ok (.getfield 10, 3) := by decide +kernel
theorem dX12_town_60 : decode cX12_town 60 = .ok (.invokevirtual 115, 3) := by decide +kernel
theorem dX12_town_63 : decode cX12_town 63 = .ok (.aload_n 0, 1) := by decide +kernel
theorem dX12_town_64 : decode cX12_town 64 = .ok (.aload_n 0, 1) := by decide +kernel
theorem dX12_town_65 : decode cX12_town 65 = .ok (.getfield 106, 3) := by decide +kernel
theorem dX12_town_68 : decode cX12_town 68 = .ok (.ifCond .eq 7, 3) := by decide +kernel
theorem dX12_town_71 : decode cX12_town 71 = .ok (.iconst 4, 1) := by decide +kernel
theorem dX12_town_72 : decode cX12_town 72 = .ok (.goto 4, 3) := by decide +kernel
theorem dX12_town_75 : decode cX12_town 75 = .ok (.iconst 0, 1) := by decide +kernel
theorem dX12_town_76 : decode cX12_town 76 = .ok (.invokevirtual 98, 3) := by decide +kernel
theorem dX12_town_79 : decode cX12_town 79 = .ok (.ifCond .eq 5, 3) := by decide +kernel
theorem dX12_town_82 : decode cX12_town 82 = .ok (.iconst (-1), 1) := by decide +kernel
theorem dX12_town_83 : decode cX12_town 83 = .ok (.ireturn, 1) := by decide +kernel
theorem dX12_town_84 : decode cX12_town 84 = .ok (.aload_n 0, 1) := by decide +kernel
theorem dX12_town_85 : decode cX12_town 85 = .ok (.getfield 19, 3) := by decide +kernel
theorem dX12_town_88 : decode cX12_town 88 = .ok (.astore_n 2, 1) := by decide +kernel
theorem dX12_town_89 : decode cX12_town 89 = .ok (.aload_n 0, 1) := by decide +kernel
theorem dX12_town_90 : decode cX12_town 90 = .ok (.aload_n 0, 1) := by decide +kernel
theorem dX12_town_91 : decode cX12_town 91 = .ok (.getfield 23, 3) := by decide +kernel
theorem dX12_town_94 : decode cX12_town 94 = .ok (.putfield 19, 3) := by decide +kernel
theorem dX12_town_97 : decode cX12_town 97 = .ok (.aload_n 0, 1) := by decide +kernel
theorem dX12_town_98 : decode cX12_town 98 = .ok (.aload_n 2, 1) := by decide +kernel
theorem dX12_town_99 : decode cX12_town 99 = .ok (.putfield 23, 3) := by decide +kernel
theorem dX12_town_102 : decode cX12_town 102 = .ok (.aload_n 0, 1) := by decide +kernel
theorem dX12_town_103 : decode cX12_town 103 = .ok (.getfield 40, 3) := by decide +kernel
theorem dX12_town_106 : decode cX12_town 106 = .ok (.aload_n 0, 1) := by decide +kernel
theorem dX12_town_107 : decode cX12_town 107 = .ok (.getfield 19, 3) := by decide +kernel
theorem dX12_town_110 : decode cX12_town 110 = .ok (.invokevirtual 118, 3) := by decide +kernel
theorem dX12_town_113 : decode cX12_town 113 = .ok (.aload_n 0, 1) := by decide +kernel
theorem dX12_town_114 : decode cX12_town 114 = .ok (.getfield 54, 3) := by decide +kernel
theorem dX12_town_117 : decode cX12_town 117 = .ok (.invokevirtual 121, 3) := by decide +kernel
theorem dX12_town_120 : decode cX12_town 120 = .ok (.aload_n 0, 1) := by decide +kernel
theorem dX12_town_121 : decode cX12_town 121 = .ok (.iconst 0, 1) := by decide +kernel
theorem dX12_town_122 : decode cX12_town 122 = .ok (.putfield 124, 3) := by decide +kernel
theorem dX12_town_125 : decode cX12_town 125 = .ok (.aload_n 0, 1) := by decide +kernel
theorem dX12_town_126 : decode cX12_town 126 = .ok (.getfield 19, 3) := by decide +kernel
theorem dX12_town_129 : decode cX12_town 129 = .ok (.invokevirtual 127, 3) := by decide +kernel
theorem dX12_town_132 : decode cX12_town 132 = .ok (.ireturn, 1) := by decide +kernel
theorem dX12_fault_0 : decode cX12_fault 0 = .ok (.aload_n 0, 1) := by decide +kernel
theorem dX12_fault_1 : decode cX12_fault 1 = .ok (.getfield 106, 3) := by decide +kernel
theorem dX12_fault_4 : decode cX12_fault 4 = .ok (.ireturn, 1) := by decide +kernel
theorem dX12_where_0 : decode cX12_where 0 = .ok (.aload_n 0, 1) := by decide +kernel
theorem dX12_where_1 : decode cX12_where 1 = .ok (.getfield 131, 3) := by decide +kernel
theorem dX12_where_4 : decode cX12_where 4 = .ok (.iconst 4, 1) := by decide +kernel
theorem dX12_where_5 : decode cX12_where 5 = .ok (.if_icmp .ne 10, 3) := by decide +kernel
theorem dX12_where_8 : decode cX12_where 8 = .ok (.aload_n 0, 1) := by decide +kernel
theorem dX12_where_9 : decode cX12_where 9 = .ok (.getfield 112, 3) := by decide +kernel
theorem dX12_where_12 : decode cX12_where 12 = .ok (.goto 4, 3) := by decide +kernel
theorem dX12_where_15 : decode cX12_where 15 = .ok (.iconst (-1), 1) := by decide +kernel
theorem dX12_where_16 : decode cX12_where 16 = .ok (.ireturn, 1) := by decide +kernel
theorem dX12_look_0 : decode cX12_look 0 = .ok (.aload_n 0, 1) := by decide +kernel
theorem dX12_look_1 : decode cX12_look 1 = .ok (.aload_n 0, 1) := by decide +kernel
theorem dX12_look_2 : decode cX12_look 2 = .ok (.iload_n 1, 1) := by decide +kernel
theorem dX12_look_3 : decode cX12_look 3 = .ok (.iload_n 2, 1) := by decide +kernel
theorem dX12_look_4 : decode cX12_look 4 = .ok (.iload_n 3, 1) := by decide +kernel
theorem dX12_look_5 : decode cX12_look 5 = .ok (.invokevirtual 134, 3) := by decide +kernel
theorem dX12_look_8 : decode cX12_look 8 = .ok (.invokevirtual 98, 3) := by decide +kernel
theorem dX12_look_11 : decode cX12_look 11 = .ok (.ifCond .eq 7, 3) := by decide +kernel
theorem dX12_look_14 : decode cX12_look 14 = .ok (.iconst (-1), 1) := by decide +kernel
theorem dX12_look_15 : decode cX12_look 15 = .ok (.goto 19, 3) := by decide +kernel
theorem dX12_look_18 : decode cX12_look 18 = .ok (.aload_n 0, 1) := by decide +kernel
theorem dX12_look_19 : decode cX12_look 19 = .ok (.getfield 40, 3) := by decide +kernel
theorem dX12_look_22 : decode cX12_look 22 = .ok (.getfield 138, 3) := by decide +kernel
theorem dX12_look_25 : decode cX12_look 25 = .ok (.iload_n 1, 1) := by decide +kernel
theorem dX12_look_26 : decode cX12_look 26 = .ok (.iload_n 2, 1) := by decide +kernel
theorem dX12_look_27 : decode cX12_look 27 = .ok (.invokevirtual 142, 3) := by decide +kernel
theorem dX12_look_30 : decode cX12_look 30 = .ok (.iload_n 3, 1) := by decide +kernel
theorem dX12_look_31 : decode cX12_look 31 = .ok (.invokestatic 148, 3) := by decide +kernel
theorem dX12_look_34 : decode cX12_look 34 = .ok (.ireturn, 1) := by decide +kernel
theorem dX12_belief_0 : decode cX12_belief 0 = .ok (.aload_n 0, 1) := by decide +kernel
theorem dX12_belief_1 : decode cX12_belief 1 = .ok (.aload_n 0, 1) := by decide +kernel
theorem dX12_belief_2 : decode cX12_belief 2 = .ok (.iload_n 1, 1) := by decide +kernel
theorem dX12_belief_3 : decode cX12_belief 3 = .ok (.iload_n 2, 1) := by decide +kernel
theorem dX12_belief_4 : decode cX12_belief 4 = .ok (.iload_n 3, 1) := by decide +kernel
theorem dX12_belief_5 : decode cX12_belief 5 = .ok (.invokevirtual 134, 3) := by decide +kernel
theorem dX12_belief_8 : decode cX12_belief 8 = .ok (.invokevirtual 98, 3) := by decide +kernel
theorem dX12_belief_11 : decode cX12_belief 11 = .ok (.ifCond .eq 7, 3) := by decide +kernel
theorem dX12_belief_14 : decode cX12_belief 14 = .ok (.iconst (-1), 1) := by decide +kernel
theorem dX12_belief_15 : decode cX12_belief 15 = .ok (.goto 16, 3) := by decide +kernel
theorem dX12_belief_18 : decode cX12_belief 18 = .ok (.aload_n 0, 1) := by decide +kernel
theorem dX12_belief_19 : decode cX12_belief 19 = .ok (.getfield 40, 3) := by decide +kernel
theorem dX12_belief_22 : decode cX12_belief 22 = .ok (.iload_n 1, 1) := by decide +kernel
theorem dX12_belief_23 : decode cX12_belief 23 = .ok (.iload_n 2, 1) := by decide +kernel
theorem dX12_belief_24 : decode cX12_belief 24 = .ok (.invokevirtual 151, 3) := by decide +kernel
theorem dX12_belief_27 : decode cX12_belief 27 = .ok (.iload_n 3, 1) := by decide +kernel
theorem dX12_belief_28 : decode cX12_belief 28 = .ok (.invokestatic 148, 3) := by decide +kernel
theorem dX12_belief_31 : decode cX12_belief 31 = .ok (.ireturn, 1) := by decide +kernel
theorem dX12_papers_0 : decode cX12_papers 0 = .ok (.aload_n 0, 1) := by decide +kernel
theorem dX12_papers_1 : decode cX12_papers 1 = .ok (.aload_n 0, 1) := by decide +kernel
theorem dX12_papers_2 : decode cX12_papers 2 = .ok (.iload_n 1, 1) := by decide +kernel
theorem dX12_papers_3 : decode cX12_papers 3 = .ok (.iload_n 2, 1) := by decide +kernel
theorem dX12_papers_4 : decode cX12_papers 4 = .ok (.iload_n 3, 1) := by decide +kernel
theorem dX12_papers_5 : decode cX12_papers 5 = .ok (.invokevirtual 134, 3) := by decide +kernel
theorem dX12_papers_8 : decode cX12_papers 8 = .ok (.invokevirtual 98, 3) := by decide +kernel
theorem dX12_papers_11 : decode cX12_papers 11 = .ok (.ifCond .eq 7, 3) := by decide +kernel
theorem dX12_papers_14 : decode cX12_papers 14 = .ok (.iconst (-1), 1) := by decide +kernel
theorem dX12_papers_15 : decode cX12_papers 15 = .ok (.goto 16, 3) := by decide +kernel
theorem dX12_papers_18 : decode cX12_papers 18 = .ok (.aload_n 0, 1) := by decide +kernel
theorem dX12_papers_19 : decode cX12_papers 19 = .ok (.getfield 40, 3) := by decide +kernel
theorem dX12_papers_22 : decode cX12_papers 22 = .ok (.iload_n 1, 1) := by decide +kernel
theorem dX12_papers_23 : decode cX12_papers 23 = .ok (.iload_n 2, 1) := by decide +kernel
theorem dX12_papers_24 : decode cX12_papers 24 = .ok (.invokevirtual 154, 3) := by decide +kernel
theorem dX12_papers_27 : decode cX12_papers 27 = .ok (.iload_n 3, 1) := by decide +kernel
theorem dX12_papers_28 : decode cX12_papers 28 = .ok (.invokestatic 148, 3) := by decide +kernel
theorem dX12_papers_31 : decode cX12_papers 31 = .ok (.ireturn, 1) := by decide +kernel
theorem dX12_kind_0 : decode cX12_kind 0 = .ok (.aload_n 0, 1) := by decide +kernel
theorem dX12_kind_1 : decode cX12_kind 1 = .ok (.aload_n 0, 1) := by decide +kernel
theorem dX12_kind_2 : decode cX12_kind 2 = .ok (.iload_n 1, 1) := by decide +kernel
theorem dX12_kind_3 : decode cX12_kind 3 = .ok (.invokevirtual 157, 3) := by decide +kernel
theorem dX12_kind_6 : decode cX12_kind 6 = .ok (.invokevirtual 98, 3) := by decide +kernel
theorem dX12_kind_9 : decode cX12_kind 9 = .ok (.ifCond .eq 7, 3) := by decide +kernel
theorem dX12_kind_12 : decode cX12_kind 12 = .ok (.iconst (-1), 1) := by decide +kernel
theorem dX12_kind_13 : decode cX12_kind 13 = .ok (.goto 14, 3) := by decide +kernel
theorem dX12_kind_16 : decode cX12_kind 16 = .ok (.aload_n 0, 1) := by decide +kernel
theorem dX12_kind_17 : decode cX12_kind 17 = .ok (.getfield 19, 3) := by decide +kernel
theorem dX12_kind_20 : decode cX12_kind 20 = .ok (.getfield 161, 3) := by decide +kernel
theorem dX12_kind_23 : decode cX12_kind 23 = .ok (.iload_n 1, 1) := by decide +kernel
theorem dX12_kind_24 : decode cX12_kind 24 = .ok (.invokestatic 165, 3) := by decide +kernel
theorem dX12_kind_27 : decode cX12_kind 27 = .ok (.ireturn, 1) := by decide +kernel
theorem dX12_latest_0 : decode cX12_latest 0 = .ok (.aload_n 0, 1) := by decide +kernel
theorem dX12_latest_1 : decode cX12_latest 1 = .ok (.aload_n 0, 1) := by decide +kernel
theorem dX12_latest_2 : decode cX12_latest 2 = .ok (.iload_n 1, 1) := by decide +kernel
theorem dX12_latest_3 : decode cX12_latest 3 = .ok (.iload_n 2, 1) := by decide +kernel
theorem dX12_latest_4 : decode cX12_latest 4 = .ok (.invokevirtual 169, 3) := by decide +kernel
theorem dX12_latest_7 : decode cX12_latest 7 = .ok (.invokevirtual 98, 3) := by decide +kernel
theorem dX12_latest_10 : decode cX12_latest 10 = .ok (.ifCond .eq 7, 3) := by decide +kernel
theorem dX12_latest_13 : decode cX12_latest 13 = .ok (.iconst (-1), 1) := by decide +kernel
theorem dX12_latest_14 : decode cX12_latest 14 = .ok (.goto 12, 3) := by decide +kernel
theorem dX12_latest_17 : decode cX12_latest 17 = .ok (.aload_n 0, 1) := by decide +kernel
theorem dX12_latest_18 : decode cX12_latest 18 = .ok (.getfield 40, 3) := by decide +kernel
theorem dX12_latest_21 : decode cX12_latest 21 = .ok (.iload_n 1, 1) := by decide +kernel
theorem dX12_latest_22 : decode cX12_latest 22 = .ok (.iload_n 2, 1) := by decide +kernel
theorem dX12_latest_23 : decode cX12_latest 23 = .ok (.invokevirtual 172, 3) := by decide +kernel
theorem dX12_latest_26 : decode cX12_latest 26 = .ok (.ireturn, 1) := by decide +kernel
theorem dX12_hall_0 : decode cX12_hall 0 = .ok (.aload_n 0, 1) := by decide +kernel
theorem dX12_hall_1 : decode cX12_hall 1 = .ok (.aload_n 0, 1) := by decide +kernel
theorem dX12_hall_2 : decode cX12_hall 2 = .ok (.iload_n 1, 1) := by decide +kernel
theorem dX12_hall_3 : decode cX12_hall 3 = .ok (.invokevirtual 175, 3) := by decide +kernel
theorem dX12_hall_6 : decode cX12_hall 6 = .ok (.invokevirtual 98, 3) := by decide +kernel
theorem dX12_hall_9 : decode cX12_hall 9 = .ok (.ifCond .eq 5, 3) := by decide +kernel
theorem dX12_hall_12 : decode cX12_hall 12 = .ok (.iconst (-1), 1) := by decide +kernel
theorem dX12_hall_13 : decode cX12_hall 13 = .ok (.ireturn, 1) := by decide +kernel
theorem dX12_hall_14 : decode cX12_hall 14 = .ok (.aload_n 0, 1) := by decide +kernel
theorem dX12_hall_15 : decode cX12_hall 15 = .ok (.getfield 19, 3) := by decide +kernel
theorem dX12_hall_18 : decode cX12_hall 18 = .ok (.iload_n 1, 1) := by decide +kernel
theorem dX12_hall_19 : decode cX12_hall 19 = .ok (.invokevirtual 178, 3) := by decide +kernel
theorem dX12_hall_22 : decode cX12_hall 22 = .ok (.ifCond .eq 8, 3) := by decide +kernel
theorem dX12_hall_25 : decode cX12_hall 25 = .ok (.bipush (-3), 2) := by decide +kernel
theorem dX12_hall_27 : decode cX12_hall 27 = .ok (.goto 11, 3) := by decide +kernel
theorem dX12_hall_30 : decode cX12_hall 30 = .ok (.aload_n 0, 1) := by decide +kernel
theorem dX12_hall_31 : decode cX12_hall 31 = .ok (.getfield 40, 3) := by decide +kernel
theorem dX12_hall_34 : decode cX12_hall 34 = .ok (.iload_n 1, 1) := by decide +kernel
theorem dX12_hall_35 : decode cX12_hall 35 = .ok (.invokevirtual 181, 3) := by decide +kernel
theorem dX12_hall_38 : decode cX12_hall 38 = .ok (.ireturn, 1) := by decide +kernel
theorem dX12_mistaken_0 : decode cX12_mistaken 0 = .ok (.aload_n 0, 1) := by decide +kernel
theorem dX12_mistaken_1 : decode cX12_mistaken 1 = .ok (.aload_n 0, 1) := by decide +kernel
theorem dX12_mistaken_2 : decode cX12_mistaken 2 = .ok (.iload_n 1, 1) := by decide +kernel
theorem dX12_mistaken_3 : decode cX12_mistaken 3 = .ok (.iload_n 2, 1) := by decide +kernel
theorem dX12_mistaken_4 : decode cX12_mistaken 4 = .ok (.invokevirtual 169, 3) := by decide +kernel
theorem dX12_mistaken_7 : decode cX12_mistaken 7 = .ok (.invokevirtual 98, 3) := by decide +kernel
theorem dX12_mistaken_10 : decode cX12_mistaken 10 = .ok (.ifCond .eq 7, 3) := by decide +kernel
theorem dX12_mistaken_13 : decode cX12_mistaken 13 = .ok (.iconst (-1), 1) := by decide +kernel
theorem dX12_mistaken_14 : decode cX12_mistaken 14 = .ok (.goto 12, 3) := by decide +kernel
theorem dX12_mistaken_17 : decode cX12_mistaken 17 = .ok (.aload_n 0, 1) := by decide +kernel
theorem dX12_mistaken_18 : decode cX12_mistaken 18 = .ok (.getfield 40, 3) := by decide +kernel
theorem dX12_mistaken_21 : decode cX12_mistaken 21 = .ok (.iload_n 1, 1) := by decide +kernel
theorem dX12_mistaken_22 : decode cX12_mistaken 22 = .ok (.iload_n 2, 1) := by decide +kernel
theorem dX12_mistaken_23 : decode cX12_mistaken 23 = .ok (.invokevirtual 184, 3) := by decide +kernel
theorem dX12_mistaken_26 : decode cX12_mistaken 26 = .ok (.ireturn, 1) := by decide +kernel
theorem dX12_knows_0 : decode cX12_knows 0 = .ok (.aload_n 0, 1) := by decide +kernel
theorem dX12_knows_1 : decode cX12_knows 1 = .ok (.aload_n 0, 1) := by decide +kernel
theorem dX12_knows_2 : decode cX12_knows 2 = .ok (.iload_n 1, 1) := by decide +kernel
theorem dX12_knows_3 : decode cX12_knows 3 = .ok (.invokevirtual 175, 3) := by decide +kernel
theorem dX12_knows_6 : decode cX12_knows 6 = .ok (.invokevirtual 98, 3) := by decide +kernel
theorem dX12_knows_9 : decode cX12_knows 9 = .ok (.ifCond .eq 7, 3) := by decide +kernel
theorem dX12_knows_12 : decode cX12_knows 12 = .ok (.iconst (-1), 1) := by decide +kernel
theorem dX12_knows_13 : decode cX12_knows 13 = .ok (.goto 11, 3) := by decide +kernel
theorem dX12_knows_16 : decode cX12_knows 16 = .ok (.aload_n 0, 1) := by decide +kernel
theorem dX12_knows_17 : decode cX12_knows 17 = .ok (.getfield 40, 3) := by decide +kernel
theorem dX12_knows_20 : decode cX12_knows 20 = .ok (.iload_n 1, 1) := by decide +kernel
theorem dX12_knows_21 : decode cX12_knows 21 = .ok (.invokevirtual 187, 3) := by decide +kernel
theorem dX12_knows_24 : decode cX12_knows 24 = .ok (.ireturn, 1) := by decide +kernel
theorem dX12_stranger_0 : decode cX12_stranger 0 = .ok (.aload_n 0, 1) := by decide +kernel
theorem dX12_stranger_1 : decode cX12_stranger 1 = .ok (.aload_n 0, 1) := by decide +kernel
theorem dX12_stranger_2 : decode cX12_stranger 2 = .ok (.iload_n 1, 1) := by decide +kernel
theorem dX12_stranger_3 : decode cX12_stranger 3 = .ok (.invokevirtual 157, 3) := by decide +kernel
theorem dX12_stranger_6 : decode cX12_stranger 6 = .ok (.invokevirtual 98, 3) := by decide +kernel
theorem dX12_stranger_9 : decode cX12_stranger 9 = .ok (.ifCond .eq 5, 3) := by decide +kernel
theorem dX12_stranger_12 : decode cX12_stranger 12 = .ok (.iconst (-1), 1) := by decide +kernel
theorem dX12_stranger_13 : decode cX12_stranger 13 = .ok (.ireturn, 1) := by decide +kernel
theorem dX12_stranger_14 : decode cX12_stranger 14 = .ok (.iconst 0, 1) := by decide +kernel
theorem dX12_stranger_15 : decode cX12_stranger 15 = .ok (.istore_n 2, 1) := by decide +kernel
theorem dX12_stranger_16 : decode cX12_stranger 16 = .ok (.iload_n 2, 1) := by decide +kernel
theorem dX12_stranger_17 : decode cX12_stranger 17 = .ok (.bipush 30, 2) := by decide +kernel
theorem dX12_stranger_19 : decode cX12_stranger 19 = .ok (.if_icmp .ge 23, 3) := by decide +kernel
theorem dX12_stranger_22 : decode cX12_stranger 22 = .ok (.aload_n 0, 1) := by decide +kernel
theorem dX12_stranger_23 : decode cX12_stranger 23 = .ok (.getfield 40, 3) := by decide +kernel
theorem dX12_stranger_26 : decode cX12_stranger 26 = .ok (.iload_n 1, 1) := by decide +kernel
theorem dX12_stranger_27 : decode cX12_stranger 27 = .ok (.iload_n 2, 1) := by decide +kernel
theorem dX12_stranger_28 : decode cX12_stranger 28 = .ok (.invokevirtual 190, 3) := by decide +kernel
theorem dX12_stranger_31 : decode cX12_stranger 31 = .ok (.ifCond .ne 5, 3) := by decide +kernel
theorem dX12_stranger_34 : decode cX12_stranger 34 = .ok (.iload_n 2, 1) := by decide +kernel
theorem dX12_stranger_35 : decode cX12_stranger 35 = .ok (.ireturn, 1) := by decide +kernel
theorem dX12_stranger_36 : decode cX12_stranger 36 = .ok (.iinc 2 1, 3) := by decide +kernel
theorem dX12_stranger_39 : decode cX12_stranger 39 = .ok (.goto (-23), 3) := by decide +kernel
theorem dX12_stranger_42 : decode cX12_stranger 42 = .ok (.bipush (-2), 2) := by decide +kernel
theorem dX12_stranger_44 : decode cX12_stranger 44 = .ok (.ireturn, 1) := by decide +kernel
theorem dX12_passes_0 : decode cX12_passes 0 = .ok (.aload_n 0, 1) := by decide +kernel
theorem dX12_passes_1 : decode cX12_passes 1 = .ok (.aload_n 0, 1) := by decide +kernel
theorem dX12_passes_2 : decode cX12_passes 2 = .ok (.iload_n 1, 1) := by decide +kernel
theorem dX12_passes_3 : decode cX12_passes 3 = .ok (.iload_n 2, 1) := by decide +kernel
theorem dX12_passes_4 : decode cX12_passes 4 = .ok (.invokevirtual 169, 3) := by decide +kernel
theorem dX12_passes_7 : decode cX12_passes 7 = .ok (.invokevirtual 98, 3) := by decide +kernel
theorem dX12_passes_10 : decode cX12_passes 10 = .ok (.ifCond .eq 5, 3) := by decide +kernel
theorem dX12_passes_13 : decode cX12_passes 13 = .ok (.iconst (-1), 1) := by decide +kernel
theorem dX12_passes_14 : decode cX12_passes 14 = .ok (.ireturn, 1) := by decide +kernel
theorem dX12_passes_15 : decode cX12_passes 15 = .ok (.iconst 0, 1) := by decide +kernel
theorem dX12_passes_16 : decode cX12_passes 16 = .ok (.istore_n 3, 1) := by decide +kernel
theorem dX12_passes_17 : decode cX12_passes 17 = .ok (.iconst 0, 1) := by decide +kernel
theorem dX12_passes_18 : decode cX12_passes 18 = .ok (.istore 4, 2) := by decide +kernel
theorem dX12_passes_20 : decode cX12_passes 20 = .ok (.iload 4, 2) := by decide +kernel
theorem dX12_passes_22 : decode cX12_passes 22 = .ok (.aload_n 0, 1) := by decide +kernel
theorem dX12_passes_23 : decode cX12_passes 23 = .ok (.getfield 19, 3) := by decide +kernel
theorem dX12_passes_26 : decode cX12_passes 26 = .ok (.invokevirtual 127, 3) := by decide +kernel
theorem dX12_passes_29 : decode cX12_passes 29 = .ok (.if_icmp .ge 34, 3) := by decide +kernel
theorem dX12_passes_32 : decode cX12_passes 32 = .ok (.iload_n 3, 1) := by decide +kernel
theorem dX12_passes_33 : decode cX12_passes 33 = .ok (.aload_n 0, 1) := by decide +kernel
theorem dX12_passes_34 : decode cX12_passes 34 = .ok (.getfield 40, 3) := by decide +kernel
theorem dX12_passes_37 : decode cX12_passes 37 = .ok (.iload_n 1, 1) := by decide +kernel
theorem dX12_passes_38 : decode cX12_passes 38 = .ok (.iload 4, 2) := by decide +kernel
theorem dX12_passes_40 : decode cX12_passes 40 = .ok (.iload_n 2, 1) := by decide +kernel
theorem dX12_passes_41 : decode cX12_passes 41 = .ok (.invokevirtual 194, 3) := by decide +kernel
theorem dX12_passes_44 : decode cX12_passes 44 = .ok (.ifCond .eq 10, 3) := by decide +kernel
theorem dX12_passes_47 : decode cX12_passes 47 = .ok (.iconst 1, 1) := by decide +kernel
theorem dX12_passes_48 : decode cX12_passes 48 = .ok (.iload 4, 2) := by decide +kernel
theorem dX12_passes_50 : decode cX12_passes 50 = .ok (.ishl, 1) := by decide +kernel
theorem dX12_passes_51 : decode cX12_passes 51 = .ok (.goto 4, 3) := by decide +kernel
theorem dX12_passes_54 : decode cX12_passes 54 = .ok (.iconst 0, 1) := by decide +kernel
theorem dX12_passes_55 : decode cX12_passes 55 = .ok (.ior, 1) := by decide +kernel
theorem dX12_passes_56 : decode cX12_passes 56 = .ok (.istore_n 3, 1) := by decide +kernel
theorem dX12_passes_57 : decode cX12_passes 57 = .ok (.iinc 4 1, 3) := by decide +kernel
theorem dX12_passes_60 : decode cX12_passes 60 = .ok (.goto (-40), 3) := by decide +kernel
theorem dX12_passes_63 : decode cX12_passes 63 = .ok (.iload_n 3, 1) := by decide +kernel
theorem dX12_passes_64 : decode cX12_passes 64 = .ok (.ireturn, 1) := by decide +kernel
theorem dX12_passedBy_0 : decode cX12_passedBy 0 = .ok (.aload_n 0, 1) := by decide +kernel
theorem dX12_passedBy_1 : decode cX12_passedBy 1 = .ok (.aload_n 0, 1) := by decide +kernel
theorem dX12_passedBy_2 : decode cX12_passedBy 2 = .ok (.iload_n 1, 1) := by decide +kernel
theorem dX12_passedBy_3 : decode cX12_passedBy 3 = .ok (.iload_n 2, 1) := by decide +kernel
theorem dX12_passedBy_4 : decode cX12_passedBy 4 = .ok (.invokevirtual 169, 3) := by decide +kernel
theorem dX12_passedBy_7 : decode cX12_passedBy 7 = .ok (.invokevirtual 98, 3) := by decide +kernel
theorem dX12_passedBy_10 : decode cX12_passedBy 10 = .ok (.ifCond .eq 5, 3) := by decide +kernel
theorem dX12_passedBy_13 : decode cX12_passedBy 13 = .ok (.iconst (-1), 1) := by decide +kernel
theorem dX12_passedBy_14 : decode cX12_passedBy 14 = .ok (.ireturn, 1) := by decide +kernel
theorem dX12_passedBy_15 : decode cX12_passedBy 15 = .ok (.iconst 0, 1) := by decide +kernel
theorem dX12_passedBy_16 : decode cX12_passedBy 16 = .ok (.istore_n 3, 1) := by decide +kernel
theorem dX12_passedBy_17 : decode cX12_passedBy 17 = .ok (.iconst 0, 1) := by decide +kernel
theorem dX12_passedBy_18 : decode cX12_passedBy 18 = .ok (.istore 4, 2) := by decide +kernel
theorem dX12_passedBy_20 : decode cX12_passedBy 20 = .ok (.iload 4, 2) := by decide +kernel
theorem dX12_passedBy_22 : decode cX12_passedBy 22 = .ok (.aload_n 0, 1) := by decide +kernel
theorem dX12_passedBy_23 : decode cX12_passedBy 23 = .ok (.getfield 19, 3) := by decide +kernel
theorem dX12_passedBy_26 : decode cX12_passedBy 26 = .ok (.invokevirtual 127, 3) := by decide +kernel
theorem dX12_passedBy_29 : decode cX12_passedBy 29 = .ok (.if_icmp .ge 34, 3) := by decide +kernel
theorem dX12_passedBy_32 : decode cX12_passedBy 32 = .ok (.iload_n 3, 1) := by decide +kernel
theorem dX12_passedBy_33 : decode cX12_passedBy 33 = .ok (.aload_n 0, 1) := by decide +kernel
theorem dX12_passedBy_34 : decode cX12_passedBy 34 = .ok (.getfield 40, 3) := by decide +kernel
theorem dX12_passedBy_37 : decode cX12_passedBy 37 = .ok (.iload 4, 2) := by decide +kernel
theorem dX12_passedBy_39 : decode cX12_passedBy 39 = .ok (.iload_n 1, 1) := by decide +kernel
theorem dX12_passedBy_40 : decode cX12_passedBy 40 = .ok (.iload_n 2, 1) := by decide +kernel
theorem dX12_passedBy_41 : decode cX12_passedBy 41 = .ok (.invokevirtual 194, 3) := by decide +kernel
theorem dX12_passedBy_44 : decode cX12_passedBy 44 = .ok (.ifCond .eq 10, 3) := by decide +kernel
theorem dX12_passedBy_47 : decode cX12_passedBy 47 = .ok (.iconst 1, 1) := by decide +kernel
theorem dX12_passedBy_48 : decode cX12_passedBy 48 = .ok (.iload 4, 2) := by decide +kernel
theorem dX12_passedBy_50 : decode cX12_passedBy 50 = .ok (.ishl, 1) := by decide +kernel
theorem dX12_passedBy_51 : decode cX12_passedBy 51 = .ok (.goto 4, 3) := by decide +kernel
theorem dX12_passedBy_54 : decode cX12_passedBy 54 = .ok (.iconst 0, 1) := by decide +kernel
theorem dX12_passedBy_55 : decode cX12_passedBy 55 = .ok (.ior, 1) := by decide +kernel
theorem dX12_passedBy_56 : decode cX12_passedBy 56 = .ok (.istore_n 3, 1) := by decide +kernel
theorem dX12_passedBy_57 : decode cX12_passedBy 57 = .ok (.iinc 4 1, 3) := by decide +kernel
theorem dX12_passedBy_60 : decode cX12_passedBy 60 = .ok (.goto (-40), 3) := by decide +kernel
theorem dX12_passedBy_63 : decode cX12_passedBy 63 = .ok (.iload_n 3, 1) := by decide +kernel
theorem dX12_passedBy_64 : decode cX12_passedBy 64 = .ok (.ireturn, 1) := by decide +kernel
theorem dX12_known_0 : decode cX12_known 0 = .ok (.aload_n 0, 1) := by decide +kernel
theorem dX12_known_1 : decode cX12_known 1 = .ok (.aload_n 0, 1) := by decide +kernel
theorem dX12_known_2 : decode cX12_known 2 = .ok (.iload_n 1, 1) := by decide +kernel
theorem dX12_known_3 : decode cX12_known 3 = .ok (.invokevirtual 157, 3) := by decide +kernel
theorem dX12_known_6 : decode cX12_known 6 = .ok (.invokevirtual 98, 3) := by decide +kernel
theorem dX12_known_9 : decode cX12_known 9 = .ok (.ifCond .eq 7, 3) := by decide +kernel
theorem dX12_known_12 : decode cX12_known 12 = .ok (.iconst (-1), 1) := by decide +kernel
theorem dX12_known_13 : decode cX12_known 13 = .ok (.goto 14, 3) := by decide +kernel
theorem dX12_known_16 : decode cX12_known 16 = .ok (.bipush 30, 2) := by decide +kernel
theorem dX12_known_18 : decode cX12_known 18 = .ok (.aload_n 0, 1) := by decide +kernel
theorem dX12_known_19 : decode cX12_known 19 = .ok (.getfield 40, 3) := by decide +kernel
theorem dX12_known_22 : decode cX12_known 22 = .ok (.iload_n 1, 1) := by decide +kernel
theorem dX12_known_23 : decode cX12_known 23 = .ok (.invokevirtual 198, 3) := by decide +kernel
theorem dX12_known_26 : decode cX12_known 26 = .ok (.isub, 1) := by decide +kernel
theorem dX12_known_27 : decode cX12_known 27 = .ok (.ireturn, 1) := by decide +kernel
theorem dX12_worst_0 : decode cX12_worst 0 = .ok (.aload_n 0, 1) := by decide +kernel
theorem dX12_worst_1 : decode cX12_worst 1 = .ok (.aload_n 0, 1) := by decide +kernel
theorem dX12_worst_2 : decode cX12_worst 2 = .ok (.iload_n 1, 1) := by decide +kernel
theorem dX12_worst_3 : decode cX12_worst 3 = .ok (.invokevirtual 175, 3) := by decide +kernel
theorem dX12_worst_6 : decode cX12_worst 6 = .ok (.invokevirtual 98, 3) := by decide +kernel
theorem dX12_worst_9 : decode cX12_worst 9 = .ok (.ifCond .eq 5, 3) := by decide +kernel
theorem dX12_worst_12 : decode cX12_worst 12 = .ok (.iconst (-1), 1) := by decide +kernel
theorem dX12_worst_13 : decode cX12_worst 13 = .ok (.ireturn, 1) := by decide +kernel
theorem dX12_worst_14 : decode cX12_worst 14 = .ok (.iconst 0, 1) := by decide +kernel
theorem dX12_worst_15 : decode cX12_worst 15 = .ok (.istore_n 2, 1) := by decide +kernel
theorem dX12_worst_16 : decode cX12_worst 16 = .ok (.iconst 1, 1) := by decide +kernel
theorem dX12_worst_17 : decode cX12_worst 17 = .ok (.istore_n 3, 1) := by decide +kernel
theorem dX12_worst_18 : decode cX12_worst 18 = .ok (.iload_n 3, 1) := by decide +kernel
theorem dX12_worst_19 : decode cX12_worst 19 = .ok (.aload_n 0, 1) := by decide +kernel
theorem dX12_worst_20 : decode cX12_worst 20 = .ok (.getfield 19, 3) := by decide +kernel
theorem dX12_worst_23 : decode cX12_worst 23 = .ok (.invokevirtual 127, 3) := by decide +kernel
theorem dX12_worst_26 : decode cX12_worst 26 = .ok (.if_icmp .ge 32, 3) := by decide +kernel
theorem dX12_worst_29 : decode cX12_worst 29 = .ok (.aload_n 0, 1) := by decide +kernel
theorem dX12_worst_30 : decode cX12_worst 30 = .ok (.getfield 40, 3) := by decide +kernel
theorem dX12_worst_33 : decode cX12_worst 33 = .ok (.iload_n 3, 1) := by decide +kernel
theorem dX12_worst_34 : decode cX12_worst 34 = .ok (.iload_n 1, 1) := by decide +kernel
theorem dX12_worst_35 : decode cX12_worst 35 = .ok (.invokevirtual 184, 3) := by decide +kernel
theorem dX12_worst_38 : decode cX12_worst 38 = .ok (.aload_n 0, 1) := by decide +kernel
theorem dX12_worst_39 : decode cX12_worst 39 = .ok (.getfield 40, 3) := by decide +kernel
theorem dX12_worst_42 : decode cX12_worst 42 = .ok (.iload_n 2, 1) := by decide +kernel
theorem dX12_worst_43 : decode cX12_worst 43 = .ok (.iload_n 1, 1) := by decide +kernel
theorem dX12_worst_44 : decode cX12_worst 44 = .ok (.invokevirtual 184, 3) := by decide +kernel
theorem dX12_worst_47 : decode cX12_worst 47 = .ok (.if_icmp .le 5, 3) := by decide +kernel
theorem dX12_worst_50 : decode cX12_worst 50 = .ok (.iload_n 3, 1) := by decide +kernel
theorem dX12_worst_51 : decode cX12_worst 51 = .ok (.istore_n 2, 1) := by decide +kernel
theorem dX12_worst_52 : decode cX12_worst 52 = .ok (.iinc 3 1, 3) := by decide +kernel
theorem dX12_worst_55 : decode cX12_worst 55 = .ok (.goto (-37), 3) := by decide +kernel
theorem dX12_worst_58 : decode cX12_worst 58 = .ok (.iload_n 2, 1) := by decide +kernel
theorem dX12_worst_59 : decode cX12_worst 59 = .ok (.ireturn, 1) := by decide +kernel
theorem dX12_doubles_0 : decode cX12_doubles 0 = .ok (.aload_n 0, 1) := by decide +kernel
theorem dX12_doubles_1 : decode cX12_doubles 1 = .ok (.aload_n 0, 1) := by decide +kernel
theorem dX12_doubles_2 : decode cX12_doubles 2 = .ok (.iload_n 1, 1) := by decide +kernel
theorem dX12_doubles_3 : decode cX12_doubles 3 = .ok (.invokevirtual 175, 3) := by decide +kernel
theorem dX12_doubles_6 : decode cX12_doubles 6 = .ok (.invokevirtual 98, 3) := by decide +kernel
theorem dX12_doubles_9 : decode cX12_doubles 9 = .ok (.ifCond .eq 5, 3) := by decide +kernel
theorem dX12_doubles_12 : decode cX12_doubles 12 = .ok (.iconst (-1), 1) := by decide +kernel
theorem dX12_doubles_13 : decode cX12_doubles 13 = .ok (.ireturn, 1) := by decide +kernel
theorem dX12_doubles_14 : decode cX12_doubles 14 = .ok (.iconst 0, 1) := by decide +kernel
theorem dX12_doubles_15 : decode cX12_doubles 15 = .ok (.istore_n 2, 1) := by decide +kernel
theorem dX12_doubles_16 : decode cX12_doubles 16 = .ok (.iconst 0, 1) := by decide +kernel
theorem dX12_doubles_17 : decode cX12_doubles 17 = .ok (.istore_n 3, 1) := by decide +kernel
theorem dX12_doubles_18 : decode cX12_doubles 18 = .ok (.iload_n 3, 1) := by decide +kernel
theorem dX12_doubles_19 : decode cX12_doubles 19 = .ok (.aload_n 0, 1) := by decide +kernel
theorem dX12_doubles_20 : decode cX12_doubles 20 = .ok (.getfield 19, 3) := by decide +kernel
theorem dX12_doubles_23 : decode cX12_doubles 23 = .ok (.invokevirtual 127, 3) := by decide +kernel
theorem dX12_doubles_26 : decode cX12_doubles 26 = .ok (.if_icmp .ge 52, 3) := by decide +kernel
theorem dX12_doubles_29 : decode cX12_doubles 29 = .ok (.iconst 0, 1) := by decide +kernel
theorem dX12_doubles_30 : decode cX12_doubles 30 = .ok (.istore 4, 2) := by decide +kernel
theorem dX12_doubles_32 : decode cX12_doubles 32 = .ok (.iload 4, 2) := by decide +kernel
theorem dX12_doubles_34 : decode cX12_doubles 34 = .ok (.aload_n 0, 1) := by decide +kernel
theorem dX12_doubles_35 : decode cX12_doubles 35 = .ok (.getfield 19, 3) := by decide +kernel
theorem dX12_doubles_38 : decode cX12_doubles 38 = .ok (.invokevirtual 127, 3) := by decide +kernel
theorem dX12_doubles_41 : decode cX12_doubles 41 = .ok (.if_icmp .ge 31, 3) := by decide +kernel
theorem dX12_doubles_44 : decode cX12_doubles 44 = .ok (.iload_n 2, 1) := by decide +kernel
theorem dX12_doubles_45 : decode cX12_doubles 45 = .ok (.aload_n 0, 1) := by decide +kernel
theorem dX12_doubles_46 : decode cX12_doubles 46 = .ok (.getfield 40, 3) := by decide +kernel
theorem dX12_doubles_49 : decode cX12_doubles 49 = .ok (.iload_n 3, 1) := by decide +kernel
theorem dX12_doubles_50 : decode cX12_doubles 50 = .ok (.iload 4, 2) := by decide +kernel
theorem dX12_doubles_52 : decode cX12_doubles 52 = .ok (.iload_n 1, 1) := by decide +kernel
theorem dX12_doubles_53 : decode cX12_doubles 53 = .ok (.invokevirtual 194, 3) := by decide +kernel
theorem dX12_doubles_56 : decode cX12_doubles 56 = .ok (.ifCond .eq 7, 3) := by decide +kernel
theorem dX12_doubles_59 : decode cX12_doubles 59 = .ok (.iconst 1, 1) := by decide +kernel
theorem dX12_doubles_60 : decode cX12_doubles 60 = .ok (.goto 4, 3) := by decide +kernel
theorem dX12_doubles_63 : decode cX12_doubles 63 = .ok (.iconst 0, 1) := by decide +kernel
theorem dX12_doubles_64 : decode cX12_doubles 64 = .ok (.iadd, 1) := by decide +kernel
theorem dX12_doubles_65 : decode cX12_doubles 65 = .ok (.istore_n 2, 1) := by decide +kernel
theorem dX12_doubles_66 : decode cX12_doubles 66 = .ok (.iinc 4 1, 3) := by decide +kernel
theorem dX12_doubles_69 : decode cX12_doubles 69 = .ok (.goto (-37), 3) := by decide +kernel
theorem dX12_doubles_72 : decode cX12_doubles 72 = .ok (.iinc 3 1, 3) := by decide +kernel
theorem dX12_doubles_75 : decode cX12_doubles 75 = .ok (.goto (-57), 3) := by decide +kernel
theorem dX12_doubles_78 : decode cX12_doubles 78 = .ok (.iload_n 2, 1) := by decide +kernel
theorem dX12_doubles_79 : decode cX12_doubles 79 = .ok (.ireturn, 1) := by decide +kernel
theorem dX12_twins_0 : decode cX12_twins 0 = .ok (.aload_n 0, 1) := by decide +kernel
theorem dX12_twins_1 : decode cX12_twins 1 = .ok (.aload_n 0, 1) := by decide +kernel
theorem dX12_twins_2 : decode cX12_twins 2 = .ok (.invokevirtual 201, 3) := by decide +kernel
theorem dX12_twins_5 : decode cX12_twins 5 = .ok (.invokevirtual 98, 3) := by decide +kernel
theorem dX12_twins_8 : decode cX12_twins 8 = .ok (.ifCond .eq 5, 3) := by decide +kernel
theorem dX12_twins_11 : decode cX12_twins 11 = .ok (.iconst (-1), 1) := by decide +kernel
theorem dX12_twins_12 : decode cX12_twins 12 = .ok (.ireturn, 1) := by decide +kernel
theorem dX12_twins_13 : decode cX12_twins 13 = .ok (.iconst 0, 1) := by decide +kernel
theorem dX12_twins_14 : decode cX12_twins 14 = .ok (.istore_n 1, 1) := by decide +kernel
theorem dX12_twins_15 : decode cX12_twins 15 = .ok (.iload_n 1, 1) := by decide +kernel
theorem dX12_twins_16 : decode cX12_twins 16 = .ok (.bipush 30, 2) := by decide +kernel
theorem dX12_twins_18 : decode cX12_twins 18 = .ok (.if_icmp .ge 22, 3) := by decide +kernel
theorem dX12_twins_21 : decode cX12_twins 21 = .ok (.aload_n 0, 1) := by decide +kernel
theorem dX12_twins_22 : decode cX12_twins 22 = .ok (.getfield 40, 3) := by decide +kernel
theorem dX12_twins_25 : decode cX12_twins 25 = .ok (.iload_n 1, 1) := by decide +kernel
theorem dX12_twins_26 : decode cX12_twins 26 = .ok (.invokevirtual 204, 3) := by decide +kernel
theorem dX12_twins_29 : decode cX12_twins 29 = .ok (.ifCond .eq 5, 3) := by decide +kernel
theorem dX12_twins_32 : decode cX12_twins 32 = .ok (.iload_n 1, 1) := by decide +kernel
theorem dX12_twins_33 : decode cX12_twins 33 = .ok (.ireturn, 1) := by decide +kernel
theorem dX12_twins_34 : decode cX12_twins 34 = .ok (.iinc 1 1, 3) := by decide +kernel
theorem dX12_twins_37 : decode cX12_twins 37 = .ok (.goto (-22), 3) := by decide +kernel
theorem dX12_twins_40 : decode cX12_twins 40 = .ok (.bipush (-2), 2) := by decide +kernel
theorem dX12_twins_42 : decode cX12_twins 42 = .ok (.ireturn, 1) := by decide +kernel
theorem dX12_holds_0 : decode cX12_holds 0 = .ok (.aload_n 0, 1) := by decide +kernel
theorem dX12_holds_1 : decode cX12_holds 1 = .ok (.aload_n 0, 1) := by decide +kernel
theorem dX12_holds_2 : decode cX12_holds 2 = .ok (.invokevirtual 201, 3) := by decide +kernel
theorem dX12_holds_5 : decode cX12_holds 5 = .ok (.invokevirtual 98, 3) := by decide +kernel
theorem dX12_holds_8 : decode cX12_holds 8 = .ok (.ifCond .eq 7, 3) := by decide +kernel
theorem dX12_holds_11 : decode cX12_holds 11 = .ok (.iconst (-1), 1) := by decide +kernel
theorem dX12_holds_12 : decode cX12_holds 12 = .ok (.goto 10, 3) := by decide +kernel
theorem dX12_holds_15 : decode cX12_holds 15 = .ok (.aload_n 0, 1) := by decide +kernel
theorem dX12_holds_16 : decode cX12_holds 16 = .ok (.getfield 40, 3) := by decide +kernel
theorem dX12_holds_19 : decode cX12_holds 19 = .ok (.invokevirtual 207, 3) := by decide +kernel
theorem dX12_holds_22 : decode cX12_holds 22 = .ok (.ireturn, 1) := by decide +kernel
theorem dX12_fewest_0 : decode cX12_fewest 0 = .ok (.aload_n 0, 1) := by decide +kernel
theorem dX12_fewest_1 : decode cX12_fewest 1 = .ok (.aload_n 0, 1) := by decide +kernel
theorem dX12_fewest_2 : decode cX12_fewest 2 = .ok (.invokevirtual 201, 3) := by decide +kernel
theorem dX12_fewest_5 : decode cX12_fewest 5 = .ok (.invokevirtual 98, 3) := by decide +kernel
theorem dX12_fewest_8 : decode cX12_fewest 8 = .ok (.ifCond .eq 5, 3) := by decide +kernel
theorem dX12_fewest_11 : decode cX12_fewest 11 = .ok (.iconst (-1), 1) := by decide +kernel
theorem dX12_fewest_12 : decode cX12_fewest 12 = .ok (.ireturn, 1) := by decide +kernel
theorem dX12_fewest_13 : decode cX12_fewest 13 = .ok (.aload_n 0, 1) := by decide +kernel
theorem dX12_fewest_14 : decode cX12_fewest 14 = .ok (.getfield 61, 3) := by decide +kernel
theorem dX12_fewest_17 : decode cX12_fewest 17 = .ok (.aload_n 0, 1) := by decide +kernel
theorem dX12_fewest_18 : decode cX12_fewest 18 = .ok (.getfield 40, 3) := by decide +kernel
theorem dX12_fewest_21 : decode cX12_fewest 21 = .ok (.invokevirtual 210, 3) := by decide +kernel
theorem dX12_fewest_24 : decode cX12_fewest 24 = .ok (.aload_n 0, 1) := by decide +kernel
theorem dX12_fewest_25 : decode cX12_fewest 25 = .ok (.getfield 61, 3) := by decide +kernel
theorem dX12_fewest_28 : decode cX12_fewest 28 = .ok (.getfield 214, 3) := by decide +kernel
theorem dX12_fewest_31 : decode cX12_fewest 31 = .ok (.ireturn, 1) := by decide +kernel
theorem dX12_fewestAt_0 : decode cX12_fewestAt 0 = .ok (.aload_n 0, 1) := by decide +kernel
theorem dX12_fewestAt_1 : decode cX12_fewestAt 1 = .ok (.aload_n 0, 1) := by decide +kernel
theorem dX12_fewestAt_2 : decode cX12_fewestAt 2 = .ok (.invokevirtual 201, 3) := by decide +kernel
theorem dX12_fewestAt_5 : decode cX12_fewestAt 5 = .ok (.invokevirtual 98, 3) := by decide +kernel
theorem dX12_fewestAt_8 : decode cX12_fewestAt 8 = .ok (.ifCond .eq 5, 3) := by decide +kernel
theorem dX12_fewestAt_11 : decode cX12_fewestAt 11 = .ok (.iconst (-1), 1) := by decide +kernel
theorem dX12_fewestAt_12 : decode cX12_fewestAt 12 = .ok (.ireturn, 1) := by decide +kernel
theorem dX12_fewestAt_13 : decode cX12_fewestAt 13 = .ok (.aload_n 0, 1) := by decide +kernel
theorem dX12_fewestAt_14 : decode cX12_fewestAt 14 = .ok (.getfield 61, 3) := by decide +kernel
theorem dX12_fewestAt_17 : decode cX12_fewestAt 17 = .ok (.aload_n 0, 1) := by decide +kernel
theorem dX12_fewestAt_18 : decode cX12_fewestAt 18 = .ok (.getfield 40, 3) := by decide +kernel
theorem dX12_fewestAt_21 : decode cX12_fewestAt 21 = .ok (.invokevirtual 210, 3) := by decide +kernel
theorem dX12_fewestAt_24 : decode cX12_fewestAt 24 = .ok (.aload_n 0, 1) := by decide +kernel
theorem dX12_fewestAt_25 : decode cX12_fewestAt 25 = .ok (.aload_n 0, 1) := by decide +kernel
theorem dX12_fewestAt_26 : decode cX12_fewestAt 26 = .ok (.getfield 61, 3) := by decide +kernel
theorem dX12_fewestAt_29 : decode cX12_fewestAt 29 = .ok (.getfield 214, 3) := by decide +kernel
theorem dX12_fewestAt_32 : decode cX12_fewestAt 32 = .ok (.ifCond .ge 8, 3) := by decide +kernel
theorem dX12_fewestAt_35 : decode cX12_fewestAt 35 = .ok (.bipush 6, 2) := by decide +kernel
theorem dX12_fewestAt_37 : decode cX12_fewestAt 37 = .ok (.goto 22, 3) := by decide +kernel
theorem dX12_fewestAt_40 : decode cX12_fewestAt 40 = .ok (.iload_n 1, 1) := by decide +kernel
theorem dX12_fewestAt_41 : decode cX12_fewestAt 41 = .ok (.aload_n 0, 1) := by decide +kernel
theorem dX12_fewestAt_42 : decode cX12_fewestAt 42 = .ok (.getfield 61, 3) := by decide +kernel
theorem dX12_fewestAt_45 : decode cX12_fewestAt 45 = .ok (.getfield 214, 3) := by decide +kernel
theorem dX12_fewestAt_48 : decode cX12_fewestAt 48 = .ok (.invokestatic 215, 3) := by decide +kernel
theorem dX12_fewestAt_51 : decode cX12_fewestAt 51 = .ok (.ifCond .eq 7, 3) := by decide +kernel
theorem dX12_fewestAt_54 : decode cX12_fewestAt 54 = .ok (.iconst 0, 1) := by decide +kernel
theorem dX12_fewestAt_55 : decode cX12_fewestAt 55 = .ok (.goto 4, 3) := by decide +kernel
theorem dX12_fewestAt_58 : decode cX12_fewestAt 58 = .ok (.iconst 1, 1) := by decide +kernel
theorem dX12_fewestAt_59 : decode cX12_fewestAt 59 = .ok (.invokevirtual 98, 3) := by decide +kernel
theorem dX12_fewestAt_62 : decode cX12_fewestAt 62 = .ok (.ifCond .eq 5, 3) := by decide +kernel
theorem dX12_fewestAt_65 : decode cX12_fewestAt 65 = .ok (.iconst (-1), 1) := by decide +kernel
theorem dX12_fewestAt_66 : decode cX12_fewestAt 66 = .ok (.ireturn, 1) := by decide +kernel
theorem dX12_fewestAt_67 : decode cX12_fewestAt 67 = .ok (.aload_n 0, 1) := by decide +kernel
theorem dX12_fewestAt_68 : decode cX12_fewestAt 68 = .ok (.getfield 61, 3) := by decide +kernel
theorem dX12_fewestAt_71 : decode cX12_fewestAt 71 = .ok (.getfield 218, 3) := by decide +kernel
theorem dX12_fewestAt_74 : decode cX12_fewestAt 74 = .ok (.iload_n 1, 1) := by decide +kernel
theorem dX12_fewestAt_75 : decode cX12_fewestAt 75 = .ok (.invokestatic 165, 3) := by decide +kernel
theorem dX12_fewestAt_78 : decode cX12_fewestAt 78 = .ok (.ireturn, 1) := by decide +kernel
theorem dX12_ring_0 : decode cX12_ring 0 = .ok (.aload_n 0, 1) := by decide +kernel
theorem dX12_ring_1 : decode cX12_ring 1 = .ok (.aload_n 0, 1) := by decide +kernel
theorem dX12_ring_2 : decode cX12_ring 2 = .ok (.iload_n 1, 1) := by decide +kernel
theorem dX12_ring_3 : decode cX12_ring 3 = .ok (.invokevirtual 157, 3) := by decide +kernel
theorem dX12_ring_6 : decode cX12_ring 6 = .ok (.invokevirtual 98, 3) := by decide +kernel
theorem dX12_ring_9 : decode cX12_ring 9 = .ok (.ifCond .eq 5, 3) := by decide +kernel
theorem dX12_ring_12 : decode cX12_ring 12 = .ok (.iconst (-1), 1) := by decide +kernel
theorem dX12_ring_13 : decode cX12_ring 13 = .ok (.ireturn, 1) := by decide +kernel
theorem dX12_ring_14 : decode cX12_ring 14 = .ok (.aload_n 0, 1) := by decide +kernel
theorem dX12_ring_15 : decode cX12_ring 15 = .ok (.getfield 68, 3) := by decide +kernel
theorem dX12_ring_18 : decode cX12_ring 18 = .ok (.aload_n 0, 1) := by decide +kernel
theorem dX12_ring_19 : decode cX12_ring 19 = .ok (.getfield 40, 3) := by decide +kernel
theorem dX12_ring_22 : decode cX12_ring 22 = .ok (.invokevirtual 221, 3) := by decide +kernel
theorem dX12_ring_25 : decode cX12_ring 25 = .ok (.aload_n 0, 1) := by decide +kernel
theorem dX12_ring_26 : decode cX12_ring 26 = .ok (.getfield 68, 3) := by decide +kernel
theorem dX12_ring_29 : decode cX12_ring 29 = .ok (.getfield 224, 3) := by decide +kernel
theorem dX12_ring_32 : decode cX12_ring 32 = .ok (.iload_n 1, 1) := by decide +kernel
theorem dX12_ring_33 : decode cX12_ring 33 = .ok (.invokestatic 165, 3) := by decide +kernel
theorem dX12_ring_36 : decode cX12_ring 36 = .ok (.ireturn, 1) := by decide +kernel
theorem dX12_changed_0 : decode cX12_changed 0 = .ok (.aload_n 0, 1) := by decide +kernel
theorem dX12_changed_1 : decode cX12_changed 1 = .ok (.aload_n 0, 1) := by decide +kernel
theorem dX12_changed_2 : decode cX12_changed 2 = .ok (.invokevirtual 201, 3) := by decide +kernel
theorem dX12_changed_5 : decode cX12_changed 5 = .ok (.invokevirtual 98, 3) := by decide +kernel
theorem dX12_changed_8 : decode cX12_changed 8 = .ok (.ifCond .eq 5, 3) := by decide +kernel
theorem dX12_changed_11 : decode cX12_changed 11 = .ok (.iconst (-1), 1) := by decide +kernel
theorem dX12_changed_12 : decode cX12_changed 12 = .ok (.ireturn, 1) := by decide +kernel
theorem dX12_changed_13 : decode cX12_changed 13 = .ok (.aload_n 0, 1) := by decide +kernel
theorem dX12_changed_14 : decode cX12_changed 14 = .ok (.getfield 68, 3) := by decide +kernel
theorem dX12_changed_17 : decode cX12_changed 17 = .ok (.aload_n 0, 1) := by decide +kernel
theorem dX12_changed_18 : decode cX12_changed 18 = .ok (.getfield 40, 3) := by decide +kernel
theorem dX12_changed_21 : decode cX12_changed 21 = .ok (.invokevirtual 221, 3) := by decide +kernel
theorem dX12_changed_24 : decode cX12_changed 24 = .ok (.iconst 0, 1) := by decide +kernel
theorem dX12_changed_25 : decode cX12_changed 25 = .ok (.istore_n 1, 1) := by decide +kernel
theorem dX12_changed_26 : decode cX12_changed 26 = .ok (.iconst 0, 1) := by decide +kernel
theorem dX12_changed_27 : decode cX12_changed 27 = .ok (.istore_n 2, 1) := by decide +kernel
theorem dX12_changed_28 : decode cX12_changed 28 = .ok (.iload_n 2, 1) := by decide +kernel
theorem dX12_changed_29 : decode cX12_changed 29 = .ok (.aload_n 0, 1) := by decide +kernel
theorem dX12_changed_30 : decode cX12_changed 30 = .ok (.getfield 19, 3) := by decide +kernel
theorem dX12_changed_33 : decode cX12_changed 33 = .ok (.invokevirtual 127, 3) := by decide +kernel
theorem dX12_changed_36 : decode cX12_changed 36 = .ok (.if_icmp .ge 42, 3) := by decide +kernel
theorem dX12_changed_39 : decode cX12_changed 39 = .ok (.iload_n 1, 1) := by decide +kernel
theorem dX12_changed_40 : decode cX12_changed 40 = .ok (.aload_n 0, 1) := by decide +kernel
theorem dX12_changed_41 : decode cX12_changed 41 = .ok (.getfield 68, 3) := by decide +kernel
theorem dX12_changed_44 : decode cX12_changed 44 = .ok (.getfield 224, 3) := by decide +kernel
theorem dX12_changed_47 : decode cX12_changed 47 = .ok (.iload_n 2, 1) := by decide +kernel
theorem dX12_changed_48 : decode cX12_changed 48 = .ok (.invokestatic 165, 3) := by decide +kernel
theorem dX12_changed_51 : decode cX12_changed 51 = .ok (.aload_n 0, 1) := by decide +kernel
theorem dX12_changed_52 : decode cX12_changed 52 = .ok (.getfield 68, 3) := by decide +kernel
theorem dX12_changed_55 : decode cX12_changed 55 = .ok (.getfield 227, 3) := by decide +kernel
theorem dX12_changed_58 : decode cX12_changed 58 = .ok (.iload_n 2, 1) := by decide +kernel
theorem dX12_changed_59 : decode cX12_changed 59 = .ok (.invokestatic 165, 3) := by decide +kernel
theorem dX12_changed_62 : decode cX12_changed 62 = .ok (.if_icmp .eq 7, 3) := by decide +kernel
theorem dX12_changed_65 : decode cX12_changed 65 = .ok (.iconst 1, 1) := by decide +kernel
theorem dX12_changed_66 : decode cX12_changed 66 = .ok (.goto 4, 3) := by decide +kernel
theorem dX12_changed_69 : decode cX12_changed 69 = .ok (.iconst 0, 1) := by decide +kernel
theorem dX12_changed_70 : decode cX12_changed 70 = .ok (.iadd, 1) := by decide +kernel
theorem dX12_changed_71 : decode cX12_changed 71 = .ok (.istore_n 1, 1) := by decide +kernel
theorem dX12_changed_72 : decode cX12_changed 72 = .ok (.iinc 2 1, 3) := by decide +kernel
theorem dX12_changed_75 : decode cX12_changed 75 = .ok (.goto (-47), 3) := by decide +kernel
theorem dX12_changed_78 : decode cX12_changed 78 = .ok (.iload_n 1, 1) := by decide +kernel
theorem dX12_changed_79 : decode cX12_changed 79 = .ok (.ireturn, 1) := by decide +kernel
theorem dX12_bestDay_0 : decode cX12_bestDay 0 = .ok (.aload_n 0, 1) := by decide +kernel
theorem dX12_bestDay_1 : decode cX12_bestDay 1 = .ok (.aload_n 0, 1) := by decide +kernel
theorem dX12_bestDay_2 : decode cX12_bestDay 2 = .ok (.iload_n 1, 1) := by decide +kernel
theorem dX12_bestDay_3 : decode cX12_bestDay 3 = .ok (.invokevirtual 157, 3) := by decide +kernel
theorem dX12_bestDay_6 : decode cX12_bestDay 6 = .ok (.invokevirtual 98, 3) := by decide +kernel
theorem dX12_bestDay_9 : decode cX12_bestDay 9 = .ok (.ifCond .eq 5, 3) := by decide +kernel
theorem dX12_bestDay_12 : decode cX12_bestDay 12 = .ok (.iconst (-1), 1) := by decide +kernel
theorem dX12_bestDay_13 : decode cX12_bestDay 13 = .ok (.ireturn, 1) := by decide +kernel
theorem dX12_bestDay_14 : decode cX12_bestDay 14 = .ok (.aload_n 0, 1) := by decide +kernel
theorem dX12_bestDay_15 : decode cX12_bestDay 15 = .ok (.getfield 44, 3) := by decide +kernel
theorem dX12_bestDay_18 : decode cX12_bestDay 18 = .ok (.aload_n 0, 1) := by decide +kernel
theorem dX12_bestDay_19 : decode cX12_bestDay 19 = .ok (.getfield 40, 3) := by decide +kernel
theorem dX12_bestDay_22 : decode cX12_bestDay 22 = .ok (.invokevirtual 230, 3) := by decide +kernel
theorem dX12_bestDay_25 : decode cX12_bestDay 25 = .ok (.bipush (-2), 2) := by decide +kernel
theorem dX12_bestDay_27 : decode cX12_bestDay 27 = .ok (.istore_n 2, 1) := by decide +kernel
theorem dX12_bestDay_28 : decode cX12_bestDay 28 = .ok (.iconst (-1), 1) := by decide +kernel
theorem dX12_bestDay_29 : decode cX12_bestDay 29 = .ok (.istore_n 3, 1) := by decide +kernel
theorem dX12_bestDay_30 : decode cX12_bestDay 30 = .ok (.iconst 0, 1) := by decide +kernel
theorem dX12_bestDay_31 : decode cX12_bestDay 31 = .ok (.istore 4, 2) := by decide +kernel
theorem dX12_bestDay_33 : decode cX12_bestDay 33 = .ok (.iload 4, 2) := by decide +kernel
theorem dX12_bestDay_35 : decode cX12_bestDay 35 = .ok (.bipush 30, 2) := by decide +kernel
theorem dX12_bestDay_37 : decode cX12_bestDay 37 = .ok (.if_icmp .ge 71, 3) := by decide +kernel
theorem dX12_bestDay_40 : decode cX12_bestDay 40 = .ok (.aload_n 0, 1) := by decide +kernel
theorem dX12_bestDay_41 : decode cX12_bestDay 41 = .ok (.getfield 40, 3) := by decide +kernel
theorem dX12_bestDay_44 : decode cX12_bestDay 44 = .ok (.iload 4, 2) := by decide +kernel
theorem dX12_bestDay_46 : decode cX12_bestDay 46 = .ok (.invokevirtual 233, 3) := by decide +kernel
theorem dX12_bestDay_49 : decode cX12_bestDay 49 = .ok (.ifCond .eq 53, 3) := by decide +kernel
theorem dX12_bestDay_52 : decode cX12_bestDay 52 = .ok (.aload_n 0, 1) := by decide +kernel
theorem dX12_bestDay_53 : decode cX12_bestDay 53 = .ok (.getfield 44, 3) := by decide +kernel
theorem dX12_bestDay_56 : decode cX12_bestDay 56 = .ok (.iload 4, 2) := by decide +kernel
theorem dX12_bestDay_58 : decode cX12_bestDay 58 = .ok (.iload_n 1, 1) := by decide +kernel
theorem dX12_bestDay_59 : decode cX12_bestDay 59 = .ok (.invokevirtual 236, 3) := by decide +kernel
theorem dX12_bestDay_62 : decode cX12_bestDay 62 = .ok (.aload_n 0, 1) := by decide +kernel
theorem dX12_bestDay_63 : decode cX12_bestDay 63 = .ok (.getfield 44, 3) := by decide +kernel
theorem dX12_bestDay_66 : decode cX12_bestDay 66 = .ok (.invokevirtual 240, 3) := by decide +kernel
theorem dX12_bestDay_69 : decode cX12_bestDay 69 = .ok (.istore 5, 2) := by decide +kernel
theorem dX12_bestDay_71 : decode cX12_bestDay 71 = .ok (.aload_n 0, 1) := by decide +kernel
theorem dX12_bestDay_72 : decode cX12_bestDay 72 = .ok (.getfield 44, 3) := by decide +kernel
theorem dX12_bestDay_75 : decode cX12_bestDay 75 = .ok (.iload 4, 2) := by decide +kernel
theorem dX12_bestDay_77 : decode cX12_bestDay 77 = .ok (.bipush (-2), 2) := by decide +kernel
theorem dX12_bestDay_79 : decode cX12_bestDay 79 = .ok (.invokevirtual 236, 3) := by decide +kernel
theorem dX12_bestDay_82 : decode cX12_bestDay 82 = .ok (.iload 5, 2) := by decide +kernel
theorem dX12_bestDay_84 : decode cX12_bestDay 84 = .ok (.iload_n 3, 1) := by decide +kernel
theorem dX12_bestDay_85 : decode cX12_bestDay 85 = .ok (.if_icmp .le 8, 3) := by decide +kernel
theorem dX12_bestDay_88 : decode cX12_bestDay 88 = .ok (.iload 4, 2) := by decide +kernel
theorem dX12_bestDay_90 : decode cX12_bestDay 90 = .ok (.goto 4, 3) := by decide +kernel
theorem dX12_bestDay_93 : decode cX12_bestDay 93 = .ok (.iload_n 2, 1) := by decide +kernel
theorem dX12_bestDay_94 : decode cX12_bestDay 94 = .ok (.istore_n 2, 1) := by decide +kernel
theorem dX12_bestDay_95 : decode cX12_bestDay 95 = .ok (.iload 5, 2) := by decide +kernel
theorem dX12_bestDay_97 : decode cX12_bestDay 97 = .ok (.iload_n 3, 1) := by decide +kernel
theorem dX12_bestDay_98 : decode cX12_bestDay 98 = .ok (.invokestatic 243, 3) := by decide +kernel
theorem dX12_bestDay_101 : decode cX12_bestDay 101 = .ok (.istore_n 3, 1) := by decide +kernel
theorem dX12_bestDay_102 : decode cX12_bestDay 102 = .ok (.iinc 4 1, 3) := by decide +kernel
theorem dX12_bestDay_105 : decode cX12_bestDay 105 = .ok (.goto (-72), 3) := by decide +kernel
theorem dX12_bestDay_108 : decode cX12_bestDay 108 = .ok (.iload_n 2, 1) := by decide +kernel
theorem dX12_bestDay_109 : decode cX12_bestDay 109 = .ok (.ireturn, 1) := by decide +kernel
theorem dX12_idle_0 : decode cX12_idle 0 = .ok (.aload_n 0, 1) := by decide +kernel
theorem dX12_idle_1 : decode cX12_idle 1 = .ok (.aload_n 0, 1) := by decide +kernel
theorem dX12_idle_2 : decode cX12_idle 2 = .ok (.invokevirtual 201, 3) := by decide +kernel
theorem dX12_idle_5 : decode cX12_idle 5 = .ok (.invokevirtual 98, 3) := by decide +kernel
theorem dX12_idle_8 : decode cX12_idle 8 = .ok (.ifCond .eq 5, 3) := by decide +kernel
theorem dX12_idle_11 : decode cX12_idle 11 = .ok (.iconst (-1), 1) := by decide +kernel
theorem dX12_idle_12 : decode cX12_idle 12 = .ok (.ireturn, 1) := by decide +kernel
theorem dX12_idle_13 : decode cX12_idle 13 = .ok (.aload_n 0, 1) := by decide +kernel
theorem dX12_idle_14 : decode cX12_idle 14 = .ok (.getfield 44, 3) := by decide +kernel
theorem dX12_idle_17 : decode cX12_idle 17 = .ok (.aload_n 0, 1) := by decide +kernel
theorem dX12_idle_18 : decode cX12_idle 18 = .ok (.getfield 40, 3) := by decide +kernel
theorem dX12_idle_21 : decode cX12_idle 21 = .ok (.invokevirtual 230, 3) := by decide +kernel
theorem dX12_idle_24 : decode cX12_idle 24 = .ok (.aload_n 0, 1) := by decide +kernel
theorem dX12_idle_25 : decode cX12_idle 25 = .ok (.getfield 40, 3) := by decide +kernel
theorem dX12_idle_28 : decode cX12_idle 28 = .ok (.invokevirtual 240, 3) := by decide +kernel
theorem dX12_idle_31 : decode cX12_idle 31 = .ok (.istore_n 1, 1) := by decide +kernel
theorem dX12_idle_32 : decode cX12_idle 32 = .ok (.iconst 0, 1) := by decide +kernel
theorem dX12_idle_33 : decode cX12_idle 33 = .ok (.istore_n 2, 1) := by decide +kernel
theorem dX12_idle_34 : decode cX12_idle 34 = .ok (.iconst 0, 1) := by decide +kernel
theorem dX12_idle_35 : decode cX12_idle 35 = .ok (.istore_n 3, 1) := by decide +kernel
theorem dX12_idle_36 : decode cX12_idle 36 = .ok (.iload_n 3, 1) := by decide +kernel
theorem dX12_idle_37 : decode cX12_idle 37 = .ok (.bipush 30, 2) := by decide +kernel
theorem dX12_idle_39 : decode cX12_idle 39 = .ok (.if_icmp .ge 67, 3) := by decide +kernel
theorem dX12_idle_42 : decode cX12_idle 42 = .ok (.aload_n 0, 1) := by decide +kernel
theorem dX12_idle_43 : decode cX12_idle 43 = .ok (.getfield 40, 3) := by decide +kernel
theorem dX12_idle_46 : decode cX12_idle 46 = .ok (.iload_n 3, 1) := by decide +kernel
theorem dX12_idle_47 : decode cX12_idle 47 = .ok (.invokevirtual 248, 3) := by decide +kernel
theorem dX12_idle_50 : decode cX12_idle 50 = .ok (.ifCond .eq 50, 3) := by decide +kernel
theorem dX12_idle_53 : decode cX12_idle 53 = .ok (.aload_n 0, 1) := by decide +kernel
theorem dX12_idle_54 : decode cX12_idle 54 = .ok (.getfield 44, 3) := by decide +kernel
theorem dX12_idle_57 : decode cX12_idle 57 = .ok (.iload_n 3, 1) := by decide +kernel
theorem dX12_idle_58 : decode cX12_idle 58 = .ok (.bipush (-2), 2) := by decide +kernel
theorem dX12_idle_60 : decode cX12_idle 60 = .ok (.invokevirtual 236, 3) := by decide +kernel
theorem dX12_idle_63 : decode cX12_idle 63 = .ok (.iload_n 2, 1) := by decide +kernel
theorem dX12_idle_64 : decode cX12_idle 64 = .ok (.aload_n 0, 1) := by decide +kernel
theorem dX12_idle_65 : decode cX12_idle 65 = .ok (.getfield 44, 3) := by decide +kernel
theorem dX12_idle_68 : decode cX12_idle 68 = .ok (.invokevirtual 240, 3) := by decide +kernel
theorem dX12_idle_71 : decode cX12_idle 71 = .ok (.iload_n 1, 1) := by decide +kernel
theorem dX12_idle_72 : decode cX12_idle 72 = .ok (.if_icmp .lt 9, 3) := by decide +kernel
theorem dX12_idle_75 : decode cX12_idle 75 = .ok (.iconst 1, 1) := by decide +kernel
theorem dX12_idle_76 : decode cX12_idle 76 = .ok (.iload_n 3, 1) := by decide +kernel
theorem dX12_idle_77 : decode cX12_idle 77 = .ok (.ishl, 1) := by decide +kernel
theorem dX12_idle_78 : decode cX12_idle 78 = .ok (.goto 4, 3) := by decide +kernel
theorem dX12_idle_81 : decode cX12_idle 81 = .ok (.iconst 0, 1) := by decide +kernel
theorem dX12_idle_82 : decode cX12_idle 82 = .ok (.ior, 1) := by decide +kernel
theorem dX12_idle_83 : decode cX12_idle 83 = .ok (.istore_n 2, 1) := by decide +kernel
theorem dX12_idle_84 : decode cX12_idle 84 = .ok (.aload_n 0, 1) := by decide +kernel
theorem dX12_idle_85 : decode cX12_idle 85 = .ok (.getfield 44, 3) := by decide +kernel
theorem dX12_idle_88 : decode cX12_idle 88 = .ok (.iload_n 3, 1) := by decide +kernel
theorem dX12_idle_89 : decode cX12_idle 89 = .ok (.aload_n 0, 1) := by decide +kernel
theorem dX12_idle_90 : decode cX12_idle 90 = .ok (.getfield 40, 3) := by decide +kernel
theorem dX12_idle_93 : decode cX12_idle 93 = .ok (.iload_n 3, 1) := by decide +kernel
theorem dX12_idle_94 : decode cX12_idle 94 = .ok (.invokevirtual 181, 3) := by decide +kernel
theorem dX12_idle_97 : decode cX12_idle 97 = .ok (.invokevirtual 236, 3) := by decide +kernel
theorem dX12_idle_100 : decode cX12_idle 100 = .ok (.iinc 3 1, 3) := by decide +kernel
theorem dX12_idle_103 : decode cX12_idle 103 = .ok (.goto (-67), 3) := by decide +kernel
theorem dX12_idle_106 : decode cX12_idle 106 = .ok (.iload_n 2, 1) := by decide +kernel
theorem dX12_idle_107 : decode cX12_idle 107 = .ok (.ireturn, 1) := by decide +kernel
theorem dX12_swapped_0 : decode cX12_swapped 0 = .ok (.aload_n 0, 1) := by decide +kernel
theorem dX12_swapped_1 : decode cX12_swapped 1 = .ok (.aload_n 0, 1) := by decide +kernel
theorem dX12_swapped_2 : decode cX12_swapped 2 = .ok (.iload_n 1, 1) := by decide +kernel
theorem dX12_swapped_3 : decode cX12_swapped 3 = .ok (.iload_n 2, 1) := by decide +kernel
theorem dX12_swapped_4 : decode cX12_swapped 4 = .ok (.invokevirtual 251, 3) := by decide +kernel
theorem dX12_swapped_7 : decode cX12_swapped 7 = .ok (.invokevirtual 98, 3) := by decide +kernel
theorem dX12_swapped_10 : decode cX12_swapped 10 = .ok (.ifCond .eq 5, 3) := by decide +kernel
theorem dX12_swapped_13 : decode cX12_swapped 13 = .ok (.iconst (-1), 1) := by decide +kernel
theorem dX12_swapped_14 : decode cX12_swapped 14 = .ok (.ireturn, 1) := by decide +kernel
theorem dX12_swapped_15 : decode cX12_swapped 15 = .ok (.aload_n 0, 1) := by decide +kernel
theorem dX12_swapped_16 : decode cX12_swapped 16 = .ok (.getfield 44, 3) := by decide +kernel
theorem dX12_swapped_19 : decode cX12_swapped 19 = .ok (.aload_n 0, 1) := by decide +kernel
theorem dX12_swapped_20 : decode cX12_swapped 20 = .ok (.getfield 40, 3) := by decide +kernel
theorem dX12_swapped_23 : decode cX12_swapped 23 = .ok (.invokevirtual 230, 3) := by decide +kernel
theorem dX12_swapped_26 : decode cX12_swapped 26 = .ok (.aload_n 0, 1) := by decide +kernel
theorem dX12_swapped_27 : decode cX12_swapped 27 = .ok (.iload_n 1, 1) := by decide +kernel
theorem dX12_swapped_28 : decode cX12_swapped 28 = .ok (.iload_n 2, 1) := by decide +kernel
theorem dX12_swapped_29 : decode cX12_swapped 29 = .ok (.invokevirtual 254, 3) := by decide +kernel
theorem dX12_swapped_32 : decode cX12_swapped 32 = .ok (.ireturn, 1) := by decide +kernel
theorem dX12_bestSwap_0 : decode cX12_bestSwap 0 = .ok (.aload_n 0, 1) := by decide +kernel
theorem dX12_bestSwap_1 : decode cX12_bestSwap 1 = .ok (.aload_n 0, 1) := by decide +kernel
theorem dX12_bestSwap_2 : decode cX12_bestSwap 2 = .ok (.invokevirtual 201, 3) := by decide +kernel
theorem dX12_bestSwap_5 : decode cX12_bestSwap 5 = .ok (.invokevirtual 98, 3) := by decide +kernel
theorem dX12_bestSwap_8 : decode cX12_bestSwap 8 = .ok (.ifCond .eq 5, 3) := by decide +kernel
theorem dX12_bestSwap_11 : decode cX12_bestSwap 11 = .ok (.iconst (-1), 1) := by decide +kernel
theorem dX12_bestSwap_12 : decode cX12_bestSwap 12 = .ok (.ireturn, 1) := by decide +kernel
theorem dX12_bestSwap_13 : decode cX12_bestSwap 13 = .ok (.aload_n 0, 1) := by decide +kernel
theorem dX12_bestSwap_14 : decode cX12_bestSwap 14 = .ok (.getfield 44, 3) := by decide +kernel
theorem dX12_bestSwap_17 : decode cX12_bestSwap 17 = .ok (.aload_n 0, 1) := by decide +kernel
theorem dX12_bestSwap_18 : decode cX12_bestSwap 18 = .ok (.getfield 40, 3) := by decide +kernel
theorem dX12_bestSwap_21 : decode cX12_bestSwap 21 = .ok (.invokevirtual 230, 3) := by decide +kernel
theorem dX12_bestSwap_24 : decode cX12_bestSwap 24 = .ok (.bipush (-2), 2) := by decide +kernel
theorem dX12_bestSwap_26 : decode cX12_bestSwap 26 = .ok (.istore_n 1, 1) := by decide +kernel
theorem dX12_bestSwap_27 : decode cX12_bestSwap 27 = .ok (.aload_n 0, 1) := by decide +kernel
theorem dX12_bestSwap_28 : decode cX12_bestSwap 28 = .ok (.getfield 40, 3) := by decide +kernel
theorem dX12_bestSwap_31 : decode cX12_bestSwap 31 = .ok (.invokevirtual 240, 3) := by decide +kernel
theorem dX12_bestSwap_34 : decode cX12_bestSwap 34 = .ok (.istore_n 2, 1) := by decide +kernel
theorem dX12_bestSwap_35 : decode cX12_bestSwap 35 = .ok (.iconst 0, 1) := by decide +kernel
theorem dX12_bestSwap_36 : decode cX12_bestSwap 36 = .ok (.istore_n 3, 1) := by decide +kernel
theorem dX12_bestSwap_37 : decode cX12_bestSwap 37 = .ok (.iload_n 3, 1) := by decide +kernel
theorem dX12_bestSwap_38 : decode cX12_bestSwap 38 = .ok (.bipush 30, 2) := by decide +kernel
theorem dX12_bestSwap_40 : decode cX12_bestSwap 40 = .ok (.if_icmp .ge 88, 3) := by decide +kernel
theorem dX12_bestSwap_43 : decode cX12_bestSwap 43 = .ok (.iload_n 3, 1) := by decide +kernel
theorem dX12_bestSwap_44 : decode cX12_bestSwap 44 = .ok (.iconst 1, 1) := by decide +kernel
theorem dX12_bestSwap_45 : decode cX12_bestSwap 45 = .ok (.iadd, 1) := by decide +kernel
theorem dX12_bestSwap_46 : decode cX12_bestSwap 46 = .ok (.istore 4, 2) := by decide +kernel
theorem dX12_bestSwap_48 : decode cX12_bestSwap 48 = .ok (.iload 4, 2) := by decide +kernel
theorem dX12_bestSwap_50 : decode cX12_bestSwap 50 = .ok (.bipush 30, 2) := by decide +kernel
theorem dX12_bestSwap_52 : decode cX12_bestSwap 52 = .ok (.if_icmp .ge 70, 3) := by decide +kernel
theorem dX12_bestSwap_55 : decode cX12_bestSwap 55 = .ok (.aload_n 0, 1) := by decide +kernel
theorem dX12_bestSwap_56 : decode cX12_bestSwap 56 = .ok (.getfield 40, 3) := by decide +kernel
theorem dX12_bestSwap_59 : decode cX12_bestSwap 59 = .ok (.iload_n 3, 1) := by decide +kernel
theorem dX12_bestSwap_60 : decode cX12_bestSwap 60 = .ok (.invokevirtual 248, 3) := by decide +kernel
theorem dX12_bestSwap_63 : decode cX12_bestSwap 63 = .ok (.ifCond .eq 59, 3) := by decide +kernel
theorem dX12_bestSwap_66 : decode cX12_bestSwap 66 = .ok (.aload_n 0, 1) := by decide +kernel
theorem dX12_bestSwap_67 : decode cX12_bestSwap 67 = .ok (.getfield 40, 3) := by decide +kernel
theorem dX12_bestSwap_70 : decode cX12_bestSwap 70 = .ok (.iload 4, 2) := by decide +kernel
theorem dX12_bestSwap_72 : decode cX12_bestSwap 72 = .ok (.invokevirtual 248, 3) := by decide +kernel
theorem dX12_bestSwap_75 : decode cX12_bestSwap 75 = .ok (.ifCond .eq 13, 3) := by decide +kernel
theorem dX12_bestSwap_78 : decode cX12_bestSwap 78 = .ok (.aload_n 0, 1) := by decide +kernel
theorem dX12_bestSwap_79 : decode cX12_bestSwap 79 = .ok (.iload_n 3, 1) := by decide +kernel
theorem dX12_bestSwap_80 : decode cX12_bestSwap 80 = .ok (.iload 4, 2) := by decide +kernel
theorem dX12_bestSwap_82 : decode cX12_bestSwap 82 = .ok (.invokevirtual 254, 3) := by decide +kernel
theorem dX12_bestSwap_85 : decode cX12_bestSwap 85 = .ok (.goto 4, 3) := by decide +kernel
theorem dX12_bestSwap_88 : decode cX12_bestSwap 88 = .ok (.iconst 0, 1) := by decide +kernel
theorem dX12_bestSwap_89 : decode cX12_bestSwap 89 = .ok (.istore 5, 2) := by decide +kernel
theorem dX12_bestSwap_91 : decode cX12_bestSwap 91 = .ok (.iload 5, 2) := by decide +kernel
theorem dX12_bestSwap_93 : decode cX12_bestSwap 93 = .ok (.iload_n 2, 1) := by decide +kernel
theorem dX12_bestSwap_94 : decode cX12_bestSwap 94 = .ok (.if_icmp .le 13, 3) := by decide +kernel
theorem dX12_bestSwap_97 : decode cX12_bestSwap 97 = .ok (.bipush 100, 2) := by decide +kernel
theorem dX12_bestSwap_99 : decode cX12_bestSwap 99 = .ok (.iload_n 3, 1) := by decide +kernel
theorem dX12_bestSwap_100 : decode cX12_bestSwap 100 = .ok (.imul, 1) := by decide +kernel
theorem dX12_bestSwap_101 : decode cX12_bestSwap 101 = .ok (.iload 4, 2) := by decide +kernel
theorem dX12_bestSwap_103 : decode cX12_bestSwap 103 = .ok (.iadd, 1) := by decide +kernel
theorem dX12_bestSwap_104 : decode cX12_bestSwap 104 = .ok (.goto 4, 3) := by decide +kernel
theorem dX12_bestSwap_107 : decode cX12_bestSwap 107 = .ok (.iload_n 1, 1) := by decide +kernel
theorem dX12_bestSwap_108 : decode cX12_bestSwap 108 = .ok (.istore_n 1, 1) := by decide +kernel
theorem dX12_bestSwap_109 : decode cX12_bestSwap 109 = .ok (.iload 5, 2) := by decide +kernel
theorem dX12_bestSwap_111 : decode cX12_bestSwap 111 = .ok (.iload_n 2, 1) := by decide +kernel
theorem dX12_bestSwap_112 : decode cX12_bestSwap 112 = .ok (.invokestatic 243, 3) := by decide +kernel
theorem dX12_bestSwap_115 : decode cX12_bestSwap 115 = .ok (.istore_n 2, 1) := by decide +kernel
theorem dX12_bestSwap_116 : decode cX12_bestSwap 116 = .ok (.iinc 4 1, 3) := by decide +kernel
theorem dX12_bestSwap_119 : decode cX12_bestSwap 119 = .ok (.goto (-71), 3) := by decide +kernel
theorem dX12_bestSwap_122 : decode cX12_bestSwap 122 = .ok (.iinc 3 1, 3) := by decide +kernel
theorem dX12_bestSwap_125 : decode cX12_bestSwap 125 = .ok (.goto (-88), 3) := by decide +kernel
theorem dX12_bestSwap_128 : decode cX12_bestSwap 128 = .ok (.iload_n 1, 1) := by decide +kernel
theorem dX12_bestSwap_129 : decode cX12_bestSwap 129 = .ok (.ireturn, 1) := by decide +kernel
theorem dX12_ask_0 : decode cX12_ask 0 = .ok (.aload_n 0, 1) := by decide +kernel
theorem dX12_ask_1 : decode cX12_ask 1 = .ok (.aload_n 0, 1) := by decide +kernel
theorem dX12_ask_2 : decode cX12_ask 2 = .ok (.iload_n 1, 1) := by decide +kernel
theorem dX12_ask_3 : decode cX12_ask 3 = .ok (.invokevirtual 157, 3) := by decide +kernel
theorem dX12_ask_6 : decode cX12_ask 6 = .ok (.invokevirtual 98, 3) := by decide +kernel
theorem dX12_ask_9 : decode cX12_ask 9 = .ok (.ifCond .eq 7, 3) := by decide +kernel
theorem dX12_ask_12 : decode cX12_ask 12 = .ok (.iconst (-1), 1) := by decide +kernel
theorem dX12_ask_13 : decode cX12_ask 13 = .ok (.goto 15, 3) := by decide +kernel
theorem dX12_ask_16 : decode cX12_ask 16 = .ok (.aload_n 0, 1) := by decide +kernel
theorem dX12_ask_17 : decode cX12_ask 17 = .ok (.getfield 75, 3) := by decide +kernel
theorem dX12_ask_20 : decode cX12_ask 20 = .ok (.aload_n 0, 1) := by decide +kernel
theorem dX12_ask_21 : decode cX12_ask 21 = .ok (.getfield 19, 3) := by decide +kernel
theorem dX12_ask_24 : decode cX12_ask 24 = .ok (.iload_n 1, 1) := by decide +kernel
theorem dX12_ask_25 : decode cX12_ask 25 = .ok (.invokevirtual 257, 3) := by decide +kernel
theorem dX12_ask_28 : decode cX12_ask 28 = .ok (.ireturn, 1) := by decide +kernel
theorem dX12_truth_0 : decode cX12_truth 0 = .ok (.aload_n 0, 1) := by decide +kernel
theorem dX12_truth_1 : decode cX12_truth 1 = .ok (.aload_n 0, 1) := by decide +kernel
theorem dX12_truth_2 : decode cX12_truth 2 = .ok (.iload_n 1, 1) := by decide +kernel
theorem dX12_truth_3 : decode cX12_truth 3 = .ok (.invokevirtual 157, 3) := by decide +kernel
theorem dX12_truth_6 : decode cX12_truth 6 = .ok (.invokevirtual 98, 3) := by decide +kernel
theorem dX12_truth_9 : decode cX12_truth 9 = .ok (.ifCond .eq 7, 3) := by decide +kernel
theorem dX12_truth_12 : decode cX12_truth 12 = .ok (.ldc2_w 260, 3) := by decide +kernel
theorem dX12_truth_15 : decode cX12_truth 15 = .ok (.lreturn, 1) := by decide +kernel
theorem dX12_truth_16 : decode cX12_truth 16 = .ok (.aload_n 0, 1) := by decide +kernel
theorem dX12_truth_17 : decode cX12_truth 17 = .ok (.getfield 75, 3) := by decide +kernel
theorem dX12_truth_20 : decode cX12_truth 20 = .ok (.aload_n 0, 1) := by decide +kernel
theorem dX12_truth_21 : decode cX12_truth 21 = .ok (.getfield 19, 3) := by decide +kernel
theorem dX12_truth_24 : decode cX12_truth 24 = .ok (.iload_n 1, 1) := by decide +kernel
theorem dX12_truth_25 : decode cX12_truth 25 = .ok (.aload_n 0, 1) := by decide +kernel
theorem dX12_truth_26 : decode cX12_truth 26 = .ok (.getfield 75, 3) := by decide +kernel
theorem dX12_truth_29 : decode cX12_truth 29 = .ok (.aload_n 0, 1) := by decide +kernel
theorem dX12_truth_30 : decode cX12_truth 30 = .ok (.getfield 19, 3) := by decide +kernel
theorem dX12_truth_33 : decode cX12_truth 33 = .ok (.iload_n 1, 1) := by decide +kernel
theorem dX12_truth_34 : decode cX12_truth 34 = .ok (.invokevirtual 257, 3) := by decide +kernel
theorem dX12_truth_37 : decode cX12_truth 37 = .ok (.invokevirtual 262, 3) := by decide +kernel
theorem dX12_truth_40 : decode cX12_truth 40 = .ok (.iload_n 2, 1) := by decide +kernel
theorem dX12_truth_41 : decode cX12_truth 41 = .ok (.invokestatic 266, 3) := by decide +kernel
theorem dX12_truth_44 : decode cX12_truth 44 = .ok (.lreturn, 1) := by decide +kernel
theorem dX12_allTell_0 : decode cX12_allTell 0 = .ok (.aload_n 0, 1) := by decide +kernel
theorem dX12_allTell_1 : decode cX12_allTell 1 = .ok (.aload_n 0, 1) := by decide +kernel
theorem dX12_allTell_2 : decode cX12_allTell 2 = .ok (.iload_n 1, 1) := by decide +kernel
theorem dX12_allTell_3 : decode cX12_allTell 3 = .ok (.invokevirtual 157, 3) := by decide +kernel
theorem dX12_allTell_6 : decode cX12_allTell 6 = .ok (.invokevirtual 98, 3) := by decide +kernel
theorem dX12_allTell_9 : decode cX12_allTell 9 = .ok (.ifCond .eq 9, 3) := by decide +kernel
theorem dX12_allTell_12 : decode cX12_allTell 12 = .ok (.ldc2_w 260, 3) := by decide +kernel
theorem dX12_allTell_15 : decode cX12_allTell 15 = .ok (.goto 15, 3) := by decide +kernel
theorem dX12_allTell_18 : decode cX12_allTell 18 = .ok (.aload_n 0, 1) := by decide +kernel
theorem dX12_allTell_19 : decode cX12_allTell 19 = .ok (.getfield 19, 3) := by decide +kernel
theorem dX12_allTell_22 : decode cX12_allTell 22 = .ok (.iload_n 1, 1) := by decide +kernel
theorem dX12_allTell_23 : decode cX12_allTell 23 = .ok (.invokestatic 270, 3) := by decide +kernel
theorem dX12_allTell_26 : decode cX12_allTell 26 = .ok (.iload_n 2, 1) := by decide +kernel
theorem dX12_allTell_27 : decode cX12_allTell 27 = .ok (.invokestatic 266, 3) := by decide +kernel
theorem dX12_allTell_30 : decode cX12_allTell 30 = .ok (.lreturn, 1) := by decide +kernel
theorem dX12_guard_0 : decode cX12_guard 0 = .ok (.aload_n 0, 1) := by decide +kernel
theorem dX12_guard_1 : decode cX12_guard 1 = .ok (.aload_n 0, 1) := by decide +kernel
theorem dX12_guard_2 : decode cX12_guard 2 = .ok (.iload_n 1, 1) := by decide +kernel
theorem dX12_guard_3 : decode cX12_guard 3 = .ok (.invokevirtual 175, 3) := by decide +kernel
theorem dX12_guard_6 : decode cX12_guard 6 = .ok (.invokevirtual 98, 3) := by decide +kernel
theorem dX12_guard_9 : decode cX12_guard 9 = .ok (.ifCond .eq 7, 3) := by decide +kernel
theorem dX12_guard_12 : decode cX12_guard 12 = .ok (.iconst (-1), 1) := by decide +kernel
theorem dX12_guard_13 : decode cX12_guard 13 = .ok (.goto 15, 3) := by decide +kernel
theorem dX12_guard_16 : decode cX12_guard 16 = .ok (.aload_n 0, 1) := by decide +kernel
theorem dX12_guard_17 : decode cX12_guard 17 = .ok (.getfield 82, 3) := by decide +kernel
theorem dX12_guard_20 : decode cX12_guard 20 = .ok (.aload_n 0, 1) := by decide +kernel
theorem dX12_guard_21 : decode cX12_guard 21 = .ok (.getfield 40, 3) := by decide +kernel
theorem dX12_guard_24 : decode cX12_guard 24 = .ok (.iload_n 1, 1) := by decide +kernel
theorem dX12_guard_25 : decode cX12_guard 25 = .ok (.invokevirtual 274, 3) := by decide +kernel
theorem dX12_guard_28 : decode cX12_guard 28 = .ok (.ireturn, 1) := by decide +kernel
theorem dX12_unknown_0 : decode cX12_unknown 0 = .ok (.aload_n 0, 1) := by decide +kernel
theorem dX12_unknown_1 : decode cX12_unknown 1 = .ok (.aload_n 0, 1) := by decide +kernel
theorem dX12_unknown_2 : decode cX12_unknown 2 = .ok (.invokevirtual 201, 3) := by decide +kernel
theorem dX12_unknown_5 : decode cX12_unknown 5 = .ok (.invokevirtual 98, 3) := by decide +kernel
theorem dX12_unknown_8 : decode cX12_unknown 8 = .ok (.ifCond .eq 7, 3) := by decide +kernel
theorem dX12_unknown_11 : decode cX12_unknown 11 = .ok (.iconst (-1), 1) := by decide +kernel
theorem dX12_unknown_12 : decode cX12_unknown 12 = .ok (.goto 10, 3) := by decide +kernel
theorem dX12_unknown_15 : decode cX12_unknown 15 = .ok (.aload_n 0, 1) := by decide +kernel
theorem dX12_unknown_16 : decode cX12_unknown 16 = .ok (.getfield 19, 3) := by decide +kernel
theorem dX12_unknown_19 : decode cX12_unknown 19 = .ok (.invokestatic 278, 3) := by decide +kernel
theorem dX12_unknown_22 : decode cX12_unknown 22 = .ok (.ireturn, 1) := by decide +kernel
theorem dX12_unknownAt_0 : decode cX12_unknownAt 0 = .ok (.aload_n 0, 1) := by decide +kernel
theorem dX12_unknownAt_1 : decode cX12_unknownAt 1 = .ok (.invokevirtual 201, 3) := by decide +kernel
theorem dX12_unknownAt_4 : decode cX12_unknownAt 4 = .ok (.ifCond .ne 14, 3) := by decide +kernel
theorem dX12_unknownAt_7 : decode cX12_unknownAt 7 = .ok (.aload_n 0, 1) := by decide +kernel
theorem dX12_unknownAt_8 : decode cX12_unknownAt 8 = .ok (.getfield 19, 3) := by decide +kernel
theorem dX12_unknownAt_11 : decode cX12_unknownAt 11 = .ok (.iload_n 1, 1) := by decide +kernel
theorem dX12_unknownAt_12 : decode cX12_unknownAt 12 = .ok (.invokestatic 282, 3) := by decide +kernel
theorem dX12_unknownAt_15 : decode cX12_unknownAt 15 = .ok (.goto 5, 3) := by decide +kernel
theorem dX12_unknownAt_18 : decode cX12_unknownAt 18 = .ok (.bipush (-2), 2) := by decide +kernel
theorem dX12_unknownAt_20 : decode cX12_unknownAt 20 = .ok (.istore_n 2, 1) := by decide +kernel
theorem dX12_unknownAt_21 : decode cX12_unknownAt 21 = .ok (.aload_n 0, 1) := by decide +kernel
theorem dX12_unknownAt_22 : decode cX12_unknownAt 22 = .ok (.iload_n 2, 1) := by decide +kernel
theorem dX12_unknownAt_23 : decode cX12_unknownAt 23 = .ok (.ifCond .ge 7, 3) := by decide +kernel
theorem dX12_unknownAt_26 : decode cX12_unknownAt 26 = .ok (.iconst 1, 1) := by decide +kernel
theorem dX12_unknownAt_27 : decode cX12_unknownAt 27 = .ok (.goto 4, 3) := by decide +kernel
theorem dX12_unknownAt_30 : decode cX12_unknownAt 30 = .ok (.iconst 0, 1) := by decide +kernel
theorem dX12_unknownAt_31 : decode cX12_unknownAt 31 = .ok (.invokevirtual 98, 3) := by decide +kernel
theorem dX12_unknownAt_34 : decode cX12_unknownAt 34 = .ok (.ifCond .eq 5, 3) := by decide +kernel
theorem dX12_unknownAt_37 : decode cX12_unknownAt 37 = .ok (.iconst (-1), 1) := by decide +kernel
theorem dX12_unknownAt_38 : decode cX12_unknownAt 38 = .ok (.ireturn, 1) := by decide +kernel
theorem dX12_unknownAt_39 : decode cX12_unknownAt 39 = .ok (.iload_n 2, 1) := by decide +kernel
theorem dX12_unknownAt_40 : decode cX12_unknownAt 40 = .ok (.aload_n 0, 1) := by decide +kernel
theorem dX12_unknownAt_41 : decode cX12_unknownAt 41 = .ok (.getfield 19, 3) := by decide +kernel
theorem dX12_unknownAt_44 : decode cX12_unknownAt 44 = .ok (.getfield 285, 3) := by decide +kernel
theorem dX12_unknownAt_47 : decode cX12_unknownAt 47 = .ok (.invokestatic 288, 3) := by decide +kernel
theorem dX12_unknownAt_50 : decode cX12_unknownAt 50 = .ok (.ireturn, 1) := by decide +kernel
theorem dX12_pass_0 : decode cX12_pass 0 = .ok (.aload_n 0, 1) := by decide +kernel
theorem dX12_pass_1 : decode cX12_pass 1 = .ok (.aload_n 0, 1) := by decide +kernel
theorem dX12_pass_2 : decode cX12_pass 2 = .ok (.invokevirtual 201, 3) := by decide +kernel
theorem dX12_pass_5 : decode cX12_pass 5 = .ok (.invokevirtual 98, 3) := by decide +kernel
theorem dX12_pass_8 : decode cX12_pass 8 = .ok (.ifCond .eq 5, 3) := by decide +kernel
theorem dX12_pass_11 : decode cX12_pass 11 = .ok (.iconst (-1), 1) := by decide +kernel
theorem dX12_pass_12 : decode cX12_pass 12 = .ok (.ireturn, 1) := by decide +kernel
theorem dX12_pass_13 : decode cX12_pass 13 = .ok (.aload_n 0, 1) := by decide +kernel
theorem dX12_pass_14 : decode cX12_pass 14 = .ok (.getfield 82, 3) := by decide +kernel
theorem dX12_pass_17 : decode cX12_pass 17 = .ok (.aload_n 0, 1) := by decide +kernel
theorem dX12_pass_18 : decode cX12_pass 18 = .ok (.getfield 19, 3) := by decide +kernel
theorem dX12_pass_21 : decode cX12_pass 21 = .ok (.invokevirtual 291, 3) := by decide +kernel
theorem dX12_pass_24 : decode cX12_pass 24 = .ok (.aload_n 0, 1) := by decide +kernel
theorem dX12_pass_25 : decode cX12_pass 25 = .ok (.getfield 82, 3) := by decide +kernel
theorem dX12_pass_28 : decode cX12_pass 28 = .ok (.getfield 294, 3) := by decide +kernel
theorem dX12_pass_31 : decode cX12_pass 31 = .ok (.ireturn, 1) := by decide +kernel
theorem dX12_passLeaves_0 : decode cX12_passLeaves 0 = .ok (.aload_n 0, 1) := by decide +kernel
theorem dX12_passLeaves_1 : decode cX12_passLeaves 1 = .ok (.aload_n 0, 1) := by decide +kernel
theorem dX12_passLeaves_2 : decode cX12_passLeaves 2 = .ok (.invokevirtual 201, 3) := by decide +kernel
theorem dX12_passLeaves_5 : decode cX12_passLeaves 5 = .ok (.invokevirtual 98, 3) := by decide +kernel
theorem dX12_passLeaves_8 : decode cX12_passLeaves 8 = .ok (.ifCond .eq 5, 3) := by decide +kernel
theorem dX12_passLeaves_11 : decode cX12_passLeaves 11 = .ok (.iconst (-1), 1) := by decide +kernel
theorem dX12_passLeaves_12 : decode cX12_passLeaves 12 = .ok (.ireturn, 1) := by decide +kernel
theorem dX12_passLeaves_13 : decode cX12_passLeaves 13 = .ok (.aload_n 0, 1) := by decide +kernel
theorem dX12_passLeaves_14 : decode cX12_passLeaves 14 = .ok (.getfield 82, 3) := by decide +kernel
theorem dX12_passLeaves_17 : decode cX12_passLeaves 17 = .ok (.aload_n 0, 1) := by decide +kernel
theorem dX12_passLeaves_18 : decode cX12_passLeaves 18 = .ok (.getfield 19, 3) := by decide +kernel
theorem dX12_passLeaves_21 : decode cX12_passLeaves 21 = .ok (.invokevirtual 291, 3) := by decide +kernel
theorem dX12_passLeaves_24 : decode cX12_passLeaves 24 = .ok (.aload_n 0, 1) := by decide +kernel
theorem dX12_passLeaves_25 : decode cX12_passLeaves 25 = .ok (.getfield 82, 3) := by decide +kernel
theorem dX12_passLeaves_28 : decode cX12_passLeaves 28 = .ok (.getfield 297, 3) := by decide +kernel
theorem dX12_passLeaves_31 : decode cX12_passLeaves 31 = .ok (.ireturn, 1) := by decide +kernel
theorem dX12_month_0 : decode cX12_month 0 = .ok (.aload_n 0, 1) := by decide +kernel
theorem dX12_month_1 : decode cX12_month 1 = .ok (.aload_n 0, 1) := by decide +kernel
theorem dX12_month_2 : decode cX12_month 2 = .ok (.invokevirtual 201, 3) := by decide +kernel
theorem dX12_month_5 : decode cX12_month 5 = .ok (.ifCond .eq 7, 3) := by decide +kernel
theorem dX12_month_8 : decode cX12_month 8 = .ok (.iconst 1, 1) := by decide +kernel
theorem dX12_month_9 : decode cX12_month 9 = .ok (.goto 18, 3) := by decide +kernel
theorem dX12_month_12 : decode cX12_month 12 = .ok (.iload_n 1, 1) := by decide +kernel
theorem dX12_month_13 : decode cX12_month 13 = .ok (.ldc_w 300, 3) := by decide +kernel
theorem dX12_month_16 : decode cX12_month 16 = .ok (.invokestatic 215, 3) := by decide +kernel
theorem dX12_month_19 : decode cX12_month 19 = .ok (.ifCond .eq 7, 3) := by decide +kernel
theorem dX12_month_22 : decode cX12_month 22 = .ok (.iconst 0, 1) := by decide +kernel
theorem dX12_month_23 : decode cX12_month 23 = .ok (.goto 4, 3) := by decide +kernel
theorem dX12_month_26 : decode cX12_month 26 = .ok (.iconst 2, 1) := by decide +kernel
theorem dX12_month_27 : decode cX12_month 27 = .ok (.invokevirtual 98, 3) := by decide +kernel
theorem dX12_month_30 : decode cX12_month 30 = .ok (.ifCond .eq 5, 3) := by decide +kernel
theorem dX12_month_33 : decode cX12_month 33 = .ok (.iconst (-1), 1) := by decide +kernel
theorem dX12_month_34 : decode cX12_month 34 = .ok (.ireturn, 1) := by decide +kernel
theorem dX12_month_35 : decode cX12_month 35 = .ok (.aload_n 0, 1) := by decide +kernel
theorem dX12_month_36 : decode cX12_month 36 = .ok (.getfield 44, 3) := by decide +kernel
theorem dX12_month_39 : decode cX12_month 39 = .ok (.aload_n 0, 1) := by decide +kernel
theorem dX12_month_40 : decode cX12_month 40 = .ok (.getfield 40, 3) := by decide +kernel
theorem dX12_month_43 : decode cX12_month 43 = .ok (.invokevirtual 230, 3) := by decide +kernel
theorem dX12_month_46 : decode cX12_month 46 = .ok (.aload_n 0, 1) := by decide +kernel
theorem dX12_month_47 : decode cX12_month 47 = .ok (.getfield 44, 3) := by decide +kernel
theorem dX12_month_50 : decode cX12_month 50 = .ok (.iload_n 1, 1) := by decide +kernel
theorem dX12_month_51 : decode cX12_month 51 = .ok (.invokevirtual 301, 3) := by decide +kernel
theorem dX12_month_54 : decode cX12_month 54 = .ok (.pop, 1) := by decide +kernel
theorem dX12_month_55 : decode cX12_month 55 = .ok (.iconst 1, 1) := by decide +kernel
theorem dX12_month_56 : decode cX12_month 56 = .ok (.aload_n 0, 1) := by decide +kernel
theorem dX12_month_57 : decode cX12_month 57 = .ok (.getfield 19, 3) := by decide +kernel
theorem dX12_month_60 : decode cX12_month 60 = .ok (.invokevirtual 127, 3) := by decide +kernel
theorem dX12_month_63 : decode cX12_month 63 = .ok (.ishl, 1) := by decide +kernel
theorem dX12_month_64 : decode cX12_month 64 = .ok (.iconst 1, 1) := by decide +kernel
theorem dX12_month_65 : decode cX12_month 65 = .ok (.isub, 1) := by decide +kernel
theorem dX12_month_66 : decode cX12_month 66 = .ok (.istore_n 2, 1) := by decide +kernel
theorem dX12_month_67 : decode cX12_month 67 = .ok (.iconst 0, 1) := by decide +kernel
theorem dX12_month_68 : decode cX12_month 68 = .ok (.istore_n 3, 1) := by decide +kernel
theorem dX12_month_69 : decode cX12_month 69 = .ok (.iconst 0, 1) := by decide +kernel
theorem dX12_month_70 : decode cX12_month 70 = .ok (.istore 4, 2) := by decide +kernel
theorem dX12_month_72 : decode cX12_month 72 = .ok (.iload 4, 2) := by decide +kernel
theorem dX12_month_74 : decode cX12_month 74 = .ok (.bipush 30, 2) := by decide +kernel
theorem dX12_month_76 : decode cX12_month 76 = .ok (.if_icmp .ge 30, 3) := by decide +kernel
theorem dX12_month_79 : decode cX12_month 79 = .ok (.iload_n 3, 1) := by decide +kernel
theorem dX12_month_80 : decode cX12_month 80 = .ok (.aload_n 0, 1) := by decide +kernel
theorem dX12_month_81 : decode cX12_month 81 = .ok (.getfield 44, 3) := by decide +kernel
theorem dX12_month_84 : decode cX12_month 84 = .ok (.iload 4, 2) := by decide +kernel
theorem dX12_month_86 : decode cX12_month 86 = .ok (.invokevirtual 187, 3) := by decide +kernel
theorem dX12_month_89 : decode cX12_month 89 = .ok (.iload_n 2, 1) := by decide +kernel
theorem dX12_month_90 : decode cX12_month 90 = .ok (.if_icmp .eq 7, 3) := by decide +kernel
theorem dX12_month_93 : decode cX12_month 93 = .ok (.iconst 1, 1) := by decide +kernel
theorem dX12_month_94 : decode cX12_month 94 = .ok (.goto 4, 3) := by decide +kernel
theorem dX12_month_97 : decode cX12_month 97 = .ok (.iconst 0, 1) := by decide +kernel
theorem dX12_month_98 : decode cX12_month 98 = .ok (.iadd, 1) := by decide +kernel
theorem dX12_month_99 : decode cX12_month 99 = .ok (.istore_n 3, 1) := by decide +kernel
theorem dX12_month_100 : decode cX12_month 100 = .ok (.iinc 4 1, 3) := by decide +kernel
theorem dX12_month_103 : decode cX12_month 103 = .ok (.goto (-31), 3) := by decide +kernel
theorem dX12_month_106 : decode cX12_month 106 = .ok (.iload_n 3, 1) := by decide +kernel
theorem dX12_month_107 : decode cX12_month 107 = .ok (.ireturn, 1) := by decide +kernel
theorem dX12_lost_0 : decode cX12_lost 0 = .ok (.iload_n 2, 1) := by decide +kernel
theorem dX12_lost_1 : decode cX12_lost 1 = .ok (.ldc_w 300, 3) := by decide +kernel
theorem dX12_lost_4 : decode cX12_lost 4 = .ok (.invokestatic 215, 3) := by decide +kernel
theorem dX12_lost_7 : decode cX12_lost 7 = .ok (.ifCond .eq 18, 3) := by decide +kernel
theorem dX12_lost_10 : decode cX12_lost 10 = .ok (.iload_n 3, 1) := by decide +kernel
theorem dX12_lost_11 : decode cX12_lost 11 = .ok (.iconst 1, 1) := by decide +kernel
theorem dX12_lost_12 : decode cX12_lost 12 = .ok (.if_icmp .lt 13, 3) := by decide +kernel
theorem dX12_lost_15 : decode cX12_lost 15 = .ok (.iload_n 3, 1) := by decide +kernel
theorem dX12_lost_16 : decode cX12_lost 16 = .ok (.bipush 20, 2) := by decide +kernel
theorem dX12_lost_18 : decode cX12_lost 18 = .ok (.if_icmp .gt 7, 3) := by decide +kernel
theorem dX12_lost_21 : decode cX12_lost 21 = .ok (.iconst 1, 1) := by decide +kernel
theorem dX12_lost_22 : decode cX12_lost 22 = .ok (.goto 4, 3) := by decide +kernel
theorem dX12_lost_25 : decode cX12_lost 25 = .ok (.iconst 0, 1) := by decide +kernel
theorem dX12_lost_26 : decode cX12_lost 26 = .ok (.istore 4, 2) := by decide +kernel
theorem dX12_lost_28 : decode cX12_lost 28 = .ok (.aload_n 0, 1) := by decide +kernel
theorem dX12_lost_29 : decode cX12_lost 29 = .ok (.aload_n 0, 1) := by decide +kernel
theorem dX12_lost_30 : decode cX12_lost 30 = .ok (.iload_n 1, 1) := by decide +kernel
theorem dX12_lost_31 : decode cX12_lost 31 = .ok (.invokevirtual 157, 3) := by decide +kernel
theorem dX12_lost_34 : decode cX12_lost 34 = .ok (.ifCond .eq 7, 3) := by decide +kernel
theorem dX12_lost_37 : decode cX12_lost 37 = .ok (.iconst 1, 1) := by decide +kernel
theorem dX12_lost_38 : decode cX12_lost 38 = .ok (.goto 13, 3) := by decide +kernel
theorem dX12_lost_41 : decode cX12_lost 41 = .ok (.iload 4, 2) := by decide +kernel
theorem dX12_lost_43 : decode cX12_lost 43 = .ok (.ifCond .eq 7, 3) := by decide +kernel
theorem dX12_lost_46 : decode cX12_lost 46 = .ok (.iconst 0, 1) := by decide +kernel
theorem dX12_lost_47 : decode cX12_lost 47 = .ok (.goto 4, 3) := by decide +kernel
theorem dX12_lost_50 : decode cX12_lost 50 = .ok (.iconst 2, 1) := by decide +kernel
theorem dX12_lost_51 : decode cX12_lost 51 = .ok (.invokevirtual 98, 3) := by decide +kernel
theorem dX12_lost_54 : decode cX12_lost 54 = .ok (.ifCond .eq 5, 3) := by decide +kernel
theorem dX12_lost_57 : decode cX12_lost 57 = .ok (.iconst (-1), 1) := by decide +kernel
theorem dX12_lost_58 : decode cX12_lost 58 = .ok (.ireturn, 1) := by decide +kernel
theorem dX12_lost_59 : decode cX12_lost 59 = .ok (.iconst 0, 1) := by decide +kernel
theorem dX12_lost_60 : decode cX12_lost 60 = .ok (.istore 5, 2) := by decide +kernel
theorem dX12_lost_62 : decode cX12_lost 62 = .ok (.iload_n 2, 1) := by decide +kernel
theorem dX12_lost_63 : decode cX12_lost 63 = .ok (.istore 6, 2) := by decide +kernel
theorem dX12_lost_65 : decode cX12_lost 65 = .ok (.iconst 0, 1) := by decide +kernel
theorem dX12_lost_66 : decode cX12_lost 66 = .ok (.istore 7, 2) := by decide +kernel
theorem dX12_lost_68 : decode cX12_lost 68 = .ok (.iload 7, 2) := by decide +kernel
theorem dX12_lost_70 : decode cX12_lost 70 = .ok (.iload_n 3, 1) := by decide +kernel
theorem dX12_lost_71 : decode cX12_lost 71 = .ok (.if_icmp .ge 44, 3) := by decide +kernel
theorem dX12_lost_74 : decode cX12_lost 74 = .ok (.aload_n 0, 1) := by decide +kernel
theorem dX12_lost_75 : decode cX12_lost 75 = .ok (.getfield 44, 3) := by decide +kernel
theorem dX12_lost_78 : decode cX12_lost 78 = .ok (.aload_n 0, 1) := by decide +kernel
theorem dX12_lost_79 : decode cX12_lost 79 = .ok (.getfield 40, 3) := by decide +kernel
theorem dX12_lost_82 : decode cX12_lost 82 = .ok (.invokevirtual 230, 3) := by decide +kernel
theorem dX12_lost_85 : decode cX12_lost 85 = .ok (.aload_n 0, 1) := by decide +kernel
theorem dX12_lost_86 : decode cX12_lost 86 = .ok (.getfield 44, 3) := by decide +kernel
theorem dX12_lost_89 : decode cX12_lost 89 = .ok (.iload 6, 2) := by decide +kernel
theorem dX12_lost_91 : decode cX12_lost 91 = .ok (.invokevirtual 301, 3) := by decide +kernel
theorem dX12_lost_94 : decode cX12_lost 94 = .ok (.istore 6, 2) := by decide +kernel
theorem dX12_lost_96 : decode cX12_lost 96 = .ok (.iload 5, 2) := by decide +kernel
theorem dX12_lost_98 : decode cX12_lost 98 = .ok (.aload_n 0, 1) := by decide +kernel
theorem dX12_lost_99 : decode cX12_lost 99 = .ok (.getfield 44, 3) := by decide +kernel
theorem dX12_lost_102 : decode cX12_lost 102 = .ok (.iload_n 1, 1) := by decide +kernel
theorem dX12_lost_103 : decode cX12_lost 103 = .ok (.invokevirtual 198, 3) := by decide +kernel
theorem dX12_lost_106 : decode cX12_lost 106 = .ok (.iadd, 1) := by decide +kernel
theorem dX12_lost_107 : decode cX12_lost 107 = .ok (.istore 5, 2) := by decide +kernel
theorem dX12_lost_109 : decode cX12_lost 109 = .ok (.iinc 7 1, 3) := by decide +kernel
theorem dX12_lost_112 : decode cX12_lost 112 = .ok (.goto (-44), 3) := by decide +kernel
theorem dX12_lost_115 : decode cX12_lost 115 = .ok (.iload 5, 2) := by decide +kernel
theorem dX12_lost_117 : decode cX12_lost 117 = .ok (.ireturn, 1) := by decide +kernel
theorem dX12_book_0 : decode cX12_book 0 = .ok (.aload_n 0, 1) := by decide +kernel
theorem dX12_book_1 : decode cX12_book 1 = .ok (.iload_n 1, 1) := by decide +kernel
theorem dX12_book_2 : decode cX12_book 2 = .ok (.iload_n 2, 1) := by decide +kernel
theorem dX12_book_3 : decode cX12_book 3 = .ok (.invokevirtual 169, 3) := by decide +kernel
theorem dX12_book_6 : decode cX12_book 6 = .ok (.istore_n 3, 1) := by decide +kernel
theorem dX12_book_7 : decode cX12_book 7 = .ok (.aload_n 0, 1) := by decide +kernel
theorem dX12_book_8 : decode cX12_book 8 = .ok (.iload_n 3, 1) := by decide +kernel
theorem dX12_book_9 : decode cX12_book 9 = .ok (.ifCond .ne 18, 3) := by decide +kernel
theorem dX12_book_12 : decode cX12_book 12 = .ok (.aload_n 0, 1) := by decide +kernel
theorem dX12_book_13 : decode cX12_book 13 = .ok (.getfield 40, 3) := by decide +kernel
theorem dX12_book_16 : decode cX12_book 16 = .ok (.iload_n 2, 1) := by decide +kernel
theorem dX12_book_17 : decode cX12_book 17 = .ok (.invokevirtual 233, 3) := by decide +kernel
theorem dX12_book_20 : decode cX12_book 20 = .ok (.ifCond .ne 7, 3) := by decide +kernel
theorem dX12_book_23 : decode cX12_book 23 = .ok (.iconst 5, 1) := by decide +kernel
theorem dX12_book_24 : decode cX12_book 24 = .ok (.goto 4, 3) := by decide +kernel
theorem dX12_book_27 : decode cX12_book 27 = .ok (.iload_n 3, 1) := by decide +kernel
theorem dX12_book_28 : decode cX12_book 28 = .ok (.invokevirtual 98, 3) := by decide +kernel
theorem dX12_book_31 : decode cX12_book 31 = .ok (.ifCond .eq 5, 3) := by decide +kernel
theorem dX12_book_34 : decode cX12_book 34 = .ok (.iconst 0, 1) := by decide +kernel
theorem dX12_book_35 : decode cX12_book 35 = .ok (.ireturn, 1) := by decide +kernel
theorem dX12_book_36 : decode cX12_book 36 = .ok (.aload_n 0, 1) := by decide +kernel
theorem dX12_book_37 : decode cX12_book 37 = .ok (.getfield 40, 3) := by decide +kernel
theorem dX12_book_40 : decode cX12_book 40 = .ok (.iload_n 2, 1) := by decide +kernel
theorem dX12_book_41 : decode cX12_book 41 = .ok (.iload_n 1, 1) := by decide +kernel
theorem dX12_book_42 : decode cX12_book 42 = .ok (.invokevirtual 236, 3) := by decide +kernel
theorem dX12_book_45 : decode cX12_book 45 = .ok (.aload_n 0, 1) := by decide +kernel
theorem dX12_book_46 : decode cX12_book 46 = .ok (.getfield 54, 3) := by decide +kernel
theorem dX12_book_49 : decode cX12_book 49 = .ok (.iconst 0, 1) := by decide +kernel
theorem dX12_book_50 : decode cX12_book 50 = .ok (.iload_n 2, 1) := by decide +kernel
theorem dX12_book_51 : decode cX12_book 51 = .ok (.iconst 0, 1) := by decide +kernel
theorem dX12_book_52 : decode cX12_book 52 = .ok (.iconst 0, 1) := by decide +kernel
theorem dX12_book_53 : decode cX12_book 53 = .ok (.invokevirtual 304, 3) := by decide +kernel
theorem dX12_book_56 : decode cX12_book 56 = .ok (.iconst 1, 1) := by decide +kernel
theorem dX12_book_57 : decode cX12_book 57 = .ok (.ireturn, 1) := by decide +kernel
theorem dX12_callOff_0 : decode cX12_callOff 0 = .ok (.aload_n 0, 1) := by decide +kernel
theorem dX12_callOff_1 : decode cX12_callOff 1 = .ok (.iload_n 1, 1) := by decide +kernel
theorem dX12_callOff_2 : decode cX12_callOff 2 = .ok (.invokevirtual 175, 3) := by decide +kernel
theorem dX12_callOff_5 : decode cX12_callOff 5 = .ok (.istore_n 2, 1) := by decide +kernel
theorem dX12_callOff_6 : decode cX12_callOff 6 = .ok (.aload_n 0, 1) := by decide +kernel
theorem dX12_callOff_7 : decode cX12_callOff 7 = .ok (.iload_n 2, 1) := by decide +kernel
theorem dX12_callOff_8 : decode cX12_callOff 8 = .ok (.ifCond .ne 18, 3) := by decide +kernel
theorem dX12_callOff_11 : decode cX12_callOff 11 = .ok (.aload_n 0, 1) := by decide +kernel
theorem dX12_callOff_12 : decode cX12_callOff 12 = .ok (.getfield 40, 3) := by decide +kernel
theorem dX12_callOff_15 : decode cX12_callOff 15 = .ok (.iload_n 1, 1) := by decide +kernel
theorem dX12_callOff_16 : decode cX12_callOff 16 = .ok (.invokevirtual 248, 3) := by decide +kernel
theorem dX12_callOff_19 : decode cX12_callOff 19 = .ok (.ifCond .ne 7, 3) := by decide +kernel
theorem dX12_callOff_22 : decode cX12_callOff 22 = .ok (.iconst 5, 1) := by decide +kernel
theorem dX12_callOff_23 : decode cX12_callOff 23 = .ok (.goto 4, 3) := by decide +kernel
theorem dX12_callOff_26 : decode cX12_callOff 26 = .ok (.iload_n 2, 1) := by decide +kernel
theorem dX12_callOff_27 : decode cX12_callOff 27 = .ok (.invokevirtual 98, 3) := by decide +kernel
theorem dX12_callOff_30 : decode cX12_callOff 30 = .ok (.ifCond .eq 5, 3) := by decide +kernel
theorem dX12_callOff_33 : decode cX12_callOff 33 = .ok (.iconst 0, 1) := by decide +kernel
theorem dX12_callOff_34 : decode cX12_callOff 34 = .ok (.ireturn, 1) := by decide +kernel
theorem dX12_callOff_35 : decode cX12_callOff 35 = .ok (.aload_n 0, 1) := by decide +kernel
theorem dX12_callOff_36 : decode cX12_callOff 36 = .ok (.getfield 54, 3) := by decide +kernel
theorem dX12_callOff_39 : decode cX12_callOff 39 = .ok (.iconst 1, 1) := by decide +kernel
theorem dX12_callOff_40 : decode cX12_callOff 40 = .ok (.iload_n 1, 1) := by decide +kernel
theorem dX12_callOff_41 : decode cX12_callOff 41 = .ok (.aload_n 0, 1) := by decide +kernel
theorem dX12_callOff_42 : decode cX12_callOff 42 = .ok (.getfield 40, 3) := by decide +kernel
theorem dX12_callOff_45 : decode cX12_callOff 45 = .ok (.iload_n 1, 1) := by decide +kernel
theorem dX12_callOff_46 : decode cX12_callOff 46 = .ok (.invokevirtual 181, 3) := by decide +kernel
theorem dX12_callOff_49 : decode cX12_callOff 49 = .ok (.iconst 0, 1) := by decide +kernel
theorem dX12_callOff_50 : decode cX12_callOff 50 = .ok (.invokevirtual 304, 3) := by decide +kernel
theorem dX12_callOff_53 : decode cX12_callOff 53 = .ok (.aload_n 0, 1) := by decide +kernel
theorem dX12_callOff_54 : decode cX12_callOff 54 = .ok (.getfield 40, 3) := by decide +kernel
theorem dX12_callOff_57 : decode cX12_callOff 57 = .ok (.iload_n 1, 1) := by decide +kernel
theorem dX12_callOff_58 : decode cX12_callOff 58 = .ok (.bipush (-2), 2) := by decide +kernel
theorem dX12_callOff_60 : decode cX12_callOff 60 = .ok (.invokevirtual 236, 3) := by decide +kernel
theorem dX12_callOff_63 : decode cX12_callOff 63 = .ok (.iconst 1, 1) := by decide +kernel
theorem dX12_callOff_64 : decode cX12_callOff 64 = .ok (.ireturn, 1) := by decide +kernel
theorem dX12_shock_0 : decode cX12_shock 0 = .ok (.aload_n 0, 1) := by decide +kernel
theorem dX12_shock_1 : decode cX12_shock 1 = .ok (.aload_n 0, 1) := by decide +kernel
theorem dX12_shock_2 : decode cX12_shock 2 = .ok (.iload_n 1, 1) := by decide +kernel
theorem dX12_shock_3 : decode cX12_shock 3 = .ok (.iload_n 2, 1) := by decide +kernel
theorem dX12_shock_4 : decode cX12_shock 4 = .ok (.iload_n 3, 1) := by decide +kernel
theorem dX12_shock_5 : decode cX12_shock 5 = .ok (.invokevirtual 308, 3) := by decide +kernel
theorem dX12_shock_8 : decode cX12_shock 8 = .ok (.invokevirtual 98, 3) := by decide +kernel
theorem dX12_shock_11 : decode cX12_shock 11 = .ok (.ifCond .eq 5, 3) := by decide +kernel
theorem dX12_shock_14 : decode cX12_shock 14 = .ok (.iconst 0, 1) := by decide +kernel
theorem dX12_shock_15 : decode cX12_shock 15 = .ok (.ireturn, 1) := by decide +kernel
theorem dX12_shock_16 : decode cX12_shock 16 = .ok (.aload_n 0, 1) := by decide +kernel
theorem dX12_shock_17 : decode cX12_shock 17 = .ok (.getfield 40, 3) := by decide +kernel
theorem dX12_shock_20 : decode cX12_shock 20 = .ok (.getfield 138, 3) := by decide +kernel
theorem dX12_shock_23 : decode cX12_shock 23 = .ok (.iload_n 1, 1) := by decide +kernel
theorem dX12_shock_24 : decode cX12_shock 24 = .ok (.iload_n 2, 1) := by decide +kernel
theorem dX12_shock_25 : decode cX12_shock 25 = .ok (.aload_n 0, 1) := by decide +kernel
theorem dX12_shock_26 : decode cX12_shock 26 = .ok (.getfield 40, 3) := by decide +kernel
theorem dX12_shock_29 : decode cX12_shock 29 = .ok (.getfield 311, 3) := by decide +kernel
theorem dX12_shock_32 : decode cX12_shock 32 = .ok (.iload_n 3, 1) := by decide +kernel
theorem dX12_shock_33 : decode cX12_shock 33 = .ok (.invokevirtual 314, 3) := by decide +kernel
theorem dX12_shock_36 : decode cX12_shock 36 = .ok (.aload_n 0, 1) := by decide +kernel
theorem dX12_shock_37 : decode cX12_shock 37 = .ok (.getfield 40, 3) := by decide +kernel
theorem dX12_shock_40 : decode cX12_shock 40 = .ok (.dup, 1) := by decide +kernel
theorem dX12_shock_41 : decode cX12_shock 41 = .ok (.getfield 317, 3) := by decide +kernel
theorem dX12_shock_44 : decode cX12_shock 44 = .ok (.iconst 1, 1) := by decide +kernel
theorem dX12_shock_45 : decode cX12_shock 45 = .ok (.iadd, 1) := by decide +kernel
theorem dX12_shock_46 : decode cX12_shock 46 = .ok (.putfield 317, 3) := by decide +kernel
theorem dX12_shock_49 : decode cX12_shock 49 = .ok (.aload_n 0, 1) := by decide +kernel
theorem dX12_shock_50 : decode cX12_shock 50 = .ok (.getfield 54, 3) := by decide +kernel
theorem dX12_shock_53 : decode cX12_shock 53 = .ok (.iconst 2, 1) := by decide +kernel
theorem dX12_shock_54 : decode cX12_shock 54 = .ok (.iload_n 1, 1) := by decide +kernel
theorem dX12_shock_55 : decode cX12_shock 55 = .ok (.iload_n 2, 1) := by decide +kernel
theorem dX12_shock_56 : decode cX12_shock 56 = .ok (.iload_n 3, 1) := by decide +kernel
theorem dX12_shock_57 : decode cX12_shock 57 = .ok (.invokevirtual 304, 3) := by decide +kernel
theorem dX12_shock_60 : decode cX12_shock 60 = .ok (.iconst 1, 1) := by decide +kernel
theorem dX12_shock_61 : decode cX12_shock 61 = .ok (.ireturn, 1) := by decide +kernel
theorem dX12_days_0 : decode cX12_days 0 = .ok (.aload_n 0, 1) := by decide +kernel
theorem dX12_days_1 : decode cX12_days 1 = .ok (.aload_n 0, 1) := by decide +kernel
theorem dX12_days_2 : decode cX12_days 2 = .ok (.iload_n 1, 1) := by decide +kernel
theorem dX12_days_3 : decode cX12_days 3 = .ok (.invokevirtual 320, 3) := by decide +kernel
theorem dX12_days_6 : decode cX12_days 6 = .ok (.invokevirtual 98, 3) := by decide +kernel
theorem dX12_days_9 : decode cX12_days 9 = .ok (.ifCond .eq 5, 3) := by decide +kernel
theorem dX12_days_12 : decode cX12_days 12 = .ok (.iconst (-1), 1) := by decide +kernel
theorem dX12_days_13 : decode cX12_days 13 = .ok (.ireturn, 1) := by decide +kernel
theorem dX12_days_14 : decode cX12_days 14 = .ok (.aload_n 0, 1) := by decide +kernel
theorem dX12_days_15 : decode cX12_days 15 = .ok (.getfield 40, 3) := by decide +kernel
theorem dX12_days_18 : decode cX12_days 18 = .ok (.dup, 1) := by decide +kernel
theorem dX12_days_19 : decode cX12_days 19 = .ok (.getfield 311, 3) := by decide +kernel
theorem dX12_days_22 : decode cX12_days 22 = .ok (.iload_n 1, 1) := by decide +kernel
theorem dX12_days_23 : decode cX12_days 23 = .ok (.iadd, 1) := by decide +kernel
theorem dX12_days_24 : decode cX12_days 24 = .ok (.putfield 311, 3) := by decide +kernel
theorem dX12_days_27 : decode cX12_days 27 = .ok (.aload_n 0, 1) := by decide +kernel
theorem dX12_days_28 : decode cX12_days 28 = .ok (.getfield 54, 3) := by decide +kernel
theorem dX12_days_31 : decode cX12_days 31 = .ok (.iconst 3, 1) := by decide +kernel
theorem dX12_days_32 : decode cX12_days 32 = .ok (.iload_n 1, 1) := by decide +kernel
theorem dX12_days_33 : decode cX12_days 33 = .ok (.iconst 0, 1) := by decide +kernel
theorem dX12_days_34 : decode cX12_days 34 = .ok (.iconst 0, 1) := by decide +kernel
theorem dX12_days_35 : decode cX12_days 35 = .ok (.invokevirtual 304, 3) := by decide +kernel
theorem dX12_days_38 : decode cX12_days 38 = .ok (.aload_n 0, 1) := by decide +kernel
theorem dX12_days_39 : decode cX12_days 39 = .ok (.getfield 40, 3) := by decide +kernel
theorem dX12_days_42 : decode cX12_days 42 = .ok (.getfield 311, 3) := by decide +kernel
theorem dX12_days_45 : decode cX12_days 45 = .ok (.ireturn, 1) := by decide +kernel
theorem dX12_undo_0 : decode cX12_undo 0 = .ok (.aload_n 0, 1) := by decide +kernel
theorem dX12_undo_1 : decode cX12_undo 1 = .ok (.aload_n 0, 1) := by decide +kernel
theorem dX12_undo_2 : decode cX12_undo 2 = .ok (.getfield 54, 3) := by decide +kernel
theorem dX12_undo_5 : decode cX12_undo 5 = .ok (.getfield 323, 3) := by decide +kernel
theorem dX12_undo_8 : decode cX12_undo 8 = .ok (.ifCond .ne 8, 3) := by decide +kernel
theorem dX12_undo_11 : decode cX12_undo 11 = .ok (.bipush 6, 2) := by decide +kernel
theorem dX12_undo_13 : decode cX12_undo 13 = .ok (.goto 4, 3) := by decide +kernel
theorem dX12_undo_16 : decode cX12_undo 16 = .ok (.iconst 0, 1) := by decide +kernel
theorem dX12_undo_17 : decode cX12_undo 17 = .ok (.invokevirtual 98, 3) := by decide +kernel
theorem dX12_undo_20 : decode cX12_undo 20 = .ok (.ifCond .eq 5, 3) := by decide +kernel
theorem dX12_undo_23 : decode cX12_undo 23 = .ok (.iconst 0, 1) := by decide +kernel
theorem dX12_undo_24 : decode cX12_undo 24 = .ok (.ireturn, 1) := by decide +kernel
theorem dX12_undo_25 : decode cX12_undo 25 = .ok (.aload_n 0, 1) := by decide +kernel
theorem dX12_undo_26 : decode cX12_undo 26 = .ok (.getfield 54, 3) := by decide +kernel
theorem dX12_undo_29 : decode cX12_undo 29 = .ok (.aload_n 0, 1) := by decide +kernel
theorem dX12_undo_30 : decode cX12_undo 30 = .ok (.getfield 40, 3) := by decide +kernel
theorem dX12_undo_33 : decode cX12_undo 33 = .ok (.invokevirtual 324, 3) := by decide +kernel
theorem dX12_undo_36 : decode cX12_undo 36 = .ok (.iconst 1, 1) := by decide +kernel
theorem dX12_undo_37 : decode cX12_undo 37 = .ok (.ireturn, 1) := by decide +kernel
theorem dX12_image_0 : decode cX12_image 0 = .ok (.aload_n 0, 1) := by decide +kernel
theorem dX12_image_1 : decode cX12_image 1 = .ok (.aload_n 0, 1) := by decide +kernel
theorem dX12_image_2 : decode cX12_image 2 = .ok (.invokevirtual 201, 3) := by decide +kernel
theorem dX12_image_5 : decode cX12_image 5 = .ok (.ifCond .eq 7, 3) := by decide +kernel
theorem dX12_image_8 : decode cX12_image 8 = .ok (.iconst 1, 1) := by decide +kernel
theorem dX12_image_9 : decode cX12_image 9 = .ok (.goto 16, 3) := by decide +kernel
theorem dX12_image_12 : decode cX12_image 12 = .ok (.aload_n 0, 1) := by decide +kernel
theorem dX12_image_13 : decode cX12_image 13 = .ok (.getfield 124, 3) := by decide +kernel
theorem dX12_image_16 : decode cX12_image 16 = .ok (.iconst 3, 1) := by decide +kernel
theorem dX12_image_17 : decode cX12_image 17 = .ok (.if_icmp .lt 7, 3) := by decide +kernel
theorem dX12_image_20 : decode cX12_image 20 = .ok (.iconst 3, 1) := by decide +kernel
theorem dX12_image_21 : decode cX12_image 21 = .ok (.goto 4, 3) := by decide +kernel
theorem dX12_image_24 : decode cX12_image 24 = .ok (.iconst 0, 1) := by decide +kernel
theorem dX12_image_25 : decode cX12_image 25 = .ok (.invokevirtual 98, 3) := by decide +kernel
theorem dX12_image_28 : decode cX12_image 28 = .ok (.ifCond .eq 5, 3) := by decide +kernel
theorem dX12_image_31 : decode cX12_image 31 = .ok (.iconst (-1), 1) := by decide +kernel
theorem dX12_image_32 : decode cX12_image 32 = .ok (.ireturn, 1) := by decide +kernel
theorem dX12_image_33 : decode cX12_image 33 = .ok (.aload_n 0, 1) := by decide +kernel
theorem dX12_image_34 : decode cX12_image 34 = .ok (.getfield 124, 3) := by decide +kernel
theorem dX12_image_37 : decode cX12_image 37 = .ok (.istore_n 1, 1) := by decide +kernel
theorem dX12_image_38 : decode cX12_image 38 = .ok (.aload_n 0, 1) := by decide +kernel
theorem dX12_image_39 : decode cX12_image 39 = .ok (.dup, 1) := by decide +kernel
theorem dX12_image_40 : decode cX12_image 40 = .ok (.getfield 124, 3) := by decide +kernel
theorem dX12_image_43 : decode cX12_image 43 = .ok (.iconst 1, 1) := by decide +kernel
theorem dX12_image_44 : decode cX12_image 44 = .ok (.iadd, 1) := by decide +kernel
theorem dX12_image_45 : decode cX12_image 45 = .ok (.putfield 124, 3) := by decide +kernel
theorem dX12_image_48 : decode cX12_image 48 = .ok (.aload_n 0, 1) := by decide +kernel
theorem dX12_image_49 : decode cX12_image 49 = .ok (.iload_n 1, 1) := by decide +kernel
theorem dX12_image_50 : decode cX12_image 50 = .ok (.invokevirtual 327, 3) := by decide +kernel
theorem dX12_image_53 : decode cX12_image 53 = .ok (.astore_n 2, 1) := by decide +kernel
theorem dX12_image_54 : decode cX12_image 54 = .ok (.aload_n 2, 1) := by decide +kernel
theorem dX12_image_55 : decode cX12_image 55 = .ok (.ifnull 11, 3) := by decide +kernel
theorem dX12_image_58 : decode cX12_image 58 = .ok (.aload_n 2, 1) := by decide +kernel
theorem dX12_image_59 : decode cX12_image 59 = .ok (.aload_n 0, 1) := by decide +kernel
theorem dX12_image_60 : decode cX12_image 60 = .ok (.getfield 40, 3) := by decide +kernel
theorem dX12_image_63 : decode cX12_image 63 = .ok (.invokevirtual 230, 3) := by decide +kernel
theorem dX12_image_66 : decode cX12_image 66 = .ok (.iload_n 1, 1) := by decide +kernel
theorem dX12_image_67 : decode cX12_image 67 = .ok (.ireturn, 1) := by decide +kernel
theorem dX12_back_0 : decode cX12_back 0 = .ok (.aload_n 0, 1) := by decide +kernel
theorem dX12_back_1 : decode cX12_back 1 = .ok (.iload_n 1, 1) := by decide +kernel
theorem dX12_back_2 : decode cX12_back 2 = .ok (.invokevirtual 327, 3) := by decide +kernel
theorem dX12_back_5 : decode cX12_back 5 = .ok (.astore_n 2, 1) := by decide +kernel
theorem dX12_back_6 : decode cX12_back 6 = .ok (.aload_n 2, 1) := by decide +kernel
theorem dX12_back_7 : decode cX12_back 7 = .ok (.ifnull 18, 3) := by decide +kernel
theorem dX12_back_10 : decode cX12_back 10 = .ok (.aload_n 0, 1) := by decide +kernel
theorem dX12_back_11 : decode cX12_back 11 = .ok (.getfield 40, 3) := by decide +kernel
theorem dX12_back_14 : decode cX12_back 14 = .ok (.aload_n 2, 1) := by decide +kernel
theorem dX12_back_15 : decode cX12_back 15 = .ok (.invokevirtual 230, 3) := by decide +kernel
theorem dX12_back_18 : decode cX12_back 18 = .ok (.aload_n 0, 1) := by decide +kernel
theorem dX12_back_19 : decode cX12_back 19 = .ok (.getfield 54, 3) := by decide +kernel
theorem dX12_back_22 : decode cX12_back 22 = .ok (.invokevirtual 121, 3) := by decide +kernel
theorem dX12_back_25 : decode cX12_back 25 = .ok (.aload_n 0, 1) := by decide +kernel
theorem dX12_back_26 : decode cX12_back 26 = .ok (.aload_n 2, 1) := by decide +kernel
theorem dX12_back_27 : decode cX12_back 27 = .ok (.ifnonnull 7, 3) := by decide +kernel
theorem dX12_back_30 : decode cX12_back 30 = .ok (.iconst 1, 1) := by decide +kernel
theorem dX12_back_31 : decode cX12_back 31 = .ok (.goto 4, 3) := by decide +kernel
theorem dX12_back_34 : decode cX12_back 34 = .ok (.iconst 0, 1) := by decide +kernel
theorem dX12_back_35 : decode cX12_back 35 = .ok (.invokevirtual 98, 3) := by decide +kernel
theorem dX12_back_38 : decode cX12_back 38 = .ok (.ifCond .ne 7, 3) := by decide +kernel
theorem dX12_back_41 : decode cX12_back 41 = .ok (.iconst 1, 1) := by decide +kernel
theorem dX12_back_42 : decode cX12_back 42 = .ok (.goto 4, 3) := by decide +kernel
theorem dX12_back_45 : decode cX12_back 45 = .ok (.iconst 0, 1) := by decide +kernel
theorem dX12_back_46 : decode cX12_back 46 = .ok (.ireturn, 1) := by decide +kernel
theorem dX12_led_0 : decode cX12_led 0 = .ok (.iconst 0, 1) := by decide +kernel
theorem dX12_led_1 : decode cX12_led 1 = .ok (.istore_n 2, 1) := by decide +kernel
theorem dX12_led_2 : decode cX12_led 2 = .ok (.iconst 0, 1) := by decide +kernel
theorem dX12_led_3 : decode cX12_led 3 = .ok (.istore_n 3, 1) := by decide +kernel
theorem dX12_led_4 : decode cX12_led 4 = .ok (.iload_n 3, 1) := by decide +kernel
theorem dX12_led_5 : decode cX12_led 5 = .ok (.aload_n 0, 1) := by decide +kernel
theorem dX12_led_6 : decode cX12_led 6 = .ok (.getfield 19, 3) := by decide +kernel
theorem dX12_led_9 : decode cX12_led 9 = .ok (.invokevirtual 127, 3) := by decide +kernel
theorem dX12_led_12 : decode cX12_led 12 = .ok (.if_icmp .ge 37, 3) := by decide +kernel
theorem dX12_led_15 : decode cX12_led 15 = .ok (.aload_n 0, 1) := by decide +kernel
theorem dX12_led_16 : decode cX12_led 16 = .ok (.getfield 40, 3) := by decide +kernel
theorem dX12_led_19 : decode cX12_led 19 = .ok (.iload_n 3, 1) := by decide +kernel
theorem dX12_led_20 : decode cX12_led 20 = .ok (.aload_n 0, 1) := by decide +kernel
theorem dX12_led_21 : decode cX12_led 21 = .ok (.getfield 40, 3) := by decide +kernel
theorem dX12_led_24 : decode cX12_led 24 = .ok (.getfield 311, 3) := by decide +kernel
theorem dX12_led_27 : decode cX12_led 27 = .ok (.invokevirtual 190, 3) := by decide +kernel
theorem dX12_led_30 : decode cX12_led 30 = .ok (.ifCond .ne 13, 3) := by decide +kernel
theorem dX12_led_33 : decode cX12_led 33 = .ok (.iload_n 2, 1) := by decide +kernel
theorem dX12_led_34 : decode cX12_led 34 = .ok (.iload_n 1, 1) := by decide +kernel
theorem dX12_led_35 : decode cX12_led 35 = .ok (.if_icmp .ne 5, 3) := by decide +kernel
theorem dX12_led_38 : decode cX12_led 38 = .ok (.iload_n 3, 1) := by decide +kernel
theorem dX12_led_39 : decode cX12_led 39 = .ok (.ireturn, 1) := by decide +kernel
theorem dX12_led_40 : decode cX12_led 40 = .ok (.iinc 2 1, 3) := by decide +kernel
theorem dX12_led_43 : decode cX12_led 43 = .ok (.iinc 3 1, 3) := by decide +kernel
theorem dX12_led_46 : decode cX12_led 46 = .ok (.goto (-42), 3) := by decide +kernel
theorem dX12_led_49 : decode cX12_led 49 = .ok (.new 331, 3) := by decide +kernel
theorem dX12_led_52 : decode cX12_led 52 = .ok (.dup, 1) := by decide +kernel
theorem dX12_led_53 : decode cX12_led 53 = .ok (.ldc_w 333, 3) := by decide +kernel
theorem dX12_led_56 : decode cX12_led 56 = .ok (.invokespecial 335, 3) := by decide +kernel
theorem dX12_led_59 : decode cX12_led 59 = .ok (.athrow, 1) := by decide +kernel
theorem dX12_size_0 : decode cX12_size 0 = .ok (.iload_n 1, 1) := by decide +kernel
theorem dX12_size_1 : decode cX12_size 1 = .ok (.tableswitch 204 0 14 #[75, 83, 91, 99, 107, 115, 126, 134, 145, 156, 167, 175, 183, 191, 196], 75) := by decide +kernel
theorem dX12_size_76 : decode cX12_size 76 = .ok (.aload_n 0, 1) := by decide +kernel
theorem dX12_size_77 : decode cX12_size 77 = .ok (.getfield 19, 3) := by decide +kernel
theorem dX12_size_80 : decode cX12_size 80 = .ok (.getfield 285, 3) := by decide +kernel
theorem dX12_size_83 : decode cX12_size 83 = .ok (.ireturn, 1) := by decide +kernel
theorem dX12_size_84 : decode cX12_size 84 = .ok (.aload_n 0, 1) := by decide +kernel
theorem dX12_size_85 : decode cX12_size 85 = .ok (.getfield 19, 3) := by decide +kernel
theorem dX12_size_88 : decode cX12_size 88 = .ok (.getfield 338, 3) := by decide +kernel
theorem dX12_size_91 : decode cX12_size 91 = .ok (.ireturn, 1) := by decide +kernel
theorem dX12_size_92 : decode cX12_size 92 = .ok (.aload_n 0, 1) := by decide +kernel
theorem dX12_size_93 : decode cX12_size 93 = .ok (.getfield 19, 3) := by decide +kernel
theorem dX12_size_96 : decode cX12_size 96 = .ok (.getfield 341, 3) := by decide +kernel
theorem dX12_size_99 : decode cX12_size 99 = .ok (.ireturn, 1) := by decide +kernel
theorem dX12_size_100 : decode cX12_size 100 = .ok (.aload_n 0, 1) := by decide +kernel
theorem dX12_size_101 : decode cX12_size 101 = .ok (.getfield 19, 3) := by decide +kernel
theorem dX12_size_104 : decode cX12_size 104 = .ok (.getfield 344, 3) := by decide +kernel
theorem dX12_size_107 : decode cX12_size 107 = .ok (.ireturn, 1) := by decide +kernel
theorem dX12_size_108 : decode cX12_size 108 = .ok (.aload_n 0, 1) := by decide +kernel
theorem dX12_size_109 : decode cX12_size 109 = .ok (.getfield 19, 3) := by decide +kernel
theorem dX12_size_112 : decode cX12_size 112 = .ok (.invokevirtual 127, 3) := by decide +kernel
theorem dX12_size_115 : decode cX12_size 115 = .ok (.ireturn, 1) := by decide +kernel
theorem dX12_size_116 : decode cX12_size 116 = .ok (.aload_n 0, 1) := by decide +kernel
theorem dX12_size_117 : decode cX12_size 117 = .ok (.getfield 19, 3) := by decide +kernel
theorem dX12_size_120 : decode cX12_size 120 = .ok (.getstatic 347, 3) := by decide +kernel
theorem dX12_size_123 : decode cX12_size 123 = .ok (.invokevirtual 353, 3) := by decide +kernel
theorem dX12_size_126 : decode cX12_size 126 = .ok (.ireturn, 1) := by decide +kernel
theorem dX12_size_127 : decode cX12_size 127 = .ok (.aload_n 0, 1) := by decide +kernel
theorem dX12_size_128 : decode cX12_size 128 = .ok (.getfield 40, 3) := by decide +kernel
theorem dX12_size_131 : decode cX12_size 131 = .ok (.invokevirtual 356, 3) := by decide +kernel
theorem dX12_size_134 : decode cX12_size 134 = .ok (.ireturn, 1) := by decide +kernel
theorem dX12_size_135 : decode cX12_size 135 = .ok (.aload_n 0, 1) := by decide +kernel
theorem dX12_size_136 : decode cX12_size 136 = .ok (.getfield 19, 3) := by decide +kernel
theorem dX12_size_139 : decode cX12_size 139 = .ok (.getstatic 359, 3) := by decide +kernel
theorem dX12_size_142 : decode cX12_size 142 = .ok (.invokevirtual 353, 3) := by decide +kernel
theorem dX12_size_145 : decode cX12_size 145 = .ok (.ireturn, 1) := by decide +kernel
theorem dX12_size_146 : decode cX12_size 146 = .ok (.aload_n 0, 1) := by decide +kernel
theorem dX12_size_147 : decode cX12_size 147 = .ok (.getfield 19, 3) := by decide +kernel
theorem dX12_size_150 : decode cX12_size 150 = .ok (.getstatic 362, 3) := by decide +kernel
theorem dX12_size_153 : decode cX12_size 153 = .ok (.invokevirtual 353, 3) := by decide +kernel
theorem dX12_size_156 : decode cX12_size 156 = .ok (.ireturn, 1) := by decide +kernel
theorem dX12_size_157 : decode cX12_size 157 = .ok (.aload_n 0, 1) := by decide +kernel
theorem dX12_size_158 : decode cX12_size 158 = .ok (.getfield 19, 3) := by decide +kernel
theorem dX12_size_161 : decode cX12_size 161 = .ok (.getstatic 365, 3) := by decide +kernel
theorem dX12_size_164 : decode cX12_size 164 = .ok (.invokevirtual 353, 3) := by decide +kernel
theorem dX12_size_167 : decode cX12_size 167 = .ok (.ireturn, 1) := by decide +kernel
theorem dX12_size_168 : decode cX12_size 168 = .ok (.aload_n 0, 1) := by decide +kernel
theorem dX12_size_169 : decode cX12_size 169 = .ok (.getfield 40, 3) := by decide +kernel
theorem dX12_size_172 : decode cX12_size 172 = .ok (.getfield 311, 3) := by decide +kernel
theorem dX12_size_175 : decode cX12_size 175 = .ok (.ireturn, 1) := by decide +kernel
theorem dX12_size_176 : decode cX12_size 176 = .ok (.aload_n 0, 1) := by decide +kernel
theorem dX12_size_177 : decode cX12_size 177 = .ok (.getfield 40, 3) := by decide +kernel
theorem dX12_size_180 : decode cX12_size 180 = .ok (.getfield 317, 3) := by decide +kernel
theorem dX12_size_183 : decode cX12_size 183 = .ok (.ireturn, 1) := by decide +kernel
theorem dX12_size_184 : decode cX12_size 184 = .ok (.aload_n 0, 1) := by decide +kernel
theorem dX12_size_185 : decode cX12_size 185 = .ok (.getfield 54, 3) := by decide +kernel
theorem dX12_size_188 : decode cX12_size 188 = .ok (.getfield 323, 3) := by decide +kernel
theorem dX12_size_191 : decode cX12_size 191 = .ok (.ireturn, 1) := by decide +kernel
theorem dX12_size_192 : decode cX12_size 192 = .ok (.aload_n 0, 1) := by decide +kernel
theorem dX12_size_193 : decode cX12_size 193 = .ok (.getfield 124, 3) := by decide +kernel
theorem dX12_size_196 : decode cX12_size 196 = .ok (.ireturn, 1) := by decide +kernel
theorem dX12_size_197 : decode cX12_size 197 = .ok (.aload_n 0, 1) := by decide +kernel
theorem dX12_size_198 : decode cX12_size 198 = .ok (.getfield 10, 3) := by decide +kernel
theorem dX12_size_201 : decode cX12_size 201 = .ok (.getfield 94, 3) := by decide +kernel
theorem dX12_size_204 : decode cX12_size 204 = .ok (.ireturn, 1) := by decide +kernel
theorem dX12_size_205 : decode cX12_size 205 = .ok (.iconst (-1), 1) := by decide +kernel
theorem dX12_size_206 : decode cX12_size 206 = .ok (.ireturn, 1) := by decide +kernel
theorem dX12_trouble_0 : decode cX12_trouble 0 = .ok (.aload_n 0, 1) := by decide +kernel
theorem dX12_trouble_1 : decode cX12_trouble 1 = .ok (.getfield 131, 3) := by decide +kernel
theorem dX12_trouble_4 : decode cX12_trouble 4 = .ok (.ireturn, 1) := by decide +kernel
theorem dX12_refused_0 : decode cX12_refused 0 = .ok (.aload_n 0, 1) := by decide +kernel
theorem dX12_refused_1 : decode cX12_refused 1 = .ok (.iload_n 1, 1) := by decide +kernel
theorem dX12_refused_2 : decode cX12_refused 2 = .ok (.putfield 131, 3) := by decide +kernel
theorem dX12_refused_5 : decode cX12_refused 5 = .ok (.iload_n 1, 1) := by decide +kernel
theorem dX12_refused_6 : decode cX12_refused 6 = .ok (.ifCond .eq 7, 3) := by decide +kernel
theorem dX12_refused_9 : decode cX12_refused 9 = .ok (.iconst 1, 1) := by decide +kernel
theorem dX12_refused_10 : decode cX12_refused 10 = .ok (.goto 4, 3) := by decide +kernel
theorem dX12_refused_13 : decode cX12_refused 13 = .ok (.iconst 0, 1) := by decide +kernel
theorem dX12_refused_14 : decode cX12_refused 14 = .ok (.ireturn, 1) := by decide +kernel
theorem dX12_ofTown_0 : decode cX12_ofTown 0 = .ok (.aload_n 0, 1) := by decide +kernel
theorem dX12_ofTown_1 : decode cX12_ofTown 1 = .ok (.getfield 19, 3) := by decide +kernel
theorem dX12_ofTown_4 : decode cX12_ofTown 4 = .ok (.invokevirtual 127, 3) := by decide +kernel
theorem dX12_ofTown_7 : decode cX12_ofTown 7 = .ok (.ifCond .ne 7, 3) := by decide +kernel
theorem dX12_ofTown_10 : decode cX12_ofTown 10 = .ok (.iconst 1, 1) := by decide +kernel
theorem dX12_ofTown_11 : decode cX12_ofTown 11 = .ok (.goto 4, 3) := by decide +kernel
theorem dX12_ofTown_14 : decode cX12_ofTown 14 = .ok (.iconst 0, 1) := by decide +kernel
theorem dX12_ofTown_15 : decode cX12_ofTown 15 = .ok (.ireturn, 1) := by decide +kernel
theorem dX12_ofPerson_0 : decode cX12_ofPerson 0 = .ok (.iload_n 1, 1) := by decide +kernel
theorem dX12_ofPerson_1 : decode cX12_ofPerson 1 = .ok (.aload_n 0, 1) := by decide +kernel
theorem dX12_ofPerson_2 : decode cX12_ofPerson 2 = .ok (.getfield 19, 3) := by decide +kernel
theorem dX12_ofPerson_5 : decode cX12_ofPerson 5 = .ok (.invokevirtual 127, 3) := by decide +kernel
theorem dX12_ofPerson_8 : decode cX12_ofPerson 8 = .ok (.invokestatic 215, 3) := by decide +kernel
theorem dX12_ofPerson_11 : decode cX12_ofPerson 11 = .ok (.ifCond .eq 7, 3) := by decide +kernel
theorem dX12_ofPerson_14 : decode cX12_ofPerson 14 = .ok (.iconst 0, 1) := by decide +kernel
theorem dX12_ofPerson_15 : decode cX12_ofPerson 15 = .ok (.goto 4, 3) := by decide +kernel
theorem dX12_ofPerson_18 : decode cX12_ofPerson 18 = .ok (.iconst 1, 1) := by decide +kernel
theorem dX12_ofPerson_19 : decode cX12_ofPerson 19 = .ok (.ireturn, 1) := by decide +kernel
theorem dX12_ofDay_0 : decode cX12_ofDay 0 = .ok (.aload_n 0, 1) := by decide +kernel
theorem dX12_ofDay_1 : decode cX12_ofDay 1 = .ok (.invokevirtual 201, 3) := by decide +kernel
theorem dX12_ofDay_4 : decode cX12_ofDay 4 = .ok (.ifCond .eq 7, 3) := by decide +kernel
theorem dX12_ofDay_7 : decode cX12_ofDay 7 = .ok (.iconst 1, 1) := by decide +kernel
theorem dX12_ofDay_8 : decode cX12_ofDay 8 = .ok (.goto 17, 3) := by decide +kernel
theorem dX12_ofDay_11 : decode cX12_ofDay 11 = .ok (.iload_n 1, 1) := by decide +kernel
theorem dX12_ofDay_12 : decode cX12_ofDay 12 = .ok (.bipush 30, 2) := by decide +kernel
theorem dX12_ofDay_14 : decode cX12_ofDay 14 = .ok (.invokestatic 215, 3) := by decide +kernel
theorem dX12_ofDay_17 : decode cX12_ofDay 17 = .ok (.ifCond .eq 7, 3) := by decide +kernel
theorem dX12_ofDay_20 : decode cX12_ofDay 20 = .ok (.iconst 0, 1) := by decide +kernel
theorem dX12_ofDay_21 : decode cX12_ofDay 21 = .ok (.goto 4, 3) := by decide +kernel
theorem dX12_ofDay_24 : decode cX12_ofDay 24 = .ok (.iconst 2, 1) := by decide +kernel
theorem dX12_ofDay_25 : decode cX12_ofDay 25 = .ok (.ireturn, 1) := by decide +kernel
theorem dX12_ofPersonOnDay_0 : decode cX12_ofPersonOnDay 0 = .ok (.aload_n 0, 1) := by decide +kernel
theorem dX12_ofPersonOnDay_1 : decode cX12_ofPersonOnDay 1 = .ok (.iload_n 1, 1) := by decide +kernel
theorem dX12_ofPersonOnDay_2 : decode cX12_ofPersonOnDay 2 = .ok (.invokevirtual 157, 3) := by decide +kernel
theorem dX12_ofPersonOnDay_5 : decode cX12_ofPersonOnDay 5 = .ok (.ifCond .eq 7, 3) := by decide +kernel
theorem dX12_ofPersonOnDay_8 : decode cX12_ofPersonOnDay 8 = .ok (.iconst 1, 1) := by decide +kernel
theorem dX12_ofPersonOnDay_9 : decode cX12_ofPersonOnDay 9 = .ok (.goto 8, 3) := by decide +kernel
theorem dX12_ofPersonOnDay_12 : decode cX12_ofPersonOnDay 12 = .ok (.aload_n 0, 1) := by decide +kernel
theorem dX12_ofPersonOnDay_13 : decode cX12_ofPersonOnDay 13 = .ok (.iload_n 2, 1) := by decide +kernel
theorem dX12_ofPersonOnDay_14 : decode cX12_ofPersonOnDay 14 = .ok (.invokevirtual 175, 3) := by decide +kernel
theorem dX12_ofPersonOnDay_17 : decode cX12_ofPersonOnDay 17 = .ok (.ireturn, 1) := by decide +kernel
theorem dX12_ofMarkOnDay_0 : decode cX12_ofMarkOnDay 0 = .ok (.iload_n 3, 1) := by decide +kernel
theorem dX12_ofMarkOnDay_1 : decode cX12_ofMarkOnDay 1 = .ok (.aload_n 0, 1) := by decide +kernel
theorem dX12_ofMarkOnDay_2 : decode cX12_ofMarkOnDay 2 = .ok (.getfield 19, 3) := by decide +kernel
theorem dX12_ofMarkOnDay_5 : decode cX12_ofMarkOnDay 5 = .ok (.getfield 285, 3) := by decide +kernel
theorem dX12_ofMarkOnDay_8 : decode cX12_ofMarkOnDay 8 = .ok (.invokestatic 215, 3) := by decide +kernel
theorem dX12_ofMarkOnDay_11 : decode cX12_ofMarkOnDay 11 = .ok (.ifCond .eq 12, 3) := by decide +kernel
theorem dX12_ofMarkOnDay_14 : decode cX12_ofMarkOnDay 14 = .ok (.aload_n 0, 1) := by decide +kernel
theorem dX12_ofMarkOnDay_15 : decode cX12_ofMarkOnDay 15 = .ok (.iload_n 1, 1) := by decide +kernel
theorem dX12_ofMarkOnDay_16 : decode cX12_ofMarkOnDay 16 = .ok (.iload_n 2, 1) := by decide +kernel
theorem dX12_ofMarkOnDay_17 : decode cX12_ofMarkOnDay 17 = .ok (.invokevirtual 169, 3) := by decide +kernel
theorem dX12_ofMarkOnDay_20 : decode cX12_ofMarkOnDay 20 = .ok (.goto 4, 3) := by decide +kernel
theorem dX12_ofMarkOnDay_23 : decode cX12_ofMarkOnDay 23 = .ok (.iconst 1, 1) := by decide +kernel
theorem dX12_ofMarkOnDay_24 : decode cX12_ofMarkOnDay 24 = .ok (.ireturn, 1) := by decide +kernel
theorem dX12_ofSwap_0 : decode cX12_ofSwap 0 = .ok (.aload_n 0, 1) := by decide +kernel
theorem dX12_ofSwap_1 : decode cX12_ofSwap 1 = .ok (.iload_n 1, 1) := by decide +kernel
theorem dX12_ofSwap_2 : decode cX12_ofSwap 2 = .ok (.invokevirtual 175, 3) := by decide +kernel
theorem dX12_ofSwap_5 : decode cX12_ofSwap 5 = .ok (.aload_n 0, 1) := by decide +kernel
theorem dX12_ofSwap_6 : decode cX12_ofSwap 6 = .ok (.iload_n 2, 1) := by decide +kernel
theorem dX12_ofSwap_7 : decode cX12_ofSwap 7 = .ok (.invokevirtual 175, 3) := by decide +kernel
theorem dX12_ofSwap_10 : decode cX12_ofSwap 10 = .ok (.invokestatic 243, 3) := by decide +kernel
theorem dX12_ofSwap_13 : decode cX12_ofSwap 13 = .ok (.istore_n 3, 1) := by decide +kernel
theorem dX12_ofSwap_14 : decode cX12_ofSwap 14 = .ok (.iload_n 3, 1) := by decide +kernel
theorem dX12_ofSwap_15 : decode cX12_ofSwap 15 = .ok (.ifCond .eq 5, 3) := by decide +kernel
theorem dX12_ofSwap_18 : decode cX12_ofSwap 18 = .ok (.iload_n 3, 1) := by decide +kernel
theorem dX12_ofSwap_19 : decode cX12_ofSwap 19 = .ok (.ireturn, 1) := by decide +kernel
theorem dX12_ofSwap_20 : decode cX12_ofSwap 20 = .ok (.iload_n 1, 1) := by decide +kernel
theorem dX12_ofSwap_21 : decode cX12_ofSwap 21 = .ok (.iload_n 2, 1) := by decide +kernel
theorem dX12_ofSwap_22 : decode cX12_ofSwap 22 = .ok (.if_icmp .eq 29, 3) := by decide +kernel
theorem dX12_ofSwap_25 : decode cX12_ofSwap 25 = .ok (.aload_n 0, 1) := by decide +kernel
theorem dX12_ofSwap_26 : decode cX12_ofSwap 26 = .ok (.getfield 40, 3) := by decide +kernel
theorem dX12_ofSwap_29 : decode cX12_ofSwap 29 = .ok (.iload_n 1, 1) := by decide +kernel
theorem dX12_ofSwap_30 : decode cX12_ofSwap 30 = .ok (.invokevirtual 248, 3) := by decide +kernel
theorem dX12_ofSwap_33 : decode cX12_ofSwap 33 = .ok (.ifCond .eq 18, 3) := by decide +kernel
theorem dX12_ofSwap_36 : decode cX12_ofSwap 36 = .ok (.aload_n 0, 1) := by decide +kernel
theorem dX12_ofSwap_37 : decode cX12_ofSwap 37 = .ok (.getfield 40, 3) := by decide +kernel
theorem dX12_ofSwap_40 : decode cX12_ofSwap 40 = .ok (.iload_n 2, 1) := by decide +kernel
theorem dX12_ofSwap_41 : decode cX12_ofSwap 41 = .ok (.invokevirtual 248, 3) := by decide +kernel
theorem dX12_ofSwap_44 : decode cX12_ofSwap 44 = .ok (.ifCond .eq 7, 3) := by decide +kernel
theorem dX12_ofSwap_47 : decode cX12_ofSwap 47 = .ok (.iconst 0, 1) := by decide +kernel
theorem dX12_ofSwap_48 : decode cX12_ofSwap 48 = .ok (.goto 4, 3) := by decide +kernel
theorem dX12_ofSwap_51 : decode cX12_ofSwap 51 = .ok (.iconst 5, 1) := by decide +kernel
theorem dX12_ofSwap_52 : decode cX12_ofSwap 52 = .ok (.ireturn, 1) := by decide +kernel
theorem dX12_ofShock_0 : decode cX12_ofShock 0 = .ok (.aload_n 0, 1) := by decide +kernel
theorem dX12_ofShock_1 : decode cX12_ofShock 1 = .ok (.iload_n 1, 1) := by decide +kernel
theorem dX12_ofShock_2 : decode cX12_ofShock 2 = .ok (.invokevirtual 157, 3) := by decide +kernel
theorem dX12_ofShock_5 : decode cX12_ofShock 5 = .ok (.ifCond .ne 17, 3) := by decide +kernel
theorem dX12_ofShock_8 : decode cX12_ofShock 8 = .ok (.iload_n 2, 1) := by decide +kernel
theorem dX12_ofShock_9 : decode cX12_ofShock 9 = .ok (.aload_n 0, 1) := by decide +kernel
theorem dX12_ofShock_10 : decode cX12_ofShock 10 = .ok (.getfield 19, 3) := by decide +kernel
theorem dX12_ofShock_13 : decode cX12_ofShock 13 = .ok (.getfield 285, 3) := by decide +kernel
theorem dX12_ofShock_16 : decode cX12_ofShock 16 = .ok (.invokestatic 215, 3) := by decide +kernel
theorem dX12_ofShock_19 : decode cX12_ofShock 19 = .ok (.ifCond .ne 5, 3) := by decide +kernel
theorem dX12_ofShock_22 : decode cX12_ofShock 22 = .ok (.iconst 1, 1) := by decide +kernel
theorem dX12_ofShock_23 : decode cX12_ofShock 23 = .ok (.ireturn, 1) := by decide +kernel
theorem dX12_ofShock_24 : decode cX12_ofShock 24 = .ok (.iload_n 3, 1) := by decide +kernel
theorem dX12_ofShock_25 : decode cX12_ofShock 25 = .ok (.iconst 1, 1) := by decide +kernel
theorem dX12_ofShock_26 : decode cX12_ofShock 26 = .ok (.if_icmp .lt 8, 3) := by decide +kernel
theorem dX12_ofShock_29 : decode cX12_ofShock 29 = .ok (.iload_n 3, 1) := by decide +kernel
theorem dX12_ofShock_30 : decode cX12_ofShock 30 = .ok (.iconst 4, 1) := by decide +kernel
theorem dX12_ofShock_31 : decode cX12_ofShock 31 = .ok (.if_icmp .lt 5, 3) := by decide +kernel
theorem dX12_ofShock_34 : decode cX12_ofShock 34 = .ok (.iconst 2, 1) := by decide +kernel
theorem dX12_ofShock_35 : decode cX12_ofShock 35 = .ok (.ireturn, 1) := by decide +kernel
theorem dX12_ofShock_36 : decode cX12_ofShock 36 = .ok (.aload_n 0, 1) := by decide +kernel
theorem dX12_ofShock_37 : decode cX12_ofShock 37 = .ok (.getfield 40, 3) := by decide +kernel
theorem dX12_ofShock_40 : decode cX12_ofShock 40 = .ok (.getfield 317, 3) := by decide +kernel
theorem dX12_ofShock_43 : decode cX12_ofShock 43 = .ok (.bipush 12, 2) := by decide +kernel
theorem dX12_ofShock_45 : decode cX12_ofShock 45 = .ok (.if_icmp .lt 7, 3) := by decide +kernel
theorem dX12_ofShock_48 : decode cX12_ofShock 48 = .ok (.iconst 3, 1) := by decide +kernel
theorem dX12_ofShock_49 : decode cX12_ofShock 49 = .ok (.goto 4, 3) := by decide +kernel
theorem dX12_ofShock_52 : decode cX12_ofShock 52 = .ok (.iconst 0, 1) := by decide +kernel
theorem dX12_ofShock_53 : decode cX12_ofShock 53 = .ok (.ireturn, 1) := by decide +kernel
theorem dX12_ofGoingBy_0 : decode cX12_ofGoingBy 0 = .ok (.aload_n 0, 1) := by decide +kernel
theorem dX12_ofGoingBy_1 : decode cX12_ofGoingBy 1 = .ok (.invokevirtual 201, 3) := by decide +kernel
theorem dX12_ofGoingBy_4 : decode cX12_ofGoingBy 4 = .ok (.ifCond .eq 5, 3) := by decide +kernel
theorem dX12_ofGoingBy_7 : decode cX12_ofGoingBy 7 = .ok (.iconst 1, 1) := by decide +kernel
theorem dX12_ofGoingBy_8 : decode cX12_ofGoingBy 8 = .ok (.ireturn, 1) := by decide +kernel
theorem dX12_ofGoingBy_9 : decode cX12_ofGoingBy 9 = .ok (.iload_n 1, 1) := by decide +kernel
theorem dX12_ofGoingBy_10 : decode cX12_ofGoingBy 10 = .ok (.iconst 1, 1) := by decide +kernel
theorem dX12_ofGoingBy_11 : decode cX12_ofGoingBy 11 = .ok (.if_icmp .lt 9, 3) := by decide +kernel
theorem dX12_ofGoingBy_14 : decode cX12_ofGoingBy 14 = .ok (.iload_n 1, 1) := by decide +kernel
theorem dX12_ofGoingBy_15 : decode cX12_ofGoingBy 15 = .ok (.bipush 30, 2) := by decide +kernel
theorem dX12_ofGoingBy_17 : decode cX12_ofGoingBy 17 = .ok (.if_icmp .lt 5, 3) := by decide +kernel
theorem dX12_ofGoingBy_20 : decode cX12_ofGoingBy 20 = .ok (.iconst 2, 1) := by decide +kernel
theorem dX12_ofGoingBy_21 : decode cX12_ofGoingBy 21 = .ok (.ireturn, 1) := by decide +kernel
theorem dX12_ofGoingBy_22 : decode cX12_ofGoingBy 22 = .ok (.aload_n 0, 1) := by decide +kernel
theorem dX12_ofGoingBy_23 : decode cX12_ofGoingBy 23 = .ok (.getfield 40, 3) := by decide +kernel
theorem dX12_ofGoingBy_26 : decode cX12_ofGoingBy 26 = .ok (.getfield 311, 3) := by decide +kernel
theorem dX12_ofGoingBy_29 : decode cX12_ofGoingBy 29 = .ok (.iload_n 1, 1) := by decide +kernel
theorem dX12_ofGoingBy_30 : decode cX12_ofGoingBy 30 = .ok (.iadd, 1) := by decide +kernel
theorem dX12_ofGoingBy_31 : decode cX12_ofGoingBy 31 = .ok (.bipush 30, 2) := by decide +kernel
theorem dX12_ofGoingBy_33 : decode cX12_ofGoingBy 33 = .ok (.if_icmp .lt 7, 3) := by decide +kernel
theorem dX12_ofGoingBy_36 : decode cX12_ofGoingBy 36 = .ok (.iconst 3, 1) := by decide +kernel
theorem dX12_ofGoingBy_37 : decode cX12_ofGoingBy 37 = .ok (.goto 4, 3) := by decide +kernel
theorem dX12_ofGoingBy_40 : decode cX12_ofGoingBy 40 = .ok (.iconst 0, 1) := by decide +kernel
theorem dX12_ofGoingBy_41 : decode cX12_ofGoingBy 41 = .ok (.ireturn, 1) := by decide +kernel
theorem dX12_heldBySwap_0 : decode cX12_heldBySwap 0 = .ok (.aload_n 0, 1) := by decide +kernel
theorem dX12_heldBySwap_1 : decode cX12_heldBySwap 1 = .ok (.getfield 44, 3) := by decide +kernel
theorem dX12_heldBySwap_4 : decode cX12_heldBySwap 4 = .ok (.iload_n 1, 1) := by decide +kernel
theorem dX12_heldBySwap_5 : decode cX12_heldBySwap 5 = .ok (.aload_n 0, 1) := by decide +kernel
theorem dX12_heldBySwap_6 : decode cX12_heldBySwap 6 = .ok (.getfield 40, 3) := by decide +kernel
theorem dX12_heldBySwap_9 : decode cX12_heldBySwap 9 = .ok (.iload_n 2, 1) := by decide +kernel
theorem dX12_heldBySwap_10 : decode cX12_heldBySwap 10 = .ok (.invokevirtual 181, 3) := by decide +kernel
theorem dX12_heldBySwap_13 : decode cX12_heldBySwap 13 = .ok (.invokevirtual 236, 3) := by decide +kernel
theorem dX12_heldBySwap_16 : decode cX12_heldBySwap 16 = .ok (.aload_n 0, 1) := by decide +kernel
theorem dX12_heldBySwap_17 : decode cX12_heldBySwap 17 = .ok (.getfield 44, 3) := by decide +kernel
theorem dX12_heldBySwap_20 : decode cX12_heldBySwap 20 = .ok (.iload_n 2, 1) := by decide +kernel
theorem dX12_heldBySwap_21 : decode cX12_heldBySwap 21 = .ok (.aload_n 0, 1) := by decide +kernel
theorem dX12_heldBySwap_22 : decode cX12_heldBySwap 22 = .ok (.getfield 40, 3) := by decide +kernel
theorem dX12_heldBySwap_25 : decode cX12_heldBySwap 25 = .ok (.iload_n 1, 1) := by decide +kernel
theorem dX12_heldBySwap_26 : decode cX12_heldBySwap 26 = .ok (.invokevirtual 181, 3) := by decide +kernel
theorem dX12_heldBySwap_29 : decode cX12_heldBySwap 29 = .ok (.invokevirtual 236, 3) := by decide +kernel
theorem dX12_heldBySwap_32 : decode cX12_heldBySwap 32 = .ok (.aload_n 0, 1) := by decide +kernel
theorem dX12_heldBySwap_33 : decode cX12_heldBySwap 33 = .ok (.getfield 44, 3) := by decide +kernel
theorem dX12_heldBySwap_36 : decode cX12_heldBySwap 36 = .ok (.invokevirtual 240, 3) := by decide +kernel
theorem dX12_heldBySwap_39 : decode cX12_heldBySwap 39 = .ok (.istore_n 3, 1) := by decide +kernel
theorem dX12_heldBySwap_40 : decode cX12_heldBySwap 40 = .ok (.aload_n 0, 1) := by decide +kernel
theorem dX12_heldBySwap_41 : decode cX12_heldBySwap 41 = .ok (.getfield 44, 3) := by decide +kernel
theorem dX12_heldBySwap_44 : decode cX12_heldBySwap 44 = .ok (.iload_n 1, 1) := by decide +kernel
theorem dX12_heldBySwap_45 : decode cX12_heldBySwap 45 = .ok (.aload_n 0, 1) := by decide +kernel
theorem dX12_heldBySwap_46 : decode cX12_heldBySwap 46 = .ok (.getfield 40, 3) := by decide +kernel
theorem dX12_heldBySwap_49 : decode cX12_heldBySwap 49 = .ok (.iload_n 1, 1) := by decide +kernel
theorem dX12_heldBySwap_50 : decode cX12_heldBySwap 50 = .ok (.invokevirtual 181, 3) := by decide +kernel
theorem dX12_heldBySwap_53 : decode cX12_heldBySwap 53 = .ok (.invokevirtual 236, 3) := by decide +kernel
theorem dX12_heldBySwap_56 : decode cX12_heldBySwap 56 = .ok (.aload_n 0, 1) := by decide +kernel
theorem dX12_heldBySwap_57 : decode cX12_heldBySwap 57 = .ok (.getfield 44, 3) := by decide +kernel
theorem dX12_heldBySwap_60 : decode cX12_heldBySwap 60 = .ok (.iload_n 2, 1) := by decide +kernel
theorem dX12_heldBySwap_61 : decode cX12_heldBySwap 61 = .ok (.aload_n 0, 1) := by decide +kernel
theorem dX12_heldBySwap_62 : decode cX12_heldBySwap 62 = .ok (.getfield 40, 3) := by decide +kernel
theorem dX12_heldBySwap_65 : decode cX12_heldBySwap 65 = .ok (.iload_n 2, 1) := by decide +kernel
theorem dX12_heldBySwap_66 : decode cX12_heldBySwap 66 = .ok (.invokevirtual 181, 3) := by decide +kernel
theorem dX12_heldBySwap_69 : decode cX12_heldBySwap 69 = .ok (.invokevirtual 236, 3) := by decide +kernel
theorem dX12_heldBySwap_72 : decode cX12_heldBySwap 72 = .ok (.iload_n 3, 1) := by decide +kernel
theorem dX12_heldBySwap_73 : decode cX12_heldBySwap 73 = .ok (.ireturn, 1) := by decide +kernel
theorem dX12_pictureOf_0 : decode cX12_pictureOf 0 = .ok (.iload_n 1, 1) := by decide +kernel
theorem dX12_pictureOf_1 : decode cX12_pictureOf 1 = .ok (.aload_n 0, 1) := by decide +kernel
theorem dX12_pictureOf_2 : decode cX12_pictureOf 2 = .ok (.getfield 124, 3) := by decide +kernel
theorem dX12_pictureOf_5 : decode cX12_pictureOf 5 = .ok (.invokestatic 215, 3) := by decide +kernel
theorem dX12_pictureOf_8 : decode cX12_pictureOf 8 = .ok (.ifCond .eq 24, 3) := by decide +kernel
theorem dX12_pictureOf_11 : decode cX12_pictureOf 11 = .ok (.iload_n 1, 1) := by decide +kernel
theorem dX12_pictureOf_12 : decode cX12_pictureOf 12 = .ok (.aload_n 0, 1) := by decide +kernel
theorem dX12_pictureOf_13 : decode cX12_pictureOf 13 = .ok (.getfield 47, 3) := by decide +kernel
theorem dX12_pictureOf_16 : decode cX12_pictureOf 16 = .ok (.arraylength, 1) := by decide +kernel
theorem dX12_pictureOf_17 : decode cX12_pictureOf 17 = .ok (.invokestatic 215, 3) := by decide +kernel
theorem dX12_pictureOf_20 : decode cX12_pictureOf 20 = .ok (.ifCond .eq 12, 3) := by decide +kernel
theorem dX12_pictureOf_23 : decode cX12_pictureOf 23 = .ok (.aload_n 0, 1) := by decide +kernel
theorem dX12_pictureOf_24 : decode cX12_pictureOf 24 = .ok (.getfield 47, 3) := by decide +kernel
theorem dX12_pictureOf_27 : decode cX12_pictureOf 27 = .ok (.iload_n 1, 1) := by decide +kernel
theorem dX12_pictureOf_28 : decode cX12_pictureOf 28 = .ok (.aaload, 1) := by decide +kernel
theorem dX12_pictureOf_29 : decode cX12_pictureOf 29 = .ok (.goto 4, 3) := by decide +kernel
theorem dX12_pictureOf_32 : decode cX12_pictureOf 32 = .ok (.aconst_null, 1) := by decide +kernel
theorem dX12_pictureOf_33 : decode cX12_pictureOf 33 = .ok (.areturn, 1) := by decide +kernel
theorem dX12_inside_0 : decode cX12_inside 0 = .ok (.iload_n 0, 1) := by decide +kernel
theorem dX12_inside_1 : decode cX12_inside 1 = .ok (.ifCond .lt 12, 3) := by decide +kernel
theorem dX12_inside_4 : decode cX12_inside 4 = .ok (.iload_n 0, 1) := by decide +kernel
theorem dX12_inside_5 : decode cX12_inside 5 = .ok (.iload_n 1, 1) := by decide +kernel
theorem dX12_inside_6 : decode cX12_inside 6 = .ok (.if_icmp .ge 7, 3) := by decide +kernel
theorem dX12_inside_9 : decode cX12_inside 9 = .ok (.iconst 1, 1) := by decide +kernel
theorem dX12_inside_10 : decode cX12_inside 10 = .ok (.goto 4, 3) := by decide +kernel
theorem dX12_inside_13 : decode cX12_inside 13 = .ok (.iconst 0, 1) := by decide +kernel
theorem dX12_inside_14 : decode cX12_inside 14 = .ok (.ireturn, 1) := by decide +kernel
theorem dX12_get_0 : decode cX12_get 0 = .ok (.iload_n 1, 1) := by decide +kernel
theorem dX12_get_1 : decode cX12_get 1 = .ok (.ifCond .lt 15, 3) := by decide +kernel
theorem dX12_get_4 : decode cX12_get 4 = .ok (.iload_n 1, 1) := by decide +kernel
theorem dX12_get_5 : decode cX12_get 5 = .ok (.aload_n 0, 1) := by decide +kernel
theorem dX12_get_6 : decode cX12_get 6 = .ok (.arraylength, 1) := by decide +kernel
theorem dX12_get_7 : decode cX12_get 7 = .ok (.if_icmp .ge 9, 3) := by decide +kernel
theorem dX12_get_10 : decode cX12_get 10 = .ok (.aload_n 0, 1) := by decide +kernel
theorem dX12_get_11 : decode cX12_get 11 = .ok (.iload_n 1, 1) := by decide +kernel
theorem dX12_get_12 : decode cX12_get 12 = .ok (.iaload, 1) := by decide +kernel
theorem dX12_get_13 : decode cX12_get 13 = .ok (.goto 4, 3) := by decide +kernel
theorem dX12_get_16 : decode cX12_get 16 = .ok (.iconst 0, 1) := by decide +kernel
theorem dX12_get_17 : decode cX12_get 17 = .ok (.ireturn, 1) := by decide +kernel
theorem dX12_set_0 : decode cX12_set 0 = .ok (.iload_n 1, 1) := by decide +kernel
theorem dX12_set_1 : decode cX12_set 1 = .ok (.ifCond .lt 13, 3) := by decide +kernel
theorem dX12_set_4 : decode cX12_set 4 = .ok (.iload_n 1, 1) := by decide +kernel
theorem dX12_set_5 : decode cX12_set 5 = .ok (.aload_n 0, 1) := by decide +kernel
theorem dX12_set_6 : decode cX12_set 6 = .ok (.arraylength, 1) := by decide +kernel
theorem dX12_set_7 : decode cX12_set 7 = .ok (.if_icmp .ge 7, 3) := by decide +kernel
theorem dX12_set_10 : decode cX12_set 10 = .ok (.aload_n 0, 1) := by decide +kernel
theorem dX12_set_11 : decode cX12_set 11 = .ok (.iload_n 1, 1) := by decide +kernel
theorem dX12_set_12 : decode cX12_set 12 = .ok (.iload_n 2, 1) := by decide +kernel
theorem dX12_set_13 : decode cX12_set 13 = .ok (.iastore, 1) := by decide +kernel
theorem dX12_set_14 : decode cX12_set 14 = .ok (.return_, 1) := by decide +kernel
theorem dX12_fill_0 : decode cX12_fill 0 = .ok (.iconst 0, 1) := by decide +kernel
theorem dX12_fill_1 : decode cX12_fill 1 = .ok (.istore_n 2, 1) := by decide +kernel
theorem dX12_fill_2 : decode cX12_fill 2 = .ok (.iload_n 2, 1) := by decide +kernel
theorem dX12_fill_3 : decode cX12_fill 3 = .ok (.aload_n 0, 1) := by decide +kernel
theorem dX12_fill_4 : decode cX12_fill 4 = .ok (.arraylength, 1) := by decide +kernel
theorem dX12_fill_5 : decode cX12_fill 5 = .ok (.if_icmp .ge 13, 3) := by decide +kernel
theorem dX12_fill_8 : decode cX12_fill 8 = .ok (.aload_n 0, 1) := by decide +kernel
theorem dX12_fill_9 : decode cX12_fill 9 = .ok (.iload_n 2, 1) := by decide +kernel
theorem dX12_fill_10 : decode cX12_fill 10 = .ok (.iload_n 1, 1) := by decide +kernel
theorem dX12_fill_11 : decode cX12_fill 11 = .ok (.iastore, 1) := by decide +kernel
theorem dX12_fill_12 : decode cX12_fill 12 = .ok (.iinc 2 1, 3) := by decide +kernel
theorem dX12_fill_15 : decode cX12_fill 15 = .ok (.goto (-13), 3) := by decide +kernel
theorem dX12_fill_18 : decode cX12_fill 18 = .ok (.return_, 1) := by decide +kernel
theorem dX12_copyRow_0 : decode cX12_copyRow 0 = .ok (.aload_n 0, 1) := by decide +kernel
theorem dX12_copyRow_1 : decode cX12_copyRow 1 = .ok (.iconst 0, 1) := by decide +kernel
theorem dX12_copyRow_2 : decode cX12_copyRow 2 = .ok (.aload_n 1, 1) := by decide +kernel
theorem dX12_copyRow_3 : decode cX12_copyRow 3 = .ok (.iconst 0, 1) := by decide +kernel
theorem dX12_copyRow_4 : decode cX12_copyRow 4 = .ok (.aload_n 0, 1) := by decide +kernel
theorem dX12_copyRow_5 : decode cX12_copyRow 5 = .ok (.arraylength, 1) := by decide +kernel
theorem dX12_copyRow_6 : decode cX12_copyRow 6 = .ok (.aload_n 1, 1) := by decide +kernel
theorem dX12_copyRow_7 : decode cX12_copyRow 7 = .ok (.arraylength, 1) := by decide +kernel
theorem dX12_copyRow_8 : decode cX12_copyRow 8 = .ok (.invokestatic 368, 3) := by decide +kernel
theorem dX12_copyRow_11 : decode cX12_copyRow 11 = .ok (.invokestatic 371, 3) := by decide +kernel
theorem dX12_copyRow_14 : decode cX12_copyRow 14 = .ok (.return_, 1) := by decide +kernel
theorem dX13_init_0 : decode cX13_init 0 = .ok (.aload_n 0, 1) := by decide +kernel
theorem dX13_init_1 : decode cX13_init 1 = .ok (.invokespecial 1, 3) := by decide +kernel
theorem dX13_init_4 : decode cX13_init 4 = .ok (.aload_n 0, 1) := by decide +kernel
theorem dX13_init_5 : decode cX13_init 5 = .ok (.sipush 800, 3) := by decide +kernel
theorem dX13_init_8 : decode cX13_init 8 = .ok (.newarray .int, 2) := by decide +kernel
theorem dX13_init_10 : decode cX13_init 10 = .ok (.putfield 7, 3) := by decide +kernel
theorem dX13_init_13 : decode cX13_init 13 = .ok (.aload_n 0, 1) := by decide +kernel
theorem dX13_init_14 : decode cX13_init 14 = .ok (.iconst (-1), 1) := by decide +kernel
theorem dX13_init_15 : decode cX13_init 15 = .ok (.putfield 13, 3) := by decide +kernel
theorem dX13_init_18 : decode cX13_init 18 = .ok (.aload_n 0, 1) := by decide +kernel
theorem dX13_init_19 : decode cX13_init 19 = .ok (.bipush 8, 2) := by decide +kernel
theorem dX13_init_21 : decode cX13_init 21 = .ok (.newarray .int, 2) := by decide +kernel
theorem dX13_init_23 : decode cX13_init 23 = .ok (.putfield 17, 3) := by decide +kernel
theorem dX13_init_26 : decode cX13_init 26 = .ok (.aload_n 0, 1) := by decide +kernel
theorem dX13_init_27 : decode cX13_init 27 = .ok (.sipush 175, 3) := by decide +kernel
theorem dX13_init_30 : decode cX13_init 30 = .ok (.newarray .int, 2) := by decide +kernel
theorem dX13_init_32 : decode cX13_init 32 = .ok (.putfield 20, 3) := by decide +kernel
theorem dX13_init_35 : decode cX13_init 35 = .ok (.aload_n 0, 1) := by decide +kernel
theorem dX13_init_36 : decode cX13_init 36 = .ok (.sipush 175, 3) := by decide +kernel
theorem dX13_init_39 : decode cX13_init 39 = .ok (.newarray .int, 2) := by decide +kernel
theorem dX13_init_41 : decode cX13_init 41 = .ok (.putfield 23, 3) := by decide +kernel
theorem dX13_init_44 : decode cX13_init 44 = .ok (.aload_n 0, 1) := by decide +kernel
theorem dX13_init_45 : decode cX13_init 45 = .ok (.bipush 80, 2) := by decide +kernel
theorem dX13_init_47 : decode cX13_init 47 = .ok (.newarray .int, 2) := by decide +kernel
theorem dX13_init_49 : decode cX13_init 49 = .ok (.putfield 26, 3) := by decide +kernel
theorem dX13_init_52 : decode cX13_init 52 = .ok (.aload_n 0, 1) := by decide +kernel
theorem dX13_init_53 : decode cX13_init 53 = .ok (.sipush 1280, 3) := by decide +kernel
theorem dX13_init_56 : decode cX13_init 56 = .ok (.newarray .int, 2) := by decide +kernel
theorem dX13_init_58 : decode cX13_init 58 = .ok (.putfield 29, 3) := by decide +kernel
theorem dX13_init_61 : decode cX13_init 61 = .ok (.aload_n 0, 1) := by decide +kernel
theorem dX13_init_62 : decode cX13_init 62 = .ok (.sipush 240, 3) := by decide +kernel
theorem dX13_init_65 : decode cX13_init 65 = .ok (.newarray .int, 2) := by decide +kernel
theorem dX13_init_67 : decode cX13_init 67 = .ok (.putfield 32, 3) := by decide +kernel
theorem dX13_init_70 : decode cX13_init 70 = .ok (.aload_n 0, 1) := by decide +kernel
theorem dX13_init_71 : decode cX13_init 71 = .ok (.bipush 30, 2) := by decide +kernel
theorem dX13_init_73 : decode cX13_init 73 = .ok (.newarray .int, 2) := by decide +kernel
theorem dX13_init_75 : decode cX13_init 75 = .ok (.putfield 35, 3) := by decide +kernel
theorem dX13_init_78 : decode cX13_init 78 = .ok (.aload_n 0, 1) := by decide +kernel
theorem dX13_init_79 : decode cX13_init 79 = .ok (.bipush 30, 2) := by decide +kernel
theorem dX13_init_81 : decode cX13_init 81 = .ok (.newarray .int, 2) := by decide +kernel
theorem dX13_init_83 : decode cX13_init 83 = .ok (.putfield 38, 3) := by decide +kernel
theorem dX13_init_86 : decode cX13_init 86 = .ok (.aload_n 0, 1) := by decide +kernel
theorem dX13_init_87 : decode cX13_init 87 = .ok (.iconst 3, 1) := by decide +kernel
theorem dX13_init_88 : decode cX13_init 88 = .ok (.newarray .int, 2) := by decide +kernel
theorem dX13_init_90 : decode cX13_init 90 = .ok (.putfield 41, 3) := by decide +kernel
theorem dX13_init_93 : decode cX13_init 93 = .ok (.aload_n 0, 1) := by decide +kernel
theorem dX13_init_94 : decode cX13_init 94 = .ok (.iconst 3, 1) := by decide +kernel
theorem dX13_init_95 : decode cX13_init 95 = .ok (.newarray .int, 2) := by decide +kernel
theorem dX13_init_97 : decode cX13_init 97 = .ok (.putfield 44, 3) := by decide +kernel
theorem dX13_init_100 : decode cX13_init 100 = .ok (.aload_n 0, 1) := by decide +kernel
theorem dX13_init_101 : decode cX13_init 101 = .ok (.iconst 5, 1) := by decide +kernel
theorem dX13_init_102 : decode cX13_init 102 = .ok (.newarray .int, 2) := by decide +kernel
theorem dX13_init_104 : decode cX13_init 104 = .ok (.putfield 47, 3) := by decide +kernel
theorem dX13_init_107 : decode cX13_init 107 = .ok (.aload_n 0, 1) := by decide +kernel
theorem dX13_init_108 : decode cX13_init 108 = .ok (.iconst 5, 1) := by decide +kernel
theorem dX13_init_109 : decode cX13_init 109 = .ok (.newarray .int, 2) := by decide +kernel
theorem dX13_init_111 : decode cX13_init 111 = .ok (.putfield 50, 3) := by decide +kernel
theorem dX13_init_114 : decode cX13_init 114 = .ok (.aload_n 0, 1) := by decide +kernel
theorem dX13_init_115 : decode cX13_init 115 = .ok (.iconst 5, 1) := by decide +kernel
theorem dX13_init_116 : decode cX13_init 116 = .ok (.newarray .int, 2) := by decide +kernel
theorem dX13_init_118 : decode cX13_init 118 = .ok (.putfield 53, 3) := by decide +kernel
theorem dX13_init_121 : decode cX13_init 121 = .ok (.aload_n 0, 1) := by decide +kernel
theorem dX13_init_122 : decode cX13_init 122 = .ok (.bipush 35, 2) := by decide +kernel
theorem dX13_init_124 : decode cX13_init 124 = .ok (.newarray .int, 2) := by decide +kernel
theorem dX13_init_126 : decode cX13_init 126 = .ok (.putfield 56, 3) := by decide +kernel
theorem dX13_init_129 : decode cX13_init 129 = .ok (.return_, 1) := by decide +kernel
theorem dX13_thrown_0 : decode cX13_thrown 0 = .ok (.aload_n 0, 1) := by decide +kernel
theorem dX13_thrown_1 : decode cX13_thrown 1 = .ok (.getfield 59, 3) := by decide +kernel
theorem dX13_thrown_4 : decode cX13_thrown 4 = .ok (.ireturn, 1) := by decide +kernel
theorem dX13_good_0 : decode cX13_good 0 = .ok (.aload_n 0, 1) := by decide +kernel
theorem dX13_good_1 : decode cX13_good 1 = .ok (.iconst 0, 1) := by decide +kernel
theorem dX13_good_2 : decode cX13_good 2 = .ok (.putfield 59, 3) := by decide +kernel
theorem dX13_good_5 : decode cX13_good 5 = .ok (.aload_n 0, 1) := by decide +kernel
theorem dX13_good_6 : decode cX13_good 6 = .ok (.iconst 0, 1) := by decide +kernel
theorem dX13_good_7 : decode cX13_good 7 = .ok (.putfield 62, 3) := by decide +kernel
theorem dX13_good_10 : decode cX13_good 10 = .ok (.return_, 1) := by decide +kernel
theorem dX13_no_0 : decode cX13_no 0 = .ok (.aload_n 0, 1) := by decide +kernel
theorem dX13_no_1 : decode cX13_no 1 = .ok (.iload_n 1, 1) := by decide +kernel
theorem dX13_no_2 : decode cX13_no 2 = .ok (.putfield 62, 3) := by decide +kernel
theorem dX13_no_5 : decode cX13_no 5 = .ok (.iconst (-1), 1) := by decide +kernel
theorem dX13_no_6 : decode cX13_no 6 = .ok (.ireturn, 1) := by decide +kernel
theorem dX13_isNot_0 : decode cX13_isNot 0 = .ok (.aload_n 0, 1) := by decide +kernel
theorem dX13_isNot_1 : decode cX13_isNot 1 = .ok (.iload_n 1, 1) := by decide +kernel
theorem dX13_isNot_2 : decode cX13_isNot 2 = .ok (.putfield 62, 3) := by decide +kernel
theorem dX13_isNot_5 : decode cX13_isNot 5 = .ok (.iconst 0, 1) := by decide +kernel
theorem dX13_isNot_6 : decode cX13_isNot 6 = .ok (.ireturn, 1) := by decide +kernel
theorem dX13_in_0 : decode cX13_in 0 = .ok (.iload_n 0, 1) := by decide +kernel
theorem dX13_in_1 : decode cX13_in 1 = .ok (.iload_n 1, 1) := by decide +kernel
theorem dX13_in_2 : decode cX13_in 2 = .ok (.if_icmp .lt 12, 3) := by decide +kernel
theorem dX13_in_5 : decode cX13_in 5 = .ok (.iload_n 0, 1) := by decide +kernel
theorem dX13_in_6 : decode cX13_in 6 = .ok (.iload_n 2, 1) := by decide +kernel
theorem dX13_in_7 : decode cX13_in 7 = .ok (.if_icmp .gt 7, 3) := by decide +kernel
theorem dX13_in_10 : decode cX13_in 10 = .ok (.iconst 1, 1) := by decide +kernel
theorem dX13_in_11 : decode cX13_in 11 = .ok (.goto 4, 3) := by decide +kernel
theorem dX13_in_14 : decode cX13_in 14 = .ok (.iconst 0, 1) := by decide +kernel
theorem dX13_in_15 : decode cX13_in 15 = .ok (.ireturn, 1) := by decide +kernel
theorem dX13_hasBit_0 : decode cX13_hasBit 0 = .ok (.iload_n 0, 1) := by decide +kernel
theorem dX13_hasBit_1 : decode cX13_hasBit 1 = .ok (.iload_n 1, 1) := by decide +kernel
theorem dX13_hasBit_2 : decode cX13_hasBit 2 = .ok (.ishr, 1) := by decide +kernel
theorem dX13_hasBit_3 : decode cX13_hasBit 3 = .ok (.iconst 1, 1) := by decide +kernel
theorem dX13_hasBit_4 : decode cX13_hasBit 4 = .ok (.iand, 1) := by decide +kernel
theorem dX13_hasBit_5 : decode cX13_hasBit 5 = .ok (.iconst 1, 1) := by decide +kernel
theorem dX13_hasBit_6 : decode cX13_hasBit 6 = .ok (.if_icmp .ne 7, 3) := by decide +kernel
theorem dX13_hasBit_9 : decode cX13_hasBit 9 = .ok (.iconst 1, 1) := by decide +kernel
theorem dX13_hasBit_10 : decode cX13_hasBit 10 = .ok (.goto 4, 3) := by decide +kernel
theorem dX13_hasBit_13 : decode cX13_hasBit 13 = .ok (.iconst 0, 1) := by decide +kernel
theorem dX13_hasBit_14 : decode cX13_hasBit 14 = .ok (.ireturn, 1) := by decide +kernel
theorem dX13_ones_0 : decode cX13_ones 0 = .ok (.iconst 0, 1) := by decide +kernel
theorem dX13_ones_1 : decode cX13_ones 1 = .ok (.istore_n 1, 1) := by decide +kernel
theorem dX13_ones_2 : decode cX13_ones 2 = .ok (.iconst 0, 1) := by decide +kernel
theorem dX13_ones_3 : decode cX13_ones 3 = .ok (.istore_n 2, 1) := by decide +kernel
theorem dX13_ones_4 : decode cX13_ones 4 = .ok (.iload_n 2, 1) := by decide +kernel
theorem dX13_ones_5 : decode cX13_ones 5 = .ok (.bipush 8, 2) := by decide +kernel
theorem dX13_ones_7 : decode cX13_ones 7 = .ok (.if_icmp .ge 17, 3) := by decide +kernel
theorem dX13_ones_10 : decode cX13_ones 10 = .ok (.iload_n 1, 1) := by decide +kernel
theorem dX13_ones_11 : decode cX13_ones 11 = .ok (.iload_n 0, 1) := by decide +kernel
theorem dX13_ones_12 : decode cX13_ones 12 = .ok (.iload_n 2, 1) := by decide +kernel
theorem dX13_ones_13 : decode cX13_ones 13 = .ok (.ishr, 1) := by decide +kernel
theorem dX13_ones_14 : decode cX13_ones 14 = .ok (.iconst 1, 1) := by decide +kernel
theorem dX13_ones_15 : decode cX13_ones 15 = .ok (.iand, 1) := by decide +kernel
theorem dX13_ones_16 : decode cX13_ones 16 = .ok (.iadd, 1) := by decide +kernel
theorem dX13_ones_17 : decode cX13_ones 17 = .ok (.istore_n 1, 1) := by decide +kernel
theorem dX13_ones_18 : decode cX13_ones 18 = .ok (.iinc 2 1, 3) := by decide +kernel
theorem dX13_ones_21 : decode cX13_ones 21 = .ok (.goto (-17), 3) := by decide +kernel
theorem dX13_ones_24 : decode cX13_ones 24 = .ok (.iload_n 1, 1) := by decide +kernel
theorem dX13_ones_25 : decode cX13_ones 25 = .ok (.ireturn, 1) := by decide +kernel
theorem dX13_copy_0 : decode cX13_copy 0 = .ok (.iconst 0, 1) := by decide +kernel
theorem dX13_copy_1 : decode cX13_copy 1 = .ok (.istore 5, 2) := by decide +kernel
theorem dX13_copy_3 : decode cX13_copy 3 = .ok (.iload 5, 2) := by decide +kernel
theorem dX13_copy_5 : decode cX13_copy 5 = .ok (.iload 4, 2) := by decide +kernel
theorem dX13_copy_7 : decode cX13_copy 7 = .ok (.if_icmp .ge 21, 3) := by decide +kernel
theorem dX13_copy_10 : decode cX13_copy 10 = .ok (.aload_n 2, 1) := by decide +kernel
theorem dX13_copy_11 : decode cX13_copy 11 = .ok (.iload_n 3, 1) := by decide +kernel
theorem dX13_copy_12 : decode cX13_copy 12 = .ok (.iload 5, 2) := by decide +kernel
theorem dX13_copy_14 : decode cX13_copy 14 = .ok (.iadd, 1) := by decide +kernel
theorem dX13_copy_15 : decode cX13_copy 15 = .ok (.aload_n 0, 1) := by decide +kernel
theorem dX13_copy_16 : decode cX13_copy 16 = .ok (.iload_n 1, 1) := by decide +kernel
theorem dX13_copy_17 : decode cX13_copy 17 = .ok (.iload 5, 2) := by decide +kernel
theorem dX13_copy_19 : decode cX13_copy 19 = .ok (.iadd, 1) := by decide +kernel
theorem dX13_copy_20 : decode cX13_copy 20 = .ok (.iaload, 1) := by decide +kernel
theorem dX13_copy_21 : decode cX13_copy 21 = .ok (.iastore, 1) := by decide +kernel
theorem dX13_copy_22 : decode cX13_copy 22 = .ok (.iinc 5 1, 3) := by decide +kernel
theorem dX13_copy_25 : decode cX13_copy 25 = .ok (.goto (-22), 3) := by decide +kernel
theorem dX13_copy_28 : decode cX13_copy 28 = .ok (.return_, 1) := by decide +kernel
theorem dX13_lowest_0 : decode cX13_lowest 0 = .ok (.lload_n 2, 1) := by decide +kernel
theorem dX13_lowest_1 : decode cX13_lowest 1 = .ok (.lstore 5, 2) := by decide +kernel
theorem dX13_lowest_3 : decode cX13_lowest 3 = .ok (.lload_n 0, 1) := by decide +kernel
theorem dX13_lowest_4 : decode cX13_lowest 4 = .ok (.lstore 7, 2) := by decide +kernel
theorem dX13_lowest_6 : decode cX13_lowest 6 = .ok (.lload 7, 2) := by decide +kernel
theorem dX13_lowest_8 : decode cX13_lowest 8 = .ok (.lconst 0, 1) := by decide +kernel
theorem dX13_lowest_9 : decode cX13_lowest 9 = .ok (.lcmp, 1) := by decide +kernel
theorem dX13_lowest_10 : decode cX13_lowest 10 = .ok (.ifCond .eq 21, 3) := by decide +kernel
theorem dX13_lowest_13 : decode cX13_lowest 13 = .ok (.lload 5, 2) := by decide +kernel
theorem dX13_lowest_15 : decode cX13_lowest 15 = .ok (.lload 7, 2) := by decide +kernel
theorem dX13_lowest_17 : decode cX13_lowest 17 = .ok (.lrem, 1) := by decide +kernel
theorem dX13_lowest_18 : decode cX13_lowest 18 = .ok (.lstore 9, 2) := by decide +kernel
theorem dX13_lowest_20 : decode cX13_lowest 20 = .ok (.lload 7, 2) := by decide +kernel
theorem dX13_lowest_22 : decode cX13_lowest 22 = .ok (.lstore 5, 2) := by decide +kernel
theorem dX13_lowest_24 : decode cX13_lowest 24 = .ok (.lload 9, 2) := by decide +kernel
theorem dX13_lowest_26 : decode cX13_lowest 26 = .ok (.lstore 7, 2) := by decide +kernel
theorem dX13_lowest_28 : decode cX13_lowest 28 = .ok (.goto (-22), 3) := by decide +kernel
theorem dX13_lowest_31 : decode cX13_lowest 31 = .ok (.iload 4, 2) := by decide +kernel
theorem dX13_lowest_33 : decode cX13_lowest 33 = .ok (.ifCond .eq 7, 3) := by decide +kernel
theorem dX13_lowest_36 : decode cX13_lowest 36 = .ok (.lload_n 2, 1) := by decide +kernel
theorem dX13_lowest_37 : decode cX13_lowest 37 = .ok (.goto 4, 3) := by decide +kernel
theorem dX13_lowest_40 : decode cX13_lowest 40 = .ok (.lload_n 0, 1) := by decide +kernel
theorem dX13_lowest_41 : decode cX13_lowest 41 = .ok (.lload 5, 2) := by decide +kernel
theorem dX13_lowest_43 : decode cX13_lowest 43 = .ok (.ldiv, 1) := by decide +kernel
theorem dX13_lowest_44 : decode cX13_lowest 44 = .ok (.lreturn, 1) := by decide +kernel
theorem dX13_feed_0 : decode cX13_feed 0 = .ok (.aload_n 0, 1) := by decide +kernel
theorem dX13_feed_1 : decode cX13_feed 1 = .ok (.iconst 0, 1) := by decide +kernel
theorem dX13_feed_2 : decode cX13_feed 2 = .ok (.putfield 59, 3) := by decide +kernel
theorem dX13_feed_5 : decode cX13_feed 5 = .ok (.aload_n 0, 1) := by decide +kernel
theorem dX13_feed_6 : decode cX13_feed 6 = .ok (.getfield 65, 3) := by decide +kernel
theorem dX13_feed_9 : decode cX13_feed 9 = .ok (.bipush 20, 2) := by decide +kernel
theorem dX13_feed_11 : decode cX13_feed 11 = .ok (.iadd, 1) := by decide +kernel
theorem dX13_feed_12 : decode cX13_feed 12 = .ok (.sipush 800, 3) := by decide +kernel
theorem dX13_feed_15 : decode cX13_feed 15 = .ok (.if_icmp .le 5, 3) := by decide +kernel
theorem dX13_feed_18 : decode cX13_feed 18 = .ok (.iconst (-1), 1) := by decide +kernel
theorem dX13_feed_19 : decode cX13_feed 19 = .ok (.ireturn, 1) := by decide +kernel
theorem dX13_feed_20 : decode cX13_feed 20 = .ok (.iconst 0, 1) := by decide +kernel
theorem dX13_feed_21 : decode cX13_feed 21 = .ok (.istore 6, 2) := by decide +kernel
theorem dX13_feed_23 : decode cX13_feed 23 = .ok (.iload 6, 2) := by decide +kernel
theorem dX13_feed_25 : decode cX13_feed 25 = .ok (.bipush 20, 2) := by decide +kernel
theorem dX13_feed_27 : decode cX13_feed 27 = .ok (.if_icmp .ge 93, 3) := by decide +kernel
theorem dX13_feed_30 : decode cX13_feed 30 = .ok (.iload 6, 2) := by decide +kernel
theorem dX13_feed_32 : decode cX13_feed 32 = .ok (.iconst 4, 1) := by decide +kernel
theorem dX13_feed_33 : decode cX13_feed 33 = .ok (.if_icmp .ge 7, 3) := by decide +kernel
theorem dX13_feed_36 : decode cX13_feed 36 = .ok (.iload_n 1, 1) := by decide +kernel
theorem dX13_feed_37 : decode cX13_feed 37 = .ok (.goto 39, 3) := by decide +kernel
theorem dX13_feed_40 : decode cX13_feed 40 = .ok (.iload 6, 2) := by decide +kernel
theorem dX13_feed_42 : decode cX13_feed 42 = .ok (.bipush 8, 2) := by decide +kernel
theorem dX13_feed_44 : decode cX13_feed 44 = .ok (.if_icmp .ge 7, 3) := by decide +kernel
theorem dX13_feed_47 : decode cX13_feed 47 = .ok (.iload_n 2, 1) := by decide +kernel
theorem dX13_feed_48 : decode cX13_feed 48 = .ok (.goto 28, 3) := by decide +kernel
theorem dX13_feed_51 : decode cX13_feed 51 = .ok (.iload 6, 2) := by decide +kernel
theorem dX13_feed_53 : decode cX13_feed 53 = .ok (.bipush 12, 2) := by decide +kernel
theorem dX13_feed_55 : decode cX13_feed 55 = .ok (.if_icmp .ge 7, 3) := by decide +kernel
theorem dX13_feed_58 : decode cX13_feed 58 = .ok (.iload_n 3, 1) := by decide +kernel
theorem dX13_feed_59 : decode cX13_feed 59 = .ok (.goto 17, 3) := by decide +kernel
theorem dX13_feed_62 : decode cX13_feed 62 = .ok (.iload 6, 2) := by decide +kernel
theorem dX13_feed_64 : decode cX13_feed 64 = .ok (.bipush 16, 2) := by decide +kernel
theorem dX13_feed_66 : decode cX13_feed 66 = .ok (.if_icmp .ge 8, 3) := by decide +kernel
theorem dX13_feed_69 : decode cX13_feed 69 = .ok (.iload 4, 2) := by decide +kernel
theorem dX13_feed_71 : decode cX13_feed 71 = .ok (.goto 5, 3) := by decide +kernel
theorem dX13_feed_74 : decode cX13_feed 74 = .ok (.iload 5, 2) := by decide +kernel
theorem dX13_feed_76 : decode cX13_feed 76 = .ok (.istore 7, 2) := by decide +kernel
theorem dX13_feed_78 : decode cX13_feed 78 = .ok (.aload_n 0, 1) := by decide +kernel
theorem dX13_feed_79 : decode cX13_feed 79 = .ok (.getfield 7, 3) := by decide +kernel
theorem dX13_feed_82 : decode cX13_feed 82 = .ok (.aload_n 0, 1) := by decide +kernel
theorem dX13_feed_83 : decode cX13_feed 83 = .ok (.getfield 65, 3) := by decide +kernel
theorem dX13_feed_86 : decode cX13_feed 86 = .ok (.iload 7, 2) := by decide +kernel
theorem dX13_feed_88 : decode cX13_feed 88 = .ok (.bipush 24, 2) := by decide +kernel
theorem dX13_feed_90 : decode cX13_feed 90 = .ok (.bipush 8, 2) := by decide +kernel
theorem dX13_feed_92 : decode cX13_feed 92 = .ok (.iload 6, 2) := by decide +kernel
theorem dX13_feed_94 : decode cX13_feed 94 = .ok (.iconst 4, 1) := by decide +kernel
theorem dX13_feed_95 : decode cX13_feed 95 = .ok (.irem, 1) := by decide +kernel
theorem dX13_feed_96 : decode cX13_feed 96 = .ok (.imul, 1) := by decide +kernel
theorem dX13_feed_97 : decode cX13_feed 97 = .ok (.isub, 1) := by decide +kernel
theorem dX13_feed_98 : decode cX13_feed 98 = .ok (.ishr, 1) := by decide +kernel
theorem dX13_feed_99 : decode cX13_feed 99 = .ok (.sipush 255, 3) := by decide +kernel
theorem dX13_feed_102 : decode cX13_feed 102 = .ok (.iand, 1) := by decide +kernel
theorem dX13_feed_103 : decode cX13_feed 103 = .ok (.iastore, 1) := by decide +kernel
theorem dX13_feed_104 : decode cX13_feed 104 = .ok (.aload_n 0, 1) := by decide +kernel
theorem dX13_feed_105 : decode cX13_feed 105 = .ok (.dup, 1) := by decide +kernel
theorem dX13_feed_106 : decode cX13_feed 106 = .ok (.getfield 65, 3) := by decide +kernel
theorem dX13_feed_109 : decode cX13_feed 109 = .ok (.iconst 1, 1) := by decide +kernel
theorem dX13_feed_110 : decode cX13_feed 110 = .ok (.iadd, 1) := by decide +kernel
theorem dX13_feed_111 : decode cX13_feed 111 = .ok (.putfield 65, 3) := by decide +kernel
theorem dX13_feed_114 : decode cX13_feed 114 = .ok (.iinc 6 1, 3) := by decide +kernel
theorem dX13_feed_117 : decode cX13_feed 117 = .ok (.goto (-94), 3) := by decide +kernel
theorem dX13_feed_120 : decode cX13_feed 120 = .ok (.aload_n 0, 1) := by decide +kernel
theorem dX13_feed_121 : decode cX13_feed 121 = .ok (.getfield 65, 3) := by decide +kernel
theorem dX13_feed_124 : decode cX13_feed 124 = .ok (.ireturn, 1) := by decide +kernel
theorem dX13_look1_0 : decode cX13_look1 0 = .ok (.iload_n 1, 1) := by decide +kernel
theorem dX13_look1_1 : decode cX13_look1 1 = .ok (.aload_n 0, 1) := by decide +kernel
theorem dX13_look1_2 : decode cX13_look1 2 = .ok (.getfield 68, 3) := by decide +kernel
theorem dX13_look1_5 : decode cX13_look1 5 = .ok (.if_icmp .ge 12, 3) := by decide +kernel
theorem dX13_look1_8 : decode cX13_look1 8 = .ok (.aload_n 0, 1) := by decide +kernel
theorem dX13_look1_9 : decode cX13_look1 9 = .ok (.getfield 7, 3) := by decide +kernel
theorem dX13_look1_12 : decode cX13_look1 12 = .ok (.iload_n 1, 1) := by decide +kernel
theorem dX13_look1_13 : decode cX13_look1 13 = .ok (.iaload, 1) := by decide +kernel
theorem dX13_look1_14 : decode cX13_look1 14 = .ok (.goto 4, 3) := by decide +kernel
theorem dX13_look1_17 : decode cX13_look1 17 = .ok (.iconst (-1), 1) := by decide +kernel
theorem dX13_look1_18 : decode cX13_look1 18 = .ok (.ireturn, 1) := by decide +kernel
theorem dX13_isSmall_0 : decode cX13_isSmall 0 = .ok (.iload_n 0, 1) := by decide +kernel
theorem dX13_isSmall_1 : decode cX13_isSmall 1 = .ok (.bipush 97, 2) := by decide +kernel
theorem dX13_isSmall_3 : decode cX13_isSmall 3 = .ok (.if_icmp .lt 13, 3) := by decide +kernel
theorem dX13_isSmall_6 : decode cX13_isSmall 6 = .ok (.iload_n 0, 1) := by decide +kernel
theorem dX13_isSmall_7 : decode cX13_isSmall 7 = .ok (.bipush 122, 2) := by decide +kernel
theorem dX13_isSmall_9 : decode cX13_isSmall 9 = .ok (.if_icmp .gt 7, 3) := by decide +kernel
theorem dX13_isSmall_12 : decode cX13_isSmall 12 = .ok (.iconst 1, 1) := by decide +kernel
theorem dX13_isSmall_13 : decode cX13_isSmall 13 = .ok (.goto 4, 3) := by decide +kernel
theorem dX13_isSmall_16 : decode cX13_isSmall 16 = .ok (.iconst 0, 1) := by decide +kernel
theorem dX13_isSmall_17 : decode cX13_isSmall 17 = .ok (.ireturn, 1) := by decide +kernel
theorem dX13_isDigit_0 : decode cX13_isDigit 0 = .ok (.iload_n 0, 1) := by decide +kernel
theorem dX13_isDigit_1 : decode cX13_isDigit 1 = .ok (.bipush 48, 2) := by decide +kernel
theorem dX13_isDigit_3 : decode cX13_isDigit 3 = .ok (.if_icmp .lt 13, 3) := by decide +kernel
theorem dX13_isDigit_6 : decode cX13_isDigit 6 = .ok (.iload_n 0, 1) := by decide +kernel
theorem dX13_isDigit_7 : decode cX13_isDigit 7 = .ok (.bipush 57, 2) := by decide +kernel
theorem dX13_isDigit_9 : decode cX13_isDigit 9 = .ok (.if_icmp .gt 7, 3) := by decide +kernel
theorem dX13_isDigit_12 : decode cX13_isDigit 12 = .ok (.iconst 1, 1) := by decide +kernel
theorem dX13_isDigit_13 : decode cX13_isDigit 13 = .ok (.goto 4, 3) := by decide +kernel
theorem dX13_isDigit_16 : decode cX13_isDigit 16 = .ok (.iconst 0, 1) := by decide +kernel
theorem dX13_isDigit_17 : decode cX13_isDigit 17 = .ok (.ireturn, 1) := by decide +kernel
theorem dX13_next_0 : decode cX13_next 0 = .ok (.aload_n 0, 1) := by decide +kernel
theorem dX13_next_1 : decode cX13_next 1 = .ok (.getfield 71, 3) := by decide +kernel
theorem dX13_next_4 : decode cX13_next 4 = .ok (.istore_n 1, 1) := by decide +kernel
theorem dX13_next_5 : decode cX13_next 5 = .ok (.aload_n 0, 1) := by decide +kernel
theorem dX13_next_6 : decode cX13_next 6 = .ok (.iload_n 1, 1) := by decide +kernel
theorem dX13_next_7 : decode cX13_next 7 = .ok (.invokevirtual 74, 3) := by decide +kernel
theorem dX13_next_10 : decode cX13_next 10 = .ok (.bipush 32, 2) := by decide +kernel
theorem dX13_next_12 : decode cX13_next 12 = .ok (.if_icmp .ne 9, 3) := by decide +kernel
theorem dX13_next_15 : decode cX13_next 15 = .ok (.iinc 1 1, 3) := by decide +kernel
theorem dX13_next_18 : decode cX13_next 18 = .ok (.goto (-13), 3) := by decide +kernel
theorem dX13_next_21 : decode cX13_next 21 = .ok (.aload_n 0, 1) := by decide +kernel
theorem dX13_next_22 : decode cX13_next 22 = .ok (.iload_n 1, 1) := by decide +kernel
theorem dX13_next_23 : decode cX13_next 23 = .ok (.putfield 78, 3) := by decide +kernel
theorem dX13_next_26 : decode cX13_next 26 = .ok (.aload_n 0, 1) := by decide +kernel
theorem dX13_next_27 : decode cX13_next 27 = .ok (.iload_n 1, 1) := by decide +kernel
theorem dX13_next_28 : decode cX13_next 28 = .ok (.invokevirtual 74, 3) := by decide +kernel
theorem dX13_next_31 : decode cX13_next 31 = .ok (.istore_n 2, 1) := by decide +kernel
theorem dX13_next_32 : decode cX13_next 32 = .ok (.aload_n 0, 1) := by decide +kernel
theorem dX13_next_33 : decode cX13_next 33 = .ok (.iconst 0, 1) := by decide +kernel
theorem dX13_next_34 : decode cX13_next 34 = .ok (.putfield 81, 3) := by decide +kernel
theorem dX13_next_37 : decode cX13_next 37 = .ok (.aload_n 0, 1) := by decide +kernel
theorem dX13_next_38 : decode cX13_next 38 = .ok (.iconst 0, 1) := by decide +kernel
theorem dX13_next_39 : decode cX13_next 39 = .ok (.putfield 84, 3) := by decide +kernel
theorem dX13_next_42 : decode cX13_next 42 = .ok (.iload_n 2, 1) := by decide +kernel
theorem dX13_next_43 : decode cX13_next 43 = .ok (.iconst (-1), 1) := by decide +kernel
theorem dX13_next_44 : decode cX13_next 44 = .ok (.if_icmp .ne 16, 3) := by decide +kernel
theorem dX13_next_47 : decode cX13_next 47 = .ok (.aload_n 0, 1) := by decide +kernel
theorem dX13_next_48 : decode cX13_next 48 = .ok (.iconst 0, 1) := by decide +kernel
theorem dX13_next_49 : decode cX13_next 49 = .ok (.putfield 87, 3) := by decide +kernel
theorem dX13_next_52 : decode cX13_next 52 = .ok (.aload_n 0, 1) := by decide +kernel
theorem dX13_next_53 : decode cX13_next 53 = .ok (.iload_n 1, 1) := by decide +kernel
theorem dX13_next_54 : decode cX13_next 54 = .ok (.putfield 71, 3) := by decide +kernel
theorem dX13_next_57 : decode cX13_next 57 = .ok (.goto 184, 3) := by decide +kernel
theorem dX13_next_60 : decode cX13_next 60 = .ok (.iload_n 2, 1) := by decide +kernel
theorem dX13_next_61 : decode cX13_next 61 = .ok (.invokestatic 90, 3) := by decide +kernel
theorem dX13_next_64 : decode cX13_next 64 = .ok (.ifCond .eq 79, 3) := by decide +kernel
theorem dX13_next_67 : decode cX13_next 67 = .ok (.aload_n 0, 1) := by decide +kernel
theorem dX13_next_68 : decode cX13_next 68 = .ok (.iload_n 1, 1) := by decide +kernel
theorem dX13_next_69 : decode cX13_next 69 = .ok (.invokevirtual 74, 3) := by decide +kernel
theorem dX13_next_72 : decode cX13_next 72 = .ok (.invokestatic 90, 3) := by decide +kernel
theorem dX13_next_75 : decode cX13_next 75 = .ok (.ifCond .eq 42, 3) := by decide +kernel
theorem dX13_next_78 : decode cX13_next 78 = .ok (.aload_n 0, 1) := by decide +kernel
theorem dX13_next_79 : decode cX13_next 79 = .ok (.getfield 81, 3) := by decide +kernel
theorem dX13_next_82 : decode cX13_next 82 = .ok (.bipush 8, 2) := by decide +kernel
theorem dX13_next_84 : decode cX13_next 84 = .ok (.if_icmp .ge 17, 3) := by decide +kernel
theorem dX13_next_87 : decode cX13_next 87 = .ok (.aload_n 0, 1) := by decide +kernel
theorem dX13_next_88 : decode cX13_next 88 = .ok (.getfield 17, 3) := by decide +kernel
theorem dX13_next_91 : decode cX13_next 91 = .ok (.aload_n 0, 1) := by decide +kernel
theorem dX13_next_92 : decode cX13_next 92 = .ok (.getfield 81, 3) := by decide +kernel
theorem dX13_next_95 : decode cX13_next 95 = .ok (.aload_n 0, 1) := by decide +kernel
theorem dX13_next_96 : decode cX13_next 96 = .ok (.iload_n 1, 1) := by decide +kernel
theorem dX13_next_97 : decode cX13_next 97 = .ok (.invokevirtual 74, 3) := by decide +kernel
theorem dX13_next_100 : decode cX13_next 100 = .ok (.iastore, 1) := by decide +kernel
theorem dX13_next_101 : decode cX13_next 101 = .ok (.aload_n 0, 1) := by decide +kernel
theorem dX13_next_102 : decode cX13_next 102 = .ok (.dup, 1) := by decide +kernel
theorem dX13_next_103 : decode cX13_next 103 = .ok (.getfield 81, 3) := by decide +kernel
theorem dX13_next_106 : decode cX13_next 106 = .ok (.iconst 1, 1) := by decide +kernel
theorem dX13_next_107 : decode cX13_next 107 = .ok (.iadd, 1) := by decide +kernel
theorem dX13_next_108 : decode cX13_next 108 = .ok (.putfield 81, 3) := by decide +kernel
theorem dX13_next_111 : decode cX13_next 111 = .ok (.iinc 1 1, 3) := by decide +kernel
theorem dX13_next_114 : decode cX13_next 114 = .ok (.goto (-47), 3) := by decide +kernel
theorem dX13_next_117 : decode cX13_next 117 = .ok (.aload_n 0, 1) := by decide +kernel
theorem dX13_next_118 : decode cX13_next 118 = .ok (.iload_n 1, 1) := by decide +kernel
theorem dX13_next_119 : decode cX13_next 119 = .ok (.putfield 71, 3) := by decide +kernel
theorem dX13_next_122 : decode cX13_next 122 = .ok (.aload_n 0, 1) := by decide +kernel
theorem dX13_next_123 : decode cX13_next 123 = .ok (.aload_n 0, 1) := by decide +kernel
theorem dX13_next_124 : decode cX13_next 124 = .ok (.getfield 81, 3) := by decide +kernel
theorem dX13_next_127 : decode cX13_next 127 = .ok (.bipush 8, 2) := by decide +kernel
theorem dX13_next_129 : decode cX13_next 129 = .ok (.if_icmp .le 7, 3) := by decide +kernel
theorem dX13_next_132 : decode cX13_next 132 = .ok (.iconst 1, 1) := by decide +kernel
theorem dX13_next_133 : decode cX13_next 133 = .ok (.goto 4, 3) := by decide +kernel
theorem dX13_next_136 : decode cX13_next 136 = .ok (.iconst 2, 1) := by decide +kernel
theorem dX13_next_137 : decode cX13_next 137 = .ok (.putfield 87, 3) := by decide +kernel
theorem dX13_next_140 : decode cX13_next 140 = .ok (.goto 101, 3) := by decide +kernel
theorem dX13_next_143 : decode cX13_next 143 = .ok (.iload_n 2, 1) := by decide +kernel
theorem dX13_next_144 : decode cX13_next 144 = .ok (.invokestatic 94, 3) := by decide +kernel
theorem dX13_next_147 : decode cX13_next 147 = .ok (.ifCond .eq 72, 3) := by decide +kernel
theorem dX13_next_150 : decode cX13_next 150 = .ok (.iconst 0, 1) := by decide +kernel
theorem dX13_next_151 : decode cX13_next 151 = .ok (.istore_n 3, 1) := by decide +kernel
theorem dX13_next_152 : decode cX13_next 152 = .ok (.aload_n 0, 1) := by decide +kernel
theorem dX13_next_153 : decode cX13_next 153 = .ok (.iload_n 1, 1) := by decide +kernel
theorem dX13_next_154 : decode cX13_next 154 = .ok (.invokevirtual 74, 3) := by decide +kernel
theorem dX13_next_157 : decode cX13_next 157 = .ok (.invokestatic 94, 3) := by decide +kernel
theorem dX13_next_160 : decode cX13_next 160 = .ok (.ifCond .eq 37, 3) := by decide +kernel
theorem dX13_next_163 : decode cX13_next 163 = .ok (.iload_n 3, 1) := by decide +kernel
theorem dX13_next_164 : decode cX13_next 164 = .ok (.iconst 3, 1) := by decide +kernel
theorem dX13_next_165 : decode cX13_next 165 = .ok (.if_icmp .ge 23, 3) := by decide +kernel
theorem dX13_next_168 : decode cX13_next 168 = .ok (.aload_n 0, 1) := by decide +kernel
theorem dX13_next_169 : decode cX13_next 169 = .ok (.bipush 10, 2) := by decide +kernel
theorem dX13_next_171 : decode cX13_next 171 = .ok (.aload_n 0, 1) := by decide +kernel
theorem dX13_next_172 : decode cX13_next 172 = .ok (.getfield 84, 3) := by decide +kernel
theorem dX13_next_175 : decode cX13_next 175 = .ok (.imul, 1) := by decide +kernel
theorem dX13_next_176 : decode cX13_next 176 = .ok (.aload_n 0, 1) := by decide +kernel
theorem dX13_next_177 : decode cX13_next 177 = .ok (.iload_n 1, 1) := by decide +kernel
theorem dX13_next_178 : decode cX13_next 178 = .ok (.invokevirtual 74, 3) := by decide +kernel
theorem dX13_next_181 : decode cX13_next 181 = .ok (.iadd, 1) := by decide +kernel
theorem dX13_next_182 : decode cX13_next 182 = .ok (.bipush 48, 2) := by decide +kernel
theorem dX13_next_184 : decode cX13_next 184 = .ok (.isub, 1) := by decide +kernel
theorem dX13_next_185 : decode cX13_next 185 = .ok (.putfield 84, 3) := by decide +kernel
theorem dX13_next_188 : decode cX13_next 188 = .ok (.iinc 3 1, 3) := by decide +kernel
theorem dX13_next_191 : decode cX13_next 191 = .ok (.iinc 1 1, 3) := by decide +kernel
theorem dX13_next_194 : decode cX13_next 194 = .ok (.goto (-42), 3) := by decide +kernel
theorem dX13_next_197 : decode cX13_next 197 = .ok (.aload_n 0, 1) := by decide +kernel
theorem dX13_next_198 : decode cX13_next 198 = .ok (.iload_n 1, 1) := by decide +kernel
theorem dX13_next_199 : decode cX13_next 199 = .ok (.putfield 71, 3) := by decide +kernel
theorem dX13_next_202 : decode cX13_next 202 = .ok (.aload_n 0, 1) := by decide +kernel
theorem dX13_next_203 : decode cX13_next 203 = .ok (.iload_n 3, 1) := by decide +kernel
theorem dX13_next_204 : decode cX13_next 204 = .ok (.iconst 3, 1) := by decide +kernel
theorem dX13_next_205 : decode cX13_next 205 = .ok (.if_icmp .le 7, 3) := by decide +kernel
theorem dX13_next_208 : decode cX13_next 208 = .ok (.iconst 1, 1) := by decide +kernel
theorem dX13_next_209 : decode cX13_next 209 = .ok (.goto 4, 3) := by decide +kernel
theorem dX13_next_212 : decode cX13_next 212 = .ok (.iconst 3, 1) := by decide +kernel
theorem dX13_next_213 : decode cX13_next 213 = .ok (.putfield 87, 3) := by decide +kernel
theorem dX13_next_216 : decode cX13_next 216 = .ok (.goto 25, 3) := by decide +kernel
theorem dX13_next_219 : decode cX13_next 219 = .ok (.aload_n 0, 1) := by decide +kernel
theorem dX13_next_220 : decode cX13_next 220 = .ok (.iload_n 1, 1) := by decide +kernel
theorem dX13_next_221 : decode cX13_next 221 = .ok (.iconst 1, 1) := by decide +kernel
theorem dX13_next_222 : decode cX13_next 222 = .ok (.iadd, 1) := by decide +kernel
theorem dX13_next_223 : decode cX13_next 223 = .ok (.putfield 71, 3) := by decide +kernel
theorem dX13_next_226 : decode cX13_next 226 = .ok (.aload_n 0, 1) := by decide +kernel
theorem dX13_next_227 : decode cX13_next 227 = .ok (.iload_n 2, 1) := by decide +kernel
theorem dX13_next_228 : decode cX13_next 228 = .ok (.bipush 59, 2) := by decide +kernel
theorem dX13_next_230 : decode cX13_next 230 = .ok (.if_icmp .ne 7, 3) := by decide +kernel
theorem dX13_next_233 : decode cX13_next 233 = .ok (.iload_n 2, 1) := by decide +kernel
theorem dX13_next_234 : decode cX13_next 234 = .ok (.goto 4, 3) := by decide +kernel
theorem dX13_next_237 : decode cX13_next 237 = .ok (.iconst 1, 1) := by decide +kernel
theorem dX13_next_238 : decode cX13_next 238 = .ok (.putfield 87, 3) := by decide +kernel
theorem dX13_next_241 : decode cX13_next 241 = .ok (.return_, 1) := by decide +kernel
theorem dX13_wrong_0 : decode cX13_wrong 0 = .ok (.aload_n 0, 1) := by decide +kernel
theorem dX13_wrong_1 : decode cX13_wrong 1 = .ok (.getfield 97, 3) := by decide +kernel
theorem dX13_wrong_4 : decode cX13_wrong 4 = .ok (.ifCond .eq 4, 3) := by decide +kernel
theorem dX13_wrong_7 : decode cX13_wrong 7 = .ok (.return_, 1) := by decide +kernel
theorem dX13_wrong_8 : decode cX13_wrong 8 = .ok (.aload_n 0, 1) := by decide +kernel
theorem dX13_wrong_9 : decode cX13_wrong 9 = .ok (.iconst 1, 1) := by decide +kernel
theorem dX13_wrong_10 : decode cX13_wrong 10 = .ok (.putfield 97, 3) := by decide +kernel
theorem dX13_wrong_13 : decode cX13_wrong 13 = .ok (.aload_n 0, 1) := by decide +kernel
theorem dX13_wrong_14 : decode cX13_wrong 14 = .ok (.iload_n 1, 1) := by decide +kernel
theorem dX13_wrong_15 : decode cX13_wrong 15 = .ok (.putfield 101, 3) := by decide +kernel
theorem dX13_wrong_18 : decode cX13_wrong 18 = .ok (.aload_n 0, 1) := by decide +kernel
theorem dX13_wrong_19 : decode cX13_wrong 19 = .ok (.iload_n 2, 1) := by decide +kernel
theorem dX13_wrong_20 : decode cX13_wrong 20 = .ok (.putfield 13, 3) := by decide +kernel
theorem dX13_wrong_23 : decode cX13_wrong 23 = .ok (.return_, 1) := by decide +kernel
theorem dX13_isWord_0 : decode cX13_isWord 0 = .ok (.aload_n 0, 1) := by decide +kernel
theorem dX13_isWord_1 : decode cX13_isWord 1 = .ok (.getfield 97, 3) := by decide +kernel
theorem dX13_isWord_4 : decode cX13_isWord 4 = .ok (.ifCond .ne 22, 3) := by decide +kernel
theorem dX13_isWord_7 : decode cX13_isWord 7 = .ok (.aload_n 0, 1) := by decide +kernel
theorem dX13_isWord_8 : decode cX13_isWord 8 = .ok (.getfield 87, 3) := by decide +kernel
theorem dX13_isWord_11 : decode cX13_isWord 11 = .ok (.iconst 2, 1) := by decide +kernel
theorem dX13_isWord_12 : decode cX13_isWord 12 = .ok (.if_icmp .ne 14, 3) := by decide +kernel
theorem dX13_isWord_15 : decode cX13_isWord 15 = .ok (.aload_n 0, 1) := by decide +kernel
theorem dX13_isWord_16 : decode cX13_isWord 16 = .ok (.getfield 81, 3) := by decide +kernel
theorem dX13_isWord_19 : decode cX13_isWord 19 = .ok (.aload_n 1, 1) := by decide +kernel
theorem dX13_isWord_20 : decode cX13_isWord 20 = .ok (.invokevirtual 104, 3) := by decide +kernel
theorem dX13_isWord_23 : decode cX13_isWord 23 = .ok (.if_icmp .eq 5, 3) := by decide +kernel
theorem dX13_isWord_26 : decode cX13_isWord 26 = .ok (.iconst 0, 1) := by decide +kernel
theorem dX13_isWord_27 : decode cX13_isWord 27 = .ok (.ireturn, 1) := by decide +kernel
theorem dX13_isWord_28 : decode cX13_isWord 28 = .ok (.iconst 1, 1) := by decide +kernel
theorem dX13_isWord_29 : decode cX13_isWord 29 = .ok (.istore_n 2, 1) := by decide +kernel
theorem dX13_isWord_30 : decode cX13_isWord 30 = .ok (.iconst 0, 1) := by decide +kernel
theorem dX13_isWord_31 : decode cX13_isWord 31 = .ok (.istore_n 3, 1) := by decide +kernel
theorem dX13_isWord_32 : decode cX13_isWord 32 = .ok (.iload_n 3, 1) := by decide +kernel
theorem dX13_isWord_33 : decode cX13_isWord 33 = .ok (.aload_n 0, 1) := by decide +kernel
theorem dX13_isWord_34 : decode cX13_isWord 34 = .ok (.getfield 81, 3) := by decide +kernel
theorem dX13_isWord_37 : decode cX13_isWord 37 = .ok (.if_icmp .ge 33, 3) := by decide +kernel
theorem dX13_isWord_40 : decode cX13_isWord 40 = .ok (.iload_n 2, 1) := by decide +kernel
