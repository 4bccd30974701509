theorem dX13_isWord_41 : decode cX13_isWord 41 = .ok (.ifCond .eq 21, 3) := by decide +kernel
theorem dX13_isWord_44 : decode cX13_isWord 44 = .ok (.aload_n 0, 1) := by decide +kernel
theorem dX13_isWord_45 : decode cX13_isWord 45 = .ok (.getfield 17, 3) := by decide +kernel
theorem dX13_isWord_48 : decode cX13_isWord 48 = .ok (.iload_n 3, 1) := by decide +kernel
theorem dX13_isWord_49 : decode cX13_isWord 49 = .ok (.iaload, 1) := by decide +kernel
theorem dX13_isWord_50 : decode cX13_isWord 50 = .ok (.aload_n 1, 1) := by decide +kernel
theorem dX13_isWord_51 : decode cX13_isWord 51 = .ok (.iload_n 3, 1) := by decide +kernel
theorem dX13_isWord_52 : decode cX13_isWord 52 = .ok (.invokevirtual 110, 3) := by decide +kernel
theorem dX13_isWord_55 : decode cX13_isWord 55 = .ok (.if_icmp .ne 7, 3) := by decide +kernel
theorem dX13_isWord_58 : decode cX13_isWord 58 = .ok (.iconst 1, 1) := by decide +kernel
theorem dX13_isWord_59 : decode cX13_isWord 59 = .ok (.goto 4, 3) := by decide +kernel
theorem dX13_isWord_62 : decode cX13_isWord 62 = .ok (.iconst 0, 1) := by decide +kernel
theorem dX13_isWord_63 : decode cX13_isWord 63 = .ok (.istore_n 2, 1) := by decide +kernel
theorem dX13_isWord_64 : decode cX13_isWord 64 = .ok (.iinc 3 1, 3) := by decide +kernel
theorem dX13_isWord_67 : decode cX13_isWord 67 = .ok (.goto (-35), 3) := by decide +kernel
theorem dX13_isWord_70 : decode cX13_isWord 70 = .ok (.iload_n 2, 1) := by decide +kernel
theorem dX13_isWord_71 : decode cX13_isWord 71 = .ok (.ireturn, 1) := by decide +kernel
theorem dX13_takesWord_0 : decode cX13_takesWord 0 = .ok (.aload_n 0, 1) := by decide +kernel
theorem dX13_takesWord_1 : decode cX13_takesWord 1 = .ok (.aload_n 1, 1) := by decide +kernel
theorem dX13_takesWord_2 : decode cX13_takesWord 2 = .ok (.invokevirtual 114, 3) := by decide +kernel
theorem dX13_takesWord_5 : decode cX13_takesWord 5 = .ok (.ifCond .ne 5, 3) := by decide +kernel
theorem dX13_takesWord_8 : decode cX13_takesWord 8 = .ok (.iconst 0, 1) := by decide +kernel
theorem dX13_takesWord_9 : decode cX13_takesWord 9 = .ok (.ireturn, 1) := by decide +kernel
theorem dX13_takesWord_10 : decode cX13_takesWord 10 = .ok (.aload_n 0, 1) := by decide +kernel
theorem dX13_takesWord_11 : decode cX13_takesWord 11 = .ok (.invokevirtual 118, 3) := by decide +kernel
theorem dX13_takesWord_14 : decode cX13_takesWord 14 = .ok (.iconst 1, 1) := by decide +kernel
theorem dX13_takesWord_15 : decode cX13_takesWord 15 = .ok (.ireturn, 1) := by decide +kernel
theorem dX13_must_0 : decode cX13_must 0 = .ok (.aload_n 0, 1) := by decide +kernel
theorem dX13_must_1 : decode cX13_must 1 = .ok (.getfield 97, 3) := by decide +kernel
theorem dX13_must_4 : decode cX13_must 4 = .ok (.ifCond .ne 20, 3) := by decide +kernel
theorem dX13_must_7 : decode cX13_must 7 = .ok (.aload_n 0, 1) := by decide +kernel
theorem dX13_must_8 : decode cX13_must 8 = .ok (.aload_n 1, 1) := by decide +kernel
theorem dX13_must_9 : decode cX13_must 9 = .ok (.invokevirtual 121, 3) := by decide +kernel
theorem dX13_must_12 : decode cX13_must 12 = .ok (.ifCond .ne 12, 3) := by decide +kernel
theorem dX13_must_15 : decode cX13_must 15 = .ok (.aload_n 0, 1) := by decide +kernel
theorem dX13_must_16 : decode cX13_must 16 = .ok (.iconst 1, 1) := by decide +kernel
theorem dX13_must_17 : decode cX13_must 17 = .ok (.aload_n 0, 1) := by decide +kernel
theorem dX13_must_18 : decode cX13_must 18 = .ok (.getfield 78, 3) := by decide +kernel
theorem dX13_must_21 : decode cX13_must 21 = .ok (.invokevirtual 124, 3) := by decide +kernel
theorem dX13_must_24 : decode cX13_must 24 = .ok (.return_, 1) := by decide +kernel
theorem dX13_mustName_0 : decode cX13_mustName 0 = .ok (.aload_n 0, 1) := by decide +kernel
theorem dX13_mustName_1 : decode cX13_mustName 1 = .ok (.getfield 87, 3) := by decide +kernel
theorem dX13_mustName_4 : decode cX13_mustName 4 = .ok (.iconst 2, 1) := by decide +kernel
theorem dX13_mustName_5 : decode cX13_mustName 5 = .ok (.if_icmp .ne 66, 3) := by decide +kernel
theorem dX13_mustName_8 : decode cX13_mustName 8 = .ok (.aload_n 0, 1) := by decide +kernel
theorem dX13_mustName_9 : decode cX13_mustName 9 = .ok (.ldc 128, 2) := by decide +kernel
theorem dX13_mustName_11 : decode cX13_mustName 11 = .ok (.invokevirtual 114, 3) := by decide +kernel
theorem dX13_mustName_14 : decode cX13_mustName 14 = .ok (.ifCond .ne 57, 3) := by decide +kernel
theorem dX13_mustName_17 : decode cX13_mustName 17 = .ok (.aload_n 0, 1) := by decide +kernel
theorem dX13_mustName_18 : decode cX13_mustName 18 = .ok (.ldc 130, 2) := by decide +kernel
theorem dX13_mustName_20 : decode cX13_mustName 20 = .ok (.invokevirtual 114, 3) := by decide +kernel
theorem dX13_mustName_23 : decode cX13_mustName 23 = .ok (.ifCond .ne 48, 3) := by decide +kernel
theorem dX13_mustName_26 : decode cX13_mustName 26 = .ok (.aload_n 0, 1) := by decide +kernel
theorem dX13_mustName_27 : decode cX13_mustName 27 = .ok (.ldc 132, 2) := by decide +kernel
theorem dX13_mustName_29 : decode cX13_mustName 29 = .ok (.invokevirtual 114, 3) := by decide +kernel
theorem dX13_mustName_32 : decode cX13_mustName 32 = .ok (.ifCond .ne 39, 3) := by decide +kernel
theorem dX13_mustName_35 : decode cX13_mustName 35 = .ok (.aload_n 0, 1) := by decide +kernel
theorem dX13_mustName_36 : decode cX13_mustName 36 = .ok (.ldc 134, 2) := by decide +kernel
theorem dX13_mustName_38 : decode cX13_mustName 38 = .ok (.invokevirtual 114, 3) := by decide +kernel
theorem dX13_mustName_41 : decode cX13_mustName 41 = .ok (.ifCond .ne 30, 3) := by decide +kernel
theorem dX13_mustName_44 : decode cX13_mustName 44 = .ok (.aload_n 0, 1) := by decide +kernel
theorem dX13_mustName_45 : decode cX13_mustName 45 = .ok (.ldc 136, 2) := by decide +kernel
theorem dX13_mustName_47 : decode cX13_mustName 47 = .ok (.invokevirtual 114, 3) := by decide +kernel
theorem dX13_mustName_50 : decode cX13_mustName 50 = .ok (.ifCond .ne 21, 3) := by decide +kernel
theorem dX13_mustName_53 : decode cX13_mustName 53 = .ok (.aload_n 0, 1) := by decide +kernel
theorem dX13_mustName_54 : decode cX13_mustName 54 = .ok (.ldc 138, 2) := by decide +kernel
theorem dX13_mustName_56 : decode cX13_mustName 56 = .ok (.invokevirtual 114, 3) := by decide +kernel
theorem dX13_mustName_59 : decode cX13_mustName 59 = .ok (.ifCond .ne 12, 3) := by decide +kernel
theorem dX13_mustName_62 : decode cX13_mustName 62 = .ok (.aload_n 0, 1) := by decide +kernel
theorem dX13_mustName_63 : decode cX13_mustName 63 = .ok (.ldc 140, 2) := by decide +kernel
theorem dX13_mustName_65 : decode cX13_mustName 65 = .ok (.invokevirtual 114, 3) := by decide +kernel
theorem dX13_mustName_68 : decode cX13_mustName 68 = .ok (.ifCond .eq 12, 3) := by decide +kernel
theorem dX13_mustName_71 : decode cX13_mustName 71 = .ok (.aload_n 0, 1) := by decide +kernel
theorem dX13_mustName_72 : decode cX13_mustName 72 = .ok (.iconst 1, 1) := by decide +kernel
theorem dX13_mustName_73 : decode cX13_mustName 73 = .ok (.aload_n 0, 1) := by decide +kernel
theorem dX13_mustName_74 : decode cX13_mustName 74 = .ok (.getfield 78, 3) := by decide +kernel
theorem dX13_mustName_77 : decode cX13_mustName 77 = .ok (.invokevirtual 124, 3) := by decide +kernel
theorem dX13_mustName_80 : decode cX13_mustName 80 = .ok (.return_, 1) := by decide +kernel
theorem dX13_find_0 : decode cX13_find 0 = .ok (.iconst 0, 1) := by decide +kernel
theorem dX13_find_1 : decode cX13_find 1 = .ok (.istore_n 1, 1) := by decide +kernel
theorem dX13_find_2 : decode cX13_find 2 = .ok (.iload_n 1, 1) := by decide +kernel
theorem dX13_find_3 : decode cX13_find 3 = .ok (.iconst 5, 1) := by decide +kernel
theorem dX13_find_4 : decode cX13_find 4 = .ok (.if_icmp .ge 101, 3) := by decide +kernel
theorem dX13_find_7 : decode cX13_find 7 = .ok (.aload_n 0, 1) := by decide +kernel
theorem dX13_find_8 : decode cX13_find 8 = .ok (.getfield 23, 3) := by decide +kernel
theorem dX13_find_11 : decode cX13_find 11 = .ok (.sipush 130, 3) := by decide +kernel
theorem dX13_find_14 : decode cX13_find 14 = .ok (.iload_n 1, 1) := by decide +kernel
theorem dX13_find_15 : decode cX13_find 15 = .ok (.iadd, 1) := by decide +kernel
theorem dX13_find_16 : decode cX13_find 16 = .ok (.iaload, 1) := by decide +kernel
theorem dX13_find_17 : decode cX13_find 17 = .ok (.ifCond .le 24, 3) := by decide +kernel
theorem dX13_find_20 : decode cX13_find 20 = .ok (.aload_n 0, 1) := by decide +kernel
theorem dX13_find_21 : decode cX13_find 21 = .ok (.getfield 23, 3) := by decide +kernel
theorem dX13_find_24 : decode cX13_find 24 = .ok (.sipush 130, 3) := by decide +kernel
theorem dX13_find_27 : decode cX13_find 27 = .ok (.iload_n 1, 1) := by decide +kernel
theorem dX13_find_28 : decode cX13_find 28 = .ok (.iadd, 1) := by decide +kernel
theorem dX13_find_29 : decode cX13_find 29 = .ok (.iaload, 1) := by decide +kernel
theorem dX13_find_30 : decode cX13_find 30 = .ok (.aload_n 0, 1) := by decide +kernel
theorem dX13_find_31 : decode cX13_find 31 = .ok (.getfield 81, 3) := by decide +kernel
theorem dX13_find_34 : decode cX13_find 34 = .ok (.if_icmp .ne 7, 3) := by decide +kernel
theorem dX13_find_37 : decode cX13_find 37 = .ok (.iconst 1, 1) := by decide +kernel
theorem dX13_find_38 : decode cX13_find 38 = .ok (.goto 4, 3) := by decide +kernel
theorem dX13_find_41 : decode cX13_find 41 = .ok (.iconst 0, 1) := by decide +kernel
theorem dX13_find_42 : decode cX13_find 42 = .ok (.istore_n 2, 1) := by decide +kernel
theorem dX13_find_43 : decode cX13_find 43 = .ok (.iconst 0, 1) := by decide +kernel
theorem dX13_find_44 : decode cX13_find 44 = .ok (.istore_n 3, 1) := by decide +kernel
theorem dX13_find_45 : decode cX13_find 45 = .ok (.iload_n 3, 1) := by decide +kernel
theorem dX13_find_46 : decode cX13_find 46 = .ok (.aload_n 0, 1) := by decide +kernel
theorem dX13_find_47 : decode cX13_find 47 = .ok (.getfield 81, 3) := by decide +kernel
theorem dX13_find_50 : decode cX13_find 50 = .ok (.if_icmp .ge 43, 3) := by decide +kernel
theorem dX13_find_53 : decode cX13_find 53 = .ok (.iload_n 2, 1) := by decide +kernel
theorem dX13_find_54 : decode cX13_find 54 = .ok (.ifCond .eq 39, 3) := by decide +kernel
theorem dX13_find_57 : decode cX13_find 57 = .ok (.aload_n 0, 1) := by decide +kernel
theorem dX13_find_58 : decode cX13_find 58 = .ok (.getfield 23, 3) := by decide +kernel
theorem dX13_find_61 : decode cX13_find 61 = .ok (.sipush 135, 3) := by decide +kernel
theorem dX13_find_64 : decode cX13_find 64 = .ok (.bipush 8, 2) := by decide +kernel
theorem dX13_find_66 : decode cX13_find 66 = .ok (.iload_n 1, 1) := by decide +kernel
theorem dX13_find_67 : decode cX13_find 67 = .ok (.imul, 1) := by decide +kernel
theorem dX13_find_68 : decode cX13_find 68 = .ok (.iadd, 1) := by decide +kernel
theorem dX13_find_69 : decode cX13_find 69 = .ok (.iload_n 3, 1) := by decide +kernel
theorem dX13_find_70 : decode cX13_find 70 = .ok (.iadd, 1) := by decide +kernel
theorem dX13_find_71 : decode cX13_find 71 = .ok (.iaload, 1) := by decide +kernel
theorem dX13_find_72 : decode cX13_find 72 = .ok (.aload_n 0, 1) := by decide +kernel
theorem dX13_find_73 : decode cX13_find 73 = .ok (.getfield 17, 3) := by decide +kernel
theorem dX13_find_76 : decode cX13_find 76 = .ok (.iload_n 3, 1) := by decide +kernel
theorem dX13_find_77 : decode cX13_find 77 = .ok (.iaload, 1) := by decide +kernel
theorem dX13_find_78 : decode cX13_find 78 = .ok (.if_icmp .ne 7, 3) := by decide +kernel
theorem dX13_find_81 : decode cX13_find 81 = .ok (.iconst 1, 1) := by decide +kernel
theorem dX13_find_82 : decode cX13_find 82 = .ok (.goto 4, 3) := by decide +kernel
theorem dX13_find_85 : decode cX13_find 85 = .ok (.iconst 0, 1) := by decide +kernel
theorem dX13_find_86 : decode cX13_find 86 = .ok (.istore_n 2, 1) := by decide +kernel
theorem dX13_find_87 : decode cX13_find 87 = .ok (.iinc 3 1, 3) := by decide +kernel
theorem dX13_find_90 : decode cX13_find 90 = .ok (.goto (-45), 3) := by decide +kernel
theorem dX13_find_93 : decode cX13_find 93 = .ok (.iload_n 2, 1) := by decide +kernel
theorem dX13_find_94 : decode cX13_find 94 = .ok (.ifCond .eq 5, 3) := by decide +kernel
theorem dX13_find_97 : decode cX13_find 97 = .ok (.iload_n 1, 1) := by decide +kernel
theorem dX13_find_98 : decode cX13_find 98 = .ok (.ireturn, 1) := by decide +kernel
theorem dX13_find_99 : decode cX13_find 99 = .ok (.iinc 1 1, 3) := by decide +kernel
theorem dX13_find_102 : decode cX13_find 102 = .ok (.goto (-100), 3) := by decide +kernel
theorem dX13_find_105 : decode cX13_find 105 = .ok (.iconst (-1), 1) := by decide +kernel
theorem dX13_find_106 : decode cX13_find 106 = .ok (.ireturn, 1) := by decide +kernel
theorem dX13_personHere_0 : decode cX13_personHere 0 = .ok (.aload_n 0, 1) := by decide +kernel
theorem dX13_personHere_1 : decode cX13_personHere 1 = .ok (.getfield 97, 3) := by decide +kernel
theorem dX13_personHere_4 : decode cX13_personHere 4 = .ok (.ifCond .eq 5, 3) := by decide +kernel
theorem dX13_personHere_7 : decode cX13_personHere 7 = .ok (.iconst 0, 1) := by decide +kernel
theorem dX13_personHere_8 : decode cX13_personHere 8 = .ok (.ireturn, 1) := by decide +kernel
theorem dX13_personHere_9 : decode cX13_personHere 9 = .ok (.aload_n 0, 1) := by decide +kernel
theorem dX13_personHere_10 : decode cX13_personHere 10 = .ok (.invokevirtual 142, 3) := by decide +kernel
theorem dX13_personHere_13 : decode cX13_personHere 13 = .ok (.aload_n 0, 1) := by decide +kernel
theorem dX13_personHere_14 : decode cX13_personHere 14 = .ok (.getfield 97, 3) := by decide +kernel
theorem dX13_personHere_17 : decode cX13_personHere 17 = .ok (.ifCond .eq 5, 3) := by decide +kernel
theorem dX13_personHere_20 : decode cX13_personHere 20 = .ok (.iconst 0, 1) := by decide +kernel
theorem dX13_personHere_21 : decode cX13_personHere 21 = .ok (.ireturn, 1) := by decide +kernel
theorem dX13_personHere_22 : decode cX13_personHere 22 = .ok (.aload_n 0, 1) := by decide +kernel
theorem dX13_personHere_23 : decode cX13_personHere 23 = .ok (.invokevirtual 145, 3) := by decide +kernel
theorem dX13_personHere_26 : decode cX13_personHere 26 = .ok (.istore_n 1, 1) := by decide +kernel
theorem dX13_personHere_27 : decode cX13_personHere 27 = .ok (.iload_n 1, 1) := by decide +kernel
theorem dX13_personHere_28 : decode cX13_personHere 28 = .ok (.ifCond .ge 12, 3) := by decide +kernel
theorem dX13_personHere_31 : decode cX13_personHere 31 = .ok (.aload_n 0, 1) := by decide +kernel
theorem dX13_personHere_32 : decode cX13_personHere 32 = .ok (.iconst 2, 1) := by decide +kernel
theorem dX13_personHere_33 : decode cX13_personHere 33 = .ok (.aload_n 0, 1) := by decide +kernel
theorem dX13_personHere_34 : decode cX13_personHere 34 = .ok (.getfield 78, 3) := by decide +kernel
theorem dX13_personHere_37 : decode cX13_personHere 37 = .ok (.invokevirtual 124, 3) := by decide +kernel
theorem dX13_personHere_40 : decode cX13_personHere 40 = .ok (.aload_n 0, 1) := by decide +kernel
theorem dX13_personHere_41 : decode cX13_personHere 41 = .ok (.getfield 97, 3) := by decide +kernel
theorem dX13_personHere_44 : decode cX13_personHere 44 = .ok (.ifCond .eq 7, 3) := by decide +kernel
theorem dX13_personHere_47 : decode cX13_personHere 47 = .ok (.iconst 0, 1) := by decide +kernel
theorem dX13_personHere_48 : decode cX13_personHere 48 = .ok (.goto 4, 3) := by decide +kernel
theorem dX13_personHere_51 : decode cX13_personHere 51 = .ok (.iload_n 1, 1) := by decide +kernel
theorem dX13_personHere_52 : decode cX13_personHere 52 = .ok (.ireturn, 1) := by decide +kernel
theorem dX13_personPassed_0 : decode cX13_personPassed 0 = .ok (.aload_n 0, 1) := by decide +kernel
theorem dX13_personPassed_1 : decode cX13_personPassed 1 = .ok (.invokevirtual 148, 3) := by decide +kernel
theorem dX13_personPassed_4 : decode cX13_personPassed 4 = .ok (.istore_n 1, 1) := by decide +kernel
theorem dX13_personPassed_5 : decode cX13_personPassed 5 = .ok (.aload_n 0, 1) := by decide +kernel
theorem dX13_personPassed_6 : decode cX13_personPassed 6 = .ok (.getfield 97, 3) := by decide +kernel
theorem dX13_personPassed_9 : decode cX13_personPassed 9 = .ok (.ifCond .ne 7, 3) := by decide +kernel
theorem dX13_personPassed_12 : decode cX13_personPassed 12 = .ok (.aload_n 0, 1) := by decide +kernel
theorem dX13_personPassed_13 : decode cX13_personPassed 13 = .ok (.invokevirtual 118, 3) := by decide +kernel
theorem dX13_personPassed_16 : decode cX13_personPassed 16 = .ok (.iload_n 1, 1) := by decide +kernel
theorem dX13_personPassed_17 : decode cX13_personPassed 17 = .ok (.ireturn, 1) := by decide +kernel
theorem dX13_numberHere_0 : decode cX13_numberHere 0 = .ok (.aload_n 0, 1) := by decide +kernel
theorem dX13_numberHere_1 : decode cX13_numberHere 1 = .ok (.getfield 97, 3) := by decide +kernel
theorem dX13_numberHere_4 : decode cX13_numberHere 4 = .ok (.ifCond .eq 5, 3) := by decide +kernel
theorem dX13_numberHere_7 : decode cX13_numberHere 7 = .ok (.iload_n 1, 1) := by decide +kernel
theorem dX13_numberHere_8 : decode cX13_numberHere 8 = .ok (.ireturn, 1) := by decide +kernel
theorem dX13_numberHere_9 : decode cX13_numberHere 9 = .ok (.aload_n 0, 1) := by decide +kernel
theorem dX13_numberHere_10 : decode cX13_numberHere 10 = .ok (.getfield 87, 3) := by decide +kernel
theorem dX13_numberHere_13 : decode cX13_numberHere 13 = .ok (.iconst 3, 1) := by decide +kernel
theorem dX13_numberHere_14 : decode cX13_numberHere 14 = .ok (.if_icmp .eq 15, 3) := by decide +kernel
theorem dX13_numberHere_17 : decode cX13_numberHere 17 = .ok (.aload_n 0, 1) := by decide +kernel
theorem dX13_numberHere_18 : decode cX13_numberHere 18 = .ok (.iconst 1, 1) := by decide +kernel
theorem dX13_numberHere_19 : decode cX13_numberHere 19 = .ok (.aload_n 0, 1) := by decide +kernel
theorem dX13_numberHere_20 : decode cX13_numberHere 20 = .ok (.getfield 78, 3) := by decide +kernel
theorem dX13_numberHere_23 : decode cX13_numberHere 23 = .ok (.invokevirtual 124, 3) := by decide +kernel
theorem dX13_numberHere_26 : decode cX13_numberHere 26 = .ok (.goto 24, 3) := by decide +kernel
theorem dX13_numberHere_29 : decode cX13_numberHere 29 = .ok (.aload_n 0, 1) := by decide +kernel
theorem dX13_numberHere_30 : decode cX13_numberHere 30 = .ok (.getfield 84, 3) := by decide +kernel
theorem dX13_numberHere_33 : decode cX13_numberHere 33 = .ok (.iload_n 1, 1) := by decide +kernel
theorem dX13_numberHere_34 : decode cX13_numberHere 34 = .ok (.iload_n 2, 1) := by decide +kernel
theorem dX13_numberHere_35 : decode cX13_numberHere 35 = .ok (.invokestatic 151, 3) := by decide +kernel
theorem dX13_numberHere_38 : decode cX13_numberHere 38 = .ok (.ifCond .ne 12, 3) := by decide +kernel
theorem dX13_numberHere_41 : decode cX13_numberHere 41 = .ok (.aload_n 0, 1) := by decide +kernel
theorem dX13_numberHere_42 : decode cX13_numberHere 42 = .ok (.iconst 4, 1) := by decide +kernel
theorem dX13_numberHere_43 : decode cX13_numberHere 43 = .ok (.aload_n 0, 1) := by decide +kernel
theorem dX13_numberHere_44 : decode cX13_numberHere 44 = .ok (.getfield 78, 3) := by decide +kernel
theorem dX13_numberHere_47 : decode cX13_numberHere 47 = .ok (.invokevirtual 124, 3) := by decide +kernel
theorem dX13_numberHere_50 : decode cX13_numberHere 50 = .ok (.aload_n 0, 1) := by decide +kernel
theorem dX13_numberHere_51 : decode cX13_numberHere 51 = .ok (.getfield 97, 3) := by decide +kernel
theorem dX13_numberHere_54 : decode cX13_numberHere 54 = .ok (.ifCond .eq 7, 3) := by decide +kernel
theorem dX13_numberHere_57 : decode cX13_numberHere 57 = .ok (.iload_n 1, 1) := by decide +kernel
theorem dX13_numberHere_58 : decode cX13_numberHere 58 = .ok (.goto 7, 3) := by decide +kernel
theorem dX13_numberHere_61 : decode cX13_numberHere 61 = .ok (.aload_n 0, 1) := by decide +kernel
theorem dX13_numberHere_62 : decode cX13_numberHere 62 = .ok (.getfield 84, 3) := by decide +kernel
theorem dX13_numberHere_65 : decode cX13_numberHere 65 = .ok (.ireturn, 1) := by decide +kernel
theorem dX13_number_0 : decode cX13_number 0 = .ok (.aload_n 0, 1) := by decide +kernel
theorem dX13_number_1 : decode cX13_number 1 = .ok (.iload_n 1, 1) := by decide +kernel
theorem dX13_number_2 : decode cX13_number 2 = .ok (.iload_n 2, 1) := by decide +kernel
theorem dX13_number_3 : decode cX13_number 3 = .ok (.invokevirtual 155, 3) := by decide +kernel
theorem dX13_number_6 : decode cX13_number 6 = .ok (.istore_n 3, 1) := by decide +kernel
theorem dX13_number_7 : decode cX13_number 7 = .ok (.aload_n 0, 1) := by decide +kernel
theorem dX13_number_8 : decode cX13_number 8 = .ok (.getfield 97, 3) := by decide +kernel
theorem dX13_number_11 : decode cX13_number 11 = .ok (.ifCond .ne 7, 3) := by decide +kernel
theorem dX13_number_14 : decode cX13_number 14 = .ok (.aload_n 0, 1) := by decide +kernel
theorem dX13_number_15 : decode cX13_number 15 = .ok (.invokevirtual 118, 3) := by decide +kernel
theorem dX13_number_18 : decode cX13_number 18 = .ok (.iload_n 3, 1) := by decide +kernel
theorem dX13_number_19 : decode cX13_number 19 = .ok (.ireturn, 1) := by decide +kernel
theorem dX13_after_0 : decode cX13_after 0 = .ok (.aload_n 0, 1) := by decide +kernel
theorem dX13_after_1 : decode cX13_after 1 = .ok (.aload_n 1, 1) := by decide +kernel
theorem dX13_after_2 : decode cX13_after 2 = .ok (.invokevirtual 159, 3) := by decide +kernel
theorem dX13_after_5 : decode cX13_after 5 = .ok (.aload_n 0, 1) := by decide +kernel
theorem dX13_after_6 : decode cX13_after 6 = .ok (.iload_n 2, 1) := by decide +kernel
theorem dX13_after_7 : decode cX13_after 7 = .ok (.iload_n 3, 1) := by decide +kernel
theorem dX13_after_8 : decode cX13_after 8 = .ok (.invokevirtual 163, 3) := by decide +kernel
theorem dX13_after_11 : decode cX13_after 11 = .ok (.ireturn, 1) := by decide +kernel
theorem dX13_afterHere_0 : decode cX13_afterHere 0 = .ok (.aload_n 0, 1) := by decide +kernel
theorem dX13_afterHere_1 : decode cX13_afterHere 1 = .ok (.aload_n 1, 1) := by decide +kernel
theorem dX13_afterHere_2 : decode cX13_afterHere 2 = .ok (.invokevirtual 159, 3) := by decide +kernel
theorem dX13_afterHere_5 : decode cX13_afterHere 5 = .ok (.aload_n 0, 1) := by decide +kernel
theorem dX13_afterHere_6 : decode cX13_afterHere 6 = .ok (.iload_n 2, 1) := by decide +kernel
theorem dX13_afterHere_7 : decode cX13_afterHere 7 = .ok (.iload_n 3, 1) := by decide +kernel
theorem dX13_afterHere_8 : decode cX13_afterHere 8 = .ok (.invokevirtual 155, 3) := by decide +kernel
theorem dX13_afterHere_11 : decode cX13_afterHere 11 = .ok (.ireturn, 1) := by decide +kernel
theorem dX13_town_0 : decode cX13_town 0 = .ok (.aload_n 0, 1) := by decide +kernel
theorem dX13_town_1 : decode cX13_town 1 = .ok (.invokevirtual 166, 3) := by decide +kernel
theorem dX13_town_4 : decode cX13_town 4 = .ok (.iload_n 1, 1) := by decide +kernel
theorem dX13_town_5 : decode cX13_town 5 = .ok (.iconst 0, 1) := by decide +kernel
theorem dX13_town_6 : decode cX13_town 6 = .ok (.aload_n 0, 1) := by decide +kernel
theorem dX13_town_7 : decode cX13_town 7 = .ok (.getfield 65, 3) := by decide +kernel
theorem dX13_town_10 : decode cX13_town 10 = .ok (.invokestatic 151, 3) := by decide +kernel
theorem dX13_town_13 : decode cX13_town 13 = .ok (.ifCond .ne 9, 3) := by decide +kernel
theorem dX13_town_16 : decode cX13_town 16 = .ok (.aload_n 0, 1) := by decide +kernel
theorem dX13_town_17 : decode cX13_town 17 = .ok (.iconst 2, 1) := by decide +kernel
theorem dX13_town_18 : decode cX13_town 18 = .ok (.invokevirtual 169, 3) := by decide +kernel
theorem dX13_town_21 : decode cX13_town 21 = .ok (.ireturn, 1) := by decide +kernel
theorem dX13_town_22 : decode cX13_town 22 = .ok (.aload_n 0, 1) := by decide +kernel
theorem dX13_town_23 : decode cX13_town 23 = .ok (.iconst 0, 1) := by decide +kernel
theorem dX13_town_24 : decode cX13_town 24 = .ok (.putfield 65, 3) := by decide +kernel
theorem dX13_town_27 : decode cX13_town 27 = .ok (.aload_n 0, 1) := by decide +kernel
theorem dX13_town_28 : decode cX13_town 28 = .ok (.iconst 0, 1) := by decide +kernel
theorem dX13_town_29 : decode cX13_town 29 = .ok (.putfield 101, 3) := by decide +kernel
theorem dX13_town_32 : decode cX13_town 32 = .ok (.aload_n 0, 1) := by decide +kernel
theorem dX13_town_33 : decode cX13_town 33 = .ok (.iconst 0, 1) := by decide +kernel
theorem dX13_town_34 : decode cX13_town 34 = .ok (.putfield 97, 3) := by decide +kernel
theorem dX13_town_37 : decode cX13_town 37 = .ok (.iconst 0, 1) := by decide +kernel
theorem dX13_town_38 : decode cX13_town 38 = .ok (.istore_n 2, 1) := by decide +kernel
theorem dX13_town_39 : decode cX13_town 39 = .ok (.iload_n 2, 1) := by decide +kernel
theorem dX13_town_40 : decode cX13_town 40 = .ok (.sipush 175, 3) := by decide +kernel
theorem dX13_town_43 : decode cX13_town 43 = .ok (.if_icmp .ge 16, 3) := by decide +kernel
theorem dX13_town_46 : decode cX13_town 46 = .ok (.aload_n 0, 1) := by decide +kernel
theorem dX13_town_47 : decode cX13_town 47 = .ok (.getfield 23, 3) := by decide +kernel
theorem dX13_town_50 : decode cX13_town 50 = .ok (.iload_n 2, 1) := by decide +kernel
theorem dX13_town_51 : decode cX13_town 51 = .ok (.iconst 0, 1) := by decide +kernel
theorem dX13_town_52 : decode cX13_town 52 = .ok (.iastore, 1) := by decide +kernel
theorem dX13_town_53 : decode cX13_town 53 = .ok (.iinc 2 1, 3) := by decide +kernel
theorem dX13_town_56 : decode cX13_town 56 = .ok (.goto (-17), 3) := by decide +kernel
theorem dX13_town_59 : decode cX13_town 59 = .ok (.aload_n 0, 1) := by decide +kernel
theorem dX13_town_60 : decode cX13_town 60 = .ok (.iload_n 1, 1) := by decide +kernel
theorem dX13_town_61 : decode cX13_town 61 = .ok (.putfield 68, 3) := by decide +kernel
theorem dX13_town_64 : decode cX13_town 64 = .ok (.aload_n 0, 1) := by decide +kernel
theorem dX13_town_65 : decode cX13_town 65 = .ok (.iconst 0, 1) := by decide +kernel
theorem dX13_town_66 : decode cX13_town 66 = .ok (.putfield 71, 3) := by decide +kernel
theorem dX13_town_69 : decode cX13_town 69 = .ok (.aload_n 0, 1) := by decide +kernel
theorem dX13_town_70 : decode cX13_town 70 = .ok (.invokevirtual 118, 3) := by decide +kernel
theorem dX13_town_73 : decode cX13_town 73 = .ok (.aload_n 0, 1) := by decide +kernel
theorem dX13_town_74 : decode cX13_town 74 = .ok (.invokevirtual 172, 3) := by decide +kernel
theorem dX13_town_77 : decode cX13_town 77 = .ok (.aload_n 0, 1) := by decide +kernel
theorem dX13_town_78 : decode cX13_town 78 = .ok (.getfield 97, 3) := by decide +kernel
theorem dX13_town_81 : decode cX13_town 81 = .ok (.ifCond .ne 23, 3) := by decide +kernel
theorem dX13_town_84 : decode cX13_town 84 = .ok (.aload_n 0, 1) := by decide +kernel
theorem dX13_town_85 : decode cX13_town 85 = .ok (.getfield 87, 3) := by decide +kernel
theorem dX13_town_88 : decode cX13_town 88 = .ok (.bipush 59, 2) := by decide +kernel
theorem dX13_town_90 : decode cX13_town 90 = .ok (.if_icmp .ne 14, 3) := by decide +kernel
theorem dX13_town_93 : decode cX13_town 93 = .ok (.aload_n 0, 1) := by decide +kernel
theorem dX13_town_94 : decode cX13_town 94 = .ok (.invokevirtual 118, 3) := by decide +kernel
theorem dX13_town_97 : decode cX13_town 97 = .ok (.aload_n 0, 1) := by decide +kernel
theorem dX13_town_98 : decode cX13_town 98 = .ok (.invokevirtual 172, 3) := by decide +kernel
theorem dX13_town_101 : decode cX13_town 101 = .ok (.goto (-24), 3) := by decide +kernel
theorem dX13_town_104 : decode cX13_town 104 = .ok (.aload_n 0, 1) := by decide +kernel
theorem dX13_town_105 : decode cX13_town 105 = .ok (.getfield 97, 3) := by decide +kernel
theorem dX13_town_108 : decode cX13_town 108 = .ok (.ifCond .ne 19, 3) := by decide +kernel
theorem dX13_town_111 : decode cX13_town 111 = .ok (.aload_n 0, 1) := by decide +kernel
theorem dX13_town_112 : decode cX13_town 112 = .ok (.getfield 87, 3) := by decide +kernel
theorem dX13_town_115 : decode cX13_town 115 = .ok (.ifCond .eq 12, 3) := by decide +kernel
theorem dX13_town_118 : decode cX13_town 118 = .ok (.aload_n 0, 1) := by decide +kernel
theorem dX13_town_119 : decode cX13_town 119 = .ok (.iconst 1, 1) := by decide +kernel
theorem dX13_town_120 : decode cX13_town 120 = .ok (.aload_n 0, 1) := by decide +kernel
theorem dX13_town_121 : decode cX13_town 121 = .ok (.getfield 78, 3) := by decide +kernel
theorem dX13_town_124 : decode cX13_town 124 = .ok (.invokevirtual 124, 3) := by decide +kernel
theorem dX13_town_127 : decode cX13_town 127 = .ok (.aload_n 0, 1) := by decide +kernel
theorem dX13_town_128 : decode cX13_town 128 = .ok (.getfield 97, 3) := by decide +kernel
theorem dX13_town_131 : decode cX13_town 131 = .ok (.ifCond .ne 31, 3) := by decide +kernel
theorem dX13_town_134 : decode cX13_town 134 = .ok (.aload_n 0, 1) := by decide +kernel
theorem dX13_town_135 : decode cX13_town 135 = .ok (.getfield 23, 3) := by decide +kernel
theorem dX13_town_138 : decode cX13_town 138 = .ok (.iconst 0, 1) := by decide +kernel
theorem dX13_town_139 : decode cX13_town 139 = .ok (.iaload, 1) := by decide +kernel
theorem dX13_town_140 : decode cX13_town 140 = .ok (.ifCond .eq 12, 3) := by decide +kernel
theorem dX13_town_143 : decode cX13_town 143 = .ok (.aload_n 0, 1) := by decide +kernel
theorem dX13_town_144 : decode cX13_town 144 = .ok (.getfield 23, 3) := by decide +kernel
theorem dX13_town_147 : decode cX13_town 147 = .ok (.iconst 4, 1) := by decide +kernel
theorem dX13_town_148 : decode cX13_town 148 = .ok (.iaload, 1) := by decide +kernel
theorem dX13_town_149 : decode cX13_town 149 = .ok (.ifCond .ne 13, 3) := by decide +kernel
theorem dX13_town_152 : decode cX13_town 152 = .ok (.aload_n 0, 1) := by decide +kernel
theorem dX13_town_153 : decode cX13_town 153 = .ok (.bipush 6, 2) := by decide +kernel
theorem dX13_town_155 : decode cX13_town 155 = .ok (.aload_n 0, 1) := by decide +kernel
theorem dX13_town_156 : decode cX13_town 156 = .ok (.getfield 78, 3) := by decide +kernel
theorem dX13_town_159 : decode cX13_town 159 = .ok (.invokevirtual 124, 3) := by decide +kernel
theorem dX13_town_162 : decode cX13_town 162 = .ok (.aload_n 0, 1) := by decide +kernel
theorem dX13_town_163 : decode cX13_town 163 = .ok (.getfield 97, 3) := by decide +kernel
theorem dX13_town_166 : decode cX13_town 166 = .ok (.ifCond .eq 9, 3) := by decide +kernel
theorem dX13_town_169 : decode cX13_town 169 = .ok (.aload_n 0, 1) := by decide +kernel
theorem dX13_town_170 : decode cX13_town 170 = .ok (.iconst 4, 1) := by decide +kernel
theorem dX13_town_171 : decode cX13_town 171 = .ok (.invokevirtual 169, 3) := by decide +kernel
theorem dX13_town_174 : decode cX13_town 174 = .ok (.ireturn, 1) := by decide +kernel
theorem dX13_town_175 : decode cX13_town 175 = .ok (.aload_n 0, 1) := by decide +kernel
theorem dX13_town_176 : decode cX13_town 176 = .ok (.getfield 23, 3) := by decide +kernel
theorem dX13_town_179 : decode cX13_town 179 = .ok (.iconst 0, 1) := by decide +kernel
theorem dX13_town_180 : decode cX13_town 180 = .ok (.aload_n 0, 1) := by decide +kernel
theorem dX13_town_181 : decode cX13_town 181 = .ok (.getfield 20, 3) := by decide +kernel
theorem dX13_town_184 : decode cX13_town 184 = .ok (.iconst 0, 1) := by decide +kernel
theorem dX13_town_185 : decode cX13_town 185 = .ok (.sipush 175, 3) := by decide +kernel
theorem dX13_town_188 : decode cX13_town 188 = .ok (.invokestatic 175, 3) := by decide +kernel
theorem dX13_town_191 : decode cX13_town 191 = .ok (.iconst 0, 1) := by decide +kernel
theorem dX13_town_192 : decode cX13_town 192 = .ok (.istore_n 2, 1) := by decide +kernel
theorem dX13_town_193 : decode cX13_town 193 = .ok (.iload_n 2, 1) := by decide +kernel
theorem dX13_town_194 : decode cX13_town 194 = .ok (.bipush 80, 2) := by decide +kernel
theorem dX13_town_196 : decode cX13_town 196 = .ok (.if_icmp .ge 34, 3) := by decide +kernel
theorem dX13_town_199 : decode cX13_town 199 = .ok (.aload_n 0, 1) := by decide +kernel
theorem dX13_town_200 : decode cX13_town 200 = .ok (.getfield 26, 3) := by decide +kernel
theorem dX13_town_203 : decode cX13_town 203 = .ok (.iload_n 2, 1) := by decide +kernel
theorem dX13_town_204 : decode cX13_town 204 = .ok (.iload_n 2, 1) := by decide +kernel
theorem dX13_town_205 : decode cX13_town 205 = .ok (.bipush 30, 2) := by decide +kernel
theorem dX13_town_207 : decode cX13_town 207 = .ok (.if_icmp .ge 15, 3) := by decide +kernel
theorem dX13_town_210 : decode cX13_town 210 = .ok (.aload_n 0, 1) := by decide +kernel
theorem dX13_town_211 : decode cX13_town 211 = .ok (.getfield 20, 3) := by decide +kernel
theorem dX13_town_214 : decode cX13_town 214 = .ok (.bipush 60, 2) := by decide +kernel
theorem dX13_town_216 : decode cX13_town 216 = .ok (.iload_n 2, 1) := by decide +kernel
theorem dX13_town_217 : decode cX13_town 217 = .ok (.iadd, 1) := by decide +kernel
theorem dX13_town_218 : decode cX13_town 218 = .ok (.iaload, 1) := by decide +kernel
theorem dX13_town_219 : decode cX13_town 219 = .ok (.goto 4, 3) := by decide +kernel
theorem dX13_town_222 : decode cX13_town 222 = .ok (.iconst 0, 1) := by decide +kernel
theorem dX13_town_223 : decode cX13_town 223 = .ok (.iastore, 1) := by decide +kernel
theorem dX13_town_224 : decode cX13_town 224 = .ok (.iinc 2 1, 3) := by decide +kernel
theorem dX13_town_227 : decode cX13_town 227 = .ok (.goto (-34), 3) := by decide +kernel
theorem dX13_town_230 : decode cX13_town 230 = .ok (.aload_n 0, 1) := by decide +kernel
theorem dX13_town_231 : decode cX13_town 231 = .ok (.iconst 1, 1) := by decide +kernel
theorem dX13_town_232 : decode cX13_town 232 = .ok (.putfield 179, 3) := by decide +kernel
theorem dX13_town_235 : decode cX13_town 235 = .ok (.aload_n 0, 1) := by decide +kernel
theorem dX13_town_236 : decode cX13_town 236 = .ok (.iconst 0, 1) := by decide +kernel
theorem dX13_town_237 : decode cX13_town 237 = .ok (.putfield 182, 3) := by decide +kernel
theorem dX13_town_240 : decode cX13_town 240 = .ok (.aload_n 0, 1) := by decide +kernel
theorem dX13_town_241 : decode cX13_town 241 = .ok (.iconst 0, 1) := by decide +kernel
theorem dX13_town_242 : decode cX13_town 242 = .ok (.putfield 185, 3) := by decide +kernel
theorem dX13_town_245 : decode cX13_town 245 = .ok (.aload_n 0, 1) := by decide +kernel
theorem dX13_town_246 : decode cX13_town 246 = .ok (.getfield 20, 3) := by decide +kernel
theorem dX13_town_249 : decode cX13_town 249 = .ok (.iconst 4, 1) := by decide +kernel
theorem dX13_town_250 : decode cX13_town 250 = .ok (.iaload, 1) := by decide +kernel
theorem dX13_town_251 : decode cX13_town 251 = .ok (.ireturn, 1) := by decide +kernel
theorem dX13_begins_0 : decode cX13_begins 0 = .ok (.aload_n 0, 1) := by decide +kernel
theorem dX13_begins_1 : decode cX13_begins 1 = .ok (.aload_n 1, 1) := by decide +kernel
theorem dX13_begins_2 : decode cX13_begins 2 = .ok (.invokevirtual 114, 3) := by decide +kernel
theorem dX13_begins_5 : decode cX13_begins 5 = .ok (.ifCond .ne 5, 3) := by decide +kernel
theorem dX13_begins_8 : decode cX13_begins 8 = .ok (.iconst 0, 1) := by decide +kernel
theorem dX13_begins_9 : decode cX13_begins 9 = .ok (.ireturn, 1) := by decide +kernel
theorem dX13_begins_10 : decode cX13_begins 10 = .ok (.iload_n 2, 1) := by decide +kernel
theorem dX13_begins_11 : decode cX13_begins 11 = .ok (.ifCond .ne 12, 3) := by decide +kernel
theorem dX13_begins_14 : decode cX13_begins 14 = .ok (.aload_n 0, 1) := by decide +kernel
theorem dX13_begins_15 : decode cX13_begins 15 = .ok (.iconst 5, 1) := by decide +kernel
theorem dX13_begins_16 : decode cX13_begins 16 = .ok (.aload_n 0, 1) := by decide +kernel
theorem dX13_begins_17 : decode cX13_begins 17 = .ok (.getfield 78, 3) := by decide +kernel
theorem dX13_begins_20 : decode cX13_begins 20 = .ok (.invokevirtual 124, 3) := by decide +kernel
theorem dX13_begins_23 : decode cX13_begins 23 = .ok (.aload_n 0, 1) := by decide +kernel
theorem dX13_begins_24 : decode cX13_begins 24 = .ok (.getfield 23, 3) := by decide +kernel
theorem dX13_begins_27 : decode cX13_begins 27 = .ok (.iconst 0, 1) := by decide +kernel
theorem dX13_begins_28 : decode cX13_begins 28 = .ok (.iaload, 1) := by decide +kernel
theorem dX13_begins_29 : decode cX13_begins 29 = .ok (.ifCond .ne 13, 3) := by decide +kernel
theorem dX13_begins_32 : decode cX13_begins 32 = .ok (.aload_n 0, 1) := by decide +kernel
theorem dX13_begins_33 : decode cX13_begins 33 = .ok (.bipush 6, 2) := by decide +kernel
theorem dX13_begins_35 : decode cX13_begins 35 = .ok (.aload_n 0, 1) := by decide +kernel
theorem dX13_begins_36 : decode cX13_begins 36 = .ok (.getfield 78, 3) := by decide +kernel
theorem dX13_begins_39 : decode cX13_begins 39 = .ok (.invokevirtual 124, 3) := by decide +kernel
theorem dX13_begins_42 : decode cX13_begins 42 = .ok (.aload_n 0, 1) := by decide +kernel
theorem dX13_begins_43 : decode cX13_begins 43 = .ok (.getfield 97, 3) := by decide +kernel
theorem dX13_begins_46 : decode cX13_begins 46 = .ok (.ifCond .ne 7, 3) := by decide +kernel
theorem dX13_begins_49 : decode cX13_begins 49 = .ok (.aload_n 0, 1) := by decide +kernel
theorem dX13_begins_50 : decode cX13_begins 50 = .ok (.invokevirtual 118, 3) := by decide +kernel
theorem dX13_begins_53 : decode cX13_begins 53 = .ok (.iconst 1, 1) := by decide +kernel
theorem dX13_begins_54 : decode cX13_begins 54 = .ok (.ireturn, 1) := by decide +kernel
theorem dX13_readLine_0 : decode cX13_readLine 0 = .ok (.aload_n 0, 1) := by decide +kernel
theorem dX13_readLine_1 : decode cX13_readLine 1 = .ok (.ldc 128, 2) := by decide +kernel
theorem dX13_readLine_3 : decode cX13_readLine 3 = .ok (.invokevirtual 114, 3) := by decide +kernel
theorem dX13_readLine_6 : decode cX13_readLine 6 = .ok (.ifCond .eq 10, 3) := by decide +kernel
theorem dX13_readLine_9 : decode cX13_readLine 9 = .ok (.aload_n 0, 1) := by decide +kernel
theorem dX13_readLine_10 : decode cX13_readLine 10 = .ok (.invokevirtual 188, 3) := by decide +kernel
theorem dX13_readLine_13 : decode cX13_readLine 13 = .ok (.goto 205, 3) := by decide +kernel
theorem dX13_readLine_16 : decode cX13_readLine 16 = .ok (.aload_n 0, 1) := by decide +kernel
theorem dX13_readLine_17 : decode cX13_readLine 17 = .ok (.ldc 130, 2) := by decide +kernel
theorem dX13_readLine_19 : decode cX13_readLine 19 = .ok (.aload_n 0, 1) := by decide +kernel
theorem dX13_readLine_20 : decode cX13_readLine 20 = .ok (.getfield 23, 3) := by decide +kernel
theorem dX13_readLine_23 : decode cX13_readLine 23 = .ok (.iconst 4, 1) := by decide +kernel
theorem dX13_readLine_24 : decode cX13_readLine 24 = .ok (.iaload, 1) := by decide +kernel
theorem dX13_readLine_25 : decode cX13_readLine 25 = .ok (.iconst 5, 1) := by decide +kernel
theorem dX13_readLine_26 : decode cX13_readLine 26 = .ok (.if_icmp .ge 7, 3) := by decide +kernel
theorem dX13_readLine_29 : decode cX13_readLine 29 = .ok (.iconst 1, 1) := by decide +kernel
theorem dX13_readLine_30 : decode cX13_readLine 30 = .ok (.goto 4, 3) := by decide +kernel
theorem dX13_readLine_33 : decode cX13_readLine 33 = .ok (.iconst 0, 1) := by decide +kernel
theorem dX13_readLine_34 : decode cX13_readLine 34 = .ok (.invokevirtual 191, 3) := by decide +kernel
theorem dX13_readLine_37 : decode cX13_readLine 37 = .ok (.ifCond .eq 10, 3) := by decide +kernel
theorem dX13_readLine_40 : decode cX13_readLine 40 = .ok (.aload_n 0, 1) := by decide +kernel
theorem dX13_readLine_41 : decode cX13_readLine 41 = .ok (.invokevirtual 195, 3) := by decide +kernel
theorem dX13_readLine_44 : decode cX13_readLine 44 = .ok (.goto 174, 3) := by decide +kernel
theorem dX13_readLine_47 : decode cX13_readLine 47 = .ok (.aload_n 0, 1) := by decide +kernel
theorem dX13_readLine_48 : decode cX13_readLine 48 = .ok (.ldc 132, 2) := by decide +kernel
theorem dX13_readLine_50 : decode cX13_readLine 50 = .ok (.aload_n 0, 1) := by decide +kernel
theorem dX13_readLine_51 : decode cX13_readLine 51 = .ok (.getfield 23, 3) := by decide +kernel
theorem dX13_readLine_54 : decode cX13_readLine 54 = .ok (.iconst 5, 1) := by decide +kernel
theorem dX13_readLine_55 : decode cX13_readLine 55 = .ok (.iaload, 1) := by decide +kernel
theorem dX13_readLine_56 : decode cX13_readLine 56 = .ok (.bipush 10, 2) := by decide +kernel
theorem dX13_readLine_58 : decode cX13_readLine 58 = .ok (.if_icmp .ge 7, 3) := by decide +kernel
theorem dX13_readLine_61 : decode cX13_readLine 61 = .ok (.iconst 1, 1) := by decide +kernel
theorem dX13_readLine_62 : decode cX13_readLine 62 = .ok (.goto 4, 3) := by decide +kernel
theorem dX13_readLine_65 : decode cX13_readLine 65 = .ok (.iconst 0, 1) := by decide +kernel
theorem dX13_readLine_66 : decode cX13_readLine 66 = .ok (.invokevirtual 191, 3) := by decide +kernel
theorem dX13_readLine_69 : decode cX13_readLine 69 = .ok (.ifCond .eq 10, 3) := by decide +kernel
theorem dX13_readLine_72 : decode cX13_readLine 72 = .ok (.aload_n 0, 1) := by decide +kernel
theorem dX13_readLine_73 : decode cX13_readLine 73 = .ok (.invokevirtual 198, 3) := by decide +kernel
theorem dX13_readLine_76 : decode cX13_readLine 76 = .ok (.goto 142, 3) := by decide +kernel
theorem dX13_readLine_79 : decode cX13_readLine 79 = .ok (.aload_n 0, 1) := by decide +kernel
theorem dX13_readLine_80 : decode cX13_readLine 80 = .ok (.ldc 134, 2) := by decide +kernel
theorem dX13_readLine_82 : decode cX13_readLine 82 = .ok (.aload_n 0, 1) := by decide +kernel
theorem dX13_readLine_83 : decode cX13_readLine 83 = .ok (.getfield 23, 3) := by decide +kernel
theorem dX13_readLine_86 : decode cX13_readLine 86 = .ok (.bipush 6, 2) := by decide +kernel
theorem dX13_readLine_88 : decode cX13_readLine 88 = .ok (.iaload, 1) := by decide +kernel
theorem dX13_readLine_89 : decode cX13_readLine 89 = .ok (.bipush 10, 2) := by decide +kernel
theorem dX13_readLine_91 : decode cX13_readLine 91 = .ok (.if_icmp .ge 7, 3) := by decide +kernel
theorem dX13_readLine_94 : decode cX13_readLine 94 = .ok (.iconst 1, 1) := by decide +kernel
theorem dX13_readLine_95 : decode cX13_readLine 95 = .ok (.goto 4, 3) := by decide +kernel
theorem dX13_readLine_98 : decode cX13_readLine 98 = .ok (.iconst 0, 1) := by decide +kernel
theorem dX13_readLine_99 : decode cX13_readLine 99 = .ok (.invokevirtual 191, 3) := by decide +kernel
theorem dX13_readLine_102 : decode cX13_readLine 102 = .ok (.ifCond .eq 10, 3) := by decide +kernel
theorem dX13_readLine_105 : decode cX13_readLine 105 = .ok (.aload_n 0, 1) := by decide +kernel
theorem dX13_readLine_106 : decode cX13_readLine 106 = .ok (.invokevirtual 201, 3) := by decide +kernel
theorem dX13_readLine_109 : decode cX13_readLine 109 = .ok (.goto 109, 3) := by decide +kernel
theorem dX13_readLine_112 : decode cX13_readLine 112 = .ok (.aload_n 0, 1) := by decide +kernel
theorem dX13_readLine_113 : decode cX13_readLine 113 = .ok (.ldc 136, 2) := by decide +kernel
theorem dX13_readLine_115 : decode cX13_readLine 115 = .ok (.aload_n 0, 1) := by decide +kernel
theorem dX13_readLine_116 : decode cX13_readLine 116 = .ok (.getfield 23, 3) := by decide +kernel
theorem dX13_readLine_119 : decode cX13_readLine 119 = .ok (.bipush 7, 2) := by decide +kernel
theorem dX13_readLine_121 : decode cX13_readLine 121 = .ok (.iaload, 1) := by decide +kernel
theorem dX13_readLine_122 : decode cX13_readLine 122 = .ok (.iconst 5, 1) := by decide +kernel
theorem dX13_readLine_123 : decode cX13_readLine 123 = .ok (.if_icmp .ge 7, 3) := by decide +kernel
theorem dX13_readLine_126 : decode cX13_readLine 126 = .ok (.iconst 1, 1) := by decide +kernel
theorem dX13_readLine_127 : decode cX13_readLine 127 = .ok (.goto 4, 3) := by decide +kernel
theorem dX13_readLine_130 : decode cX13_readLine 130 = .ok (.iconst 0, 1) := by decide +kernel
theorem dX13_readLine_131 : decode cX13_readLine 131 = .ok (.invokevirtual 191, 3) := by decide +kernel
theorem dX13_readLine_134 : decode cX13_readLine 134 = .ok (.ifCond .eq 10, 3) := by decide +kernel
theorem dX13_readLine_137 : decode cX13_readLine 137 = .ok (.aload_n 0, 1) := by decide +kernel
theorem dX13_readLine_138 : decode cX13_readLine 138 = .ok (.invokevirtual 204, 3) := by decide +kernel
theorem dX13_readLine_141 : decode cX13_readLine 141 = .ok (.goto 77, 3) := by decide +kernel
theorem dX13_readLine_144 : decode cX13_readLine 144 = .ok (.aload_n 0, 1) := by decide +kernel
theorem dX13_readLine_145 : decode cX13_readLine 145 = .ok (.ldc 138, 2) := by decide +kernel
theorem dX13_readLine_147 : decode cX13_readLine 147 = .ok (.aload_n 0, 1) := by decide +kernel
theorem dX13_readLine_148 : decode cX13_readLine 148 = .ok (.getfield 23, 3) := by decide +kernel
theorem dX13_readLine_151 : decode cX13_readLine 151 = .ok (.bipush 8, 2) := by decide +kernel
theorem dX13_readLine_153 : decode cX13_readLine 153 = .ok (.iaload, 1) := by decide +kernel
theorem dX13_readLine_154 : decode cX13_readLine 154 = .ok (.bipush 8, 2) := by decide +kernel
theorem dX13_readLine_156 : decode cX13_readLine 156 = .ok (.if_icmp .ge 7, 3) := by decide +kernel
theorem dX13_readLine_159 : decode cX13_readLine 159 = .ok (.iconst 1, 1) := by decide +kernel
theorem dX13_readLine_160 : decode cX13_readLine 160 = .ok (.goto 4, 3) := by decide +kernel
theorem dX13_readLine_163 : decode cX13_readLine 163 = .ok (.iconst 0, 1) := by decide +kernel
theorem dX13_readLine_164 : decode cX13_readLine 164 = .ok (.invokevirtual 191, 3) := by decide +kernel
theorem dX13_readLine_167 : decode cX13_readLine 167 = .ok (.ifCond .eq 10, 3) := by decide +kernel
theorem dX13_readLine_170 : decode cX13_readLine 170 = .ok (.aload_n 0, 1) := by decide +kernel
theorem dX13_readLine_171 : decode cX13_readLine 171 = .ok (.invokevirtual 207, 3) := by decide +kernel
theorem dX13_readLine_174 : decode cX13_readLine 174 = .ok (.goto 44, 3) := by decide +kernel
theorem dX13_readLine_177 : decode cX13_readLine 177 = .ok (.aload_n 0, 1) := by decide +kernel
theorem dX13_readLine_178 : decode cX13_readLine 178 = .ok (.ldc 140, 2) := by decide +kernel
theorem dX13_readLine_180 : decode cX13_readLine 180 = .ok (.aload_n 0, 1) := by decide +kernel
theorem dX13_readLine_181 : decode cX13_readLine 181 = .ok (.getfield 23, 3) := by decide +kernel
theorem dX13_readLine_184 : decode cX13_readLine 184 = .ok (.bipush 9, 2) := by decide +kernel
theorem dX13_readLine_186 : decode cX13_readLine 186 = .ok (.iaload, 1) := by decide +kernel
theorem dX13_readLine_187 : decode cX13_readLine 187 = .ok (.iconst 5, 1) := by decide +kernel
theorem dX13_readLine_188 : decode cX13_readLine 188 = .ok (.if_icmp .ge 7, 3) := by decide +kernel
theorem dX13_readLine_191 : decode cX13_readLine 191 = .ok (.iconst 1, 1) := by decide +kernel
theorem dX13_readLine_192 : decode cX13_readLine 192 = .ok (.goto 4, 3) := by decide +kernel
theorem dX13_readLine_195 : decode cX13_readLine 195 = .ok (.iconst 0, 1) := by decide +kernel
theorem dX13_readLine_196 : decode cX13_readLine 196 = .ok (.invokevirtual 191, 3) := by decide +kernel
theorem dX13_readLine_199 : decode cX13_readLine 199 = .ok (.ifCond .eq 10, 3) := by decide +kernel
theorem dX13_readLine_202 : decode cX13_readLine 202 = .ok (.aload_n 0, 1) := by decide +kernel
theorem dX13_readLine_203 : decode cX13_readLine 203 = .ok (.invokevirtual 210, 3) := by decide +kernel
theorem dX13_readLine_206 : decode cX13_readLine 206 = .ok (.goto 12, 3) := by decide +kernel
theorem dX13_readLine_209 : decode cX13_readLine 209 = .ok (.aload_n 0, 1) := by decide +kernel
theorem dX13_readLine_210 : decode cX13_readLine 210 = .ok (.iconst 1, 1) := by decide +kernel
theorem dX13_readLine_211 : decode cX13_readLine 211 = .ok (.aload_n 0, 1) := by decide +kernel
theorem dX13_readLine_212 : decode cX13_readLine 212 = .ok (.getfield 78, 3) := by decide +kernel
theorem dX13_readLine_215 : decode cX13_readLine 215 = .ok (.invokevirtual 124, 3) := by decide +kernel
theorem dX13_readLine_218 : decode cX13_readLine 218 = .ok (.return_, 1) := by decide +kernel
theorem dX13_townLine_0 : decode cX13_townLine 0 = .ok (.aload_n 0, 1) := by decide +kernel
theorem dX13_townLine_1 : decode cX13_townLine 1 = .ok (.getfield 23, 3) := by decide +kernel
theorem dX13_townLine_4 : decode cX13_townLine 4 = .ok (.iconst 0, 1) := by decide +kernel
theorem dX13_townLine_5 : decode cX13_townLine 5 = .ok (.iaload, 1) := by decide +kernel
theorem dX13_townLine_6 : decode cX13_townLine 6 = .ok (.ifCond .le 12, 3) := by decide +kernel
theorem dX13_townLine_9 : decode cX13_townLine 9 = .ok (.aload_n 0, 1) := by decide +kernel
theorem dX13_townLine_10 : decode cX13_townLine 10 = .ok (.iconst 3, 1) := by decide +kernel
theorem dX13_townLine_11 : decode cX13_townLine 11 = .ok (.aload_n 0, 1) := by decide +kernel
theorem dX13_townLine_12 : decode cX13_townLine 12 = .ok (.getfield 78, 3) := by decide +kernel
theorem dX13_townLine_15 : decode cX13_townLine 15 = .ok (.invokevirtual 124, 3) := by decide +kernel
theorem dX13_townLine_18 : decode cX13_townLine 18 = .ok (.aload_n 0, 1) := by decide +kernel
theorem dX13_townLine_19 : decode cX13_townLine 19 = .ok (.getfield 97, 3) := by decide +kernel
theorem dX13_townLine_22 : decode cX13_townLine 22 = .ok (.ifCond .eq 4, 3) := by decide +kernel
theorem dX13_townLine_25 : decode cX13_townLine 25 = .ok (.return_, 1) := by decide +kernel
theorem dX13_townLine_26 : decode cX13_townLine 26 = .ok (.aload_n 0, 1) := by decide +kernel
theorem dX13_townLine_27 : decode cX13_townLine 27 = .ok (.invokevirtual 118, 3) := by decide +kernel
theorem dX13_townLine_30 : decode cX13_townLine 30 = .ok (.aload_n 0, 1) := by decide +kernel
theorem dX13_townLine_31 : decode cX13_townLine 31 = .ok (.ldc 213, 2) := by decide +kernel
theorem dX13_townLine_33 : decode cX13_townLine 33 = .ok (.iconst 3, 1) := by decide +kernel
theorem dX13_townLine_34 : decode cX13_townLine 34 = .ok (.bipush 6, 2) := by decide +kernel
theorem dX13_townLine_36 : decode cX13_townLine 36 = .ok (.invokevirtual 215, 3) := by decide +kernel
theorem dX13_townLine_39 : decode cX13_townLine 39 = .ok (.istore_n 1, 1) := by decide +kernel
theorem dX13_townLine_40 : decode cX13_townLine 40 = .ok (.aload_n 0, 1) := by decide +kernel
theorem dX13_townLine_41 : decode cX13_townLine 41 = .ok (.getfield 23, 3) := by decide +kernel
theorem dX13_townLine_44 : decode cX13_townLine 44 = .ok (.iconst 1, 1) := by decide +kernel
theorem dX13_townLine_45 : decode cX13_townLine 45 = .ok (.aload_n 0, 1) := by decide +kernel
theorem dX13_townLine_46 : decode cX13_townLine 46 = .ok (.ldc 219, 2) := by decide +kernel
theorem dX13_townLine_48 : decode cX13_townLine 48 = .ok (.iconst 0, 1) := by decide +kernel
theorem dX13_townLine_49 : decode cX13_townLine 49 = .ok (.iconst 2, 1) := by decide +kernel
theorem dX13_townLine_50 : decode cX13_townLine 50 = .ok (.invokevirtual 215, 3) := by decide +kernel
theorem dX13_townLine_53 : decode cX13_townLine 53 = .ok (.iastore, 1) := by decide +kernel
theorem dX13_townLine_54 : decode cX13_townLine 54 = .ok (.aload_n 0, 1) := by decide +kernel
theorem dX13_townLine_55 : decode cX13_townLine 55 = .ok (.getfield 23, 3) := by decide +kernel
theorem dX13_townLine_58 : decode cX13_townLine 58 = .ok (.iconst 2, 1) := by decide +kernel
theorem dX13_townLine_59 : decode cX13_townLine 59 = .ok (.aload_n 0, 1) := by decide +kernel
theorem dX13_townLine_60 : decode cX13_townLine 60 = .ok (.ldc 221, 2) := by decide +kernel
theorem dX13_townLine_62 : decode cX13_townLine 62 = .ok (.iconst 0, 1) := by decide +kernel
theorem dX13_townLine_63 : decode cX13_townLine 63 = .ok (.iconst 3, 1) := by decide +kernel
theorem dX13_townLine_64 : decode cX13_townLine 64 = .ok (.invokevirtual 215, 3) := by decide +kernel
theorem dX13_townLine_67 : decode cX13_townLine 67 = .ok (.iastore, 1) := by decide +kernel
theorem dX13_townLine_68 : decode cX13_townLine 68 = .ok (.aload_n 0, 1) := by decide +kernel
theorem dX13_townLine_69 : decode cX13_townLine 69 = .ok (.getfield 23, 3) := by decide +kernel
theorem dX13_townLine_72 : decode cX13_townLine 72 = .ok (.iconst 3, 1) := by decide +kernel
theorem dX13_townLine_73 : decode cX13_townLine 73 = .ok (.aload_n 0, 1) := by decide +kernel
theorem dX13_townLine_74 : decode cX13_townLine 74 = .ok (.ldc 223, 2) := by decide +kernel
theorem dX13_townLine_76 : decode cX13_townLine 76 = .ok (.iconst 0, 1) := by decide +kernel
theorem dX13_townLine_77 : decode cX13_townLine 77 = .ok (.bipush 6, 2) := by decide +kernel
theorem dX13_townLine_79 : decode cX13_townLine 79 = .ok (.invokevirtual 215, 3) := by decide +kernel
theorem dX13_townLine_82 : decode cX13_townLine 82 = .ok (.iastore, 1) := by decide +kernel
theorem dX13_townLine_83 : decode cX13_townLine 83 = .ok (.aload_n 0, 1) := by decide +kernel
theorem dX13_townLine_84 : decode cX13_townLine 84 = .ok (.getfield 97, 3) := by decide +kernel
theorem dX13_townLine_87 : decode cX13_townLine 87 = .ok (.ifCond .ne 10, 3) := by decide +kernel
theorem dX13_townLine_90 : decode cX13_townLine 90 = .ok (.aload_n 0, 1) := by decide +kernel
theorem dX13_townLine_91 : decode cX13_townLine 91 = .ok (.getfield 23, 3) := by decide +kernel
theorem dX13_townLine_94 : decode cX13_townLine 94 = .ok (.iconst 0, 1) := by decide +kernel
theorem dX13_townLine_95 : decode cX13_townLine 95 = .ok (.iload_n 1, 1) := by decide +kernel
theorem dX13_townLine_96 : decode cX13_townLine 96 = .ok (.iastore, 1) := by decide +kernel
theorem dX13_townLine_97 : decode cX13_townLine 97 = .ok (.return_, 1) := by decide +kernel
theorem dX13_personLine_0 : decode cX13_personLine 0 = .ok (.aload_n 0, 1) := by decide +kernel
theorem dX13_personLine_1 : decode cX13_personLine 1 = .ok (.getfield 97, 3) := by decide +kernel
theorem dX13_personLine_4 : decode cX13_personLine 4 = .ok (.ifCond .eq 4, 3) := by decide +kernel
theorem dX13_personLine_7 : decode cX13_personLine 7 = .ok (.return_, 1) := by decide +kernel
theorem dX13_personLine_8 : decode cX13_personLine 8 = .ok (.aload_n 0, 1) := by decide +kernel
theorem dX13_personLine_9 : decode cX13_personLine 9 = .ok (.getfield 23, 3) := by decide +kernel
theorem dX13_personLine_12 : decode cX13_personLine 12 = .ok (.iconst 4, 1) := by decide +kernel
theorem dX13_personLine_13 : decode cX13_personLine 13 = .ok (.iaload, 1) := by decide +kernel
theorem dX13_personLine_14 : decode cX13_personLine 14 = .ok (.istore_n 1, 1) := by decide +kernel
theorem dX13_personLine_15 : decode cX13_personLine 15 = .ok (.aload_n 0, 1) := by decide +kernel
theorem dX13_personLine_16 : decode cX13_personLine 16 = .ok (.invokevirtual 142, 3) := by decide +kernel
theorem dX13_personLine_19 : decode cX13_personLine 19 = .ok (.aload_n 0, 1) := by decide +kernel
theorem dX13_personLine_20 : decode cX13_personLine 20 = .ok (.getfield 97, 3) := by decide +kernel
theorem dX13_personLine_23 : decode cX13_personLine 23 = .ok (.ifCond .ne 19, 3) := by decide +kernel
theorem dX13_personLine_26 : decode cX13_personLine 26 = .ok (.aload_n 0, 1) := by decide +kernel
theorem dX13_personLine_27 : decode cX13_personLine 27 = .ok (.invokevirtual 145, 3) := by decide +kernel
theorem dX13_personLine_30 : decode cX13_personLine 30 = .ok (.ifCond .lt 12, 3) := by decide +kernel
theorem dX13_personLine_33 : decode cX13_personLine 33 = .ok (.aload_n 0, 1) := by decide +kernel
theorem dX13_personLine_34 : decode cX13_personLine 34 = .ok (.iconst 3, 1) := by decide +kernel
theorem dX13_personLine_35 : decode cX13_personLine 35 = .ok (.aload_n 0, 1) := by decide +kernel
theorem dX13_personLine_36 : decode cX13_personLine 36 = .ok (.getfield 78, 3) := by decide +kernel
theorem dX13_personLine_39 : decode cX13_personLine 39 = .ok (.invokevirtual 124, 3) := by decide +kernel
theorem dX13_personLine_42 : decode cX13_personLine 42 = .ok (.aload_n 0, 1) := by decide +kernel
theorem dX13_personLine_43 : decode cX13_personLine 43 = .ok (.getfield 97, 3) := by decide +kernel
theorem dX13_personLine_46 : decode cX13_personLine 46 = .ok (.ifCond .eq 4, 3) := by decide +kernel
theorem dX13_personLine_49 : decode cX13_personLine 49 = .ok (.return_, 1) := by decide +kernel
theorem dX13_personLine_50 : decode cX13_personLine 50 = .ok (.aload_n 0, 1) := by decide +kernel
theorem dX13_personLine_51 : decode cX13_personLine 51 = .ok (.getfield 81, 3) := by decide +kernel
theorem dX13_personLine_54 : decode cX13_personLine 54 = .ok (.istore_n 2, 1) := by decide +kernel
theorem dX13_personLine_55 : decode cX13_personLine 55 = .ok (.iconst 0, 1) := by decide +kernel
theorem dX13_personLine_56 : decode cX13_personLine 56 = .ok (.istore_n 3, 1) := by decide +kernel
theorem dX13_personLine_57 : decode cX13_personLine 57 = .ok (.iload_n 3, 1) := by decide +kernel
theorem dX13_personLine_58 : decode cX13_personLine 58 = .ok (.iload_n 2, 1) := by decide +kernel
theorem dX13_personLine_59 : decode cX13_personLine 59 = .ok (.if_icmp .ge 30, 3) := by decide +kernel
theorem dX13_personLine_62 : decode cX13_personLine 62 = .ok (.aload_n 0, 1) := by decide +kernel
theorem dX13_personLine_63 : decode cX13_personLine 63 = .ok (.getfield 23, 3) := by decide +kernel
theorem dX13_personLine_66 : decode cX13_personLine 66 = .ok (.sipush 135, 3) := by decide +kernel
theorem dX13_personLine_69 : decode cX13_personLine 69 = .ok (.bipush 8, 2) := by decide +kernel
theorem dX13_personLine_71 : decode cX13_personLine 71 = .ok (.iload_n 1, 1) := by decide +kernel
theorem dX13_personLine_72 : decode cX13_personLine 72 = .ok (.imul, 1) := by decide +kernel
theorem dX13_personLine_73 : decode cX13_personLine 73 = .ok (.iadd, 1) := by decide +kernel
theorem dX13_personLine_74 : decode cX13_personLine 74 = .ok (.iload_n 3, 1) := by decide +kernel
theorem dX13_personLine_75 : decode cX13_personLine 75 = .ok (.iadd, 1) := by decide +kernel
theorem dX13_personLine_76 : decode cX13_personLine 76 = .ok (.aload_n 0, 1) := by decide +kernel
theorem dX13_personLine_77 : decode cX13_personLine 77 = .ok (.getfield 17, 3) := by decide +kernel
theorem dX13_personLine_80 : decode cX13_personLine 80 = .ok (.iload_n 3, 1) := by decide +kernel
theorem dX13_personLine_81 : decode cX13_personLine 81 = .ok (.iaload, 1) := by decide +kernel
theorem dX13_personLine_82 : decode cX13_personLine 82 = .ok (.iastore, 1) := by decide +kernel
theorem dX13_personLine_83 : decode cX13_personLine 83 = .ok (.iinc 3 1, 3) := by decide +kernel
theorem dX13_personLine_86 : decode cX13_personLine 86 = .ok (.goto (-29), 3) := by decide +kernel
theorem dX13_personLine_89 : decode cX13_personLine 89 = .ok (.aload_n 0, 1) := by decide +kernel
theorem dX13_personLine_90 : decode cX13_personLine 90 = .ok (.invokevirtual 118, 3) := by decide +kernel
theorem dX13_personLine_93 : decode cX13_personLine 93 = .ok (.aload_n 0, 1) := by decide +kernel
theorem dX13_personLine_94 : decode cX13_personLine 94 = .ok (.ldc 225, 2) := by decide +kernel
theorem dX13_personLine_96 : decode cX13_personLine 96 = .ok (.invokevirtual 114, 3) := by decide +kernel
theorem dX13_personLine_99 : decode cX13_personLine 99 = .ok (.ifCond .eq 7, 3) := by decide +kernel
theorem dX13_personLine_102 : decode cX13_personLine 102 = .ok (.iconst 0, 1) := by decide +kernel
theorem dX13_personLine_103 : decode cX13_personLine 103 = .ok (.goto 43, 3) := by decide +kernel
theorem dX13_personLine_106 : decode cX13_personLine 106 = .ok (.aload_n 0, 1) := by decide +kernel
theorem dX13_personLine_107 : decode cX13_personLine 107 = .ok (.ldc 227, 2) := by decide +kernel
theorem dX13_personLine_109 : decode cX13_personLine 109 = .ok (.invokevirtual 114, 3) := by decide +kernel
theorem dX13_personLine_112 : decode cX13_personLine 112 = .ok (.ifCond .eq 7, 3) := by decide +kernel
theorem dX13_personLine_115 : decode cX13_personLine 115 = .ok (.iconst 1, 1) := by decide +kernel
theorem dX13_personLine_116 : decode cX13_personLine 116 = .ok (.goto 30, 3) := by decide +kernel
theorem dX13_personLine_119 : decode cX13_personLine 119 = .ok (.aload_n 0, 1) := by decide +kernel
theorem dX13_personLine_120 : decode cX13_personLine 120 = .ok (.ldc 229, 2) := by decide +kernel
theorem dX13_personLine_122 : decode cX13_personLine 122 = .ok (.invokevirtual 114, 3) := by decide +kernel
theorem dX13_personLine_125 : decode cX13_personLine 125 = .ok (.ifCond .eq 7, 3) := by decide +kernel
theorem dX13_personLine_128 : decode cX13_personLine 128 = .ok (.iconst 2, 1) := by decide +kernel
theorem dX13_personLine_129 : decode cX13_personLine 129 = .ok (.goto 17, 3) := by decide +kernel
theorem dX13_personLine_132 : decode cX13_personLine 132 = .ok (.aload_n 0, 1) := by decide +kernel
theorem dX13_personLine_133 : decode cX13_personLine 133 = .ok (.ldc 231, 2) := by decide +kernel
theorem dX13_personLine_135 : decode cX13_personLine 135 = .ok (.invokevirtual 114, 3) := by decide +kernel
theorem dX13_personLine_138 : decode cX13_personLine 138 = .ok (.ifCond .eq 7, 3) := by decide +kernel
theorem dX13_personLine_141 : decode cX13_personLine 141 = .ok (.iconst 3, 1) := by decide +kernel
theorem dX13_personLine_142 : decode cX13_personLine 142 = .ok (.goto 4, 3) := by decide +kernel
theorem dX13_personLine_145 : decode cX13_personLine 145 = .ok (.iconst (-1), 1) := by decide +kernel
theorem dX13_personLine_146 : decode cX13_personLine 146 = .ok (.istore_n 3, 1) := by decide +kernel
theorem dX13_personLine_147 : decode cX13_personLine 147 = .ok (.iload_n 3, 1) := by decide +kernel
theorem dX13_personLine_148 : decode cX13_personLine 148 = .ok (.ifCond .ge 12, 3) := by decide +kernel
theorem dX13_personLine_151 : decode cX13_personLine 151 = .ok (.aload_n 0, 1) := by decide +kernel
theorem dX13_personLine_152 : decode cX13_personLine 152 = .ok (.iconst 1, 1) := by decide +kernel
theorem dX13_personLine_153 : decode cX13_personLine 153 = .ok (.aload_n 0, 1) := by decide +kernel
theorem dX13_personLine_154 : decode cX13_personLine 154 = .ok (.getfield 78, 3) := by decide +kernel
theorem dX13_personLine_157 : decode cX13_personLine 157 = .ok (.invokevirtual 124, 3) := by decide +kernel
theorem dX13_personLine_160 : decode cX13_personLine 160 = .ok (.aload_n 0, 1) := by decide +kernel
theorem dX13_personLine_161 : decode cX13_personLine 161 = .ok (.getfield 97, 3) := by decide +kernel
theorem dX13_personLine_164 : decode cX13_personLine 164 = .ok (.ifCond .eq 4, 3) := by decide +kernel
theorem dX13_personLine_167 : decode cX13_personLine 167 = .ok (.return_, 1) := by decide +kernel
theorem dX13_personLine_168 : decode cX13_personLine 168 = .ok (.aload_n 0, 1) := by decide +kernel
theorem dX13_personLine_169 : decode cX13_personLine 169 = .ok (.invokevirtual 118, 3) := by decide +kernel
theorem dX13_personLine_172 : decode cX13_personLine 172 = .ok (.aload_n 0, 1) := by decide +kernel
theorem dX13_personLine_173 : decode cX13_personLine 173 = .ok (.getfield 87, 3) := by decide +kernel
theorem dX13_personLine_176 : decode cX13_personLine 176 = .ok (.iconst 2, 1) := by decide +kernel
theorem dX13_personLine_177 : decode cX13_personLine 177 = .ok (.if_icmp .eq 12, 3) := by decide +kernel
theorem dX13_personLine_180 : decode cX13_personLine 180 = .ok (.aload_n 0, 1) := by decide +kernel
theorem dX13_personLine_181 : decode cX13_personLine 181 = .ok (.iconst 1, 1) := by decide +kernel
theorem dX13_personLine_182 : decode cX13_personLine 182 = .ok (.aload_n 0, 1) := by decide +kernel
theorem dX13_personLine_183 : decode cX13_personLine 183 = .ok (.getfield 78, 3) := by decide +kernel
theorem dX13_personLine_186 : decode cX13_personLine 186 = .ok (.invokevirtual 124, 3) := by decide +kernel
theorem dX13_personLine_189 : decode cX13_personLine 189 = .ok (.aload_n 0, 1) := by decide +kernel
theorem dX13_personLine_190 : decode cX13_personLine 190 = .ok (.getfield 81, 3) := by decide +kernel
theorem dX13_personLine_193 : decode cX13_personLine 193 = .ok (.aload_n 0, 1) := by decide +kernel
theorem dX13_personLine_194 : decode cX13_personLine 194 = .ok (.getfield 23, 3) := by decide +kernel
theorem dX13_personLine_197 : decode cX13_personLine 197 = .ok (.iconst 0, 1) := by decide +kernel
theorem dX13_personLine_198 : decode cX13_personLine 198 = .ok (.iaload, 1) := by decide +kernel
theorem dX13_personLine_199 : decode cX13_personLine 199 = .ok (.if_icmp .ne 7, 3) := by decide +kernel
theorem dX13_personLine_202 : decode cX13_personLine 202 = .ok (.iconst 1, 1) := by decide +kernel
theorem dX13_personLine_203 : decode cX13_personLine 203 = .ok (.goto 4, 3) := by decide +kernel
theorem dX13_personLine_206 : decode cX13_personLine 206 = .ok (.iconst 0, 1) := by decide +kernel
theorem dX13_personLine_207 : decode cX13_personLine 207 = .ok (.istore 4, 2) := by decide +kernel
theorem dX13_personLine_209 : decode cX13_personLine 209 = .ok (.iconst 0, 1) := by decide +kernel
theorem dX13_personLine_210 : decode cX13_personLine 210 = .ok (.istore 5, 2) := by decide +kernel
theorem dX13_personLine_212 : decode cX13_personLine 212 = .ok (.iconst 0, 1) := by decide +kernel
theorem dX13_personLine_213 : decode cX13_personLine 213 = .ok (.istore 6, 2) := by decide +kernel
theorem dX13_personLine_215 : decode cX13_personLine 215 = .ok (.iload 6, 2) := by decide +kernel
theorem dX13_personLine_217 : decode cX13_personLine 217 = .ok (.aload_n 0, 1) := by decide +kernel
theorem dX13_personLine_218 : decode cX13_personLine 218 = .ok (.getfield 81, 3) := by decide +kernel
theorem dX13_personLine_221 : decode cX13_personLine 221 = .ok (.if_icmp .ge 50, 3) := by decide +kernel
theorem dX13_personLine_224 : decode cX13_personLine 224 = .ok (.iload 4, 2) := by decide +kernel
theorem dX13_personLine_226 : decode cX13_personLine 226 = .ok (.ifCond .eq 45, 3) := by decide +kernel
theorem dX13_personLine_229 : decode cX13_personLine 229 = .ok (.aload_n 0, 1) := by decide +kernel
theorem dX13_personLine_230 : decode cX13_personLine 230 = .ok (.getfield 17, 3) := by decide +kernel
theorem dX13_personLine_233 : decode cX13_personLine 233 = .ok (.iload 6, 2) := by decide +kernel
theorem dX13_personLine_235 : decode cX13_personLine 235 = .ok (.iaload, 1) := by decide +kernel
theorem dX13_personLine_236 : decode cX13_personLine 236 = .ok (.bipush 97, 2) := by decide +kernel
theorem dX13_personLine_238 : decode cX13_personLine 238 = .ok (.bipush 100, 2) := by decide +kernel
theorem dX13_personLine_240 : decode cX13_personLine 240 = .ok (.invokestatic 151, 3) := by decide +kernel
theorem dX13_personLine_243 : decode cX13_personLine 243 = .ok (.istore 4, 2) := by decide +kernel
theorem dX13_personLine_245 : decode cX13_personLine 245 = .ok (.iload 5, 2) := by decide +kernel
theorem dX13_personLine_247 : decode cX13_personLine 247 = .ok (.aload_n 0, 1) := by decide +kernel
theorem dX13_personLine_248 : decode cX13_personLine 248 = .ok (.getfield 17, 3) := by decide +kernel
theorem dX13_personLine_251 : decode cX13_personLine 251 = .ok (.iload 6, 2) := by decide +kernel
theorem dX13_personLine_253 : decode cX13_personLine 253 = .ok (.iaload, 1) := by decide +kernel
theorem dX13_personLine_254 : decode cX13_personLine 254 = .ok (.bipush 97, 2) := by decide +kernel
theorem dX13_personLine_256 : decode cX13_personLine 256 = .ok (.isub, 1) := by decide +kernel
theorem dX13_personLine_257 : decode cX13_personLine 257 = .ok (.iconst 2, 1) := by decide +kernel
theorem dX13_personLine_258 : decode cX13_personLine 258 = .ok (.iload 6, 2) := by decide +kernel
theorem dX13_personLine_260 : decode cX13_personLine 260 = .ok (.imul, 1) := by decide +kernel
theorem dX13_personLine_261 : decode cX13_personLine 261 = .ok (.ishl, 1) := by decide +kernel
theorem dX13_personLine_262 : decode cX13_personLine 262 = .ok (.ior, 1) := by decide +kernel
theorem dX13_personLine_263 : decode cX13_personLine 263 = .ok (.istore 5, 2) := by decide +kernel
theorem dX13_personLine_265 : decode cX13_personLine 265 = .ok (.iinc 6 1, 3) := by decide +kernel
theorem dX13_personLine_268 : decode cX13_personLine 268 = .ok (.goto (-53), 3) := by decide +kernel
theorem dX13_personLine_271 : decode cX13_personLine 271 = .ok (.aload_n 0, 1) := by decide +kernel
theorem dX13_personLine_272 : decode cX13_personLine 272 = .ok (.getfield 97, 3) := by decide +kernel
theorem dX13_personLine_275 : decode cX13_personLine 275 = .ok (.ifCond .ne 18, 3) := by decide +kernel
theorem dX13_personLine_278 : decode cX13_personLine 278 = .ok (.iload 4, 2) := by decide +kernel
theorem dX13_personLine_280 : decode cX13_personLine 280 = .ok (.ifCond .ne 13, 3) := by decide +kernel
theorem dX13_personLine_283 : decode cX13_personLine 283 = .ok (.aload_n 0, 1) := by decide +kernel
theorem dX13_personLine_284 : decode cX13_personLine 284 = .ok (.bipush 7, 2) := by decide +kernel
theorem dX13_personLine_286 : decode cX13_personLine 286 = .ok (.aload_n 0, 1) := by decide +kernel
theorem dX13_personLine_287 : decode cX13_personLine 287 = .ok (.getfield 78, 3) := by decide +kernel
theorem dX13_personLine_290 : decode cX13_personLine 290 = .ok (.invokevirtual 124, 3) := by decide +kernel
theorem dX13_personLine_293 : decode cX13_personLine 293 = .ok (.aload_n 0, 1) := by decide +kernel
theorem dX13_personLine_294 : decode cX13_personLine 294 = .ok (.getfield 97, 3) := by decide +kernel
theorem dX13_personLine_297 : decode cX13_personLine 297 = .ok (.ifCond .eq 4, 3) := by decide +kernel
theorem dX13_personLine_300 : decode cX13_personLine 300 = .ok (.return_, 1) := by decide +kernel
theorem dX13_personLine_301 : decode cX13_personLine 301 = .ok (.aload_n 0, 1) := by decide +kernel
theorem dX13_personLine_302 : decode cX13_personLine 302 = .ok (.invokevirtual 118, 3) := by decide +kernel
theorem dX13_personLine_305 : decode cX13_personLine 305 = .ok (.aload_n 0, 1) := by decide +kernel
theorem dX13_personLine_306 : decode cX13_personLine 306 = .ok (.getfield 23, 3) := by decide +kernel
theorem dX13_personLine_309 : decode cX13_personLine 309 = .ok (.sipush 130, 3) := by decide +kernel
theorem dX13_personLine_312 : decode cX13_personLine 312 = .ok (.iload_n 1, 1) := by decide +kernel
theorem dX13_personLine_313 : decode cX13_personLine 313 = .ok (.iadd, 1) := by decide +kernel
theorem dX13_personLine_314 : decode cX13_personLine 314 = .ok (.iload_n 2, 1) := by decide +kernel
theorem dX13_personLine_315 : decode cX13_personLine 315 = .ok (.iastore, 1) := by decide +kernel
theorem dX13_personLine_316 : decode cX13_personLine 316 = .ok (.aload_n 0, 1) := by decide +kernel
theorem dX13_personLine_317 : decode cX13_personLine 317 = .ok (.getfield 23, 3) := by decide +kernel
theorem dX13_personLine_320 : decode cX13_personLine 320 = .ok (.bipush 10, 2) := by decide +kernel
theorem dX13_personLine_322 : decode cX13_personLine 322 = .ok (.iconst 2, 1) := by decide +kernel
theorem dX13_personLine_323 : decode cX13_personLine 323 = .ok (.iload_n 1, 1) := by decide +kernel
theorem dX13_personLine_324 : decode cX13_personLine 324 = .ok (.imul, 1) := by decide +kernel
theorem dX13_personLine_325 : decode cX13_personLine 325 = .ok (.iadd, 1) := by decide +kernel
theorem dX13_personLine_326 : decode cX13_personLine 326 = .ok (.iload_n 3, 1) := by decide +kernel
theorem dX13_personLine_327 : decode cX13_personLine 327 = .ok (.iastore, 1) := by decide +kernel
theorem dX13_personLine_328 : decode cX13_personLine 328 = .ok (.aload_n 0, 1) := by decide +kernel
theorem dX13_personLine_329 : decode cX13_personLine 329 = .ok (.getfield 23, 3) := by decide +kernel
theorem dX13_personLine_332 : decode cX13_personLine 332 = .ok (.bipush 10, 2) := by decide +kernel
theorem dX13_personLine_334 : decode cX13_personLine 334 = .ok (.iconst 2, 1) := by decide +kernel
theorem dX13_personLine_335 : decode cX13_personLine 335 = .ok (.iload_n 1, 1) := by decide +kernel
theorem dX13_personLine_336 : decode cX13_personLine 336 = .ok (.imul, 1) := by decide +kernel
theorem dX13_personLine_337 : decode cX13_personLine 337 = .ok (.iadd, 1) := by decide +kernel
theorem dX13_personLine_338 : decode cX13_personLine 338 = .ok (.iconst 1, 1) := by decide +kernel
theorem dX13_personLine_339 : decode cX13_personLine 339 = .ok (.iadd, 1) := by decide +kernel
theorem dX13_personLine_340 : decode cX13_personLine 340 = .ok (.iload 5, 2) := by decide +kernel
theorem dX13_personLine_342 : decode cX13_personLine 342 = .ok (.iastore, 1) := by decide +kernel
theorem dX13_personLine_343 : decode cX13_personLine 343 = .ok (.aload_n 0, 1) := by decide +kernel
theorem dX13_personLine_344 : decode cX13_personLine 344 = .ok (.getfield 23, 3) := by decide +kernel
theorem dX13_personLine_347 : decode cX13_personLine 347 = .ok (.iconst 4, 1) := by decide +kernel
theorem dX13_personLine_348 : decode cX13_personLine 348 = .ok (.dup2, 1) := by decide +kernel
theorem dX13_personLine_349 : decode cX13_personLine 349 = .ok (.iaload, 1) := by decide +kernel
theorem dX13_personLine_350 : decode cX13_personLine 350 = .ok (.iconst 1, 1) := by decide +kernel
theorem dX13_personLine_351 : decode cX13_personLine 351 = .ok (.iadd, 1) := by decide +kernel
theorem dX13_personLine_352 : decode cX13_personLine 352 = .ok (.iastore, 1) := by decide +kernel
theorem dX13_personLine_353 : decode cX13_personLine 353 = .ok (.return_, 1) := by decide +kernel
theorem dX13_changeLine_0 : decode cX13_changeLine 0 = .ok (.aload_n 0, 1) := by decide +kernel
theorem dX13_changeLine_1 : decode cX13_changeLine 1 = .ok (.getfield 97, 3) := by decide +kernel
theorem dX13_changeLine_4 : decode cX13_changeLine 4 = .ok (.ifCond .eq 4, 3) := by decide +kernel
theorem dX13_changeLine_7 : decode cX13_changeLine 7 = .ok (.return_, 1) := by decide +kernel
theorem dX13_changeLine_8 : decode cX13_changeLine 8 = .ok (.bipush 20, 2) := by decide +kernel
theorem dX13_changeLine_10 : decode cX13_changeLine 10 = .ok (.iconst 4, 1) := by decide +kernel
theorem dX13_changeLine_11 : decode cX13_changeLine 11 = .ok (.aload_n 0, 1) := by decide +kernel
theorem dX13_changeLine_12 : decode cX13_changeLine 12 = .ok (.getfield 23, 3) := by decide +kernel
theorem dX13_changeLine_15 : decode cX13_changeLine 15 = .ok (.iconst 5, 1) := by decide +kernel
theorem dX13_changeLine_16 : decode cX13_changeLine 16 = .ok (.iaload, 1) := by decide +kernel
theorem dX13_changeLine_17 : decode cX13_changeLine 17 = .ok (.imul, 1) := by decide +kernel
theorem dX13_changeLine_18 : decode cX13_changeLine 18 = .ok (.iadd, 1) := by decide +kernel
theorem dX13_changeLine_19 : decode cX13_changeLine 19 = .ok (.istore_n 1, 1) := by decide +kernel
theorem dX13_changeLine_20 : decode cX13_changeLine 20 = .ok (.aload_n 0, 1) := by decide +kernel
theorem dX13_changeLine_21 : decode cX13_changeLine 21 = .ok (.getfield 23, 3) := by decide +kernel
theorem dX13_changeLine_24 : decode cX13_changeLine 24 = .ok (.iload_n 1, 1) := by decide +kernel
theorem dX13_changeLine_25 : decode cX13_changeLine 25 = .ok (.aload_n 0, 1) := by decide +kernel
theorem dX13_changeLine_26 : decode cX13_changeLine 26 = .ok (.invokevirtual 233, 3) := by decide +kernel
theorem dX13_changeLine_29 : decode cX13_changeLine 29 = .ok (.iastore, 1) := by decide +kernel
theorem dX13_changeLine_30 : decode cX13_changeLine 30 = .ok (.aload_n 0, 1) := by decide +kernel
theorem dX13_changeLine_31 : decode cX13_changeLine 31 = .ok (.getfield 23, 3) := by decide +kernel
theorem dX13_changeLine_34 : decode cX13_changeLine 34 = .ok (.iload_n 1, 1) := by decide +kernel
theorem dX13_changeLine_35 : decode cX13_changeLine 35 = .ok (.iconst 1, 1) := by decide +kernel
theorem dX13_changeLine_36 : decode cX13_changeLine 36 = .ok (.iadd, 1) := by decide +kernel
theorem dX13_changeLine_37 : decode cX13_changeLine 37 = .ok (.aload_n 0, 1) := by decide +kernel
theorem dX13_changeLine_38 : decode cX13_changeLine 38 = .ok (.ldc 236, 2) := by decide +kernel
theorem dX13_changeLine_40 : decode cX13_changeLine 40 = .ok (.iconst 0, 1) := by decide +kernel
theorem dX13_changeLine_41 : decode cX13_changeLine 41 = .ok (.bipush 29, 2) := by decide +kernel
theorem dX13_changeLine_43 : decode cX13_changeLine 43 = .ok (.invokevirtual 215, 3) := by decide +kernel
theorem dX13_changeLine_46 : decode cX13_changeLine 46 = .ok (.iastore, 1) := by decide +kernel
theorem dX13_changeLine_47 : decode cX13_changeLine 47 = .ok (.aload_n 0, 1) := by decide +kernel
theorem dX13_changeLine_48 : decode cX13_changeLine 48 = .ok (.getfield 23, 3) := by decide +kernel
theorem dX13_changeLine_51 : decode cX13_changeLine 51 = .ok (.iload_n 1, 1) := by decide +kernel
theorem dX13_changeLine_52 : decode cX13_changeLine 52 = .ok (.iconst 2, 1) := by decide +kernel
theorem dX13_changeLine_53 : decode cX13_changeLine 53 = .ok (.iadd, 1) := by decide +kernel
theorem dX13_changeLine_54 : decode cX13_changeLine 54 = .ok (.aload_n 0, 1) := by decide +kernel
theorem dX13_changeLine_55 : decode cX13_changeLine 55 = .ok (.ldc 238, 2) := by decide +kernel
theorem dX13_changeLine_57 : decode cX13_changeLine 57 = .ok (.iconst 0, 1) := by decide +kernel
theorem dX13_changeLine_58 : decode cX13_changeLine 58 = .ok (.aload_n 0, 1) := by decide +kernel
theorem dX13_changeLine_59 : decode cX13_changeLine 59 = .ok (.getfield 23, 3) := by decide +kernel
theorem dX13_changeLine_62 : decode cX13_changeLine 62 = .ok (.iconst 0, 1) := by decide +kernel
theorem dX13_changeLine_63 : decode cX13_changeLine 63 = .ok (.iaload, 1) := by decide +kernel
theorem dX13_changeLine_64 : decode cX13_changeLine 64 = .ok (.iconst 1, 1) := by decide +kernel
theorem dX13_changeLine_65 : decode cX13_changeLine 65 = .ok (.isub, 1) := by decide +kernel
theorem dX13_changeLine_66 : decode cX13_changeLine 66 = .ok (.invokevirtual 215, 3) := by decide +kernel
theorem dX13_changeLine_69 : decode cX13_changeLine 69 = .ok (.iastore, 1) := by decide +kernel
theorem dX13_changeLine_70 : decode cX13_changeLine 70 = .ok (.aload_n 0, 1) := by decide +kernel
theorem dX13_changeLine_71 : decode cX13_changeLine 71 = .ok (.getfield 23, 3) := by decide +kernel
theorem dX13_changeLine_74 : decode cX13_changeLine 74 = .ok (.iload_n 1, 1) := by decide +kernel
theorem dX13_changeLine_75 : decode cX13_changeLine 75 = .ok (.iconst 3, 1) := by decide +kernel
theorem dX13_changeLine_76 : decode cX13_changeLine 76 = .ok (.iadd, 1) := by decide +kernel
theorem dX13_changeLine_77 : decode cX13_changeLine 77 = .ok (.aload_n 0, 1) := by decide +kernel
theorem dX13_changeLine_78 : decode cX13_changeLine 78 = .ok (.ldc 240, 2) := by decide +kernel
theorem dX13_changeLine_80 : decode cX13_changeLine 80 = .ok (.iconst 1, 1) := by decide +kernel
theorem dX13_changeLine_81 : decode cX13_changeLine 81 = .ok (.iconst 3, 1) := by decide +kernel
theorem dX13_changeLine_82 : decode cX13_changeLine 82 = .ok (.invokevirtual 215, 3) := by decide +kernel
theorem dX13_changeLine_85 : decode cX13_changeLine 85 = .ok (.iastore, 1) := by decide +kernel
theorem dX13_changeLine_86 : decode cX13_changeLine 86 = .ok (.aload_n 0, 1) := by decide +kernel
theorem dX13_changeLine_87 : decode cX13_changeLine 87 = .ok (.getfield 97, 3) := by decide +kernel
theorem dX13_changeLine_90 : decode cX13_changeLine 90 = .ok (.ifCond .ne 13, 3) := by decide +kernel
theorem dX13_changeLine_93 : decode cX13_changeLine 93 = .ok (.aload_n 0, 1) := by decide +kernel
theorem dX13_changeLine_94 : decode cX13_changeLine 94 = .ok (.getfield 23, 3) := by decide +kernel
theorem dX13_changeLine_97 : decode cX13_changeLine 97 = .ok (.iconst 5, 1) := by decide +kernel
theorem dX13_changeLine_98 : decode cX13_changeLine 98 = .ok (.dup2, 1) := by decide +kernel
theorem dX13_changeLine_99 : decode cX13_changeLine 99 = .ok (.iaload, 1) := by decide +kernel
theorem dX13_changeLine_100 : decode cX13_changeLine 100 = .ok (.iconst 1, 1) := by decide +kernel
theorem dX13_changeLine_101 : decode cX13_changeLine 101 = .ok (.iadd, 1) := by decide +kernel
theorem dX13_changeLine_102 : decode cX13_changeLine 102 = .ok (.iastore, 1) := by decide +kernel
theorem dX13_changeLine_103 : decode cX13_changeLine 103 = .ok (.return_, 1) := by decide +kernel
theorem dX13_visitLine_0 : decode cX13_visitLine 0 = .ok (.aload_n 0, 1) := by decide +kernel
theorem dX13_visitLine_1 : decode cX13_visitLine 1 = .ok (.getfield 97, 3) := by decide +kernel
theorem dX13_visitLine_4 : decode cX13_visitLine 4 = .ok (.ifCond .eq 4, 3) := by decide +kernel
theorem dX13_visitLine_7 : decode cX13_visitLine 7 = .ok (.return_, 1) := by decide +kernel
theorem dX13_visitLine_8 : decode cX13_visitLine 8 = .ok (.aload_n 0, 1) := by decide +kernel
theorem dX13_visitLine_9 : decode cX13_visitLine 9 = .ok (.invokevirtual 233, 3) := by decide +kernel
theorem dX13_visitLine_12 : decode cX13_visitLine 12 = .ok (.istore_n 1, 1) := by decide +kernel
theorem dX13_visitLine_13 : decode cX13_visitLine 13 = .ok (.aload_n 0, 1) := by decide +kernel
theorem dX13_visitLine_14 : decode cX13_visitLine 14 = .ok (.ldc 236, 2) := by decide +kernel
theorem dX13_visitLine_16 : decode cX13_visitLine 16 = .ok (.iconst 0, 1) := by decide +kernel
theorem dX13_visitLine_17 : decode cX13_visitLine 17 = .ok (.bipush 29, 2) := by decide +kernel
theorem dX13_visitLine_19 : decode cX13_visitLine 19 = .ok (.invokevirtual 242, 3) := by decide +kernel
theorem dX13_visitLine_22 : decode cX13_visitLine 22 = .ok (.istore_n 2, 1) := by decide +kernel
theorem dX13_visitLine_23 : decode cX13_visitLine 23 = .ok (.aload_n 0, 1) := by decide +kernel
theorem dX13_visitLine_24 : decode cX13_visitLine 24 = .ok (.getfield 97, 3) := by decide +kernel
theorem dX13_visitLine_27 : decode cX13_visitLine 27 = .ok (.ifCond .ne 24, 3) := by decide +kernel
theorem dX13_visitLine_30 : decode cX13_visitLine 30 = .ok (.aload_n 0, 1) := by decide +kernel
theorem dX13_visitLine_31 : decode cX13_visitLine 31 = .ok (.getfield 23, 3) := by decide +kernel
theorem dX13_visitLine_34 : decode cX13_visitLine 34 = .ok (.bipush 60, 2) := by decide +kernel
theorem dX13_visitLine_36 : decode cX13_visitLine 36 = .ok (.iload_n 2, 1) := by decide +kernel
theorem dX13_visitLine_37 : decode cX13_visitLine 37 = .ok (.iadd, 1) := by decide +kernel
theorem dX13_visitLine_38 : decode cX13_visitLine 38 = .ok (.iaload, 1) := by decide +kernel
theorem dX13_visitLine_39 : decode cX13_visitLine 39 = .ok (.ifCond .le 12, 3) := by decide +kernel
theorem dX13_visitLine_42 : decode cX13_visitLine 42 = .ok (.aload_n 0, 1) := by decide +kernel
theorem dX13_visitLine_43 : decode cX13_visitLine 43 = .ok (.iconst 3, 1) := by decide +kernel
theorem dX13_visitLine_44 : decode cX13_visitLine 44 = .ok (.aload_n 0, 1) := by decide +kernel
theorem dX13_visitLine_45 : decode cX13_visitLine 45 = .ok (.getfield 78, 3) := by decide +kernel
theorem dX13_visitLine_48 : decode cX13_visitLine 48 = .ok (.invokevirtual 124, 3) := by decide +kernel
theorem dX13_visitLine_51 : decode cX13_visitLine 51 = .ok (.aload_n 0, 1) := by decide +kernel
theorem dX13_visitLine_52 : decode cX13_visitLine 52 = .ok (.getfield 97, 3) := by decide +kernel
theorem dX13_visitLine_55 : decode cX13_visitLine 55 = .ok (.ifCond .ne 26, 3) := by decide +kernel
theorem dX13_visitLine_58 : decode cX13_visitLine 58 = .ok (.iload_n 2, 1) := by decide +kernel
theorem dX13_visitLine_59 : decode cX13_visitLine 59 = .ok (.bipush 7, 2) := by decide +kernel
theorem dX13_visitLine_61 : decode cX13_visitLine 61 = .ok (.irem, 1) := by decide +kernel
theorem dX13_visitLine_62 : decode cX13_visitLine 62 = .ok (.aload_n 0, 1) := by decide +kernel
theorem dX13_visitLine_63 : decode cX13_visitLine 63 = .ok (.getfield 23, 3) := by decide +kernel
theorem dX13_visitLine_66 : decode cX13_visitLine 66 = .ok (.iconst 3, 1) := by decide +kernel
theorem dX13_visitLine_67 : decode cX13_visitLine 67 = .ok (.iaload, 1) := by decide +kernel
theorem dX13_visitLine_68 : decode cX13_visitLine 68 = .ok (.if_icmp .ne 13, 3) := by decide +kernel
theorem dX13_visitLine_71 : decode cX13_visitLine 71 = .ok (.aload_n 0, 1) := by decide +kernel
theorem dX13_visitLine_72 : decode cX13_visitLine 72 = .ok (.bipush 8, 2) := by decide +kernel
theorem dX13_visitLine_74 : decode cX13_visitLine 74 = .ok (.aload_n 0, 1) := by decide +kernel
theorem dX13_visitLine_75 : decode cX13_visitLine 75 = .ok (.getfield 78, 3) := by decide +kernel
theorem dX13_visitLine_78 : decode cX13_visitLine 78 = .ok (.invokevirtual 124, 3) := by decide +kernel
theorem dX13_visitLine_81 : decode cX13_visitLine 81 = .ok (.aload_n 0, 1) := by decide +kernel
theorem dX13_visitLine_82 : decode cX13_visitLine 82 = .ok (.getfield 97, 3) := by decide +kernel
theorem dX13_visitLine_85 : decode cX13_visitLine 85 = .ok (.ifCond .eq 4, 3) := by decide +kernel
theorem dX13_visitLine_88 : decode cX13_visitLine 88 = .ok (.return_, 1) := by decide +kernel
theorem dX13_visitLine_89 : decode cX13_visitLine 89 = .ok (.aload_n 0, 1) := by decide +kernel
theorem dX13_visitLine_90 : decode cX13_visitLine 90 = .ok (.invokevirtual 118, 3) := by decide +kernel
theorem dX13_visitLine_93 : decode cX13_visitLine 93 = .ok (.aload_n 0, 1) := by decide +kernel
theorem dX13_visitLine_94 : decode cX13_visitLine 94 = .ok (.getfield 23, 3) := by decide +kernel
theorem dX13_visitLine_97 : decode cX13_visitLine 97 = .ok (.bipush 60, 2) := by decide +kernel
theorem dX13_visitLine_99 : decode cX13_visitLine 99 = .ok (.iload_n 2, 1) := by decide +kernel
theorem dX13_visitLine_100 : decode cX13_visitLine 100 = .ok (.iadd, 1) := by decide +kernel
theorem dX13_visitLine_101 : decode cX13_visitLine 101 = .ok (.iload_n 1, 1) := by decide +kernel
theorem dX13_visitLine_102 : decode cX13_visitLine 102 = .ok (.iconst 1, 1) := by decide +kernel
theorem dX13_visitLine_103 : decode cX13_visitLine 103 = .ok (.iadd, 1) := by decide +kernel
theorem dX13_visitLine_104 : decode cX13_visitLine 104 = .ok (.iastore, 1) := by decide +kernel
theorem dX13_visitLine_105 : decode cX13_visitLine 105 = .ok (.aload_n 0, 1) := by decide +kernel
theorem dX13_visitLine_106 : decode cX13_visitLine 106 = .ok (.getfield 23, 3) := by decide +kernel
theorem dX13_visitLine_109 : decode cX13_visitLine 109 = .ok (.bipush 6, 2) := by decide +kernel
theorem dX13_visitLine_111 : decode cX13_visitLine 111 = .ok (.dup2, 1) := by decide +kernel
theorem dX13_visitLine_112 : decode cX13_visitLine 112 = .ok (.iaload, 1) := by decide +kernel
theorem dX13_visitLine_113 : decode cX13_visitLine 113 = .ok (.iconst 1, 1) := by decide +kernel
theorem dX13_visitLine_114 : decode cX13_visitLine 114 = .ok (.iadd, 1) := by decide +kernel
theorem dX13_visitLine_115 : decode cX13_visitLine 115 = .ok (.iastore, 1) := by decide +kernel
theorem dX13_visitLine_116 : decode cX13_visitLine 116 = .ok (.return_, 1) := by decide +kernel
theorem dX13_wishLine_0 : decode cX13_wishLine 0 = .ok (.aload_n 0, 1) := by decide +kernel
theorem dX13_wishLine_1 : decode cX13_wishLine 1 = .ok (.getfield 97, 3) := by decide +kernel
theorem dX13_wishLine_4 : decode cX13_wishLine 4 = .ok (.ifCond .eq 4, 3) := by decide +kernel
theorem dX13_wishLine_7 : decode cX13_wishLine 7 = .ok (.return_, 1) := by decide +kernel
theorem dX13_wishLine_8 : decode cX13_wishLine 8 = .ok (.bipush 90, 2) := by decide +kernel
theorem dX13_wishLine_10 : decode cX13_wishLine 10 = .ok (.iconst 2, 1) := by decide +kernel
theorem dX13_wishLine_11 : decode cX13_wishLine 11 = .ok (.aload_n 0, 1) := by decide +kernel
theorem dX13_wishLine_12 : decode cX13_wishLine 12 = .ok (.getfield 23, 3) := by decide +kernel
theorem dX13_wishLine_15 : decode cX13_wishLine 15 = .ok (.bipush 7, 2) := by decide +kernel
theorem dX13_wishLine_17 : decode cX13_wishLine 17 = .ok (.iaload, 1) := by decide +kernel
theorem dX13_wishLine_18 : decode cX13_wishLine 18 = .ok (.imul, 1) := by decide +kernel
theorem dX13_wishLine_19 : decode cX13_wishLine 19 = .ok (.iadd, 1) := by decide +kernel
theorem dX13_wishLine_20 : decode cX13_wishLine 20 = .ok (.istore_n 1, 1) := by decide +kernel
theorem dX13_wishLine_21 : decode cX13_wishLine 21 = .ok (.aload_n 0, 1) := by decide +kernel
theorem dX13_wishLine_22 : decode cX13_wishLine 22 = .ok (.invokevirtual 233, 3) := by decide +kernel
theorem dX13_wishLine_25 : decode cX13_wishLine 25 = .ok (.istore_n 2, 1) := by decide +kernel
theorem dX13_wishLine_26 : decode cX13_wishLine 26 = .ok (.aload_n 0, 1) := by decide +kernel
theorem dX13_wishLine_27 : decode cX13_wishLine 27 = .ok (.ldc 236, 2) := by decide +kernel
theorem dX13_wishLine_29 : decode cX13_wishLine 29 = .ok (.iconst 0, 1) := by decide +kernel
theorem dX13_wishLine_30 : decode cX13_wishLine 30 = .ok (.bipush 29, 2) := by decide +kernel
theorem dX13_wishLine_32 : decode cX13_wishLine 32 = .ok (.invokevirtual 242, 3) := by decide +kernel
theorem dX13_wishLine_35 : decode cX13_wishLine 35 = .ok (.istore_n 3, 1) := by decide +kernel
theorem dX13_wishLine_36 : decode cX13_wishLine 36 = .ok (.iconst 0, 1) := by decide +kernel
theorem dX13_wishLine_37 : decode cX13_wishLine 37 = .ok (.istore 4, 2) := by decide +kernel
theorem dX13_wishLine_39 : decode cX13_wishLine 39 = .ok (.iload 4, 2) := by decide +kernel
theorem dX13_wishLine_41 : decode cX13_wishLine 41 = .ok (.aload_n 0, 1) := by decide +kernel
theorem dX13_wishLine_42 : decode cX13_wishLine 42 = .ok (.getfield 23, 3) := by decide +kernel
theorem dX13_wishLine_45 : decode cX13_wishLine 45 = .ok (.bipush 7, 2) := by decide +kernel
theorem dX13_wishLine_47 : decode cX13_wishLine 47 = .ok (.iaload, 1) := by decide +kernel
theorem dX13_wishLine_48 : decode cX13_wishLine 48 = .ok (.if_icmp .ge 59, 3) := by decide +kernel
theorem dX13_wishLine_51 : decode cX13_wishLine 51 = .ok (.aload_n 0, 1) := by decide +kernel
theorem dX13_wishLine_52 : decode cX13_wishLine 52 = .ok (.getfield 97, 3) := by decide +kernel
theorem dX13_wishLine_55 : decode cX13_wishLine 55 = .ok (.ifCond .ne 46, 3) := by decide +kernel
theorem dX13_wishLine_58 : decode cX13_wishLine 58 = .ok (.aload_n 0, 1) := by decide +kernel
theorem dX13_wishLine_59 : decode cX13_wishLine 59 = .ok (.getfield 23, 3) := by decide +kernel
theorem dX13_wishLine_62 : decode cX13_wishLine 62 = .ok (.bipush 90, 2) := by decide +kernel
theorem dX13_wishLine_64 : decode cX13_wishLine 64 = .ok (.iconst 2, 1) := by decide +kernel
theorem dX13_wishLine_65 : decode cX13_wishLine 65 = .ok (.iload 4, 2) := by decide +kernel
theorem dX13_wishLine_67 : decode cX13_wishLine 67 = .ok (.imul, 1) := by decide +kernel
theorem dX13_wishLine_68 : decode cX13_wishLine 68 = .ok (.iadd, 1) := by decide +kernel
theorem dX13_wishLine_69 : decode cX13_wishLine 69 = .ok (.iaload, 1) := by decide +kernel
theorem dX13_wishLine_70 : decode cX13_wishLine 70 = .ok (.iload_n 2, 1) := by decide +kernel
theorem dX13_wishLine_71 : decode cX13_wishLine 71 = .ok (.if_icmp .ne 30, 3) := by decide +kernel
theorem dX13_wishLine_74 : decode cX13_wishLine 74 = .ok (.aload_n 0, 1) := by decide +kernel
theorem dX13_wishLine_75 : decode cX13_wishLine 75 = .ok (.getfield 23, 3) := by decide +kernel
theorem dX13_wishLine_78 : decode cX13_wishLine 78 = .ok (.bipush 90, 2) := by decide +kernel
theorem dX13_wishLine_80 : decode cX13_wishLine 80 = .ok (.iconst 2, 1) := by decide +kernel
theorem dX13_wishLine_81 : decode cX13_wishLine 81 = .ok (.iload 4, 2) := by decide +kernel
theorem dX13_wishLine_83 : decode cX13_wishLine 83 = .ok (.imul, 1) := by decide +kernel
theorem dX13_wishLine_84 : decode cX13_wishLine 84 = .ok (.iadd, 1) := by decide +kernel
theorem dX13_wishLine_85 : decode cX13_wishLine 85 = .ok (.iconst 1, 1) := by decide +kernel
theorem dX13_wishLine_86 : decode cX13_wishLine 86 = .ok (.iadd, 1) := by decide +kernel
theorem dX13_wishLine_87 : decode cX13_wishLine 87 = .ok (.iaload, 1) := by decide +kernel
theorem dX13_wishLine_88 : decode cX13_wishLine 88 = .ok (.iload_n 3, 1) := by decide +kernel
theorem dX13_wishLine_89 : decode cX13_wishLine 89 = .ok (.if_icmp .ne 12, 3) := by decide +kernel
theorem dX13_wishLine_92 : decode cX13_wishLine 92 = .ok (.aload_n 0, 1) := by decide +kernel
theorem dX13_wishLine_93 : decode cX13_wishLine 93 = .ok (.iconst 3, 1) := by decide +kernel
theorem dX13_wishLine_94 : decode cX13_wishLine 94 = .ok (.aload_n 0, 1) := by decide +kernel
theorem dX13_wishLine_95 : decode cX13_wishLine 95 = .ok (.getfield 78, 3) := by decide +kernel
theorem dX13_wishLine_98 : decode cX13_wishLine 98 = .ok (.invokevirtual 124, 3) := by decide +kernel
theorem dX13_wishLine_101 : decode cX13_wishLine 101 = .ok (.iinc 4 1, 3) := by decide +kernel
theorem dX13_wishLine_104 : decode cX13_wishLine 104 = .ok (.goto (-65), 3) := by decide +kernel
theorem dX13_wishLine_107 : decode cX13_wishLine 107 = .ok (.aload_n 0, 1) := by decide +kernel
theorem dX13_wishLine_108 : decode cX13_wishLine 108 = .ok (.getfield 97, 3) := by decide +kernel
theorem dX13_wishLine_111 : decode cX13_wishLine 111 = .ok (.ifCond .eq 4, 3) := by decide +kernel
theorem dX13_wishLine_114 : decode cX13_wishLine 114 = .ok (.return_, 1) := by decide +kernel
theorem dX13_wishLine_115 : decode cX13_wishLine 115 = .ok (.aload_n 0, 1) := by decide +kernel
theorem dX13_wishLine_116 : decode cX13_wishLine 116 = .ok (.invokevirtual 118, 3) := by decide +kernel
theorem dX13_wishLine_119 : decode cX13_wishLine 119 = .ok (.aload_n 0, 1) := by decide +kernel
theorem dX13_wishLine_120 : decode cX13_wishLine 120 = .ok (.getfield 23, 3) := by decide +kernel
theorem dX13_wishLine_123 : decode cX13_wishLine 123 = .ok (.iload_n 1, 1) := by decide +kernel
theorem dX13_wishLine_124 : decode cX13_wishLine 124 = .ok (.iload_n 2, 1) := by decide +kernel
theorem dX13_wishLine_125 : decode cX13_wishLine 125 = .ok (.iastore, 1) := by decide +kernel
theorem dX13_wishLine_126 : decode cX13_wishLine 126 = .ok (.aload_n 0, 1) := by decide +kernel
theorem dX13_wishLine_127 : decode cX13_wishLine 127 = .ok (.getfield 23, 3) := by decide +kernel
theorem dX13_wishLine_130 : decode cX13_wishLine 130 = .ok (.iload_n 1, 1) := by decide +kernel
theorem dX13_wishLine_131 : decode cX13_wishLine 131 = .ok (.iconst 1, 1) := by decide +kernel
theorem dX13_wishLine_132 : decode cX13_wishLine 132 = .ok (.iadd, 1) := by decide +kernel
theorem dX13_wishLine_133 : decode cX13_wishLine 133 = .ok (.iload_n 3, 1) := by decide +kernel
theorem dX13_wishLine_134 : decode cX13_wishLine 134 = .ok (.iastore, 1) := by decide +kernel
theorem dX13_wishLine_135 : decode cX13_wishLine 135 = .ok (.aload_n 0, 1) := by decide +kernel
theorem dX13_wishLine_136 : decode cX13_wishLine 136 = .ok (.getfield 23, 3) := by decide +kernel
theorem dX13_wishLine_139 : decode cX13_wishLine 139 = .ok (.bipush 7, 2) := by decide +kernel
theorem dX13_wishLine_141 : decode cX13_wishLine 141 = .ok (.dup2, 1) := by decide +kernel
theorem dX13_wishLine_142 : decode cX13_wishLine 142 = .ok (.iaload, 1) := by decide +kernel
theorem dX13_wishLine_143 : decode cX13_wishLine 143 = .ok (.iconst 1, 1) := by decide +kernel
theorem dX13_wishLine_144 : decode cX13_wishLine 144 = .ok (.iadd, 1) := by decide +kernel
theorem dX13_wishLine_145 : decode cX13_wishLine 145 = .ok (.iastore, 1) := by decide +kernel
theorem dX13_wishLine_146 : decode cX13_wishLine 146 = .ok (.return_, 1) := by decide +kernel
theorem dX13_asksLine_0 : decode cX13_asksLine 0 = .ok (.aload_n 0, 1) := by decide +kernel
theorem dX13_asksLine_1 : decode cX13_asksLine 1 = .ok (.getfield 97, 3) := by decide +kernel
theorem dX13_asksLine_4 : decode cX13_asksLine 4 = .ok (.ifCond .eq 4, 3) := by decide +kernel
theorem dX13_asksLine_7 : decode cX13_asksLine 7 = .ok (.return_, 1) := by decide +kernel
theorem dX13_asksLine_8 : decode cX13_asksLine 8 = .ok (.aload_n 0, 1) := by decide +kernel
theorem dX13_asksLine_9 : decode cX13_asksLine 9 = .ok (.invokevirtual 233, 3) := by decide +kernel
theorem dX13_asksLine_12 : decode cX13_asksLine 12 = .ok (.istore_n 1, 1) := by decide +kernel
theorem dX13_asksLine_13 : decode cX13_asksLine 13 = .ok (.aload_n 0, 1) := by decide +kernel
theorem dX13_asksLine_14 : decode cX13_asksLine 14 = .ok (.invokevirtual 148, 3) := by decide +kernel
theorem dX13_asksLine_17 : decode cX13_asksLine 17 = .ok (.istore_n 2, 1) := by decide +kernel
theorem dX13_asksLine_18 : decode cX13_asksLine 18 = .ok (.aload_n 0, 1) := by decide +kernel
theorem dX13_asksLine_19 : decode cX13_asksLine 19 = .ok (.getfield 97, 3) := by decide +kernel
theorem dX13_asksLine_22 : decode cX13_asksLine 22 = .ok (.ifCond .ne 33, 3) := by decide +kernel
theorem dX13_asksLine_25 : decode cX13_asksLine 25 = .ok (.iload_n 1, 1) := by decide +kernel
theorem dX13_asksLine_26 : decode cX13_asksLine 26 = .ok (.iload_n 2, 1) := by decide +kernel
theorem dX13_asksLine_27 : decode cX13_asksLine 27 = .ok (.if_icmp .eq 19, 3) := by decide +kernel
theorem dX13_asksLine_30 : decode cX13_asksLine 30 = .ok (.aload_n 0, 1) := by decide +kernel
theorem dX13_asksLine_31 : decode cX13_asksLine 31 = .ok (.getfield 23, 3) := by decide +kernel
theorem dX13_asksLine_34 : decode cX13_asksLine 34 = .ok (.bipush 100, 2) := by decide +kernel
theorem dX13_asksLine_36 : decode cX13_asksLine 36 = .ok (.iconst 5, 1) := by decide +kernel
theorem dX13_asksLine_37 : decode cX13_asksLine 37 = .ok (.iload_n 1, 1) := by decide +kernel
theorem dX13_asksLine_38 : decode cX13_asksLine 38 = .ok (.imul, 1) := by decide +kernel
theorem dX13_asksLine_39 : decode cX13_asksLine 39 = .ok (.iadd, 1) := by decide +kernel
theorem dX13_asksLine_40 : decode cX13_asksLine 40 = .ok (.iload_n 2, 1) := by decide +kernel
theorem dX13_asksLine_41 : decode cX13_asksLine 41 = .ok (.iadd, 1) := by decide +kernel
theorem dX13_asksLine_42 : decode cX13_asksLine 42 = .ok (.iaload, 1) := by decide +kernel
theorem dX13_asksLine_43 : decode cX13_asksLine 43 = .ok (.ifCond .le 12, 3) := by decide +kernel
theorem dX13_asksLine_46 : decode cX13_asksLine 46 = .ok (.aload_n 0, 1) := by decide +kernel
theorem dX13_asksLine_47 : decode cX13_asksLine 47 = .ok (.iconst 3, 1) := by decide +kernel
theorem dX13_asksLine_48 : decode cX13_asksLine 48 = .ok (.aload_n 0, 1) := by decide +kernel
theorem dX13_asksLine_49 : decode cX13_asksLine 49 = .ok (.getfield 78, 3) := by decide +kernel
theorem dX13_asksLine_52 : decode cX13_asksLine 52 = .ok (.invokevirtual 124, 3) := by decide +kernel
theorem dX13_asksLine_55 : decode cX13_asksLine 55 = .ok (.aload_n 0, 1) := by decide +kernel
theorem dX13_asksLine_56 : decode cX13_asksLine 56 = .ok (.getfield 97, 3) := by decide +kernel
theorem dX13_asksLine_59 : decode cX13_asksLine 59 = .ok (.ifCond .eq 4, 3) := by decide +kernel
theorem dX13_asksLine_62 : decode cX13_asksLine 62 = .ok (.return_, 1) := by decide +kernel
theorem dX13_asksLine_63 : decode cX13_asksLine 63 = .ok (.aload_n 0, 1) := by decide +kernel
theorem dX13_asksLine_64 : decode cX13_asksLine 64 = .ok (.invokevirtual 118, 3) := by decide +kernel
theorem dX13_asksLine_67 : decode cX13_asksLine 67 = .ok (.aload_n 0, 1) := by decide +kernel
theorem dX13_asksLine_68 : decode cX13_asksLine 68 = .ok (.ldc 245, 2) := by decide +kernel
theorem dX13_asksLine_70 : decode cX13_asksLine 70 = .ok (.iconst 0, 1) := by decide +kernel
theorem dX13_asksLine_71 : decode cX13_asksLine 71 = .ok (.bipush 100, 2) := by decide +kernel
theorem dX13_asksLine_73 : decode cX13_asksLine 73 = .ok (.invokevirtual 215, 3) := by decide +kernel
theorem dX13_asksLine_76 : decode cX13_asksLine 76 = .ok (.istore_n 3, 1) := by decide +kernel
theorem dX13_asksLine_77 : decode cX13_asksLine 77 = .ok (.aload_n 0, 1) := by decide +kernel
theorem dX13_asksLine_78 : decode cX13_asksLine 78 = .ok (.getfield 97, 3) := by decide +kernel
theorem dX13_asksLine_81 : decode cX13_asksLine 81 = .ok (.ifCond .eq 4, 3) := by decide +kernel
theorem dX13_asksLine_84 : decode cX13_asksLine 84 = .ok (.return_, 1) := by decide +kernel
theorem dX13_asksLine_85 : decode cX13_asksLine 85 = .ok (.aload_n 0, 1) := by decide +kernel
theorem dX13_asksLine_86 : decode cX13_asksLine 86 = .ok (.getfield 23, 3) := by decide +kernel
theorem dX13_asksLine_89 : decode cX13_asksLine 89 = .ok (.bipush 100, 2) := by decide +kernel
theorem dX13_asksLine_91 : decode cX13_asksLine 91 = .ok (.iconst 5, 1) := by decide +kernel
theorem dX13_asksLine_92 : decode cX13_asksLine 92 = .ok (.iload_n 1, 1) := by decide +kernel
theorem dX13_asksLine_93 : decode cX13_asksLine 93 = .ok (.imul, 1) := by decide +kernel
theorem dX13_asksLine_94 : decode cX13_asksLine 94 = .ok (.iadd, 1) := by decide +kernel
theorem dX13_asksLine_95 : decode cX13_asksLine 95 = .ok (.iload_n 2, 1) := by decide +kernel
theorem dX13_asksLine_96 : decode cX13_asksLine 96 = .ok (.iadd, 1) := by decide +kernel
theorem dX13_asksLine_97 : decode cX13_asksLine 97 = .ok (.iload_n 3, 1) := by decide +kernel
theorem dX13_asksLine_98 : decode cX13_asksLine 98 = .ok (.iconst 1, 1) := by decide +kernel
theorem dX13_asksLine_99 : decode cX13_asksLine 99 = .ok (.iadd, 1) := by decide +kernel
theorem dX13_asksLine_100 : decode cX13_asksLine 100 = .ok (.iastore, 1) := by decide +kernel
theorem dX13_asksLine_101 : decode cX13_asksLine 101 = .ok (.aload_n 0, 1) := by decide +kernel
theorem dX13_asksLine_102 : decode cX13_asksLine 102 = .ok (.getfield 23, 3) := by decide +kernel
theorem dX13_asksLine_105 : decode cX13_asksLine 105 = .ok (.bipush 8, 2) := by decide +kernel
theorem dX13_asksLine_107 : decode cX13_asksLine 107 = .ok (.dup2, 1) := by decide +kernel
theorem dX13_asksLine_108 : decode cX13_asksLine 108 = .ok (.iaload, 1) := by decide +kernel
theorem dX13_asksLine_109 : decode cX13_asksLine 109 = .ok (.iconst 1, 1) := by decide +kernel
theorem dX13_asksLine_110 : decode cX13_asksLine 110 = .ok (.iadd, 1) := by decide +kernel
theorem dX13_asksLine_111 : decode cX13_asksLine 111 = .ok (.iastore, 1) := by decide +kernel
theorem dX13_asksLine_112 : decode cX13_asksLine 112 = .ok (.return_, 1) := by decide +kernel
theorem dX13_stareLine_0 : decode cX13_stareLine 0 = .ok (.aload_n 0, 1) := by decide +kernel
theorem dX13_stareLine_1 : decode cX13_stareLine 1 = .ok (.getfield 97, 3) := by decide +kernel
theorem dX13_stareLine_4 : decode cX13_stareLine 4 = .ok (.ifCond .eq 4, 3) := by decide +kernel
theorem dX13_stareLine_7 : decode cX13_stareLine 7 = .ok (.return_, 1) := by decide +kernel
theorem dX13_stareLine_8 : decode cX13_stareLine 8 = .ok (.aload_n 0, 1) := by decide +kernel
theorem dX13_stareLine_9 : decode cX13_stareLine 9 = .ok (.invokevirtual 148, 3) := by decide +kernel
theorem dX13_stareLine_12 : decode cX13_stareLine 12 = .ok (.istore_n 1, 1) := by decide +kernel
theorem dX13_stareLine_13 : decode cX13_stareLine 13 = .ok (.aload_n 0, 1) := by decide +kernel
theorem dX13_stareLine_14 : decode cX13_stareLine 14 = .ok (.getfield 97, 3) := by decide +kernel
theorem dX13_stareLine_17 : decode cX13_stareLine 17 = .ok (.ifCond .ne 24, 3) := by decide +kernel
theorem dX13_stareLine_20 : decode cX13_stareLine 20 = .ok (.aload_n 0, 1) := by decide +kernel
theorem dX13_stareLine_21 : decode cX13_stareLine 21 = .ok (.getfield 23, 3) := by decide +kernel
theorem dX13_stareLine_24 : decode cX13_stareLine 24 = .ok (.bipush 125, 2) := by decide +kernel
theorem dX13_stareLine_26 : decode cX13_stareLine 26 = .ok (.iload_n 1, 1) := by decide +kernel
theorem dX13_stareLine_27 : decode cX13_stareLine 27 = .ok (.iadd, 1) := by decide +kernel
theorem dX13_stareLine_28 : decode cX13_stareLine 28 = .ok (.iaload, 1) := by decide +kernel
theorem dX13_stareLine_29 : decode cX13_stareLine 29 = .ok (.ifCond .le 12, 3) := by decide +kernel
theorem dX13_stareLine_32 : decode cX13_stareLine 32 = .ok (.aload_n 0, 1) := by decide +kernel
theorem dX13_stareLine_33 : decode cX13_stareLine 33 = .ok (.iconst 3, 1) := by decide +kernel
theorem dX13_stareLine_34 : decode cX13_stareLine 34 = .ok (.aload_n 0, 1) := by decide +kernel
theorem dX13_stareLine_35 : decode cX13_stareLine 35 = .ok (.getfield 78, 3) := by decide +kernel
theorem dX13_stareLine_38 : decode cX13_stareLine 38 = .ok (.invokevirtual 124, 3) := by decide +kernel
theorem dX13_stareLine_41 : decode cX13_stareLine 41 = .ok (.aload_n 0, 1) := by decide +kernel
theorem dX13_stareLine_42 : decode cX13_stareLine 42 = .ok (.getfield 97, 3) := by decide +kernel
theorem dX13_stareLine_45 : decode cX13_stareLine 45 = .ok (.ifCond .eq 4, 3) := by decide +kernel
theorem dX13_stareLine_48 : decode cX13_stareLine 48 = .ok (.return_, 1) := by decide +kernel
theorem dX13_stareLine_49 : decode cX13_stareLine 49 = .ok (.aload_n 0, 1) := by decide +kernel
theorem dX13_stareLine_50 : decode cX13_stareLine 50 = .ok (.invokevirtual 118, 3) := by decide +kernel
theorem dX13_stareLine_53 : decode cX13_stareLine 53 = .ok (.aload_n 0, 1) := by decide +kernel
theorem dX13_stareLine_54 : decode cX13_stareLine 54 = .ok (.iconst 0, 1) := by decide +kernel
theorem dX13_stareLine_55 : decode cX13_stareLine 55 = .ok (.aload_n 0, 1) := by decide +kernel
theorem dX13_stareLine_56 : decode cX13_stareLine 56 = .ok (.getfield 23, 3) := by decide +kernel
theorem dX13_stareLine_59 : decode cX13_stareLine 59 = .ok (.iconst 0, 1) := by decide +kernel
theorem dX13_stareLine_60 : decode cX13_stareLine 60 = .ok (.iaload, 1) := by decide +kernel
theorem dX13_stareLine_61 : decode cX13_stareLine 61 = .ok (.invokevirtual 163, 3) := by decide +kernel
theorem dX13_stareLine_64 : decode cX13_stareLine 64 = .ok (.istore_n 2, 1) := by decide +kernel
theorem dX13_stareLine_65 : decode cX13_stareLine 65 = .ok (.aload_n 0, 1) := by decide +kernel
theorem dX13_stareLine_66 : decode cX13_stareLine 66 = .ok (.getfield 97, 3) := by decide +kernel
theorem dX13_stareLine_69 : decode cX13_stareLine 69 = .ok (.ifCond .eq 4, 3) := by decide +kernel
theorem dX13_stareLine_72 : decode cX13_stareLine 72 = .ok (.return_, 1) := by decide +kernel
theorem dX13_stareLine_73 : decode cX13_stareLine 73 = .ok (.aload_n 0, 1) := by decide +kernel
theorem dX13_stareLine_74 : decode cX13_stareLine 74 = .ok (.getfield 23, 3) := by decide +kernel
theorem dX13_stareLine_77 : decode cX13_stareLine 77 = .ok (.bipush 125, 2) := by decide +kernel
theorem dX13_stareLine_79 : decode cX13_stareLine 79 = .ok (.iload_n 1, 1) := by decide +kernel
theorem dX13_stareLine_80 : decode cX13_stareLine 80 = .ok (.iadd, 1) := by decide +kernel
theorem dX13_stareLine_81 : decode cX13_stareLine 81 = .ok (.iload_n 2, 1) := by decide +kernel
theorem dX13_stareLine_82 : decode cX13_stareLine 82 = .ok (.iconst 1, 1) := by decide +kernel
theorem dX13_stareLine_83 : decode cX13_stareLine 83 = .ok (.iadd, 1) := by decide +kernel
theorem dX13_stareLine_84 : decode cX13_stareLine 84 = .ok (.iastore, 1) := by decide +kernel
theorem dX13_stareLine_85 : decode cX13_stareLine 85 = .ok (.aload_n 0, 1) := by decide +kernel
theorem dX13_stareLine_86 : decode cX13_stareLine 86 = .ok (.getfield 23, 3) := by decide +kernel
theorem dX13_stareLine_89 : decode cX13_stareLine 89 = .ok (.bipush 9, 2) := by decide +kernel
theorem dX13_stareLine_91 : decode cX13_stareLine 91 = .ok (.dup2, 1) := by decide +kernel
theorem dX13_stareLine_92 : decode cX13_stareLine 92 = .ok (.iaload, 1) := by decide +kernel
theorem dX13_stareLine_93 : decode cX13_stareLine 93 = .ok (.iconst 1, 1) := by decide +kernel
theorem dX13_stareLine_94 : decode cX13_stareLine 94 = .ok (.iadd, 1) := by decide +kernel
theorem dX13_stareLine_95 : decode cX13_stareLine 95 = .ok (.iastore, 1) := by decide +kernel
theorem dX13_stareLine_96 : decode cX13_stareLine 96 = .ok (.return_, 1) := by decide +kernel
theorem dX13_fault_0 : decode cX13_fault 0 = .ok (.aload_n 0, 1) := by decide +kernel
theorem dX13_fault_1 : decode cX13_fault 1 = .ok (.iconst 0, 1) := by decide +kernel
theorem dX13_fault_2 : decode cX13_fault 2 = .ok (.putfield 59, 3) := by decide +kernel
theorem dX13_fault_5 : decode cX13_fault 5 = .ok (.aload_n 0, 1) := by decide +kernel
theorem dX13_fault_6 : decode cX13_fault 6 = .ok (.getfield 101, 3) := by decide +kernel
theorem dX13_fault_9 : decode cX13_fault 9 = .ok (.ireturn, 1) := by decide +kernel
theorem dX13_where_0 : decode cX13_where 0 = .ok (.aload_n 0, 1) := by decide +kernel
theorem dX13_where_1 : decode cX13_where 1 = .ok (.iconst 0, 1) := by decide +kernel
theorem dX13_where_2 : decode cX13_where 2 = .ok (.putfield 59, 3) := by decide +kernel
theorem dX13_where_5 : decode cX13_where 5 = .ok (.aload_n 0, 1) := by decide +kernel
theorem dX13_where_6 : decode cX13_where 6 = .ok (.getfield 62, 3) := by decide +kernel
theorem dX13_where_9 : decode cX13_where 9 = .ok (.iconst 4, 1) := by decide +kernel
theorem dX13_where_10 : decode cX13_where 10 = .ok (.if_icmp .ne 10, 3) := by decide +kernel
theorem dX13_where_13 : decode cX13_where 13 = .ok (.aload_n 0, 1) := by decide +kernel
theorem dX13_where_14 : decode cX13_where 14 = .ok (.getfield 13, 3) := by decide +kernel
theorem dX13_where_17 : decode cX13_where 17 = .ok (.goto 4, 3) := by decide +kernel
theorem dX13_where_20 : decode cX13_where 20 = .ok (.iconst (-1), 1) := by decide +kernel
theorem dX13_where_21 : decode cX13_where 21 = .ok (.ireturn, 1) := by decide +kernel
theorem dX13_isPerson_0 : decode cX13_isPerson 0 = .ok (.aload_n 0, 1) := by decide +kernel
theorem dX13_isPerson_1 : decode cX13_isPerson 1 = .ok (.getfield 179, 3) := by decide +kernel
theorem dX13_isPerson_4 : decode cX13_isPerson 4 = .ok (.ifCond .eq 23, 3) := by decide +kernel
theorem dX13_isPerson_7 : decode cX13_isPerson 7 = .ok (.iload_n 1, 1) := by decide +kernel
theorem dX13_isPerson_8 : decode cX13_isPerson 8 = .ok (.iconst 0, 1) := by decide +kernel
theorem dX13_isPerson_9 : decode cX13_isPerson 9 = .ok (.aload_n 0, 1) := by decide +kernel
theorem dX13_isPerson_10 : decode cX13_isPerson 10 = .ok (.getfield 20, 3) := by decide +kernel
theorem dX13_isPerson_13 : decode cX13_isPerson 13 = .ok (.iconst 4, 1) := by decide +kernel
theorem dX13_isPerson_14 : decode cX13_isPerson 14 = .ok (.iaload, 1) := by decide +kernel
theorem dX13_isPerson_15 : decode cX13_isPerson 15 = .ok (.iconst 1, 1) := by decide +kernel
theorem dX13_isPerson_16 : decode cX13_isPerson 16 = .ok (.isub, 1) := by decide +kernel
theorem dX13_isPerson_17 : decode cX13_isPerson 17 = .ok (.invokestatic 151, 3) := by decide +kernel
theorem dX13_isPerson_20 : decode cX13_isPerson 20 = .ok (.ifCond .eq 7, 3) := by decide +kernel
theorem dX13_isPerson_23 : decode cX13_isPerson 23 = .ok (.iconst 1, 1) := by decide +kernel
theorem dX13_isPerson_24 : decode cX13_isPerson 24 = .ok (.goto 4, 3) := by decide +kernel
theorem dX13_isPerson_27 : decode cX13_isPerson 27 = .ok (.iconst 0, 1) := by decide +kernel
theorem dX13_isPerson_28 : decode cX13_isPerson 28 = .ok (.ireturn, 1) := by decide +kernel
theorem dX13_isMark_0 : decode cX13_isMark 0 = .ok (.aload_n 0, 1) := by decide +kernel
theorem dX13_isMark_1 : decode cX13_isMark 1 = .ok (.getfield 179, 3) := by decide +kernel
theorem dX13_isMark_4 : decode cX13_isMark 4 = .ok (.ifCond .eq 23, 3) := by decide +kernel
theorem dX13_isMark_7 : decode cX13_isMark 7 = .ok (.iload_n 1, 1) := by decide +kernel
theorem dX13_isMark_8 : decode cX13_isMark 8 = .ok (.iconst 0, 1) := by decide +kernel
theorem dX13_isMark_9 : decode cX13_isMark 9 = .ok (.aload_n 0, 1) := by decide +kernel
theorem dX13_isMark_10 : decode cX13_isMark 10 = .ok (.getfield 20, 3) := by decide +kernel
theorem dX13_isMark_13 : decode cX13_isMark 13 = .ok (.iconst 0, 1) := by decide +kernel
theorem dX13_isMark_14 : decode cX13_isMark 14 = .ok (.iaload, 1) := by decide +kernel
theorem dX13_isMark_15 : decode cX13_isMark 15 = .ok (.iconst 1, 1) := by decide +kernel
theorem dX13_isMark_16 : decode cX13_isMark 16 = .ok (.isub, 1) := by decide +kernel
theorem dX13_isMark_17 : decode cX13_isMark 17 = .ok (.invokestatic 151, 3) := by decide +kernel
theorem dX13_isMark_20 : decode cX13_isMark 20 = .ok (.ifCond .eq 7, 3) := by decide +kernel
theorem dX13_isMark_23 : decode cX13_isMark 23 = .ok (.iconst 1, 1) := by decide +kernel
theorem dX13_isMark_24 : decode cX13_isMark 24 = .ok (.goto 4, 3) := by decide +kernel
theorem dX13_isMark_27 : decode cX13_isMark 27 = .ok (.iconst 0, 1) := by decide +kernel
theorem dX13_isMark_28 : decode cX13_isMark 28 = .ok (.ireturn, 1) := by decide +kernel
theorem dX13_isDay_0 : decode cX13_isDay 0 = .ok (.iload_n 0, 1) := by decide +kernel
theorem dX13_isDay_1 : decode cX13_isDay 1 = .ok (.iconst 0, 1) := by decide +kernel
theorem dX13_isDay_2 : decode cX13_isDay 2 = .ok (.bipush 29, 2) := by decide +kernel
theorem dX13_isDay_4 : decode cX13_isDay 4 = .ok (.invokestatic 151, 3) := by decide +kernel
theorem dX13_isDay_7 : decode cX13_isDay 7 = .ok (.ireturn, 1) := by decide +kernel
theorem dX13_toldLook_0 : decode cX13_toldLook 0 = .ok (.aload_n 0, 1) := by decide +kernel
theorem dX13_toldLook_1 : decode cX13_toldLook 1 = .ok (.getfield 20, 3) := by decide +kernel
theorem dX13_toldLook_4 : decode cX13_toldLook 4 = .ok (.bipush 10, 2) := by decide +kernel
theorem dX13_toldLook_6 : decode cX13_toldLook 6 = .ok (.iconst 2, 1) := by decide +kernel
theorem dX13_toldLook_7 : decode cX13_toldLook 7 = .ok (.iload_n 1, 1) := by decide +kernel
theorem dX13_toldLook_8 : decode cX13_toldLook 8 = .ok (.imul, 1) := by decide +kernel
theorem dX13_toldLook_9 : decode cX13_toldLook 9 = .ok (.iadd, 1) := by decide +kernel
theorem dX13_toldLook_10 : decode cX13_toldLook 10 = .ok (.iconst 1, 1) := by decide +kernel
theorem dX13_toldLook_11 : decode cX13_toldLook 11 = .ok (.iadd, 1) := by decide +kernel
theorem dX13_toldLook_12 : decode cX13_toldLook 12 = .ok (.iaload, 1) := by decide +kernel
theorem dX13_toldLook_13 : decode cX13_toldLook 13 = .ok (.ireturn, 1) := by decide +kernel
theorem dX13_markOf_0 : decode cX13_markOf 0 = .ok (.iload_n 0, 1) := by decide +kernel
theorem dX13_markOf_1 : decode cX13_markOf 1 = .ok (.iconst 2, 1) := by decide +kernel
theorem dX13_markOf_2 : decode cX13_markOf 2 = .ok (.iload_n 1, 1) := by decide +kernel
theorem dX13_markOf_3 : decode cX13_markOf 3 = .ok (.imul, 1) := by decide +kernel
theorem dX13_markOf_4 : decode cX13_markOf 4 = .ok (.ishr, 1) := by decide +kernel
theorem dX13_markOf_5 : decode cX13_markOf 5 = .ok (.iconst 3, 1) := by decide +kernel
theorem dX13_markOf_6 : decode cX13_markOf 6 = .ok (.iand, 1) := by decide +kernel
theorem dX13_markOf_7 : decode cX13_markOf 7 = .ok (.ireturn, 1) := by decide +kernel
theorem dX13_goesOn_0 : decode cX13_goesOn 0 = .ok (.iload_n 0, 1) := by decide +kernel
theorem dX13_goesOn_1 : decode cX13_goesOn 1 = .ok (.iconst 3, 1) := by decide +kernel
theorem dX13_goesOn_2 : decode cX13_goesOn 2 = .ok (.iconst 2, 1) := by decide +kernel
theorem dX13_goesOn_3 : decode cX13_goesOn 3 = .ok (.iload_n 1, 1) := by decide +kernel
theorem dX13_goesOn_4 : decode cX13_goesOn 4 = .ok (.imul, 1) := by decide +kernel
theorem dX13_goesOn_5 : decode cX13_goesOn 5 = .ok (.ishl, 1) := by decide +kernel
theorem dX13_goesOn_6 : decode cX13_goesOn 6 = .ok (.iconst (-1), 1) := by decide +kernel
theorem dX13_goesOn_7 : decode cX13_goesOn 7 = .ok (.ixor, 1) := by decide +kernel
theorem dX13_goesOn_8 : decode cX13_goesOn 8 = .ok (.iand, 1) := by decide +kernel
theorem dX13_goesOn_9 : decode cX13_goesOn 9 = .ok (.iload_n 0, 1) := by decide +kernel
theorem dX13_goesOn_10 : decode cX13_goesOn 10 = .ok (.iload_n 1, 1) := by decide +kernel
theorem dX13_goesOn_11 : decode cX13_goesOn 11 = .ok (.invokestatic 247, 3) := by decide +kernel
theorem dX13_goesOn_14 : decode cX13_goesOn 14 = .ok (.iload_n 2, 1) := by decide +kernel
theorem dX13_goesOn_15 : decode cX13_goesOn 15 = .ok (.iadd, 1) := by decide +kernel
theorem dX13_goesOn_16 : decode cX13_goesOn 16 = .ok (.iconst 3, 1) := by decide +kernel
theorem dX13_goesOn_17 : decode cX13_goesOn 17 = .ok (.iand, 1) := by decide +kernel
theorem dX13_goesOn_18 : decode cX13_goesOn 18 = .ok (.iconst 2, 1) := by decide +kernel
theorem dX13_goesOn_19 : decode cX13_goesOn 19 = .ok (.iload_n 1, 1) := by decide +kernel
theorem dX13_goesOn_20 : decode cX13_goesOn 20 = .ok (.imul, 1) := by decide +kernel
theorem dX13_goesOn_21 : decode cX13_goesOn 21 = .ok (.ishl, 1) := by decide +kernel
theorem dX13_goesOn_22 : decode cX13_goesOn 22 = .ok (.ior, 1) := by decide +kernel
theorem dX13_goesOn_23 : decode cX13_goesOn 23 = .ok (.ireturn, 1) := by decide +kernel
theorem dX13_lookOn_0 : decode cX13_lookOn 0 = .ok (.aload_n 0, 1) := by decide +kernel
theorem dX13_lookOn_1 : decode cX13_lookOn 1 = .ok (.iload_n 1, 1) := by decide +kernel
theorem dX13_lookOn_2 : decode cX13_lookOn 2 = .ok (.invokevirtual 250, 3) := by decide +kernel
theorem dX13_lookOn_5 : decode cX13_lookOn 5 = .ok (.istore_n 3, 1) := by decide +kernel
theorem dX13_lookOn_6 : decode cX13_lookOn 6 = .ok (.iconst 0, 1) := by decide +kernel
theorem dX13_lookOn_7 : decode cX13_lookOn 7 = .ok (.istore 4, 2) := by decide +kernel
theorem dX13_lookOn_9 : decode cX13_lookOn 9 = .ok (.iload 4, 2) := by decide +kernel
theorem dX13_lookOn_11 : decode cX13_lookOn 11 = .ok (.aload_n 0, 1) := by decide +kernel
theorem dX13_lookOn_12 : decode cX13_lookOn 12 = .ok (.getfield 20, 3) := by decide +kernel
theorem dX13_lookOn_15 : decode cX13_lookOn 15 = .ok (.iconst 5, 1) := by decide +kernel
theorem dX13_lookOn_16 : decode cX13_lookOn 16 = .ok (.iaload, 1) := by decide +kernel
theorem dX13_lookOn_17 : decode cX13_lookOn 17 = .ok (.if_icmp .ge 65, 3) := by decide +kernel
theorem dX13_lookOn_20 : decode cX13_lookOn 20 = .ok (.bipush 20, 2) := by decide +kernel
theorem dX13_lookOn_22 : decode cX13_lookOn 22 = .ok (.iconst 4, 1) := by decide +kernel
theorem dX13_lookOn_23 : decode cX13_lookOn 23 = .ok (.iload 4, 2) := by decide +kernel
theorem dX13_lookOn_25 : decode cX13_lookOn 25 = .ok (.imul, 1) := by decide +kernel
theorem dX13_lookOn_26 : decode cX13_lookOn 26 = .ok (.iadd, 1) := by decide +kernel
theorem dX13_lookOn_27 : decode cX13_lookOn 27 = .ok (.istore 5, 2) := by decide +kernel
theorem dX13_lookOn_29 : decode cX13_lookOn 29 = .ok (.aload_n 0, 1) := by decide +kernel
theorem dX13_lookOn_30 : decode cX13_lookOn 30 = .ok (.getfield 20, 3) := by decide +kernel
theorem dX13_lookOn_33 : decode cX13_lookOn 33 = .ok (.iload 5, 2) := by decide +kernel
theorem dX13_lookOn_35 : decode cX13_lookOn 35 = .ok (.iaload, 1) := by decide +kernel
theorem dX13_lookOn_36 : decode cX13_lookOn 36 = .ok (.iload_n 1, 1) := by decide +kernel
theorem dX13_lookOn_37 : decode cX13_lookOn 37 = .ok (.if_icmp .ne 39, 3) := by decide +kernel
theorem dX13_lookOn_40 : decode cX13_lookOn 40 = .ok (.aload_n 0, 1) := by decide +kernel
theorem dX13_lookOn_41 : decode cX13_lookOn 41 = .ok (.getfield 20, 3) := by decide +kernel
theorem dX13_lookOn_44 : decode cX13_lookOn 44 = .ok (.iload 5, 2) := by decide +kernel
theorem dX13_lookOn_46 : decode cX13_lookOn 46 = .ok (.iconst 1, 1) := by decide +kernel
theorem dX13_lookOn_47 : decode cX13_lookOn 47 = .ok (.iadd, 1) := by decide +kernel
theorem dX13_lookOn_48 : decode cX13_lookOn 48 = .ok (.iaload, 1) := by decide +kernel
theorem dX13_lookOn_49 : decode cX13_lookOn 49 = .ok (.iload_n 2, 1) := by decide +kernel
theorem dX13_lookOn_50 : decode cX13_lookOn 50 = .ok (.if_icmp .gt 26, 3) := by decide +kernel
theorem dX13_lookOn_53 : decode cX13_lookOn 53 = .ok (.iload_n 3, 1) := by decide +kernel
theorem dX13_lookOn_54 : decode cX13_lookOn 54 = .ok (.aload_n 0, 1) := by decide +kernel
theorem dX13_lookOn_55 : decode cX13_lookOn 55 = .ok (.getfield 20, 3) := by decide +kernel
theorem dX13_lookOn_58 : decode cX13_lookOn 58 = .ok (.iload 5, 2) := by decide +kernel
theorem dX13_lookOn_60 : decode cX13_lookOn 60 = .ok (.iconst 2, 1) := by decide +kernel
theorem dX13_lookOn_61 : decode cX13_lookOn 61 = .ok (.iadd, 1) := by decide +kernel
theorem dX13_lookOn_62 : decode cX13_lookOn 62 = .ok (.iaload, 1) := by decide +kernel
theorem dX13_lookOn_63 : decode cX13_lookOn 63 = .ok (.aload_n 0, 1) := by decide +kernel
theorem dX13_lookOn_64 : decode cX13_lookOn 64 = .ok (.getfield 20, 3) := by decide +kernel
theorem dX13_lookOn_67 : decode cX13_lookOn 67 = .ok (.iload 5, 2) := by decide +kernel
theorem dX13_lookOn_69 : decode cX13_lookOn 69 = .ok (.iconst 3, 1) := by decide +kernel
theorem dX13_lookOn_70 : decode cX13_lookOn 70 = .ok (.iadd, 1) := by decide +kernel
theorem dX13_lookOn_71 : decode cX13_lookOn 71 = .ok (.iaload, 1) := by decide +kernel
theorem dX13_lookOn_72 : decode cX13_lookOn 72 = .ok (.invokestatic 253, 3) := by decide +kernel
theorem dX13_lookOn_75 : decode cX13_lookOn 75 = .ok (.istore_n 3, 1) := by decide +kernel
theorem dX13_lookOn_76 : decode cX13_lookOn 76 = .ok (.iinc 4 1, 3) := by decide +kernel
theorem dX13_lookOn_79 : decode cX13_lookOn 79 = .ok (.goto (-70), 3) := by decide +kernel
theorem dX13_lookOn_82 : decode cX13_lookOn 82 = .ok (.iconst 0, 1) := by decide +kernel
theorem dX13_lookOn_83 : decode cX13_lookOn 83 = .ok (.istore 4, 2) := by decide +kernel
theorem dX13_lookOn_85 : decode cX13_lookOn 85 = .ok (.iload 4, 2) := by decide +kernel
theorem dX13_lookOn_87 : decode cX13_lookOn 87 = .ok (.aload_n 0, 1) := by decide +kernel
theorem dX13_lookOn_88 : decode cX13_lookOn 88 = .ok (.getfield 26, 3) := by decide +kernel
theorem dX13_lookOn_91 : decode cX13_lookOn 91 = .ok (.bipush 78, 2) := by decide +kernel
theorem dX13_lookOn_93 : decode cX13_lookOn 93 = .ok (.iaload, 1) := by decide +kernel
theorem dX13_lookOn_94 : decode cX13_lookOn 94 = .ok (.if_icmp .ge 65, 3) := by decide +kernel
theorem dX13_lookOn_97 : decode cX13_lookOn 97 = .ok (.bipush 30, 2) := by decide +kernel
theorem dX13_lookOn_99 : decode cX13_lookOn 99 = .ok (.iconst 4, 1) := by decide +kernel
theorem dX13_lookOn_100 : decode cX13_lookOn 100 = .ok (.iload 4, 2) := by decide +kernel
theorem dX13_lookOn_102 : decode cX13_lookOn 102 = .ok (.imul, 1) := by decide +kernel
theorem dX13_lookOn_103 : decode cX13_lookOn 103 = .ok (.iadd, 1) := by decide +kernel
theorem dX13_lookOn_104 : decode cX13_lookOn 104 = .ok (.istore 5, 2) := by decide +kernel
theorem dX13_lookOn_106 : decode cX13_lookOn 106 = .ok (.aload_n 0, 1) := by decide +kernel
theorem dX13_lookOn_107 : decode cX13_lookOn 107 = .ok (.getfield 26, 3) := by decide +kernel
theorem dX13_lookOn_110 : decode cX13_lookOn 110 = .ok (.iload 5, 2) := by decide +kernel
theorem dX13_lookOn_112 : decode cX13_lookOn 112 = .ok (.iaload, 1) := by decide +kernel
theorem dX13_lookOn_113 : decode cX13_lookOn 113 = .ok (.iload_n 1, 1) := by decide +kernel
theorem dX13_lookOn_114 : decode cX13_lookOn 114 = .ok (.if_icmp .ne 39, 3) := by decide +kernel
theorem dX13_lookOn_117 : decode cX13_lookOn 117 = .ok (.aload_n 0, 1) := by decide +kernel
theorem dX13_lookOn_118 : decode cX13_lookOn 118 = .ok (.getfield 26, 3) := by decide +kernel
theorem dX13_lookOn_121 : decode cX13_lookOn 121 = .ok (.iload 5, 2) := by decide +kernel
theorem dX13_lookOn_123 : decode cX13_lookOn 123 = .ok (.iconst 1, 1) := by decide +kernel
theorem dX13_lookOn_124 : decode cX13_lookOn 124 = .ok (.iadd, 1) := by decide +kernel
theorem dX13_lookOn_125 : decode cX13_lookOn 125 = .ok (.iaload, 1) := by decide +kernel
theorem dX13_lookOn_126 : decode cX13_lookOn 126 = .ok (.iload_n 2, 1) := by decide +kernel
theorem dX13_lookOn_127 : decode cX13_lookOn 127 = .ok (.if_icmp .gt 26, 3) := by decide +kernel
theorem dX13_lookOn_130 : decode cX13_lookOn 130 = .ok (.iload_n 3, 1) := by decide +kernel
theorem dX13_lookOn_131 : decode cX13_lookOn 131 = .ok (.aload_n 0, 1) := by decide +kernel
theorem dX13_lookOn_132 : decode cX13_lookOn 132 = .ok (.getfield 26, 3) := by decide +kernel
theorem dX13_lookOn_135 : decode cX13_lookOn 135 = .ok (.iload 5, 2) := by decide +kernel
theorem dX13_lookOn_137 : decode cX13_lookOn 137 = .ok (.iconst 2, 1) := by decide +kernel
theorem dX13_lookOn_138 : decode cX13_lookOn 138 = .ok (.iadd, 1) := by decide +kernel
theorem dX13_lookOn_139 : decode cX13_lookOn 139 = .ok (.iaload, 1) := by decide +kernel
theorem dX13_lookOn_140 : decode cX13_lookOn 140 = .ok (.aload_n 0, 1) := by decide +kernel
theorem dX13_lookOn_141 : decode cX13_lookOn 141 = .ok (.getfield 26, 3) := by decide +kernel
theorem dX13_lookOn_144 : decode cX13_lookOn 144 = .ok (.iload 5, 2) := by decide +kernel
theorem dX13_lookOn_146 : decode cX13_lookOn 146 = .ok (.iconst 3, 1) := by decide +kernel
theorem dX13_lookOn_147 : decode cX13_lookOn 147 = .ok (.iadd, 1) := by decide +kernel
theorem dX13_lookOn_148 : decode cX13_lookOn 148 = .ok (.iaload, 1) := by decide +kernel
theorem dX13_lookOn_149 : decode cX13_lookOn 149 = .ok (.invokestatic 253, 3) := by decide +kernel
theorem dX13_lookOn_152 : decode cX13_lookOn 152 = .ok (.istore_n 3, 1) := by decide +kernel
theorem dX13_lookOn_153 : decode cX13_lookOn 153 = .ok (.iinc 4 1, 3) := by decide +kernel
theorem dX13_lookOn_156 : decode cX13_lookOn 156 = .ok (.goto (-71), 3) := by decide +kernel
theorem dX13_lookOn_159 : decode cX13_lookOn 159 = .ok (.iconst 0, 1) := by decide +kernel
theorem dX13_lookOn_160 : decode cX13_lookOn 160 = .ok (.istore 4, 2) := by decide +kernel
theorem dX13_lookOn_162 : decode cX13_lookOn 162 = .ok (.iload 4, 2) := by decide +kernel
theorem dX13_lookOn_164 : decode cX13_lookOn 164 = .ok (.iload_n 2, 1) := by decide +kernel
theorem dX13_lookOn_165 : decode cX13_lookOn 165 = .ok (.if_icmp .gt 40, 3) := by decide +kernel
theorem dX13_lookOn_168 : decode cX13_lookOn 168 = .ok (.aload_n 0, 1) := by decide +kernel
theorem dX13_lookOn_169 : decode cX13_lookOn 169 = .ok (.getfield 257, 3) := by decide +kernel
theorem dX13_lookOn_172 : decode cX13_lookOn 172 = .ok (.ifCond .eq 33, 3) := by decide +kernel
theorem dX13_lookOn_175 : decode cX13_lookOn 175 = .ok (.aload_n 0, 1) := by decide +kernel
theorem dX13_lookOn_176 : decode cX13_lookOn 176 = .ok (.getfield 35, 3) := by decide +kernel
theorem dX13_lookOn_179 : decode cX13_lookOn 179 = .ok (.iload 4, 2) := by decide +kernel
theorem dX13_lookOn_181 : decode cX13_lookOn 181 = .ok (.iaload, 1) := by decide +kernel
theorem dX13_lookOn_182 : decode cX13_lookOn 182 = .ok (.iload_n 1, 1) := by decide +kernel
theorem dX13_lookOn_183 : decode cX13_lookOn 183 = .ok (.if_icmp .ne 16, 3) := by decide +kernel
theorem dX13_lookOn_186 : decode cX13_lookOn 186 = .ok (.iload_n 3, 1) := by decide +kernel
theorem dX13_lookOn_187 : decode cX13_lookOn 187 = .ok (.aload_n 0, 1) := by decide +kernel
theorem dX13_lookOn_188 : decode cX13_lookOn 188 = .ok (.getfield 38, 3) := by decide +kernel
theorem dX13_lookOn_191 : decode cX13_lookOn 191 = .ok (.iload 4, 2) := by decide +kernel
theorem dX13_lookOn_193 : decode cX13_lookOn 193 = .ok (.iaload, 1) := by decide +kernel
theorem dX13_lookOn_194 : decode cX13_lookOn 194 = .ok (.iconst 1, 1) := by decide +kernel
theorem dX13_lookOn_195 : decode cX13_lookOn 195 = .ok (.invokestatic 253, 3) := by decide +kernel
theorem dX13_lookOn_198 : decode cX13_lookOn 198 = .ok (.istore_n 3, 1) := by decide +kernel
theorem dX13_lookOn_199 : decode cX13_lookOn 199 = .ok (.iinc 4 1, 3) := by decide +kernel
theorem dX13_lookOn_202 : decode cX13_lookOn 202 = .ok (.goto (-40), 3) := by decide +kernel
theorem dX13_lookOn_205 : decode cX13_lookOn 205 = .ok (.aload_n 0, 1) := by decide +kernel
theorem dX13_lookOn_206 : decode cX13_lookOn 206 = .ok (.getfield 20, 3) := by decide +kernel
theorem dX13_lookOn_209 : decode cX13_lookOn 209 = .ok (.bipush 10, 2) := by decide +kernel
theorem dX13_lookOn_211 : decode cX13_lookOn 211 = .ok (.iconst 2, 1) := by decide +kernel
theorem dX13_lookOn_212 : decode cX13_lookOn 212 = .ok (.iload_n 1, 1) := by decide +kernel
theorem dX13_lookOn_213 : decode cX13_lookOn 213 = .ok (.imul, 1) := by decide +kernel
theorem dX13_lookOn_214 : decode cX13_lookOn 214 = .ok (.iadd, 1) := by decide +kernel
theorem dX13_lookOn_215 : decode cX13_lookOn 215 = .ok (.iaload, 1) := by decide +kernel
theorem dX13_lookOn_216 : decode cX13_lookOn 216 = .ok (.iconst 1, 1) := by decide +kernel
theorem dX13_lookOn_217 : decode cX13_lookOn 217 = .ok (.if_icmp .ne 13, 3) := by decide +kernel
theorem dX13_lookOn_220 : decode cX13_lookOn 220 = .ok (.iload_n 3, 1) := by decide +kernel
theorem dX13_lookOn_221 : decode cX13_lookOn 221 = .ok (.iconst 0, 1) := by decide +kernel
theorem dX13_lookOn_222 : decode cX13_lookOn 222 = .ok (.iload_n 2, 1) := by decide +kernel
theorem dX13_lookOn_223 : decode cX13_lookOn 223 = .ok (.bipush 10, 2) := by decide +kernel
theorem dX13_lookOn_225 : decode cX13_lookOn 225 = .ok (.idiv, 1) := by decide +kernel
theorem dX13_lookOn_226 : decode cX13_lookOn 226 = .ok (.invokestatic 253, 3) := by decide +kernel
theorem dX13_lookOn_229 : decode cX13_lookOn 229 = .ok (.istore_n 3, 1) := by decide +kernel
theorem dX13_lookOn_230 : decode cX13_lookOn 230 = .ok (.aload_n 0, 1) := by decide +kernel
theorem dX13_lookOn_231 : decode cX13_lookOn 231 = .ok (.getfield 20, 3) := by decide +kernel
theorem dX13_lookOn_234 : decode cX13_lookOn 234 = .ok (.bipush 10, 2) := by decide +kernel
theorem dX13_lookOn_236 : decode cX13_lookOn 236 = .ok (.iconst 2, 1) := by decide +kernel
theorem dX13_lookOn_237 : decode cX13_lookOn 237 = .ok (.iload_n 1, 1) := by decide +kernel
theorem dX13_lookOn_238 : decode cX13_lookOn 238 = .ok (.imul, 1) := by decide +kernel
theorem dX13_lookOn_239 : decode cX13_lookOn 239 = .ok (.iadd, 1) := by decide +kernel
theorem dX13_lookOn_240 : decode cX13_lookOn 240 = .ok (.iaload, 1) := by decide +kernel
theorem dX13_lookOn_241 : decode cX13_lookOn 241 = .ok (.iconst 2, 1) := by decide +kernel
theorem dX13_lookOn_242 : decode cX13_lookOn 242 = .ok (.if_icmp .ne 12, 3) := by decide +kernel
theorem dX13_lookOn_245 : decode cX13_lookOn 245 = .ok (.iload_n 3, 1) := by decide +kernel
theorem dX13_lookOn_246 : decode cX13_lookOn 246 = .ok (.iconst 1, 1) := by decide +kernel
theorem dX13_lookOn_247 : decode cX13_lookOn 247 = .ok (.iload_n 2, 1) := by decide +kernel
theorem dX13_lookOn_248 : decode cX13_lookOn 248 = .ok (.iconst 4, 1) := by decide +kernel
theorem dX13_lookOn_249 : decode cX13_lookOn 249 = .ok (.idiv, 1) := by decide +kernel
theorem dX13_lookOn_250 : decode cX13_lookOn 250 = .ok (.invokestatic 253, 3) := by decide +kernel
theorem dX13_lookOn_253 : decode cX13_lookOn 253 = .ok (.istore_n 3, 1) := by decide +kernel
theorem dX13_lookOn_254 : decode cX13_lookOn 254 = .ok (.iload_n 3, 1) := by decide +kernel
theorem dX13_lookOn_255 : decode cX13_lookOn 255 = .ok (.ireturn, 1) := by decide +kernel
theorem dX13_latestOn_0 : decode cX13_latestOn 0 = .ok (.iload_n 2, 1) := by decide +kernel
theorem dX13_latestOn_1 : decode cX13_latestOn 1 = .ok (.istore_n 3, 1) := by decide +kernel
theorem dX13_latestOn_2 : decode cX13_latestOn 2 = .ok (.iload_n 3, 1) := by decide +kernel
theorem dX13_latestOn_3 : decode cX13_latestOn 3 = .ok (.ifCond .lt 23, 3) := by decide +kernel
theorem dX13_latestOn_6 : decode cX13_latestOn 6 = .ok (.aload_n 0, 1) := by decide +kernel
theorem dX13_latestOn_7 : decode cX13_latestOn 7 = .ok (.getfield 26, 3) := by decide +kernel
theorem dX13_latestOn_10 : decode cX13_latestOn 10 = .ok (.iload_n 3, 1) := by decide +kernel
theorem dX13_latestOn_11 : decode cX13_latestOn 11 = .ok (.iaload, 1) := by decide +kernel
theorem dX13_latestOn_12 : decode cX13_latestOn 12 = .ok (.iload_n 1, 1) := by decide +kernel
theorem dX13_latestOn_13 : decode cX13_latestOn 13 = .ok (.iconst 1, 1) := by decide +kernel
theorem dX13_latestOn_14 : decode cX13_latestOn 14 = .ok (.iadd, 1) := by decide +kernel
theorem dX13_latestOn_15 : decode cX13_latestOn 15 = .ok (.if_icmp .ne 5, 3) := by decide +kernel
theorem dX13_latestOn_18 : decode cX13_latestOn 18 = .ok (.iload_n 3, 1) := by decide +kernel
theorem dX13_latestOn_19 : decode cX13_latestOn 19 = .ok (.ireturn, 1) := by decide +kernel
theorem dX13_latestOn_20 : decode cX13_latestOn 20 = .ok (.iinc 3 (-1), 3) := by decide +kernel
theorem dX13_latestOn_23 : decode cX13_latestOn 23 = .ok (.goto (-21), 3) := by decide +kernel
theorem dX13_latestOn_26 : decode cX13_latestOn 26 = .ok (.bipush (-2), 2) := by decide +kernel
theorem dX13_latestOn_28 : decode cX13_latestOn 28 = .ok (.ireturn, 1) := by decide +kernel
theorem dX13_beliefOn_0 : decode cX13_beliefOn 0 = .ok (.aload_n 0, 1) := by decide +kernel
theorem dX13_beliefOn_1 : decode cX13_beliefOn 1 = .ok (.iload_n 1, 1) := by decide +kernel
theorem dX13_beliefOn_2 : decode cX13_beliefOn 2 = .ok (.iload_n 2, 1) := by decide +kernel
theorem dX13_beliefOn_3 : decode cX13_beliefOn 3 = .ok (.invokevirtual 260, 3) := by decide +kernel
theorem dX13_beliefOn_6 : decode cX13_beliefOn 6 = .ok (.istore_n 3, 1) := by decide +kernel
theorem dX13_beliefOn_7 : decode cX13_beliefOn 7 = .ok (.iload_n 3, 1) := by decide +kernel
theorem dX13_beliefOn_8 : decode cX13_beliefOn 8 = .ok (.aload_n 0, 1) := by decide +kernel
theorem dX13_beliefOn_9 : decode cX13_beliefOn 9 = .ok (.getfield 20, 3) := by decide +kernel
theorem dX13_beliefOn_12 : decode cX13_beliefOn 12 = .ok (.iconst 2, 1) := by decide +kernel
theorem dX13_beliefOn_13 : decode cX13_beliefOn 13 = .ok (.iaload, 1) := by decide +kernel
theorem dX13_beliefOn_14 : decode cX13_beliefOn 14 = .ok (.if_icmp .ge 7, 3) := by decide +kernel
theorem dX13_beliefOn_17 : decode cX13_beliefOn 17 = .ok (.iconst 0, 1) := by decide +kernel
theorem dX13_beliefOn_18 : decode cX13_beliefOn 18 = .ok (.goto 11, 3) := by decide +kernel
theorem dX13_beliefOn_21 : decode cX13_beliefOn 21 = .ok (.iload_n 3, 1) := by decide +kernel
theorem dX13_beliefOn_22 : decode cX13_beliefOn 22 = .ok (.aload_n 0, 1) := by decide +kernel
theorem dX13_beliefOn_23 : decode cX13_beliefOn 23 = .ok (.getfield 20, 3) := by decide +kernel
theorem dX13_beliefOn_26 : decode cX13_beliefOn 26 = .ok (.iconst 2, 1) := by decide +kernel
theorem dX13_beliefOn_27 : decode cX13_beliefOn 27 = .ok (.iaload, 1) := by decide +kernel
theorem dX13_beliefOn_28 : decode cX13_beliefOn 28 = .ok (.isub, 1) := by decide +kernel
theorem dX13_beliefOn_29 : decode cX13_beliefOn 29 = .ok (.istore 4, 2) := by decide +kernel
theorem dX13_beliefOn_31 : decode cX13_beliefOn 31 = .ok (.iload_n 3, 1) := by decide +kernel
theorem dX13_beliefOn_32 : decode cX13_beliefOn 32 = .ok (.ifCond .ge 11, 3) := by decide +kernel
theorem dX13_beliefOn_35 : decode cX13_beliefOn 35 = .ok (.aload_n 0, 1) := by decide +kernel
theorem dX13_beliefOn_36 : decode cX13_beliefOn 36 = .ok (.iload_n 1, 1) := by decide +kernel
theorem dX13_beliefOn_37 : decode cX13_beliefOn 37 = .ok (.invokevirtual 250, 3) := by decide +kernel
theorem dX13_beliefOn_40 : decode cX13_beliefOn 40 = .ok (.goto 10, 3) := by decide +kernel
theorem dX13_beliefOn_43 : decode cX13_beliefOn 43 = .ok (.aload_n 0, 1) := by decide +kernel
theorem dX13_beliefOn_44 : decode cX13_beliefOn 44 = .ok (.iload_n 1, 1) := by decide +kernel
theorem dX13_beliefOn_45 : decode cX13_beliefOn 45 = .ok (.iload 4, 2) := by decide +kernel
theorem dX13_beliefOn_47 : decode cX13_beliefOn 47 = .ok (.invokevirtual 263, 3) := by decide +kernel
theorem dX13_beliefOn_50 : decode cX13_beliefOn 50 = .ok (.istore 5, 2) := by decide +kernel
theorem dX13_beliefOn_52 : decode cX13_beliefOn 52 = .ok (.aload_n 0, 1) := by decide +kernel
theorem dX13_beliefOn_53 : decode cX13_beliefOn 53 = .ok (.getfield 20, 3) := by decide +kernel
theorem dX13_beliefOn_56 : decode cX13_beliefOn 56 = .ok (.bipush 10, 2) := by decide +kernel
theorem dX13_beliefOn_58 : decode cX13_beliefOn 58 = .ok (.iconst 2, 1) := by decide +kernel
theorem dX13_beliefOn_59 : decode cX13_beliefOn 59 = .ok (.iload_n 1, 1) := by decide +kernel
theorem dX13_beliefOn_60 : decode cX13_beliefOn 60 = .ok (.imul, 1) := by decide +kernel
theorem dX13_beliefOn_61 : decode cX13_beliefOn 61 = .ok (.iadd, 1) := by decide +kernel
theorem dX13_beliefOn_62 : decode cX13_beliefOn 62 = .ok (.iaload, 1) := by decide +kernel
theorem dX13_beliefOn_63 : decode cX13_beliefOn 63 = .ok (.iconst 3, 1) := by decide +kernel
theorem dX13_beliefOn_64 : decode cX13_beliefOn 64 = .ok (.if_icmp .ne 11, 3) := by decide +kernel
theorem dX13_beliefOn_67 : decode cX13_beliefOn 67 = .ok (.iload 5, 2) := by decide +kernel
theorem dX13_beliefOn_69 : decode cX13_beliefOn 69 = .ok (.bipush (-4), 2) := by decide +kernel
theorem dX13_beliefOn_71 : decode cX13_beliefOn 71 = .ok (.iand, 1) := by decide +kernel
theorem dX13_beliefOn_72 : decode cX13_beliefOn 72 = .ok (.goto 5, 3) := by decide +kernel
theorem dX13_beliefOn_75 : decode cX13_beliefOn 75 = .ok (.iload 5, 2) := by decide +kernel
theorem dX13_beliefOn_77 : decode cX13_beliefOn 77 = .ok (.ireturn, 1) := by decide +kernel
theorem dX13_papersOn_0 : decode cX13_papersOn 0 = .ok (.aload_n 0, 1) := by decide +kernel
theorem dX13_papersOn_1 : decode cX13_papersOn 1 = .ok (.iload_n 1, 1) := by decide +kernel
theorem dX13_papersOn_2 : decode cX13_papersOn 2 = .ok (.iload_n 2, 1) := by decide +kernel
theorem dX13_papersOn_3 : decode cX13_papersOn 3 = .ok (.invokevirtual 260, 3) := by decide +kernel
theorem dX13_papersOn_6 : decode cX13_papersOn 6 = .ok (.istore_n 3, 1) := by decide +kernel
theorem dX13_papersOn_7 : decode cX13_papersOn 7 = .ok (.iload_n 3, 1) := by decide +kernel
theorem dX13_papersOn_8 : decode cX13_papersOn 8 = .ok (.ifCond .ge 11, 3) := by decide +kernel
theorem dX13_papersOn_11 : decode cX13_papersOn 11 = .ok (.aload_n 0, 1) := by decide +kernel
theorem dX13_papersOn_12 : decode cX13_papersOn 12 = .ok (.iload_n 1, 1) := by decide +kernel
theorem dX13_papersOn_13 : decode cX13_papersOn 13 = .ok (.invokevirtual 250, 3) := by decide +kernel
theorem dX13_papersOn_16 : decode cX13_papersOn 16 = .ok (.goto 9, 3) := by decide +kernel
theorem dX13_papersOn_19 : decode cX13_papersOn 19 = .ok (.aload_n 0, 1) := by decide +kernel
theorem dX13_papersOn_20 : decode cX13_papersOn 20 = .ok (.iload_n 1, 1) := by decide +kernel
theorem dX13_papersOn_21 : decode cX13_papersOn 21 = .ok (.iload_n 3, 1) := by decide +kernel
theorem dX13_papersOn_22 : decode cX13_papersOn 22 = .ok (.invokevirtual 263, 3) := by decide +kernel
theorem dX13_papersOn_25 : decode cX13_papersOn 25 = .ok (.ireturn, 1) := by decide +kernel
theorem dX13_unlike_0 : decode cX13_unlike 0 = .ok (.iconst 0, 1) := by decide +kernel
theorem dX13_unlike_1 : decode cX13_unlike 1 = .ok (.istore_n 3, 1) := by decide +kernel
theorem dX13_unlike_2 : decode cX13_unlike 2 = .ok (.iconst 0, 1) := by decide +kernel
theorem dX13_unlike_3 : decode cX13_unlike 3 = .ok (.istore 4, 2) := by decide +kernel
theorem dX13_unlike_5 : decode cX13_unlike 5 = .ok (.iload 4, 2) := by decide +kernel
theorem dX13_unlike_7 : decode cX13_unlike 7 = .ok (.aload_n 0, 1) := by decide +kernel
theorem dX13_unlike_8 : decode cX13_unlike 8 = .ok (.getfield 20, 3) := by decide +kernel
theorem dX13_unlike_11 : decode cX13_unlike 11 = .ok (.iconst 0, 1) := by decide +kernel
theorem dX13_unlike_12 : decode cX13_unlike 12 = .ok (.iaload, 1) := by decide +kernel
theorem dX13_unlike_13 : decode cX13_unlike 13 = .ok (.if_icmp .ge 32, 3) := by decide +kernel
theorem dX13_unlike_16 : decode cX13_unlike 16 = .ok (.iload_n 3, 1) := by decide +kernel
theorem dX13_unlike_17 : decode cX13_unlike 17 = .ok (.iload_n 1, 1) := by decide +kernel
theorem dX13_unlike_18 : decode cX13_unlike 18 = .ok (.iload 4, 2) := by decide +kernel
theorem dX13_unlike_20 : decode cX13_unlike 20 = .ok (.invokestatic 247, 3) := by decide +kernel
theorem dX13_unlike_23 : decode cX13_unlike 23 = .ok (.iload_n 2, 1) := by decide +kernel
theorem dX13_unlike_24 : decode cX13_unlike 24 = .ok (.iload 4, 2) := by decide +kernel
theorem dX13_unlike_26 : decode cX13_unlike 26 = .ok (.invokestatic 247, 3) := by decide +kernel
theorem dX13_unlike_29 : decode cX13_unlike 29 = .ok (.if_icmp .ne 7, 3) := by decide +kernel
theorem dX13_unlike_32 : decode cX13_unlike 32 = .ok (.iconst 0, 1) := by decide +kernel
theorem dX13_unlike_33 : decode cX13_unlike 33 = .ok (.goto 4, 3) := by decide +kernel
theorem dX13_unlike_36 : decode cX13_unlike 36 = .ok (.iconst 1, 1) := by decide +kernel
theorem dX13_unlike_37 : decode cX13_unlike 37 = .ok (.iadd, 1) := by decide +kernel
theorem dX13_unlike_38 : decode cX13_unlike 38 = .ok (.istore_n 3, 1) := by decide +kernel
theorem dX13_unlike_39 : decode cX13_unlike 39 = .ok (.iinc 4 1, 3) := by decide +kernel
theorem dX13_unlike_42 : decode cX13_unlike 42 = .ok (.goto (-37), 3) := by decide +kernel
theorem dX13_unlike_45 : decode cX13_unlike 45 = .ok (.iload_n 3, 1) := by decide +kernel
theorem dX13_unlike_46 : decode cX13_unlike 46 = .ok (.ireturn, 1) := by decide +kernel
theorem dX13_doesKnow_0 : decode cX13_doesKnow 0 = .ok (.aload_n 0, 1) := by decide +kernel
theorem dX13_doesKnow_1 : decode cX13_doesKnow 1 = .ok (.aload_n 0, 1) := by decide +kernel
theorem dX13_doesKnow_2 : decode cX13_doesKnow 2 = .ok (.iload_n 1, 1) := by decide +kernel
theorem dX13_doesKnow_3 : decode cX13_doesKnow 3 = .ok (.iload_n 2, 1) := by decide +kernel
theorem dX13_doesKnow_4 : decode cX13_doesKnow 4 = .ok (.invokevirtual 266, 3) := by decide +kernel
theorem dX13_doesKnow_7 : decode cX13_doesKnow 7 = .ok (.aload_n 0, 1) := by decide +kernel
theorem dX13_doesKnow_8 : decode cX13_doesKnow 8 = .ok (.iload_n 1, 1) := by decide +kernel
theorem dX13_doesKnow_9 : decode cX13_doesKnow 9 = .ok (.iload_n 2, 1) := by decide +kernel
theorem dX13_doesKnow_10 : decode cX13_doesKnow 10 = .ok (.invokevirtual 263, 3) := by decide +kernel
theorem dX13_doesKnow_13 : decode cX13_doesKnow 13 = .ok (.invokevirtual 269, 3) := by decide +kernel
theorem dX13_doesKnow_16 : decode cX13_doesKnow 16 = .ok (.aload_n 0, 1) := by decide +kernel
theorem dX13_doesKnow_17 : decode cX13_doesKnow 17 = .ok (.getfield 20, 3) := by decide +kernel
theorem dX13_doesKnow_20 : decode cX13_doesKnow 20 = .ok (.iconst 1, 1) := by decide +kernel
theorem dX13_doesKnow_21 : decode cX13_doesKnow 21 = .ok (.iaload, 1) := by decide +kernel
theorem dX13_doesKnow_22 : decode cX13_doesKnow 22 = .ok (.if_icmp .gt 7, 3) := by decide +kernel
theorem dX13_doesKnow_25 : decode cX13_doesKnow 25 = .ok (.iconst 1, 1) := by decide +kernel
theorem dX13_doesKnow_26 : decode cX13_doesKnow 26 = .ok (.goto 4, 3) := by decide +kernel
theorem dX13_doesKnow_29 : decode cX13_doesKnow 29 = .ok (.iconst 0, 1) := by decide +kernel
theorem dX13_doesKnow_30 : decode cX13_doesKnow 30 = .ok (.ireturn, 1) := by decide +kernel
theorem dX13_why_0 : decode cX13_why 0 = .ok (.iload_n 1, 1) := by decide +kernel
theorem dX13_why_1 : decode cX13_why 1 = .ok (.ifCond .ne 7, 3) := by decide +kernel
theorem dX13_why_4 : decode cX13_why 4 = .ok (.iconst 1, 1) := by decide +kernel
theorem dX13_why_5 : decode cX13_why 5 = .ok (.goto 15, 3) := by decide +kernel
theorem dX13_why_8 : decode cX13_why 8 = .ok (.iload_n 2, 1) := by decide +kernel
theorem dX13_why_9 : decode cX13_why 9 = .ok (.invokestatic 272, 3) := by decide +kernel
theorem dX13_why_12 : decode cX13_why 12 = .ok (.ifCond .eq 7, 3) := by decide +kernel
theorem dX13_why_15 : decode cX13_why 15 = .ok (.iconst 0, 1) := by decide +kernel
theorem dX13_why_16 : decode cX13_why 16 = .ok (.goto 4, 3) := by decide +kernel
theorem dX13_why_19 : decode cX13_why 19 = .ok (.iconst 2, 1) := by decide +kernel
theorem dX13_why_20 : decode cX13_why 20 = .ok (.ireturn, 1) := by decide +kernel
theorem dX13_look_0 : decode cX13_look 0 = .ok (.aload_n 0, 1) := by decide +kernel
theorem dX13_look_1 : decode cX13_look 1 = .ok (.invokevirtual 166, 3) := by decide +kernel
theorem dX13_look_4 : decode cX13_look 4 = .ok (.aload_n 0, 1) := by decide +kernel
theorem dX13_look_5 : decode cX13_look 5 = .ok (.aload_n 0, 1) := by decide +kernel
theorem dX13_look_6 : decode cX13_look 6 = .ok (.iload_n 1, 1) := by decide +kernel
theorem dX13_look_7 : decode cX13_look 7 = .ok (.invokevirtual 275, 3) := by decide +kernel
theorem dX13_look_10 : decode cX13_look 10 = .ok (.ifCond .eq 15, 3) := by decide +kernel
theorem dX13_look_13 : decode cX13_look 13 = .ok (.aload_n 0, 1) := by decide +kernel
theorem dX13_look_14 : decode cX13_look 14 = .ok (.iload_n 3, 1) := by decide +kernel
theorem dX13_look_15 : decode cX13_look 15 = .ok (.invokevirtual 278, 3) := by decide +kernel
theorem dX13_look_18 : decode cX13_look 18 = .ok (.ifCond .eq 7, 3) := by decide +kernel
theorem dX13_look_21 : decode cX13_look 21 = .ok (.iconst 1, 1) := by decide +kernel
theorem dX13_look_22 : decode cX13_look 22 = .ok (.goto 4, 3) := by decide +kernel
theorem dX13_look_25 : decode cX13_look 25 = .ok (.iconst 0, 1) := by decide +kernel
theorem dX13_look_26 : decode cX13_look 26 = .ok (.iload_n 2, 1) := by decide +kernel
theorem dX13_look_27 : decode cX13_look 27 = .ok (.invokevirtual 281, 3) := by decide +kernel
theorem dX13_look_30 : decode cX13_look 30 = .ok (.istore 4, 2) := by decide +kernel
theorem dX13_look_32 : decode cX13_look 32 = .ok (.iload 4, 2) := by decide +kernel
theorem dX13_look_34 : decode cX13_look 34 = .ok (.ifCond .eq 12, 3) := by decide +kernel
theorem dX13_look_37 : decode cX13_look 37 = .ok (.aload_n 0, 1) := by decide +kernel
theorem dX13_look_38 : decode cX13_look 38 = .ok (.iload 4, 2) := by decide +kernel
theorem dX13_look_40 : decode cX13_look 40 = .ok (.invokevirtual 169, 3) := by decide +kernel
theorem dX13_look_43 : decode cX13_look 43 = .ok (.goto 13, 3) := by decide +kernel
theorem dX13_look_46 : decode cX13_look 46 = .ok (.aload_n 0, 1) := by decide +kernel
theorem dX13_look_47 : decode cX13_look 47 = .ok (.iload_n 1, 1) := by decide +kernel
theorem dX13_look_48 : decode cX13_look 48 = .ok (.iload_n 2, 1) := by decide +kernel
theorem dX13_look_49 : decode cX13_look 49 = .ok (.invokevirtual 263, 3) := by decide +kernel
theorem dX13_look_52 : decode cX13_look 52 = .ok (.iload_n 3, 1) := by decide +kernel
theorem dX13_look_53 : decode cX13_look 53 = .ok (.invokestatic 247, 3) := by decide +kernel
theorem dX13_look_56 : decode cX13_look 56 = .ok (.ireturn, 1) := by decide +kernel
theorem dX13_belief_0 : decode cX13_belief 0 = .ok (.aload_n 0, 1) := by decide +kernel
theorem dX13_belief_1 : decode cX13_belief 1 = .ok (.invokevirtual 166, 3) := by decide +kernel
theorem dX13_belief_4 : decode cX13_belief 4 = .ok (.aload_n 0, 1) := by decide +kernel
theorem dX13_belief_5 : decode cX13_belief 5 = .ok (.aload_n 0, 1) := by decide +kernel
theorem dX13_belief_6 : decode cX13_belief 6 = .ok (.iload_n 1, 1) := by decide +kernel
theorem dX13_belief_7 : decode cX13_belief 7 = .ok (.invokevirtual 275, 3) := by decide +kernel
theorem dX13_belief_10 : decode cX13_belief 10 = .ok (.ifCond .eq 15, 3) := by decide +kernel
theorem dX13_belief_13 : decode cX13_belief 13 = .ok (.aload_n 0, 1) := by decide +kernel
theorem dX13_belief_14 : decode cX13_belief 14 = .ok (.iload_n 3, 1) := by decide +kernel
theorem dX13_belief_15 : decode cX13_belief 15 = .ok (.invokevirtual 278, 3) := by decide +kernel
theorem dX13_belief_18 : decode cX13_belief 18 = .ok (.ifCond .eq 7, 3) := by decide +kernel
theorem dX13_belief_21 : decode cX13_belief 21 = .ok (.iconst 1, 1) := by decide +kernel
theorem dX13_belief_22 : decode cX13_belief 22 = .ok (.goto 4, 3) := by decide +kernel
theorem dX13_belief_25 : decode cX13_belief 25 = .ok (.iconst 0, 1) := by decide +kernel
theorem dX13_belief_26 : decode cX13_belief 26 = .ok (.iload_n 2, 1) := by decide +kernel
theorem dX13_belief_27 : decode cX13_belief 27 = .ok (.invokevirtual 281, 3) := by decide +kernel
theorem dX13_belief_30 : decode cX13_belief 30 = .ok (.istore 4, 2) := by decide +kernel
theorem dX13_belief_32 : decode cX13_belief 32 = .ok (.iload 4, 2) := by decide +kernel
theorem dX13_belief_34 : decode cX13_belief 34 = .ok (.ifCond .eq 12, 3) := by decide +kernel
theorem dX13_belief_37 : decode cX13_belief 37 = .ok (.aload_n 0, 1) := by decide +kernel
theorem dX13_belief_38 : decode cX13_belief 38 = .ok (.iload 4, 2) := by decide +kernel
theorem dX13_belief_40 : decode cX13_belief 40 = .ok (.invokevirtual 169, 3) := by decide +kernel
theorem dX13_belief_43 : decode cX13_belief 43 = .ok (.goto 13, 3) := by decide +kernel
theorem dX13_belief_46 : decode cX13_belief 46 = .ok (.aload_n 0, 1) := by decide +kernel
theorem dX13_belief_47 : decode cX13_belief 47 = .ok (.iload_n 1, 1) := by decide +kernel
theorem dX13_belief_48 : decode cX13_belief 48 = .ok (.iload_n 2, 1) := by decide +kernel
theorem dX13_belief_49 : decode cX13_belief 49 = .ok (.invokevirtual 266, 3) := by decide +kernel
theorem dX13_belief_52 : decode cX13_belief 52 = .ok (.iload_n 3, 1) := by decide +kernel
theorem dX13_belief_53 : decode cX13_belief 53 = .ok (.invokestatic 247, 3) := by decide +kernel
theorem dX13_belief_56 : decode cX13_belief 56 = .ok (.ireturn, 1) := by decide +kernel
theorem dX13_papers_0 : decode cX13_papers 0 = .ok (.aload_n 0, 1) := by decide +kernel
theorem dX13_papers_1 : decode cX13_papers 1 = .ok (.invokevirtual 166, 3) := by decide +kernel
theorem dX13_papers_4 : decode cX13_papers 4 = .ok (.aload_n 0, 1) := by decide +kernel
theorem dX13_papers_5 : decode cX13_papers 5 = .ok (.aload_n 0, 1) := by decide +kernel
theorem dX13_papers_6 : decode cX13_papers 6 = .ok (.iload_n 1, 1) := by decide +kernel
theorem dX13_papers_7 : decode cX13_papers 7 = .ok (.invokevirtual 275, 3) := by decide +kernel
theorem dX13_papers_10 : decode cX13_papers 10 = .ok (.ifCond .eq 15, 3) := by decide +kernel
theorem dX13_papers_13 : decode cX13_papers 13 = .ok (.aload_n 0, 1) := by decide +kernel
theorem dX13_papers_14 : decode cX13_papers 14 = .ok (.iload_n 3, 1) := by decide +kernel
theorem dX13_papers_15 : decode cX13_papers 15 = .ok (.invokevirtual 278, 3) := by decide +kernel
theorem dX13_papers_18 : decode cX13_papers 18 = .ok (.ifCond .eq 7, 3) := by decide +kernel
theorem dX13_papers_21 : decode cX13_papers 21 = .ok (.iconst 1, 1) := by decide +kernel
theorem dX13_papers_22 : decode cX13_papers 22 = .ok (.goto 4, 3) := by decide +kernel
theorem dX13_papers_25 : decode cX13_papers 25 = .ok (.iconst 0, 1) := by decide +kernel
theorem dX13_papers_26 : decode cX13_papers 26 = .ok (.iload_n 2, 1) := by decide +kernel
theorem dX13_papers_27 : decode cX13_papers 27 = .ok (.invokevirtual 281, 3) := by decide +kernel
theorem dX13_papers_30 : decode cX13_papers 30 = .ok (.istore 4, 2) := by decide +kernel
theorem dX13_papers_32 : decode cX13_papers 32 = .ok (.iload 4, 2) := by decide +kernel
theorem dX13_papers_34 : decode cX13_papers 34 = .ok (.ifCond .eq 12, 3) := by decide +kernel
theorem dX13_papers_37 : decode cX13_papers 37 = .ok (.aload_n 0, 1) := by decide +kernel
theorem dX13_papers_38 : decode cX13_papers 38 = .ok (.iload 4, 2) := by decide +kernel
theorem dX13_papers_40 : decode cX13_papers 40 = .ok (.invokevirtual 169, 3) := by decide +kernel
theorem dX13_papers_43 : decode cX13_papers 43 = .ok (.goto 13, 3) := by decide +kernel
theorem dX13_papers_46 : decode cX13_papers 46 = .ok (.aload_n 0, 1) := by decide +kernel
theorem dX13_papers_47 : decode cX13_papers 47 = .ok (.iload_n 1, 1) := by decide +kernel
theorem dX13_papers_48 : decode cX13_papers 48 = .ok (.iload_n 2, 1) := by decide +kernel
theorem dX13_papers_49 : decode cX13_papers 49 = .ok (.invokevirtual 285, 3) := by decide +kernel
theorem dX13_papers_52 : decode cX13_papers 52 = .ok (.iload_n 3, 1) := by decide +kernel
theorem dX13_papers_53 : decode cX13_papers 53 = .ok (.invokestatic 247, 3) := by decide +kernel
theorem dX13_papers_56 : decode cX13_papers 56 = .ok (.ireturn, 1) := by decide +kernel
theorem dX13_kind_0 : decode cX13_kind 0 = .ok (.aload_n 0, 1) := by decide +kernel
theorem dX13_kind_1 : decode cX13_kind 1 = .ok (.invokevirtual 166, 3) := by decide +kernel
theorem dX13_kind_4 : decode cX13_kind 4 = .ok (.aload_n 0, 1) := by decide +kernel
theorem dX13_kind_5 : decode cX13_kind 5 = .ok (.iload_n 1, 1) := by decide +kernel
theorem dX13_kind_6 : decode cX13_kind 6 = .ok (.invokevirtual 275, 3) := by decide +kernel
theorem dX13_kind_9 : decode cX13_kind 9 = .ok (.ifCond .eq 17, 3) := by decide +kernel
theorem dX13_kind_12 : decode cX13_kind 12 = .ok (.aload_n 0, 1) := by decide +kernel
theorem dX13_kind_13 : decode cX13_kind 13 = .ok (.getfield 20, 3) := by decide +kernel
theorem dX13_kind_16 : decode cX13_kind 16 = .ok (.bipush 10, 2) := by decide +kernel
theorem dX13_kind_18 : decode cX13_kind 18 = .ok (.iconst 2, 1) := by decide +kernel
theorem dX13_kind_19 : decode cX13_kind 19 = .ok (.iload_n 1, 1) := by decide +kernel
theorem dX13_kind_20 : decode cX13_kind 20 = .ok (.imul, 1) := by decide +kernel
theorem dX13_kind_21 : decode cX13_kind 21 = .ok (.iadd, 1) := by decide +kernel
theorem dX13_kind_22 : decode cX13_kind 22 = .ok (.iaload, 1) := by decide +kernel
theorem dX13_kind_23 : decode cX13_kind 23 = .ok (.goto 8, 3) := by decide +kernel
theorem dX13_kind_26 : decode cX13_kind 26 = .ok (.aload_n 0, 1) := by decide +kernel
theorem dX13_kind_27 : decode cX13_kind 27 = .ok (.iconst 1, 1) := by decide +kernel
theorem dX13_kind_28 : decode cX13_kind 28 = .ok (.invokevirtual 169, 3) := by decide +kernel
theorem dX13_kind_31 : decode cX13_kind 31 = .ok (.ireturn, 1) := by decide +kernel
theorem dX13_latest_0 : decode cX13_latest 0 = .ok (.aload_n 0, 1) := by decide +kernel
theorem dX13_latest_1 : decode cX13_latest 1 = .ok (.invokevirtual 166, 3) := by decide +kernel
theorem dX13_latest_4 : decode cX13_latest 4 = .ok (.aload_n 0, 1) := by decide +kernel
theorem dX13_latest_5 : decode cX13_latest 5 = .ok (.aload_n 0, 1) := by decide +kernel
theorem dX13_latest_6 : decode cX13_latest 6 = .ok (.iload_n 1, 1) := by decide +kernel
theorem dX13_latest_7 : decode cX13_latest 7 = .ok (.invokevirtual 275, 3) := by decide +kernel
theorem dX13_latest_10 : decode cX13_latest 10 = .ok (.iload_n 2, 1) := by decide +kernel
theorem dX13_latest_11 : decode cX13_latest 11 = .ok (.invokevirtual 281, 3) := by decide +kernel
theorem dX13_latest_14 : decode cX13_latest 14 = .ok (.istore_n 3, 1) := by decide +kernel
theorem dX13_latest_15 : decode cX13_latest 15 = .ok (.iload_n 3, 1) := by decide +kernel
theorem dX13_latest_16 : decode cX13_latest 16 = .ok (.ifCond .eq 11, 3) := by decide +kernel
theorem dX13_latest_19 : decode cX13_latest 19 = .ok (.aload_n 0, 1) := by decide +kernel
theorem dX13_latest_20 : decode cX13_latest 20 = .ok (.iload_n 3, 1) := by decide +kernel
theorem dX13_latest_21 : decode cX13_latest 21 = .ok (.invokevirtual 169, 3) := by decide +kernel
theorem dX13_latest_24 : decode cX13_latest 24 = .ok (.goto 9, 3) := by decide +kernel
theorem dX13_latest_27 : decode cX13_latest 27 = .ok (.aload_n 0, 1) := by decide +kernel
theorem dX13_latest_28 : decode cX13_latest 28 = .ok (.iload_n 1, 1) := by decide +kernel
theorem dX13_latest_29 : decode cX13_latest 29 = .ok (.iload_n 2, 1) := by decide +kernel
theorem dX13_latest_30 : decode cX13_latest 30 = .ok (.invokevirtual 260, 3) := by decide +kernel
theorem dX13_latest_33 : decode cX13_latest 33 = .ok (.ireturn, 1) := by decide +kernel
theorem dX13_isShut_0 : decode cX13_isShut 0 = .ok (.iload_n 1, 1) := by decide +kernel
theorem dX13_isShut_1 : decode cX13_isShut 1 = .ok (.bipush 7, 2) := by decide +kernel
theorem dX13_isShut_3 : decode cX13_isShut 3 = .ok (.irem, 1) := by decide +kernel
theorem dX13_isShut_4 : decode cX13_isShut 4 = .ok (.aload_n 0, 1) := by decide +kernel
theorem dX13_isShut_5 : decode cX13_isShut 5 = .ok (.getfield 20, 3) := by decide +kernel
theorem dX13_isShut_8 : decode cX13_isShut 8 = .ok (.iconst 3, 1) := by decide +kernel
theorem dX13_isShut_9 : decode cX13_isShut 9 = .ok (.iaload, 1) := by decide +kernel
theorem dX13_isShut_10 : decode cX13_isShut 10 = .ok (.if_icmp .ne 7, 3) := by decide +kernel
theorem dX13_isShut_13 : decode cX13_isShut 13 = .ok (.iconst 1, 1) := by decide +kernel
theorem dX13_isShut_14 : decode cX13_isShut 14 = .ok (.goto 4, 3) := by decide +kernel
theorem dX13_isShut_17 : decode cX13_isShut 17 = .ok (.iconst 0, 1) := by decide +kernel
theorem dX13_isShut_18 : decode cX13_isShut 18 = .ok (.ireturn, 1) := by decide +kernel
theorem dX13_hall_0 : decode cX13_hall 0 = .ok (.aload_n 0, 1) := by decide +kernel
theorem dX13_hall_1 : decode cX13_hall 1 = .ok (.invokevirtual 166, 3) := by decide +kernel
theorem dX13_hall_4 : decode cX13_hall 4 = .ok (.aload_n 0, 1) := by decide +kernel
theorem dX13_hall_5 : decode cX13_hall 5 = .ok (.aload_n 0, 1) := by decide +kernel
theorem dX13_hall_6 : decode cX13_hall 6 = .ok (.getfield 179, 3) := by decide +kernel
theorem dX13_hall_9 : decode cX13_hall 9 = .ok (.iload_n 1, 1) := by decide +kernel
theorem dX13_hall_10 : decode cX13_hall 10 = .ok (.invokevirtual 281, 3) := by decide +kernel
theorem dX13_hall_13 : decode cX13_hall 13 = .ok (.istore_n 2, 1) := by decide +kernel
theorem dX13_hall_14 : decode cX13_hall 14 = .ok (.iload_n 2, 1) := by decide +kernel
theorem dX13_hall_15 : decode cX13_hall 15 = .ok (.ifCond .eq 9, 3) := by decide +kernel
theorem dX13_hall_18 : decode cX13_hall 18 = .ok (.aload_n 0, 1) := by decide +kernel
theorem dX13_hall_19 : decode cX13_hall 19 = .ok (.iload_n 2, 1) := by decide +kernel
theorem dX13_hall_20 : decode cX13_hall 20 = .ok (.invokevirtual 169, 3) := by decide +kernel
theorem dX13_hall_23 : decode cX13_hall 23 = .ok (.ireturn, 1) := by decide +kernel
theorem dX13_hall_24 : decode cX13_hall 24 = .ok (.aload_n 0, 1) := by decide +kernel
theorem dX13_hall_25 : decode cX13_hall 25 = .ok (.iload_n 1, 1) := by decide +kernel
theorem dX13_hall_26 : decode cX13_hall 26 = .ok (.invokevirtual 288, 3) := by decide +kernel
theorem dX13_hall_29 : decode cX13_hall 29 = .ok (.ifCond .eq 8, 3) := by decide +kernel
theorem dX13_hall_32 : decode cX13_hall 32 = .ok (.bipush (-3), 2) := by decide +kernel
theorem dX13_hall_34 : decode cX13_hall 34 = .ok (.goto 25, 3) := by decide +kernel
theorem dX13_hall_37 : decode cX13_hall 37 = .ok (.aload_n 0, 1) := by decide +kernel
theorem dX13_hall_38 : decode cX13_hall 38 = .ok (.getfield 26, 3) := by decide +kernel
theorem dX13_hall_41 : decode cX13_hall 41 = .ok (.iload_n 1, 1) := by decide +kernel
theorem dX13_hall_42 : decode cX13_hall 42 = .ok (.iaload, 1) := by decide +kernel
theorem dX13_hall_43 : decode cX13_hall 43 = .ok (.ifCond .ne 8, 3) := by decide +kernel
theorem dX13_hall_46 : decode cX13_hall 46 = .ok (.bipush (-2), 2) := by decide +kernel
theorem dX13_hall_48 : decode cX13_hall 48 = .ok (.goto 11, 3) := by decide +kernel
theorem dX13_hall_51 : decode cX13_hall 51 = .ok (.aload_n 0, 1) := by decide +kernel
theorem dX13_hall_52 : decode cX13_hall 52 = .ok (.getfield 26, 3) := by decide +kernel
theorem dX13_hall_55 : decode cX13_hall 55 = .ok (.iload_n 1, 1) := by decide +kernel
theorem dX13_hall_56 : decode cX13_hall 56 = .ok (.iaload, 1) := by decide +kernel
theorem dX13_hall_57 : decode cX13_hall 57 = .ok (.iconst 1, 1) := by decide +kernel
theorem dX13_hall_58 : decode cX13_hall 58 = .ok (.isub, 1) := by decide +kernel
theorem dX13_hall_59 : decode cX13_hall 59 = .ok (.ireturn, 1) := by decide +kernel
theorem dX13_mistaken_0 : decode cX13_mistaken 0 = .ok (.aload_n 0, 1) := by decide +kernel
theorem dX13_mistaken_1 : decode cX13_mistaken 1 = .ok (.invokevirtual 166, 3) := by decide +kernel
theorem dX13_mistaken_4 : decode cX13_mistaken 4 = .ok (.aload_n 0, 1) := by decide +kernel
theorem dX13_mistaken_5 : decode cX13_mistaken 5 = .ok (.aload_n 0, 1) := by decide +kernel
theorem dX13_mistaken_6 : decode cX13_mistaken 6 = .ok (.iload_n 1, 1) := by decide +kernel
theorem dX13_mistaken_7 : decode cX13_mistaken 7 = .ok (.invokevirtual 275, 3) := by decide +kernel
theorem dX13_mistaken_10 : decode cX13_mistaken 10 = .ok (.iload_n 2, 1) := by decide +kernel
theorem dX13_mistaken_11 : decode cX13_mistaken 11 = .ok (.invokevirtual 281, 3) := by decide +kernel
theorem dX13_mistaken_14 : decode cX13_mistaken 14 = .ok (.istore_n 3, 1) := by decide +kernel
theorem dX13_mistaken_15 : decode cX13_mistaken 15 = .ok (.iload_n 3, 1) := by decide +kernel
theorem dX13_mistaken_16 : decode cX13_mistaken 16 = .ok (.ifCond .eq 11, 3) := by decide +kernel
theorem dX13_mistaken_19 : decode cX13_mistaken 19 = .ok (.aload_n 0, 1) := by decide +kernel
theorem dX13_mistaken_20 : decode cX13_mistaken 20 = .ok (.iload_n 3, 1) := by decide +kernel
theorem dX13_mistaken_21 : decode cX13_mistaken 21 = .ok (.invokevirtual 169, 3) := by decide +kernel
theorem dX13_mistaken_24 : decode cX13_mistaken 24 = .ok (.goto 19, 3) := by decide +kernel
theorem dX13_mistaken_27 : decode cX13_mistaken 27 = .ok (.aload_n 0, 1) := by decide +kernel
theorem dX13_mistaken_28 : decode cX13_mistaken 28 = .ok (.aload_n 0, 1) := by decide +kernel
theorem dX13_mistaken_29 : decode cX13_mistaken 29 = .ok (.iload_n 1, 1) := by decide +kernel
theorem dX13_mistaken_30 : decode cX13_mistaken 30 = .ok (.iload_n 2, 1) := by decide +kernel
theorem dX13_mistaken_31 : decode cX13_mistaken 31 = .ok (.invokevirtual 263, 3) := by decide +kernel
theorem dX13_mistaken_34 : decode cX13_mistaken 34 = .ok (.aload_n 0, 1) := by decide +kernel
theorem dX13_mistaken_35 : decode cX13_mistaken 35 = .ok (.iload_n 1, 1) := by decide +kernel
theorem dX13_mistaken_36 : decode cX13_mistaken 36 = .ok (.iload_n 2, 1) := by decide +kernel
theorem dX13_mistaken_37 : decode cX13_mistaken 37 = .ok (.invokevirtual 266, 3) := by decide +kernel
theorem dX13_mistaken_40 : decode cX13_mistaken 40 = .ok (.invokevirtual 269, 3) := by decide +kernel
theorem dX13_mistaken_43 : decode cX13_mistaken 43 = .ok (.ireturn, 1) := by decide +kernel
theorem dX13_knows_0 : decode cX13_knows 0 = .ok (.aload_n 0, 1) := by decide +kernel
theorem dX13_knows_1 : decode cX13_knows 1 = .ok (.invokevirtual 166, 3) := by decide +kernel
theorem dX13_knows_4 : decode cX13_knows 4 = .ok (.aload_n 0, 1) := by decide +kernel
theorem dX13_knows_5 : decode cX13_knows 5 = .ok (.aload_n 0, 1) := by decide +kernel
theorem dX13_knows_6 : decode cX13_knows 6 = .ok (.getfield 179, 3) := by decide +kernel
theorem dX13_knows_9 : decode cX13_knows 9 = .ok (.iload_n 1, 1) := by decide +kernel
theorem dX13_knows_10 : decode cX13_knows 10 = .ok (.invokevirtual 281, 3) := by decide +kernel
theorem dX13_knows_13 : decode cX13_knows 13 = .ok (.istore_n 2, 1) := by decide +kernel
theorem dX13_knows_14 : decode cX13_knows 14 = .ok (.iload_n 2, 1) := by decide +kernel
theorem dX13_knows_15 : decode cX13_knows 15 = .ok (.ifCond .eq 9, 3) := by decide +kernel
theorem dX13_knows_18 : decode cX13_knows 18 = .ok (.aload_n 0, 1) := by decide +kernel
theorem dX13_knows_19 : decode cX13_knows 19 = .ok (.iload_n 2, 1) := by decide +kernel
theorem dX13_knows_20 : decode cX13_knows 20 = .ok (.invokevirtual 169, 3) := by decide +kernel
theorem dX13_knows_23 : decode cX13_knows 23 = .ok (.ireturn, 1) := by decide +kernel
theorem dX13_knows_24 : decode cX13_knows 24 = .ok (.iconst 0, 1) := by decide +kernel
theorem dX13_knows_25 : decode cX13_knows 25 = .ok (.istore_n 3, 1) := by decide +kernel
theorem dX13_knows_26 : decode cX13_knows 26 = .ok (.iconst 0, 1) := by decide +kernel
theorem dX13_knows_27 : decode cX13_knows 27 = .ok (.istore 4, 2) := by decide +kernel
theorem dX13_knows_29 : decode cX13_knows 29 = .ok (.iload 4, 2) := by decide +kernel
theorem dX13_knows_31 : decode cX13_knows 31 = .ok (.aload_n 0, 1) := by decide +kernel
theorem dX13_knows_32 : decode cX13_knows 32 = .ok (.getfield 20, 3) := by decide +kernel
theorem dX13_knows_35 : decode cX13_knows 35 = .ok (.iconst 4, 1) := by decide +kernel
theorem dX13_knows_36 : decode cX13_knows 36 = .ok (.iaload, 1) := by decide +kernel
theorem dX13_knows_37 : decode cX13_knows 37 = .ok (.if_icmp .ge 30, 3) := by decide +kernel
theorem dX13_knows_40 : decode cX13_knows 40 = .ok (.iload_n 3, 1) := by decide +kernel
theorem dX13_knows_41 : decode cX13_knows 41 = .ok (.aload_n 0, 1) := by decide +kernel
theorem dX13_knows_42 : decode cX13_knows 42 = .ok (.iload 4, 2) := by decide +kernel
theorem dX13_knows_44 : decode cX13_knows 44 = .ok (.iload_n 1, 1) := by decide +kernel
theorem dX13_knows_45 : decode cX13_knows 45 = .ok (.invokevirtual 291, 3) := by decide +kernel
theorem dX13_knows_48 : decode cX13_knows 48 = .ok (.ifCond .eq 10, 3) := by decide +kernel
theorem dX13_knows_51 : decode cX13_knows 51 = .ok (.iconst 1, 1) := by decide +kernel
theorem dX13_knows_52 : decode cX13_knows 52 = .ok (.iload 4, 2) := by decide +kernel
theorem dX13_knows_54 : decode cX13_knows 54 = .ok (.ishl, 1) := by decide +kernel
theorem dX13_knows_55 : decode cX13_knows 55 = .ok (.goto 4, 3) := by decide +kernel
theorem dX13_knows_58 : decode cX13_knows 58 = .ok (.iconst 0, 1) := by decide +kernel
theorem dX13_knows_59 : decode cX13_knows 59 = .ok (.ior, 1) := by decide +kernel
theorem dX13_knows_60 : decode cX13_knows 60 = .ok (.istore_n 3, 1) := by decide +kernel
theorem dX13_knows_61 : decode cX13_knows 61 = .ok (.iinc 4 1, 3) := by decide +kernel
theorem dX13_knows_64 : decode cX13_knows 64 = .ok (.goto (-35), 3) := by decide +kernel
theorem dX13_knows_67 : decode cX13_knows 67 = .ok (.iload_n 3, 1) := by decide +kernel
theorem dX13_knows_68 : decode cX13_knows 68 = .ok (.ireturn, 1) := by decide +kernel
theorem dX13_stranger_0 : decode cX13_stranger 0 = .ok (.aload_n 0, 1) := by decide +kernel
theorem dX13_stranger_1 : decode cX13_stranger 1 = .ok (.invokevirtual 166, 3) := by decide +kernel
theorem dX13_stranger_4 : decode cX13_stranger 4 = .ok (.aload_n 0, 1) := by decide +kernel
theorem dX13_stranger_5 : decode cX13_stranger 5 = .ok (.iload_n 1, 1) := by decide +kernel
theorem dX13_stranger_6 : decode cX13_stranger 6 = .ok (.invokevirtual 275, 3) := by decide +kernel
theorem dX13_stranger_9 : decode cX13_stranger 9 = .ok (.ifCond .ne 9, 3) := by decide +kernel
theorem dX13_stranger_12 : decode cX13_stranger 12 = .ok (.aload_n 0, 1) := by decide +kernel
theorem dX13_stranger_13 : decode cX13_stranger 13 = .ok (.iconst 1, 1) := by decide +kernel
theorem dX13_stranger_14 : decode cX13_stranger 14 = .ok (.invokevirtual 169, 3) := by decide +kernel
theorem dX13_stranger_17 : decode cX13_stranger 17 = .ok (.ireturn, 1) := by decide +kernel
theorem dX13_stranger_18 : decode cX13_stranger 18 = .ok (.iconst 0, 1) := by decide +kernel
theorem dX13_stranger_19 : decode cX13_stranger 19 = .ok (.istore_n 2, 1) := by decide +kernel
theorem dX13_stranger_20 : decode cX13_stranger 20 = .ok (.iload_n 2, 1) := by decide +kernel
theorem dX13_stranger_21 : decode cX13_stranger 21 = .ok (.bipush 30, 2) := by decide +kernel
theorem dX13_stranger_23 : decode cX13_stranger 23 = .ok (.if_icmp .ge 20, 3) := by decide +kernel
theorem dX13_stranger_26 : decode cX13_stranger 26 = .ok (.aload_n 0, 1) := by decide +kernel
theorem dX13_stranger_27 : decode cX13_stranger 27 = .ok (.iload_n 1, 1) := by decide +kernel
theorem dX13_stranger_28 : decode cX13_stranger 28 = .ok (.iload_n 2, 1) := by decide +kernel
theorem dX13_stranger_29 : decode cX13_stranger 29 = .ok (.invokevirtual 291, 3) := by decide +kernel
theorem dX13_stranger_32 : decode cX13_stranger 32 = .ok (.ifCond .ne 5, 3) := by decide +kernel
theorem dX13_stranger_35 : decode cX13_stranger 35 = .ok (.iload_n 2, 1) := by decide +kernel
theorem dX13_stranger_36 : decode cX13_stranger 36 = .ok (.ireturn, 1) := by decide +kernel
theorem dX13_stranger_37 : decode cX13_stranger 37 = .ok (.iinc 2 1, 3) := by decide +kernel
theorem dX13_stranger_40 : decode cX13_stranger 40 = .ok (.goto (-20), 3) := by decide +kernel
theorem dX13_stranger_43 : decode cX13_stranger 43 = .ok (.bipush (-2), 2) := by decide +kernel
theorem dX13_stranger_45 : decode cX13_stranger 45 = .ok (.ireturn, 1) := by decide +kernel
theorem dX13_passesOn_0 : decode cX13_passesOn 0 = .ok (.iconst 0, 1) := by decide +kernel
theorem dX13_passesOn_1 : decode cX13_passesOn 1 = .ok (.istore_n 3, 1) := by decide +kernel
theorem dX13_passesOn_2 : decode cX13_passesOn 2 = .ok (.iconst 0, 1) := by decide +kernel
theorem dX13_passesOn_3 : decode cX13_passesOn 3 = .ok (.istore 4, 2) := by decide +kernel
theorem dX13_passesOn_5 : decode cX13_passesOn 5 = .ok (.iload 4, 2) := by decide +kernel
theorem dX13_passesOn_7 : decode cX13_passesOn 7 = .ok (.aload_n 0, 1) := by decide +kernel
theorem dX13_passesOn_8 : decode cX13_passesOn 8 = .ok (.getfield 20, 3) := by decide +kernel
theorem dX13_passesOn_11 : decode cX13_passesOn 11 = .ok (.iconst 4, 1) := by decide +kernel
theorem dX13_passesOn_12 : decode cX13_passesOn 12 = .ok (.iaload, 1) := by decide +kernel
theorem dX13_passesOn_13 : decode cX13_passesOn 13 = .ok (.if_icmp .ge 52, 3) := by decide +kernel
theorem dX13_passesOn_16 : decode cX13_passesOn 16 = .ok (.iload_n 3, 1) := by decide +kernel
theorem dX13_passesOn_17 : decode cX13_passesOn 17 = .ok (.iload 4, 2) := by decide +kernel
theorem dX13_passesOn_19 : decode cX13_passesOn 19 = .ok (.iload_n 1, 1) := by decide +kernel
theorem dX13_passesOn_20 : decode cX13_passesOn 20 = .ok (.if_icmp .eq 36, 3) := by decide +kernel
theorem dX13_passesOn_23 : decode cX13_passesOn 23 = .ok (.aload_n 0, 1) := by decide +kernel
theorem dX13_passesOn_24 : decode cX13_passesOn 24 = .ok (.aload_n 0, 1) := by decide +kernel
theorem dX13_passesOn_25 : decode cX13_passesOn 25 = .ok (.iload_n 1, 1) := by decide +kernel
theorem dX13_passesOn_26 : decode cX13_passesOn 26 = .ok (.iload_n 2, 1) := by decide +kernel
theorem dX13_passesOn_27 : decode cX13_passesOn 27 = .ok (.invokevirtual 263, 3) := by decide +kernel
theorem dX13_passesOn_30 : decode cX13_passesOn 30 = .ok (.aload_n 0, 1) := by decide +kernel
theorem dX13_passesOn_31 : decode cX13_passesOn 31 = .ok (.iload 4, 2) := by decide +kernel
theorem dX13_passesOn_33 : decode cX13_passesOn 33 = .ok (.iload_n 2, 1) := by decide +kernel
theorem dX13_passesOn_34 : decode cX13_passesOn 34 = .ok (.invokevirtual 285, 3) := by decide +kernel
theorem dX13_passesOn_37 : decode cX13_passesOn 37 = .ok (.invokevirtual 269, 3) := by decide +kernel
theorem dX13_passesOn_40 : decode cX13_passesOn 40 = .ok (.aload_n 0, 1) := by decide +kernel
theorem dX13_passesOn_41 : decode cX13_passesOn 41 = .ok (.getfield 20, 3) := by decide +kernel
theorem dX13_passesOn_44 : decode cX13_passesOn 44 = .ok (.iconst 1, 1) := by decide +kernel
theorem dX13_passesOn_45 : decode cX13_passesOn 45 = .ok (.iaload, 1) := by decide +kernel
theorem dX13_passesOn_46 : decode cX13_passesOn 46 = .ok (.if_icmp .gt 10, 3) := by decide +kernel
theorem dX13_passesOn_49 : decode cX13_passesOn 49 = .ok (.iconst 1, 1) := by decide +kernel
theorem dX13_passesOn_50 : decode cX13_passesOn 50 = .ok (.iload 4, 2) := by decide +kernel
theorem dX13_passesOn_52 : decode cX13_passesOn 52 = .ok (.ishl, 1) := by decide +kernel
theorem dX13_passesOn_53 : decode cX13_passesOn 53 = .ok (.goto 4, 3) := by decide +kernel
theorem dX13_passesOn_56 : decode cX13_passesOn 56 = .ok (.iconst 0, 1) := by decide +kernel
theorem dX13_passesOn_57 : decode cX13_passesOn 57 = .ok (.ior, 1) := by decide +kernel
theorem dX13_passesOn_58 : decode cX13_passesOn 58 = .ok (.istore_n 3, 1) := by decide +kernel
theorem dX13_passesOn_59 : decode cX13_passesOn 59 = .ok (.iinc 4 1, 3) := by decide +kernel
theorem dX13_passesOn_62 : decode cX13_passesOn 62 = .ok (.goto (-57), 3) := by decide +kernel
theorem dX13_passesOn_65 : decode cX13_passesOn 65 = .ok (.iload_n 3, 1) := by decide +kernel
theorem dX13_passesOn_66 : decode cX13_passesOn 66 = .ok (.ireturn, 1) := by decide +kernel
theorem dX13_passes_0 : decode cX13_passes 0 = .ok (.aload_n 0, 1) := by decide +kernel
theorem dX13_passes_1 : decode cX13_passes 1 = .ok (.invokevirtual 166, 3) := by decide +kernel
theorem dX13_passes_4 : decode cX13_passes 4 = .ok (.aload_n 0, 1) := by decide +kernel
theorem dX13_passes_5 : decode cX13_passes 5 = .ok (.aload_n 0, 1) := by decide +kernel
theorem dX13_passes_6 : decode cX13_passes 6 = .ok (.iload_n 1, 1) := by decide +kernel
theorem dX13_passes_7 : decode cX13_passes 7 = .ok (.invokevirtual 275, 3) := by decide +kernel
theorem dX13_passes_10 : decode cX13_passes 10 = .ok (.iload_n 2, 1) := by decide +kernel
theorem dX13_passes_11 : decode cX13_passes 11 = .ok (.invokevirtual 281, 3) := by decide +kernel
theorem dX13_passes_14 : decode cX13_passes 14 = .ok (.istore_n 3, 1) := by decide +kernel
theorem dX13_passes_15 : decode cX13_passes 15 = .ok (.iload_n 3, 1) := by decide +kernel
theorem dX13_passes_16 : decode cX13_passes 16 = .ok (.ifCond .eq 11, 3) := by decide +kernel
theorem dX13_passes_19 : decode cX13_passes 19 = .ok (.aload_n 0, 1) := by decide +kernel
theorem dX13_passes_20 : decode cX13_passes 20 = .ok (.iload_n 3, 1) := by decide +kernel
theorem dX13_passes_21 : decode cX13_passes 21 = .ok (.invokevirtual 169, 3) := by decide +kernel
theorem dX13_passes_24 : decode cX13_passes 24 = .ok (.goto 9, 3) := by decide +kernel
theorem dX13_passes_27 : decode cX13_passes 27 = .ok (.aload_n 0, 1) := by decide +kernel
theorem dX13_passes_28 : decode cX13_passes 28 = .ok (.iload_n 1, 1) := by decide +kernel
theorem dX13_passes_29 : decode cX13_passes 29 = .ok (.iload_n 2, 1) := by decide +kernel
theorem dX13_passes_30 : decode cX13_passes 30 = .ok (.invokevirtual 295, 3) := by decide +kernel
theorem dX13_passes_33 : decode cX13_passes 33 = .ok (.ireturn, 1) := by decide +kernel
theorem dX13_doubles_0 : decode cX13_doubles 0 = .ok (.aload_n 0, 1) := by decide +kernel
theorem dX13_doubles_1 : decode cX13_doubles 1 = .ok (.invokevirtual 166, 3) := by decide +kernel
theorem dX13_doubles_4 : decode cX13_doubles 4 = .ok (.aload_n 0, 1) := by decide +kernel
theorem dX13_doubles_5 : decode cX13_doubles 5 = .ok (.aload_n 0, 1) := by decide +kernel
theorem dX13_doubles_6 : decode cX13_doubles 6 = .ok (.getfield 179, 3) := by decide +kernel
theorem dX13_doubles_9 : decode cX13_doubles 9 = .ok (.iload_n 1, 1) := by decide +kernel
theorem dX13_doubles_10 : decode cX13_doubles 10 = .ok (.invokevirtual 281, 3) := by decide +kernel
theorem dX13_doubles_13 : decode cX13_doubles 13 = .ok (.istore_n 2, 1) := by decide +kernel
theorem dX13_doubles_14 : decode cX13_doubles 14 = .ok (.iload_n 2, 1) := by decide +kernel
theorem dX13_doubles_15 : decode cX13_doubles 15 = .ok (.ifCond .eq 9, 3) := by decide +kernel
theorem dX13_doubles_18 : decode cX13_doubles 18 = .ok (.aload_n 0, 1) := by decide +kernel
theorem dX13_doubles_19 : decode cX13_doubles 19 = .ok (.iload_n 2, 1) := by decide +kernel
theorem dX13_doubles_20 : decode cX13_doubles 20 = .ok (.invokevirtual 169, 3) := by decide +kernel
theorem dX13_doubles_23 : decode cX13_doubles 23 = .ok (.ireturn, 1) := by decide +kernel
theorem dX13_doubles_24 : decode cX13_doubles 24 = .ok (.iconst 0, 1) := by decide +kernel
theorem dX13_doubles_25 : decode cX13_doubles 25 = .ok (.istore_n 3, 1) := by decide +kernel
theorem dX13_doubles_26 : decode cX13_doubles 26 = .ok (.iconst 0, 1) := by decide +kernel
theorem dX13_doubles_27 : decode cX13_doubles 27 = .ok (.istore 4, 2) := by decide +kernel
theorem dX13_doubles_29 : decode cX13_doubles 29 = .ok (.iload 4, 2) := by decide +kernel
theorem dX13_doubles_31 : decode cX13_doubles 31 = .ok (.aload_n 0, 1) := by decide +kernel
theorem dX13_doubles_32 : decode cX13_doubles 32 = .ok (.getfield 20, 3) := by decide +kernel
theorem dX13_doubles_35 : decode cX13_doubles 35 = .ok (.iconst 4, 1) := by decide +kernel
theorem dX13_doubles_36 : decode cX13_doubles 36 = .ok (.iaload, 1) := by decide +kernel
theorem dX13_doubles_37 : decode cX13_doubles 37 = .ok (.if_icmp .ge 22, 3) := by decide +kernel
theorem dX13_doubles_40 : decode cX13_doubles 40 = .ok (.iload_n 3, 1) := by decide +kernel
theorem dX13_doubles_41 : decode cX13_doubles 41 = .ok (.aload_n 0, 1) := by decide +kernel
theorem dX13_doubles_42 : decode cX13_doubles 42 = .ok (.iload 4, 2) := by decide +kernel
theorem dX13_doubles_44 : decode cX13_doubles 44 = .ok (.iload_n 1, 1) := by decide +kernel
theorem dX13_doubles_45 : decode cX13_doubles 45 = .ok (.invokevirtual 295, 3) := by decide +kernel
theorem dX13_doubles_48 : decode cX13_doubles 48 = .ok (.invokestatic 298, 3) := by decide +kernel
theorem dX13_doubles_51 : decode cX13_doubles 51 = .ok (.iadd, 1) := by decide +kernel
theorem dX13_doubles_52 : decode cX13_doubles 52 = .ok (.istore_n 3, 1) := by decide +kernel
theorem dX13_doubles_53 : decode cX13_doubles 53 = .ok (.iinc 4 1, 3) := by decide +kernel
theorem dX13_doubles_56 : decode cX13_doubles 56 = .ok (.goto (-27), 3) := by decide +kernel
theorem dX13_doubles_59 : decode cX13_doubles 59 = .ok (.iload_n 3, 1) := by decide +kernel
theorem dX13_doubles_60 : decode cX13_doubles 60 = .ok (.ireturn, 1) := by decide +kernel
theorem dX13_twins_0 : decode cX13_twins 0 = .ok (.aload_n 0, 1) := by decide +kernel
theorem dX13_twins_1 : decode cX13_twins 1 = .ok (.invokevirtual 166, 3) := by decide +kernel
theorem dX13_twins_4 : decode cX13_twins 4 = .ok (.aload_n 0, 1) := by decide +kernel
theorem dX13_twins_5 : decode cX13_twins 5 = .ok (.getfield 179, 3) := by decide +kernel
theorem dX13_twins_8 : decode cX13_twins 8 = .ok (.ifCond .ne 9, 3) := by decide +kernel
theorem dX13_twins_11 : decode cX13_twins 11 = .ok (.aload_n 0, 1) := by decide +kernel
theorem dX13_twins_12 : decode cX13_twins 12 = .ok (.iconst 1, 1) := by decide +kernel
theorem dX13_twins_13 : decode cX13_twins 13 = .ok (.invokevirtual 169, 3) := by decide +kernel
theorem dX13_twins_16 : decode cX13_twins 16 = .ok (.ireturn, 1) := by decide +kernel
theorem dX13_twins_17 : decode cX13_twins 17 = .ok (.iconst 0, 1) := by decide +kernel
theorem dX13_twins_18 : decode cX13_twins 18 = .ok (.istore_n 1, 1) := by decide +kernel
theorem dX13_twins_19 : decode cX13_twins 19 = .ok (.iload_n 1, 1) := by decide +kernel
theorem dX13_twins_20 : decode cX13_twins 20 = .ok (.bipush 30, 2) := by decide +kernel
theorem dX13_twins_22 : decode cX13_twins 22 = .ok (.if_icmp .ge 57, 3) := by decide +kernel
theorem dX13_twins_25 : decode cX13_twins 25 = .ok (.iconst 0, 1) := by decide +kernel
theorem dX13_twins_26 : decode cX13_twins 26 = .ok (.istore_n 2, 1) := by decide +kernel
theorem dX13_twins_27 : decode cX13_twins 27 = .ok (.iload_n 2, 1) := by decide +kernel
theorem dX13_twins_28 : decode cX13_twins 28 = .ok (.aload_n 0, 1) := by decide +kernel
theorem dX13_twins_29 : decode cX13_twins 29 = .ok (.getfield 20, 3) := by decide +kernel
theorem dX13_twins_32 : decode cX13_twins 32 = .ok (.iconst 4, 1) := by decide +kernel
theorem dX13_twins_33 : decode cX13_twins 33 = .ok (.iaload, 1) := by decide +kernel
theorem dX13_twins_34 : decode cX13_twins 34 = .ok (.if_icmp .ge 39, 3) := by decide +kernel
theorem dX13_twins_37 : decode cX13_twins 37 = .ok (.iconst 0, 1) := by decide +kernel
theorem dX13_twins_38 : decode cX13_twins 38 = .ok (.istore_n 3, 1) := by decide +kernel
theorem dX13_twins_39 : decode cX13_twins 39 = .ok (.iload_n 3, 1) := by decide +kernel
theorem dX13_twins_40 : decode cX13_twins 40 = .ok (.iload_n 2, 1) := by decide +kernel
theorem dX13_twins_41 : decode cX13_twins 41 = .ok (.if_icmp .ge 26, 3) := by decide +kernel
theorem dX13_twins_44 : decode cX13_twins 44 = .ok (.aload_n 0, 1) := by decide +kernel
theorem dX13_twins_45 : decode cX13_twins 45 = .ok (.iload_n 2, 1) := by decide +kernel
theorem dX13_twins_46 : decode cX13_twins 46 = .ok (.iload_n 1, 1) := by decide +kernel
theorem dX13_twins_47 : decode cX13_twins 47 = .ok (.invokevirtual 263, 3) := by decide +kernel
theorem dX13_twins_50 : decode cX13_twins 50 = .ok (.aload_n 0, 1) := by decide +kernel
theorem dX13_twins_51 : decode cX13_twins 51 = .ok (.iload_n 3, 1) := by decide +kernel
theorem dX13_twins_52 : decode cX13_twins 52 = .ok (.iload_n 1, 1) := by decide +kernel
theorem dX13_twins_53 : decode cX13_twins 53 = .ok (.invokevirtual 263, 3) := by decide +kernel
theorem dX13_twins_56 : decode cX13_twins 56 = .ok (.if_icmp .ne 5, 3) := by decide +kernel
theorem dX13_twins_59 : decode cX13_twins 59 = .ok (.iload_n 1, 1) := by decide +kernel
theorem dX13_twins_60 : decode cX13_twins 60 = .ok (.ireturn, 1) := by decide +kernel
theorem dX13_twins_61 : decode cX13_twins 61 = .ok (.iinc 3 1, 3) := by decide +kernel
theorem dX13_twins_64 : decode cX13_twins 64 = .ok (.goto (-25), 3) := by decide +kernel
theorem dX13_twins_67 : decode cX13_twins 67 = .ok (.iinc 2 1, 3) := by decide +kernel
theorem dX13_twins_70 : decode cX13_twins 70 = .ok (.goto (-43), 3) := by decide +kernel
theorem dX13_twins_73 : decode cX13_twins 73 = .ok (.iinc 1 1, 3) := by decide +kernel
theorem dX13_twins_76 : decode cX13_twins 76 = .ok (.goto (-57), 3) := by decide +kernel
theorem dX13_twins_79 : decode cX13_twins 79 = .ok (.bipush (-2), 2) := by decide +kernel
theorem dX13_twins_81 : decode cX13_twins 81 = .ok (.ireturn, 1) := by decide +kernel
theorem dX13_doesHold_0 : decode cX13_doesHold 0 = .ok (.aload_n 0, 1) := by decide +kernel
theorem dX13_doesHold_1 : decode cX13_doesHold 1 = .ok (.aload_n 0, 1) := by decide +kernel
theorem dX13_doesHold_2 : decode cX13_doesHold 2 = .ok (.getfield 20, 3) := by decide +kernel
theorem dX13_doesHold_5 : decode cX13_doesHold 5 = .ok (.bipush 90, 2) := by decide +kernel
theorem dX13_doesHold_7 : decode cX13_doesHold 7 = .ok (.iconst 2, 1) := by decide +kernel
theorem dX13_doesHold_8 : decode cX13_doesHold 8 = .ok (.iload_n 1, 1) := by decide +kernel
theorem dX13_doesHold_9 : decode cX13_doesHold 9 = .ok (.imul, 1) := by decide +kernel
theorem dX13_doesHold_10 : decode cX13_doesHold 10 = .ok (.iadd, 1) := by decide +kernel
theorem dX13_doesHold_11 : decode cX13_doesHold 11 = .ok (.iaload, 1) := by decide +kernel
theorem dX13_doesHold_12 : decode cX13_doesHold 12 = .ok (.aload_n 0, 1) := by decide +kernel
theorem dX13_doesHold_13 : decode cX13_doesHold 13 = .ok (.getfield 20, 3) := by decide +kernel
theorem dX13_doesHold_16 : decode cX13_doesHold 16 = .ok (.bipush 90, 2) := by decide +kernel
theorem dX13_doesHold_18 : decode cX13_doesHold 18 = .ok (.iconst 2, 1) := by decide +kernel
theorem dX13_doesHold_19 : decode cX13_doesHold 19 = .ok (.iload_n 1, 1) := by decide +kernel
theorem dX13_doesHold_20 : decode cX13_doesHold 20 = .ok (.imul, 1) := by decide +kernel
theorem dX13_doesHold_21 : decode cX13_doesHold 21 = .ok (.iadd, 1) := by decide +kernel
theorem dX13_doesHold_22 : decode cX13_doesHold 22 = .ok (.iconst 1, 1) := by decide +kernel
theorem dX13_doesHold_23 : decode cX13_doesHold 23 = .ok (.iadd, 1) := by decide +kernel
theorem dX13_doesHold_24 : decode cX13_doesHold 24 = .ok (.iaload, 1) := by decide +kernel
theorem dX13_doesHold_25 : decode cX13_doesHold 25 = .ok (.invokevirtual 291, 3) := by decide +kernel
theorem dX13_doesHold_28 : decode cX13_doesHold 28 = .ok (.ireturn, 1) := by decide +kernel
theorem dX13_holdsNow_0 : decode cX13_holdsNow 0 = .ok (.iconst 0, 1) := by decide +kernel
theorem dX13_holdsNow_1 : decode cX13_holdsNow 1 = .ok (.istore_n 1, 1) := by decide +kernel
theorem dX13_holdsNow_2 : decode cX13_holdsNow 2 = .ok (.iconst 0, 1) := by decide +kernel
theorem dX13_holdsNow_3 : decode cX13_holdsNow 3 = .ok (.istore_n 2, 1) := by decide +kernel
theorem dX13_holdsNow_4 : decode cX13_holdsNow 4 = .ok (.iload_n 2, 1) := by decide +kernel
theorem dX13_holdsNow_5 : decode cX13_holdsNow 5 = .ok (.aload_n 0, 1) := by decide +kernel
theorem dX13_holdsNow_6 : decode cX13_holdsNow 6 = .ok (.getfield 20, 3) := by decide +kernel
theorem dX13_holdsNow_9 : decode cX13_holdsNow 9 = .ok (.bipush 7, 2) := by decide +kernel
theorem dX13_holdsNow_11 : decode cX13_holdsNow 11 = .ok (.iaload, 1) := by decide +kernel
theorem dX13_holdsNow_12 : decode cX13_holdsNow 12 = .ok (.if_icmp .ge 27, 3) := by decide +kernel
theorem dX13_holdsNow_15 : decode cX13_holdsNow 15 = .ok (.iload_n 1, 1) := by decide +kernel
theorem dX13_holdsNow_16 : decode cX13_holdsNow 16 = .ok (.aload_n 0, 1) := by decide +kernel
theorem dX13_holdsNow_17 : decode cX13_holdsNow 17 = .ok (.iload_n 2, 1) := by decide +kernel
theorem dX13_holdsNow_18 : decode cX13_holdsNow 18 = .ok (.invokevirtual 301, 3) := by decide +kernel
theorem dX13_holdsNow_21 : decode cX13_holdsNow 21 = .ok (.ifCond .eq 9, 3) := by decide +kernel
theorem dX13_holdsNow_24 : decode cX13_holdsNow 24 = .ok (.iconst 1, 1) := by decide +kernel
theorem dX13_holdsNow_25 : decode cX13_holdsNow 25 = .ok (.iload_n 2, 1) := by decide +kernel
theorem dX13_holdsNow_26 : decode cX13_holdsNow 26 = .ok (.ishl, 1) := by decide +kernel
theorem dX13_holdsNow_27 : decode cX13_holdsNow 27 = .ok (.goto 4, 3) := by decide +kernel
theorem dX13_holdsNow_30 : decode cX13_holdsNow 30 = .ok (.iconst 0, 1) := by decide +kernel
theorem dX13_holdsNow_31 : decode cX13_holdsNow 31 = .ok (.ior, 1) := by decide +kernel
theorem dX13_holdsNow_32 : decode cX13_holdsNow 32 = .ok (.istore_n 1, 1) := by decide +kernel
theorem dX13_holdsNow_33 : decode cX13_holdsNow 33 = .ok (.iinc 2 1, 3) := by decide +kernel
theorem dX13_holdsNow_36 : decode cX13_holdsNow 36 = .ok (.goto (-32), 3) := by decide +kernel
theorem dX13_holdsNow_39 : decode cX13_holdsNow 39 = .ok (.iload_n 1, 1) := by decide +kernel
theorem dX13_holdsNow_40 : decode cX13_holdsNow 40 = .ok (.ireturn, 1) := by decide +kernel
theorem dX13_holds_0 : decode cX13_holds 0 = .ok (.aload_n 0, 1) := by decide +kernel
theorem dX13_holds_1 : decode cX13_holds 1 = .ok (.invokevirtual 166, 3) := by decide +kernel
theorem dX13_holds_4 : decode cX13_holds 4 = .ok (.aload_n 0, 1) := by decide +kernel
theorem dX13_holds_5 : decode cX13_holds 5 = .ok (.getfield 179, 3) := by decide +kernel
theorem dX13_holds_8 : decode cX13_holds 8 = .ok (.ifCond .eq 10, 3) := by decide +kernel
theorem dX13_holds_11 : decode cX13_holds 11 = .ok (.aload_n 0, 1) := by decide +kernel
theorem dX13_holds_12 : decode cX13_holds 12 = .ok (.invokevirtual 304, 3) := by decide +kernel
theorem dX13_holds_15 : decode cX13_holds 15 = .ok (.goto 8, 3) := by decide +kernel
theorem dX13_holds_18 : decode cX13_holds 18 = .ok (.aload_n 0, 1) := by decide +kernel
theorem dX13_holds_19 : decode cX13_holds 19 = .ok (.iconst 1, 1) := by decide +kernel
theorem dX13_holds_20 : decode cX13_holds 20 = .ok (.invokevirtual 169, 3) := by decide +kernel
theorem dX13_holds_23 : decode cX13_holds 23 = .ok (.ireturn, 1) := by decide +kernel
theorem dX13_passedBy_0 : decode cX13_passedBy 0 = .ok (.aload_n 0, 1) := by decide +kernel
theorem dX13_passedBy_1 : decode cX13_passedBy 1 = .ok (.invokevirtual 166, 3) := by decide +kernel
theorem dX13_passedBy_4 : decode cX13_passedBy 4 = .ok (.aload_n 0, 1) := by decide +kernel
theorem dX13_passedBy_5 : decode cX13_passedBy 5 = .ok (.aload_n 0, 1) := by decide +kernel
theorem dX13_passedBy_6 : decode cX13_passedBy 6 = .ok (.iload_n 1, 1) := by decide +kernel
theorem dX13_passedBy_7 : decode cX13_passedBy 7 = .ok (.invokevirtual 275, 3) := by decide +kernel
theorem dX13_passedBy_10 : decode cX13_passedBy 10 = .ok (.iload_n 2, 1) := by decide +kernel
theorem dX13_passedBy_11 : decode cX13_passedBy 11 = .ok (.invokevirtual 281, 3) := by decide +kernel
theorem dX13_passedBy_14 : decode cX13_passedBy 14 = .ok (.istore_n 3, 1) := by decide +kernel
theorem dX13_passedBy_15 : decode cX13_passedBy 15 = .ok (.iload_n 3, 1) := by decide +kernel
theorem dX13_passedBy_16 : decode cX13_passedBy 16 = .ok (.ifCond .eq 9, 3) := by decide +kernel
theorem dX13_passedBy_19 : decode cX13_passedBy 19 = .ok (.aload_n 0, 1) := by decide +kernel
theorem dX13_passedBy_20 : decode cX13_passedBy 20 = .ok (.iload_n 3, 1) := by decide +kernel
theorem dX13_passedBy_21 : decode cX13_passedBy 21 = .ok (.invokevirtual 169, 3) := by decide +kernel
theorem dX13_passedBy_24 : decode cX13_passedBy 24 = .ok (.ireturn, 1) := by decide +kernel
theorem dX13_passedBy_25 : decode cX13_passedBy 25 = .ok (.iconst 0, 1) := by decide +kernel
theorem dX13_passedBy_26 : decode cX13_passedBy 26 = .ok (.istore 4, 2) := by decide +kernel
theorem dX13_passedBy_28 : decode cX13_passedBy 28 = .ok (.iconst 0, 1) := by decide +kernel
theorem dX13_passedBy_29 : decode cX13_passedBy 29 = .ok (.istore 5, 2) := by decide +kernel
theorem dX13_passedBy_31 : decode cX13_passedBy 31 = .ok (.iload 5, 2) := by decide +kernel
theorem dX13_passedBy_33 : decode cX13_passedBy 33 = .ok (.aload_n 0, 1) := by decide +kernel
theorem dX13_passedBy_34 : decode cX13_passedBy 34 = .ok (.getfield 20, 3) := by decide +kernel
theorem dX13_passedBy_37 : decode cX13_passedBy 37 = .ok (.iconst 4, 1) := by decide +kernel
theorem dX13_passedBy_38 : decode cX13_passedBy 38 = .ok (.iaload, 1) := by decide +kernel
theorem dX13_passedBy_39 : decode cX13_passedBy 39 = .ok (.if_icmp .ge 36, 3) := by decide +kernel
theorem dX13_passedBy_42 : decode cX13_passedBy 42 = .ok (.iload 4, 2) := by decide +kernel
theorem dX13_passedBy_44 : decode cX13_passedBy 44 = .ok (.aload_n 0, 1) := by decide +kernel
theorem dX13_passedBy_45 : decode cX13_passedBy 45 = .ok (.iload 5, 2) := by decide +kernel
theorem dX13_passedBy_47 : decode cX13_passedBy 47 = .ok (.iload_n 2, 1) := by decide +kernel
theorem dX13_passedBy_48 : decode cX13_passedBy 48 = .ok (.invokevirtual 295, 3) := by decide +kernel
theorem dX13_passedBy_51 : decode cX13_passedBy 51 = .ok (.iload_n 1, 1) := by decide +kernel
theorem dX13_passedBy_52 : decode cX13_passedBy 52 = .ok (.invokestatic 307, 3) := by decide +kernel
theorem dX13_passedBy_55 : decode cX13_passedBy 55 = .ok (.ifCond .eq 10, 3) := by decide +kernel
theorem dX13_passedBy_58 : decode cX13_passedBy 58 = .ok (.iconst 1, 1) := by decide +kernel
theorem dX13_passedBy_59 : decode cX13_passedBy 59 = .ok (.iload 5, 2) := by decide +kernel
theorem dX13_passedBy_61 : decode cX13_passedBy 61 = .ok (.ishl, 1) := by decide +kernel
theorem dX13_passedBy_62 : decode cX13_passedBy 62 = .ok (.goto 4, 3) := by decide +kernel
theorem dX13_passedBy_65 : decode cX13_passedBy 65 = .ok (.iconst 0, 1) := by decide +kernel
theorem dX13_passedBy_66 : decode cX13_passedBy 66 = .ok (.ior, 1) := by decide +kernel
theorem dX13_passedBy_67 : decode cX13_passedBy 67 = .ok (.istore 4, 2) := by decide +kernel
theorem dX13_passedBy_69 : decode cX13_passedBy 69 = .ok (.iinc 5 1, 3) := by decide +kernel
theorem dX13_passedBy_72 : decode cX13_passedBy 72 = .ok (.goto (-41), 3) := by decide +kernel
theorem dX13_passedBy_75 : decode cX13_passedBy 75 = .ok (.iload 4, 2) := by decide +kernel
theorem dX13_passedBy_77 : decode cX13_passedBy 77 = .ok (.ireturn, 1) := by decide +kernel
theorem dX13_known_0 : decode cX13_known 0 = .ok (.aload_n 0, 1) := by decide +kernel
theorem dX13_known_1 : decode cX13_known 1 = .ok (.invokevirtual 166, 3) := by decide +kernel
theorem dX13_known_4 : decode cX13_known 4 = .ok (.aload_n 0, 1) := by decide +kernel
theorem dX13_known_5 : decode cX13_known 5 = .ok (.iload_n 1, 1) := by decide +kernel
theorem dX13_known_6 : decode cX13_known 6 = .ok (.invokevirtual 275, 3) := by decide +kernel
theorem dX13_known_9 : decode cX13_known 9 = .ok (.ifCond .ne 9, 3) := by decide +kernel
theorem dX13_known_12 : decode cX13_known 12 = .ok (.aload_n 0, 1) := by decide +kernel
theorem dX13_known_13 : decode cX13_known 13 = .ok (.iconst 1, 1) := by decide +kernel
theorem dX13_known_14 : decode cX13_known 14 = .ok (.invokevirtual 169, 3) := by decide +kernel
theorem dX13_known_17 : decode cX13_known 17 = .ok (.ireturn, 1) := by decide +kernel
theorem dX13_known_18 : decode cX13_known 18 = .ok (.iconst 0, 1) := by decide +kernel
theorem dX13_known_19 : decode cX13_known 19 = .ok (.istore_n 2, 1) := by decide +kernel
theorem dX13_known_20 : decode cX13_known 20 = .ok (.iconst 0, 1) := by decide +kernel
theorem dX13_known_21 : decode cX13_known 21 = .ok (.istore_n 3, 1) := by decide +kernel
theorem dX13_known_22 : decode cX13_known 22 = .ok (.iload_n 3, 1) := by decide +kernel
theorem dX13_known_23 : decode cX13_known 23 = .ok (.bipush 30, 2) := by decide +kernel
theorem dX13_known_25 : decode cX13_known 25 = .ok (.if_icmp .ge 26, 3) := by decide +kernel
theorem dX13_known_28 : decode cX13_known 28 = .ok (.iload_n 2, 1) := by decide +kernel
theorem dX13_known_29 : decode cX13_known 29 = .ok (.aload_n 0, 1) := by decide +kernel
theorem dX13_known_30 : decode cX13_known 30 = .ok (.iload_n 1, 1) := by decide +kernel
theorem dX13_known_31 : decode cX13_known 31 = .ok (.iload_n 3, 1) := by decide +kernel
theorem dX13_known_32 : decode cX13_known 32 = .ok (.invokevirtual 291, 3) := by decide +kernel
theorem dX13_known_35 : decode cX13_known 35 = .ok (.ifCond .eq 7, 3) := by decide +kernel
theorem dX13_known_38 : decode cX13_known 38 = .ok (.iconst 1, 1) := by decide +kernel
theorem dX13_known_39 : decode cX13_known 39 = .ok (.goto 4, 3) := by decide +kernel
theorem dX13_known_42 : decode cX13_known 42 = .ok (.iconst 0, 1) := by decide +kernel
theorem dX13_known_43 : decode cX13_known 43 = .ok (.iadd, 1) := by decide +kernel
theorem dX13_known_44 : decode cX13_known 44 = .ok (.istore_n 2, 1) := by decide +kernel
theorem dX13_known_45 : decode cX13_known 45 = .ok (.iinc 3 1, 3) := by decide +kernel
theorem dX13_known_48 : decode cX13_known 48 = .ok (.goto (-26), 3) := by decide +kernel
theorem dX13_known_51 : decode cX13_known 51 = .ok (.iload_n 2, 1) := by decide +kernel
theorem dX13_known_52 : decode cX13_known 52 = .ok (.ireturn, 1) := by decide +kernel
theorem dX13_worst_0 : decode cX13_worst 0 = .ok (.aload_n 0, 1) := by decide +kernel
theorem dX13_worst_1 : decode cX13_worst 1 = .ok (.invokevirtual 166, 3) := by decide +kernel
theorem dX13_worst_4 : decode cX13_worst 4 = .ok (.aload_n 0, 1) := by decide +kernel
theorem dX13_worst_5 : decode cX13_worst 5 = .ok (.aload_n 0, 1) := by decide +kernel
theorem dX13_worst_6 : decode cX13_worst 6 = .ok (.getfield 179, 3) := by decide +kernel
theorem dX13_worst_9 : decode cX13_worst 9 = .ok (.iload_n 1, 1) := by decide +kernel
theorem dX13_worst_10 : decode cX13_worst 10 = .ok (.invokevirtual 281, 3) := by decide +kernel
theorem dX13_worst_13 : decode cX13_worst 13 = .ok (.istore_n 2, 1) := by decide +kernel
theorem dX13_worst_14 : decode cX13_worst 14 = .ok (.iload_n 2, 1) := by decide +kernel
theorem dX13_worst_15 : decode cX13_worst 15 = .ok (.ifCond .eq 9, 3) := by decide +kernel
theorem dX13_worst_18 : decode cX13_worst 18 = .ok (.aload_n 0, 1) := by decide +kernel
theorem dX13_worst_19 : decode cX13_worst 19 = .ok (.iload_n 2, 1) := by decide +kernel
theorem dX13_worst_20 : decode cX13_worst 20 = .ok (.invokevirtual 169, 3) := by decide +kernel
theorem dX13_worst_23 : decode cX13_worst 23 = .ok (.ireturn, 1) := by decide +kernel
theorem dX13_worst_24 : decode cX13_worst 24 = .ok (.iconst 0, 1) := by decide +kernel
theorem dX13_worst_25 : decode cX13_worst 25 = .ok (.istore_n 3, 1) := by decide +kernel
theorem dX13_worst_26 : decode cX13_worst 26 = .ok (.iconst 1, 1) := by decide +kernel
theorem dX13_worst_27 : decode cX13_worst 27 = .ok (.istore 4, 2) := by decide +kernel
theorem dX13_worst_29 : decode cX13_worst 29 = .ok (.iload 4, 2) := by decide +kernel
theorem dX13_worst_31 : decode cX13_worst 31 = .ok (.aload_n 0, 1) := by decide +kernel
theorem dX13_worst_32 : decode cX13_worst 32 = .ok (.getfield 20, 3) := by decide +kernel
theorem dX13_worst_35 : decode cX13_worst 35 = .ok (.iconst 4, 1) := by decide +kernel
theorem dX13_worst_36 : decode cX13_worst 36 = .ok (.iaload, 1) := by decide +kernel
theorem dX13_worst_37 : decode cX13_worst 37 = .ok (.if_icmp .ge 53, 3) := by decide +kernel
theorem dX13_worst_40 : decode cX13_worst 40 = .ok (.aload_n 0, 1) := by decide +kernel
theorem dX13_worst_41 : decode cX13_worst 41 = .ok (.aload_n 0, 1) := by decide +kernel
theorem dX13_worst_42 : decode cX13_worst 42 = .ok (.iload 4, 2) := by decide +kernel
theorem dX13_worst_44 : decode cX13_worst 44 = .ok (.iload_n 1, 1) := by decide +kernel
theorem dX13_worst_45 : decode cX13_worst 45 = .ok (.invokevirtual 263, 3) := by decide +kernel
theorem dX13_worst_48 : decode cX13_worst 48 = .ok (.aload_n 0, 1) := by decide +kernel
theorem dX13_worst_49 : decode cX13_worst 49 = .ok (.iload 4, 2) := by decide +kernel
theorem dX13_worst_51 : decode cX13_worst 51 = .ok (.iload_n 1, 1) := by decide +kernel
theorem dX13_worst_52 : decode cX13_worst 52 = .ok (.invokevirtual 266, 3) := by decide +kernel
theorem dX13_worst_55 : decode cX13_worst 55 = .ok (.invokevirtual 269, 3) := by decide +kernel
theorem dX13_worst_58 : decode cX13_worst 58 = .ok (.aload_n 0, 1) := by decide +kernel
theorem dX13_worst_59 : decode cX13_worst 59 = .ok (.aload_n 0, 1) := by decide +kernel
theorem dX13_worst_60 : decode cX13_worst 60 = .ok (.iload_n 3, 1) := by decide +kernel
theorem dX13_worst_61 : decode cX13_worst 61 = .ok (.iload_n 1, 1) := by decide +kernel
theorem dX13_worst_62 : decode cX13_worst 62 = .ok (.invokevirtual 263, 3) := by decide +kernel
theorem dX13_worst_65 : decode cX13_worst 65 = .ok (.aload_n 0, 1) := by decide +kernel
theorem dX13_worst_66 : decode cX13_worst 66 = .ok (.iload_n 3, 1) := by decide +kernel
theorem dX13_worst_67 : decode cX13_worst 67 = .ok (.iload_n 1, 1) := by decide +kernel
theorem dX13_worst_68 : decode cX13_worst 68 = .ok (.invokevirtual 266, 3) := by decide +kernel
theorem dX13_worst_71 : decode cX13_worst 71 = .ok (.invokevirtual 269, 3) := by decide +kernel
theorem dX13_worst_74 : decode cX13_worst 74 = .ok (.if_icmp .le 8, 3) := by decide +kernel
theorem dX13_worst_77 : decode cX13_worst 77 = .ok (.iload 4, 2) := by decide +kernel
theorem dX13_worst_79 : decode cX13_worst 79 = .ok (.goto 4, 3) := by decide +kernel
theorem dX13_worst_82 : decode cX13_worst 82 = .ok (.iload_n 3, 1) := by decide +kernel
theorem dX13_worst_83 : decode cX13_worst 83 = .ok (.istore_n 3, 1) := by decide +kernel
theorem dX13_worst_84 : decode cX13_worst 84 = .ok (.iinc 4 1, 3) := by decide +kernel
theorem dX13_worst_87 : decode cX13_worst 87 = .ok (.goto (-58), 3) := by decide +kernel
theorem dX13_worst_90 : decode cX13_worst 90 = .ok (.iload_n 3, 1) := by decide +kernel
theorem dX13_worst_91 : decode cX13_worst 91 = .ok (.ireturn, 1) := by decide +kernel
theorem dX13_isVisit_0 : decode cX13_isVisit 0 = .ok (.iload_n 1, 1) := by decide +kernel
theorem dX13_isVisit_1 : decode cX13_isVisit 1 = .ok (.aload_n 0, 1) := by decide +kernel
theorem dX13_isVisit_2 : decode cX13_isVisit 2 = .ok (.getfield 26, 3) := by decide +kernel
theorem dX13_isVisit_5 : decode cX13_isVisit 5 = .ok (.bipush 79, 2) := by decide +kernel
theorem dX13_isVisit_7 : decode cX13_isVisit 7 = .ok (.iaload, 1) := by decide +kernel
theorem dX13_isVisit_8 : decode cX13_isVisit 8 = .ok (.bipush 29, 2) := by decide +kernel
theorem dX13_isVisit_10 : decode cX13_isVisit 10 = .ok (.invokestatic 151, 3) := by decide +kernel
theorem dX13_isVisit_13 : decode cX13_isVisit 13 = .ok (.ifCond .eq 16, 3) := by decide +kernel
theorem dX13_isVisit_16 : decode cX13_isVisit 16 = .ok (.aload_n 0, 1) := by decide +kernel
theorem dX13_isVisit_17 : decode cX13_isVisit 17 = .ok (.getfield 26, 3) := by decide +kernel
theorem dX13_isVisit_20 : decode cX13_isVisit 20 = .ok (.iload_n 1, 1) := by decide +kernel
theorem dX13_isVisit_21 : decode cX13_isVisit 21 = .ok (.iaload, 1) := by decide +kernel
theorem dX13_isVisit_22 : decode cX13_isVisit 22 = .ok (.ifCond .le 7, 3) := by decide +kernel
theorem dX13_isVisit_25 : decode cX13_isVisit 25 = .ok (.iconst 1, 1) := by decide +kernel
theorem dX13_isVisit_26 : decode cX13_isVisit 26 = .ok (.goto 4, 3) := by decide +kernel
theorem dX13_isVisit_29 : decode cX13_isVisit 29 = .ok (.iconst 0, 1) := by decide +kernel
theorem dX13_isVisit_30 : decode cX13_isVisit 30 = .ok (.ireturn, 1) := by decide +kernel
theorem dX13_idle_0 : decode cX13_idle 0 = .ok (.aload_n 0, 1) := by decide +kernel
theorem dX13_idle_1 : decode cX13_idle 1 = .ok (.invokevirtual 166, 3) := by decide +kernel
theorem dX13_idle_4 : decode cX13_idle 4 = .ok (.aload_n 0, 1) := by decide +kernel
theorem dX13_idle_5 : decode cX13_idle 5 = .ok (.getfield 179, 3) := by decide +kernel
theorem dX13_idle_8 : decode cX13_idle 8 = .ok (.ifCond .ne 9, 3) := by decide +kernel
theorem dX13_idle_11 : decode cX13_idle 11 = .ok (.aload_n 0, 1) := by decide +kernel
theorem dX13_idle_12 : decode cX13_idle 12 = .ok (.iconst 1, 1) := by decide +kernel
theorem dX13_idle_13 : decode cX13_idle 13 = .ok (.invokevirtual 169, 3) := by decide +kernel
theorem dX13_idle_16 : decode cX13_idle 16 = .ok (.ireturn, 1) := by decide +kernel
theorem dX13_idle_17 : decode cX13_idle 17 = .ok (.aload_n 0, 1) := by decide +kernel
theorem dX13_idle_18 : decode cX13_idle 18 = .ok (.invokevirtual 304, 3) := by decide +kernel
theorem dX13_idle_21 : decode cX13_idle 21 = .ok (.invokestatic 298, 3) := by decide +kernel
theorem dX13_idle_24 : decode cX13_idle 24 = .ok (.istore_n 1, 1) := by decide +kernel
theorem dX13_idle_25 : decode cX13_idle 25 = .ok (.iconst 0, 1) := by decide +kernel
theorem dX13_idle_26 : decode cX13_idle 26 = .ok (.istore_n 2, 1) := by decide +kernel
theorem dX13_idle_27 : decode cX13_idle 27 = .ok (.aload_n 0, 1) := by decide +kernel
theorem dX13_idle_28 : decode cX13_idle 28 = .ok (.getfield 26, 3) := by decide +kernel
theorem dX13_idle_31 : decode cX13_idle 31 = .ok (.bipush 79, 2) := by decide +kernel
theorem dX13_idle_33 : decode cX13_idle 33 = .ok (.iaload, 1) := by decide +kernel
theorem dX13_idle_34 : decode cX13_idle 34 = .ok (.istore_n 3, 1) := by decide +kernel
theorem dX13_idle_35 : decode cX13_idle 35 = .ok (.iload_n 3, 1) := by decide +kernel
theorem dX13_idle_36 : decode cX13_idle 36 = .ok (.bipush 30, 2) := by decide +kernel
theorem dX13_idle_38 : decode cX13_idle 38 = .ok (.if_icmp .ge 61, 3) := by decide +kernel
theorem dX13_idle_41 : decode cX13_idle 41 = .ok (.aload_n 0, 1) := by decide +kernel
theorem dX13_idle_42 : decode cX13_idle 42 = .ok (.getfield 26, 3) := by decide +kernel
theorem dX13_idle_45 : decode cX13_idle 45 = .ok (.iload_n 3, 1) := by decide +kernel
theorem dX13_idle_46 : decode cX13_idle 46 = .ok (.iaload, 1) := by decide +kernel
theorem dX13_idle_47 : decode cX13_idle 47 = .ok (.istore 4, 2) := by decide +kernel
theorem dX13_idle_49 : decode cX13_idle 49 = .ok (.iload 4, 2) := by decide +kernel
theorem dX13_idle_51 : decode cX13_idle 51 = .ok (.ifCond .ne 6, 3) := by decide +kernel
theorem dX13_idle_54 : decode cX13_idle 54 = .ok (.goto 39, 3) := by decide +kernel
theorem dX13_idle_57 : decode cX13_idle 57 = .ok (.aload_n 0, 1) := by decide +kernel
theorem dX13_idle_58 : decode cX13_idle 58 = .ok (.getfield 26, 3) := by decide +kernel
theorem dX13_idle_61 : decode cX13_idle 61 = .ok (.iload_n 3, 1) := by decide +kernel
theorem dX13_idle_62 : decode cX13_idle 62 = .ok (.iconst 0, 1) := by decide +kernel
theorem dX13_idle_63 : decode cX13_idle 63 = .ok (.iastore, 1) := by decide +kernel
theorem dX13_idle_64 : decode cX13_idle 64 = .ok (.iload_n 2, 1) := by decide +kernel
theorem dX13_idle_65 : decode cX13_idle 65 = .ok (.aload_n 0, 1) := by decide +kernel
theorem dX13_idle_66 : decode cX13_idle 66 = .ok (.invokevirtual 304, 3) := by decide +kernel
theorem dX13_idle_69 : decode cX13_idle 69 = .ok (.invokestatic 298, 3) := by decide +kernel
theorem dX13_idle_72 : decode cX13_idle 72 = .ok (.iload_n 1, 1) := by decide +kernel
theorem dX13_idle_73 : decode cX13_idle 73 = .ok (.if_icmp .lt 9, 3) := by decide +kernel
theorem dX13_idle_76 : decode cX13_idle 76 = .ok (.iconst 1, 1) := by decide +kernel
theorem dX13_idle_77 : decode cX13_idle 77 = .ok (.iload_n 3, 1) := by decide +kernel
theorem dX13_idle_78 : decode cX13_idle 78 = .ok (.ishl, 1) := by decide +kernel
theorem dX13_idle_79 : decode cX13_idle 79 = .ok (.goto 4, 3) := by decide +kernel
theorem dX13_idle_82 : decode cX13_idle 82 = .ok (.iconst 0, 1) := by decide +kernel
theorem dX13_idle_83 : decode cX13_idle 83 = .ok (.ior, 1) := by decide +kernel
theorem dX13_idle_84 : decode cX13_idle 84 = .ok (.istore_n 2, 1) := by decide +kernel
theorem dX13_idle_85 : decode cX13_idle 85 = .ok (.aload_n 0, 1) := by decide +kernel
theorem dX13_idle_86 : decode cX13_idle 86 = .ok (.getfield 26, 3) := by decide +kernel
theorem dX13_idle_89 : decode cX13_idle 89 = .ok (.iload_n 3, 1) := by decide +kernel
theorem dX13_idle_90 : decode cX13_idle 90 = .ok (.iload 4, 2) := by decide +kernel
theorem dX13_idle_92 : decode cX13_idle 92 = .ok (.iastore, 1) := by decide +kernel
theorem dX13_idle_93 : decode cX13_idle 93 = .ok (.iinc 3 1, 3) := by decide +kernel
theorem dX13_idle_96 : decode cX13_idle 96 = .ok (.goto (-61), 3) := by decide +kernel
theorem dX13_idle_99 : decode cX13_idle 99 = .ok (.iload_n 2, 1) := by decide +kernel
theorem dX13_idle_100 : decode cX13_idle 100 = .ok (.ireturn, 1) := by decide +kernel
theorem dX13_heldBySwap_0 : decode cX13_heldBySwap 0 = .ok (.aload_n 0, 1) := by decide +kernel
theorem dX13_heldBySwap_1 : decode cX13_heldBySwap 1 = .ok (.getfield 26, 3) := by decide +kernel
theorem dX13_heldBySwap_4 : decode cX13_heldBySwap 4 = .ok (.iload_n 1, 1) := by decide +kernel
theorem dX13_heldBySwap_5 : decode cX13_heldBySwap 5 = .ok (.iaload, 1) := by decide +kernel
theorem dX13_heldBySwap_6 : decode cX13_heldBySwap 6 = .ok (.istore_n 3, 1) := by decide +kernel
theorem dX13_heldBySwap_7 : decode cX13_heldBySwap 7 = .ok (.aload_n 0, 1) := by decide +kernel
theorem dX13_heldBySwap_8 : decode cX13_heldBySwap 8 = .ok (.getfield 26, 3) := by decide +kernel
theorem dX13_heldBySwap_11 : decode cX13_heldBySwap 11 = .ok (.iload_n 1, 1) := by decide +kernel
theorem dX13_heldBySwap_12 : decode cX13_heldBySwap 12 = .ok (.aload_n 0, 1) := by decide +kernel
theorem dX13_heldBySwap_13 : decode cX13_heldBySwap 13 = .ok (.getfield 26, 3) := by decide +kernel
theorem dX13_heldBySwap_16 : decode cX13_heldBySwap 16 = .ok (.iload_n 2, 1) := by decide +kernel
theorem dX13_heldBySwap_17 : decode cX13_heldBySwap 17 = .ok (.iaload, 1) := by decide +kernel
theorem dX13_heldBySwap_18 : decode cX13_heldBySwap 18 = .ok (.iastore, 1) := by decide +kernel
theorem dX13_heldBySwap_19 : decode cX13_heldBySwap 19 = .ok (.aload_n 0, 1) := by decide +kernel
theorem dX13_heldBySwap_20 : decode cX13_heldBySwap 20 = .ok (.getfield 26, 3) := by decide +kernel
theorem dX13_heldBySwap_23 : decode cX13_heldBySwap 23 = .ok (.iload_n 2, 1) := by decide +kernel
theorem dX13_heldBySwap_24 : decode cX13_heldBySwap 24 = .ok (.iload_n 3, 1) := by decide +kernel
theorem dX13_heldBySwap_25 : decode cX13_heldBySwap 25 = .ok (.iastore, 1) := by decide +kernel
theorem dX13_heldBySwap_26 : decode cX13_heldBySwap 26 = .ok (.aload_n 0, 1) := by decide +kernel
theorem dX13_heldBySwap_27 : decode cX13_heldBySwap 27 = .ok (.invokevirtual 304, 3) := by decide +kernel
theorem dX13_heldBySwap_30 : decode cX13_heldBySwap 30 = .ok (.invokestatic 298, 3) := by decide +kernel
theorem dX13_heldBySwap_33 : decode cX13_heldBySwap 33 = .ok (.istore 4, 2) := by decide +kernel
theorem dX13_heldBySwap_35 : decode cX13_heldBySwap 35 = .ok (.aload_n 0, 1) := by decide +kernel
theorem dX13_heldBySwap_36 : decode cX13_heldBySwap 36 = .ok (.getfield 26, 3) := by decide +kernel
theorem dX13_heldBySwap_39 : decode cX13_heldBySwap 39 = .ok (.iload_n 2, 1) := by decide +kernel
theorem dX13_heldBySwap_40 : decode cX13_heldBySwap 40 = .ok (.aload_n 0, 1) := by decide +kernel
theorem dX13_heldBySwap_41 : decode cX13_heldBySwap 41 = .ok (.getfield 26, 3) := by decide +kernel
theorem dX13_heldBySwap_44 : decode cX13_heldBySwap 44 = .ok (.iload_n 1, 1) := by decide +kernel
theorem dX13_heldBySwap_45 : decode cX13_heldBySwap 45 = .ok (.iaload, 1) := by decide +kernel
theorem dX13_heldBySwap_46 : decode cX13_heldBySwap 46 = .ok (.iastore, 1) := by decide +kernel
theorem dX13_heldBySwap_47 : decode cX13_heldBySwap 47 = .ok (.aload_n 0, 1) := by decide +kernel
theorem dX13_heldBySwap_48 : decode cX13_heldBySwap 48 = .ok (.getfield 26, 3) := by decide +kernel
theorem dX13_heldBySwap_51 : decode cX13_heldBySwap 51 = .ok (.iload_n 1, 1) := by decide +kernel
theorem dX13_heldBySwap_52 : decode cX13_heldBySwap 52 = .ok (.iload_n 3, 1) := by decide +kernel
theorem dX13_heldBySwap_53 : decode cX13_heldBySwap 53 = .ok (.iastore, 1) := by decide +kernel
theorem dX13_heldBySwap_54 : decode cX13_heldBySwap 54 = .ok (.iload 4, 2) := by decide +kernel
theorem dX13_heldBySwap_56 : decode cX13_heldBySwap 56 = .ok (.ireturn, 1) := by decide +kernel
theorem dX13_swapped_0 : decode cX13_swapped 0 = .ok (.aload_n 0, 1) := by decide +kernel
theorem dX13_swapped_1 : decode cX13_swapped 1 = .ok (.invokevirtual 166, 3) := by decide +kernel
theorem dX13_swapped_4 : decode cX13_swapped 4 = .ok (.aload_n 0, 1) := by decide +kernel
theorem dX13_swapped_5 : decode cX13_swapped 5 = .ok (.getfield 179, 3) := by decide +kernel
theorem dX13_swapped_8 : decode cX13_swapped 8 = .ok (.ifCond .ne 9, 3) := by decide +kernel
theorem dX13_swapped_11 : decode cX13_swapped 11 = .ok (.aload_n 0, 1) := by decide +kernel
theorem dX13_swapped_12 : decode cX13_swapped 12 = .ok (.iconst 1, 1) := by decide +kernel
theorem dX13_swapped_13 : decode cX13_swapped 13 = .ok (.invokevirtual 169, 3) := by decide +kernel
theorem dX13_swapped_16 : decode cX13_swapped 16 = .ok (.ireturn, 1) := by decide +kernel
theorem dX13_swapped_17 : decode cX13_swapped 17 = .ok (.iload_n 1, 1) := by decide +kernel
theorem dX13_swapped_18 : decode cX13_swapped 18 = .ok (.invokestatic 272, 3) := by decide +kernel
theorem dX13_swapped_21 : decode cX13_swapped 21 = .ok (.ifCond .eq 10, 3) := by decide +kernel
theorem dX13_swapped_24 : decode cX13_swapped 24 = .ok (.iload_n 2, 1) := by decide +kernel
theorem dX13_swapped_25 : decode cX13_swapped 25 = .ok (.invokestatic 272, 3) := by decide +kernel
theorem dX13_swapped_28 : decode cX13_swapped 28 = .ok (.ifCond .ne 9, 3) := by decide +kernel
theorem dX13_swapped_31 : decode cX13_swapped 31 = .ok (.aload_n 0, 1) := by decide +kernel
theorem dX13_swapped_32 : decode cX13_swapped 32 = .ok (.iconst 2, 1) := by decide +kernel
theorem dX13_swapped_33 : decode cX13_swapped 33 = .ok (.invokevirtual 169, 3) := by decide +kernel
theorem dX13_swapped_36 : decode cX13_swapped 36 = .ok (.ireturn, 1) := by decide +kernel
theorem dX13_swapped_37 : decode cX13_swapped 37 = .ok (.aload_n 0, 1) := by decide +kernel
theorem dX13_swapped_38 : decode cX13_swapped 38 = .ok (.iload_n 1, 1) := by decide +kernel
theorem dX13_swapped_39 : decode cX13_swapped 39 = .ok (.invokevirtual 310, 3) := by decide +kernel
theorem dX13_swapped_42 : decode cX13_swapped 42 = .ok (.ifCond .eq 25, 3) := by decide +kernel
theorem dX13_swapped_45 : decode cX13_swapped 45 = .ok (.aload_n 0, 1) := by decide +kernel
theorem dX13_swapped_46 : decode cX13_swapped 46 = .ok (.iload_n 2, 1) := by decide +kernel
theorem dX13_swapped_47 : decode cX13_swapped 47 = .ok (.invokevirtual 310, 3) := by decide +kernel
theorem dX13_swapped_50 : decode cX13_swapped 50 = .ok (.ifCond .eq 17, 3) := by decide +kernel
theorem dX13_swapped_53 : decode cX13_swapped 53 = .ok (.iload_n 1, 1) := by decide +kernel
theorem dX13_swapped_54 : decode cX13_swapped 54 = .ok (.iload_n 2, 1) := by decide +kernel
theorem dX13_swapped_55 : decode cX13_swapped 55 = .ok (.if_icmp .eq 12, 3) := by decide +kernel
theorem dX13_swapped_58 : decode cX13_swapped 58 = .ok (.aload_n 0, 1) := by decide +kernel
theorem dX13_swapped_59 : decode cX13_swapped 59 = .ok (.iload_n 1, 1) := by decide +kernel
theorem dX13_swapped_60 : decode cX13_swapped 60 = .ok (.iload_n 2, 1) := by decide +kernel
theorem dX13_swapped_61 : decode cX13_swapped 61 = .ok (.invokevirtual 313, 3) := by decide +kernel
theorem dX13_swapped_64 : decode cX13_swapped 64 = .ok (.goto 8, 3) := by decide +kernel
theorem dX13_swapped_67 : decode cX13_swapped 67 = .ok (.aload_n 0, 1) := by decide +kernel
theorem dX13_swapped_68 : decode cX13_swapped 68 = .ok (.iconst 5, 1) := by decide +kernel
theorem dX13_swapped_69 : decode cX13_swapped 69 = .ok (.invokevirtual 169, 3) := by decide +kernel
theorem dX13_swapped_72 : decode cX13_swapped 72 = .ok (.ireturn, 1) := by decide +kernel
theorem dX13_bestSwap_0 : decode cX13_bestSwap 0 = .ok (.aload_n 0, 1) := by decide +kernel
theorem dX13_bestSwap_1 : decode cX13_bestSwap 1 = .ok (.invokevirtual 166, 3) := by decide +kernel
theorem dX13_bestSwap_4 : decode cX13_bestSwap 4 = .ok (.aload_n 0, 1) := by decide +kernel
theorem dX13_bestSwap_5 : decode cX13_bestSwap 5 = .ok (.getfield 179, 3) := by decide +kernel
theorem dX13_bestSwap_8 : decode cX13_bestSwap 8 = .ok (.ifCond .ne 9, 3) := by decide +kernel
theorem dX13_bestSwap_11 : decode cX13_bestSwap 11 = .ok (.aload_n 0, 1) := by decide +kernel
theorem dX13_bestSwap_12 : decode cX13_bestSwap 12 = .ok (.iconst 1, 1) := by decide +kernel
theorem dX13_bestSwap_13 : decode cX13_bestSwap 13 = .ok (.invokevirtual 169, 3) := by decide +kernel
theorem dX13_bestSwap_16 : decode cX13_bestSwap 16 = .ok (.ireturn, 1) := by decide +kernel
theorem dX13_bestSwap_17 : decode cX13_bestSwap 17 = .ok (.bipush (-2), 2) := by decide +kernel
theorem dX13_bestSwap_19 : decode cX13_bestSwap 19 = .ok (.istore_n 1, 1) := by decide +kernel
theorem dX13_bestSwap_20 : decode cX13_bestSwap 20 = .ok (.aload_n 0, 1) := by decide +kernel
theorem dX13_bestSwap_21 : decode cX13_bestSwap 21 = .ok (.invokevirtual 304, 3) := by decide +kernel
theorem dX13_bestSwap_24 : decode cX13_bestSwap 24 = .ok (.invokestatic 298, 3) := by decide +kernel
theorem dX13_bestSwap_27 : decode cX13_bestSwap 27 = .ok (.istore_n 2, 1) := by decide +kernel
theorem dX13_bestSwap_28 : decode cX13_bestSwap 28 = .ok (.aload_n 0, 1) := by decide +kernel
theorem dX13_bestSwap_29 : decode cX13_bestSwap 29 = .ok (.getfield 26, 3) := by decide +kernel
theorem dX13_bestSwap_32 : decode cX13_bestSwap 32 = .ok (.bipush 79, 2) := by decide +kernel
theorem dX13_bestSwap_34 : decode cX13_bestSwap 34 = .ok (.iaload, 1) := by decide +kernel
theorem dX13_bestSwap_35 : decode cX13_bestSwap 35 = .ok (.istore_n 3, 1) := by decide +kernel
theorem dX13_bestSwap_36 : decode cX13_bestSwap 36 = .ok (.iload_n 3, 1) := by decide +kernel
theorem dX13_bestSwap_37 : decode cX13_bestSwap 37 = .ok (.bipush 30, 2) := by decide +kernel
theorem dX13_bestSwap_39 : decode cX13_bestSwap 39 = .ok (.if_icmp .ge 76, 3) := by decide +kernel
theorem dX13_bestSwap_42 : decode cX13_bestSwap 42 = .ok (.iload_n 3, 1) := by decide +kernel
theorem dX13_bestSwap_43 : decode cX13_bestSwap 43 = .ok (.iconst 1, 1) := by decide +kernel
theorem dX13_bestSwap_44 : decode cX13_bestSwap 44 = .ok (.iadd, 1) := by decide +kernel
theorem dX13_bestSwap_45 : decode cX13_bestSwap 45 = .ok (.istore 4, 2) := by decide +kernel
theorem dX13_bestSwap_47 : decode cX13_bestSwap 47 = .ok (.iload 4, 2) := by decide +kernel
theorem dX13_bestSwap_49 : decode cX13_bestSwap 49 = .ok (.bipush 30, 2) := by decide +kernel
theorem dX13_bestSwap_51 : decode cX13_bestSwap 51 = .ok (.if_icmp .ge 58, 3) := by decide +kernel
theorem dX13_bestSwap_54 : decode cX13_bestSwap 54 = .ok (.aload_n 0, 1) := by decide +kernel
theorem dX13_bestSwap_55 : decode cX13_bestSwap 55 = .ok (.iload_n 3, 1) := by decide +kernel
theorem dX13_bestSwap_56 : decode cX13_bestSwap 56 = .ok (.invokevirtual 310, 3) := by decide +kernel
theorem dX13_bestSwap_59 : decode cX13_bestSwap 59 = .ok (.ifCond .eq 44, 3) := by decide +kernel
theorem dX13_bestSwap_62 : decode cX13_bestSwap 62 = .ok (.aload_n 0, 1) := by decide +kernel
theorem dX13_bestSwap_63 : decode cX13_bestSwap 63 = .ok (.iload 4, 2) := by decide +kernel
theorem dX13_bestSwap_65 : decode cX13_bestSwap 65 = .ok (.invokevirtual 310, 3) := by decide +kernel
theorem dX13_bestSwap_68 : decode cX13_bestSwap 68 = .ok (.ifCond .ne 6, 3) := by decide +kernel
theorem dX13_bestSwap_71 : decode cX13_bestSwap 71 = .ok (.goto 32, 3) := by decide +kernel
theorem dX13_bestSwap_74 : decode cX13_bestSwap 74 = .ok (.aload_n 0, 1) := by decide +kernel
theorem dX13_bestSwap_75 : decode cX13_bestSwap 75 = .ok (.iload_n 3, 1) := by decide +kernel
theorem dX13_bestSwap_76 : decode cX13_bestSwap 76 = .ok (.iload 4, 2) := by decide +kernel
theorem dX13_bestSwap_78 : decode cX13_bestSwap 78 = .ok (.invokevirtual 313, 3) := by decide +kernel
theorem dX13_bestSwap_81 : decode cX13_bestSwap 81 = .ok (.istore 5, 2) := by decide +kernel
theorem dX13_bestSwap_83 : decode cX13_bestSwap 83 = .ok (.iload 5, 2) := by decide +kernel
theorem dX13_bestSwap_85 : decode cX13_bestSwap 85 = .ok (.iload_n 2, 1) := by decide +kernel
theorem dX13_bestSwap_86 : decode cX13_bestSwap 86 = .ok (.if_icmp .gt 6, 3) := by decide +kernel
theorem dX13_bestSwap_89 : decode cX13_bestSwap 89 = .ok (.goto 14, 3) := by decide +kernel
theorem dX13_bestSwap_92 : decode cX13_bestSwap 92 = .ok (.bipush 100, 2) := by decide +kernel
theorem dX13_bestSwap_94 : decode cX13_bestSwap 94 = .ok (.iload_n 3, 1) := by decide +kernel
theorem dX13_bestSwap_95 : decode cX13_bestSwap 95 = .ok (.imul, 1) := by decide +kernel
theorem dX13_bestSwap_96 : decode cX13_bestSwap 96 = .ok (.iload 4, 2) := by decide +kernel
theorem dX13_bestSwap_98 : decode cX13_bestSwap 98 = .ok (.iadd, 1) := by decide +kernel
theorem dX13_bestSwap_99 : decode cX13_bestSwap 99 = .ok (.istore_n 1, 1) := by decide +kernel
theorem dX13_bestSwap_100 : decode cX13_bestSwap 100 = .ok (.iload 5, 2) := by decide +kernel
theorem dX13_bestSwap_102 : decode cX13_bestSwap 102 = .ok (.istore_n 2, 1) := by decide +kernel
theorem dX13_bestSwap_103 : decode cX13_bestSwap 103 = .ok (.iinc 4 1, 3) := by decide +kernel
theorem dX13_bestSwap_106 : decode cX13_bestSwap 106 = .ok (.goto (-59), 3) := by decide +kernel
theorem dX13_bestSwap_109 : decode cX13_bestSwap 109 = .ok (.iinc 3 1, 3) := by decide +kernel
theorem dX13_bestSwap_112 : decode cX13_bestSwap 112 = .ok (.goto (-76), 3) := by decide +kernel
theorem dX13_bestSwap_115 : decode cX13_bestSwap 115 = .ok (.iload_n 1, 1) := by decide +kernel
theorem dX13_bestSwap_116 : decode cX13_bestSwap 116 = .ok (.ireturn, 1) := by decide +kernel
theorem dX13_isOpen_0 : decode cX13_isOpen 0 = .ok (.iload_n 1, 1) := by decide +kernel
theorem dX13_isOpen_1 : decode cX13_isOpen 1 = .ok (.aload_n 0, 1) := by decide +kernel
theorem dX13_isOpen_2 : decode cX13_isOpen 2 = .ok (.getfield 26, 3) := by decide +kernel
theorem dX13_isOpen_5 : decode cX13_isOpen 5 = .ok (.bipush 79, 2) := by decide +kernel
theorem dX13_isOpen_7 : decode cX13_isOpen 7 = .ok (.iaload, 1) := by decide +kernel
theorem dX13_isOpen_8 : decode cX13_isOpen 8 = .ok (.if_icmp .lt 24, 3) := by decide +kernel
theorem dX13_isOpen_11 : decode cX13_isOpen 11 = .ok (.aload_n 0, 1) := by decide +kernel
theorem dX13_isOpen_12 : decode cX13_isOpen 12 = .ok (.iload_n 1, 1) := by decide +kernel
theorem dX13_isOpen_13 : decode cX13_isOpen 13 = .ok (.invokevirtual 288, 3) := by decide +kernel
theorem dX13_isOpen_16 : decode cX13_isOpen 16 = .ok (.ifCond .ne 16, 3) := by decide +kernel
theorem dX13_isOpen_19 : decode cX13_isOpen 19 = .ok (.aload_n 0, 1) := by decide +kernel
theorem dX13_isOpen_20 : decode cX13_isOpen 20 = .ok (.getfield 26, 3) := by decide +kernel
theorem dX13_isOpen_23 : decode cX13_isOpen 23 = .ok (.iload_n 1, 1) := by decide +kernel
theorem dX13_isOpen_24 : decode cX13_isOpen 24 = .ok (.iaload, 1) := by decide +kernel
theorem dX13_isOpen_25 : decode cX13_isOpen 25 = .ok (.ifCond .ne 7, 3) := by decide +kernel
theorem dX13_isOpen_28 : decode cX13_isOpen 28 = .ok (.iconst 1, 1) := by decide +kernel
theorem dX13_isOpen_29 : decode cX13_isOpen 29 = .ok (.goto 4, 3) := by decide +kernel
theorem dX13_isOpen_32 : decode cX13_isOpen 32 = .ok (.iconst 0, 1) := by decide +kernel
theorem dX13_isOpen_33 : decode cX13_isOpen 33 = .ok (.ireturn, 1) := by decide +kernel
theorem dX13_bestDay_0 : decode cX13_bestDay 0 = .ok (.aload_n 0, 1) := by decide +kernel
theorem dX13_bestDay_1 : decode cX13_bestDay 1 = .ok (.invokevirtual 166, 3) := by decide +kernel
theorem dX13_bestDay_4 : decode cX13_bestDay 4 = .ok (.aload_n 0, 1) := by decide +kernel
theorem dX13_bestDay_5 : decode cX13_bestDay 5 = .ok (.iload_n 1, 1) := by decide +kernel
theorem dX13_bestDay_6 : decode cX13_bestDay 6 = .ok (.invokevirtual 275, 3) := by decide +kernel
theorem dX13_bestDay_9 : decode cX13_bestDay 9 = .ok (.ifCond .ne 9, 3) := by decide +kernel
theorem dX13_bestDay_12 : decode cX13_bestDay 12 = .ok (.aload_n 0, 1) := by decide +kernel
theorem dX13_bestDay_13 : decode cX13_bestDay 13 = .ok (.iconst 1, 1) := by decide +kernel
theorem dX13_bestDay_14 : decode cX13_bestDay 14 = .ok (.invokevirtual 169, 3) := by decide +kernel
theorem dX13_bestDay_17 : decode cX13_bestDay 17 = .ok (.ireturn, 1) := by decide +kernel
theorem dX13_bestDay_18 : decode cX13_bestDay 18 = .ok (.bipush (-2), 2) := by decide +kernel
theorem dX13_bestDay_20 : decode cX13_bestDay 20 = .ok (.istore_n 2, 1) := by decide +kernel
theorem dX13_bestDay_21 : decode cX13_bestDay 21 = .ok (.iconst (-1), 1) := by decide +kernel
theorem dX13_bestDay_22 : decode cX13_bestDay 22 = .ok (.istore_n 3, 1) := by decide +kernel
theorem dX13_bestDay_23 : decode cX13_bestDay 23 = .ok (.iconst 0, 1) := by decide +kernel
theorem dX13_bestDay_24 : decode cX13_bestDay 24 = .ok (.istore 4, 2) := by decide +kernel
theorem dX13_bestDay_26 : decode cX13_bestDay 26 = .ok (.iload 4, 2) := by decide +kernel
theorem dX13_bestDay_28 : decode cX13_bestDay 28 = .ok (.bipush 30, 2) := by decide +kernel
theorem dX13_bestDay_30 : decode cX13_bestDay 30 = .ok (.if_icmp .ge 63, 3) := by decide +kernel
theorem dX13_bestDay_33 : decode cX13_bestDay 33 = .ok (.aload_n 0, 1) := by decide +kernel
theorem dX13_bestDay_34 : decode cX13_bestDay 34 = .ok (.iload 4, 2) := by decide +kernel
theorem dX13_bestDay_36 : decode cX13_bestDay 36 = .ok (.invokevirtual 316, 3) := by decide +kernel
theorem dX13_bestDay_39 : decode cX13_bestDay 39 = .ok (.ifCond .ne 6, 3) := by decide +kernel
theorem dX13_bestDay_42 : decode cX13_bestDay 42 = .ok (.goto 45, 3) := by decide +kernel
theorem dX13_bestDay_45 : decode cX13_bestDay 45 = .ok (.aload_n 0, 1) := by decide +kernel
theorem dX13_bestDay_46 : decode cX13_bestDay 46 = .ok (.getfield 26, 3) := by decide +kernel
theorem dX13_bestDay_49 : decode cX13_bestDay 49 = .ok (.iload 4, 2) := by decide +kernel
theorem dX13_bestDay_51 : decode cX13_bestDay 51 = .ok (.iload_n 1, 1) := by decide +kernel
theorem dX13_bestDay_52 : decode cX13_bestDay 52 = .ok (.iconst 1, 1) := by decide +kernel
theorem dX13_bestDay_53 : decode cX13_bestDay 53 = .ok (.iadd, 1) := by decide +kernel
theorem dX13_bestDay_54 : decode cX13_bestDay 54 = .ok (.iastore, 1) := by decide +kernel
theorem dX13_bestDay_55 : decode cX13_bestDay 55 = .ok (.aload_n 0, 1) := by decide +kernel
theorem dX13_bestDay_56 : decode cX13_bestDay 56 = .ok (.invokevirtual 304, 3) := by decide +kernel
theorem dX13_bestDay_59 : decode cX13_bestDay 59 = .ok (.invokestatic 298, 3) := by decide +kernel
theorem dX13_bestDay_62 : decode cX13_bestDay 62 = .ok (.istore 5, 2) := by decide +kernel
theorem dX13_bestDay_64 : decode cX13_bestDay 64 = .ok (.aload_n 0, 1) := by decide +kernel
theorem dX13_bestDay_65 : decode cX13_bestDay 65 = .ok (.getfield 26, 3) := by decide +kernel
theorem dX13_bestDay_68 : decode cX13_bestDay 68 = .ok (.iload 4, 2) := by decide +kernel
theorem dX13_bestDay_70 : decode cX13_bestDay 70 = .ok (.iconst 0, 1) := by decide +kernel
theorem dX13_bestDay_71 : decode cX13_bestDay 71 = .ok (.iastore, 1) := by decide +kernel
theorem dX13_bestDay_72 : decode cX13_bestDay 72 = .ok (.iload 5, 2) := by decide +kernel
theorem dX13_bestDay_74 : decode cX13_bestDay 74 = .ok (.iload_n 3, 1) := by decide +kernel
theorem dX13_bestDay_75 : decode cX13_bestDay 75 = .ok (.if_icmp .gt 6, 3) := by decide +kernel
theorem dX13_bestDay_78 : decode cX13_bestDay 78 = .ok (.goto 9, 3) := by decide +kernel
theorem dX13_bestDay_81 : decode cX13_bestDay 81 = .ok (.iload 4, 2) := by decide +kernel
theorem dX13_bestDay_83 : decode cX13_bestDay 83 = .ok (.istore_n 2, 1) := by decide +kernel
theorem dX13_bestDay_84 : decode cX13_bestDay 84 = .ok (.iload 5, 2) := by decide +kernel
theorem dX13_bestDay_86 : decode cX13_bestDay 86 = .ok (.istore_n 3, 1) := by decide +kernel
theorem dX13_bestDay_87 : decode cX13_bestDay 87 = .ok (.iinc 4 1, 3) := by decide +kernel
theorem dX13_bestDay_90 : decode cX13_bestDay 90 = .ok (.goto (-64), 3) := by decide +kernel
theorem dX13_bestDay_93 : decode cX13_bestDay 93 = .ok (.iload_n 2, 1) := by decide +kernel
theorem dX13_bestDay_94 : decode cX13_bestDay 94 = .ok (.ireturn, 1) := by decide +kernel
theorem dX13_unmet_0 : decode cX13_unmet 0 = .ok (.iconst 0, 1) := by decide +kernel
theorem dX13_unmet_1 : decode cX13_unmet 1 = .ok (.istore_n 1, 1) := by decide +kernel
theorem dX13_unmet_2 : decode cX13_unmet 2 = .ok (.iconst 0, 1) := by decide +kernel
theorem dX13_unmet_3 : decode cX13_unmet 3 = .ok (.istore_n 2, 1) := by decide +kernel
theorem dX13_unmet_4 : decode cX13_unmet 4 = .ok (.iload_n 2, 1) := by decide +kernel
theorem dX13_unmet_5 : decode cX13_unmet 5 = .ok (.aload_n 0, 1) := by decide +kernel
theorem dX13_unmet_6 : decode cX13_unmet 6 = .ok (.getfield 20, 3) := by decide +kernel
theorem dX13_unmet_9 : decode cX13_unmet 9 = .ok (.bipush 7, 2) := by decide +kernel
theorem dX13_unmet_11 : decode cX13_unmet 11 = .ok (.iaload, 1) := by decide +kernel
theorem dX13_unmet_12 : decode cX13_unmet 12 = .ok (.if_icmp .ge 37, 3) := by decide +kernel
theorem dX13_unmet_15 : decode cX13_unmet 15 = .ok (.iload_n 1, 1) := by decide +kernel
theorem dX13_unmet_16 : decode cX13_unmet 16 = .ok (.aload_n 0, 1) := by decide +kernel
theorem dX13_unmet_17 : decode cX13_unmet 17 = .ok (.iload_n 2, 1) := by decide +kernel
theorem dX13_unmet_18 : decode cX13_unmet 18 = .ok (.invokevirtual 301, 3) := by decide +kernel
theorem dX13_unmet_21 : decode cX13_unmet 21 = .ok (.ifCond .eq 7, 3) := by decide +kernel
theorem dX13_unmet_24 : decode cX13_unmet 24 = .ok (.iconst 0, 1) := by decide +kernel
theorem dX13_unmet_25 : decode cX13_unmet 25 = .ok (.goto 16, 3) := by decide +kernel
theorem dX13_unmet_28 : decode cX13_unmet 28 = .ok (.iconst 1, 1) := by decide +kernel
theorem dX13_unmet_29 : decode cX13_unmet 29 = .ok (.aload_n 0, 1) := by decide +kernel
theorem dX13_unmet_30 : decode cX13_unmet 30 = .ok (.getfield 20, 3) := by decide +kernel
theorem dX13_unmet_33 : decode cX13_unmet 33 = .ok (.bipush 90, 2) := by decide +kernel
theorem dX13_unmet_35 : decode cX13_unmet 35 = .ok (.iconst 2, 1) := by decide +kernel
theorem dX13_unmet_36 : decode cX13_unmet 36 = .ok (.iload_n 2, 1) := by decide +kernel
theorem dX13_unmet_37 : decode cX13_unmet 37 = .ok (.imul, 1) := by decide +kernel
theorem dX13_unmet_38 : decode cX13_unmet 38 = .ok (.iadd, 1) := by decide +kernel
theorem dX13_unmet_39 : decode cX13_unmet 39 = .ok (.iaload, 1) := by decide +kernel
theorem dX13_unmet_40 : decode cX13_unmet 40 = .ok (.ishl, 1) := by decide +kernel
theorem dX13_unmet_41 : decode cX13_unmet 41 = .ok (.ior, 1) := by decide +kernel
theorem dX13_unmet_42 : decode cX13_unmet 42 = .ok (.istore_n 1, 1) := by decide +kernel
theorem dX13_unmet_43 : decode cX13_unmet 43 = .ok (.iinc 2 1, 3) := by decide +kernel
theorem dX13_unmet_46 : decode cX13_unmet 46 = .ok (.goto (-42), 3) := by decide +kernel
theorem dX13_unmet_49 : decode cX13_unmet 49 = .ok (.iload_n 1, 1) := by decide +kernel
theorem dX13_unmet_50 : decode cX13_unmet 50 = .ok (.ireturn, 1) := by decide +kernel
theorem dX13_tryVisits_0 : decode cX13_tryVisits 0 = .ok (.aload_n 0, 1) := by decide +kernel
theorem dX13_tryVisits_1 : decode cX13_tryVisits 1 = .ok (.invokevirtual 319, 3) := by decide +kernel
theorem dX13_tryVisits_4 : decode cX13_tryVisits 4 = .ok (.istore 5, 2) := by decide +kernel
theorem dX13_tryVisits_6 : decode cX13_tryVisits 6 = .ok (.iload 5, 2) := by decide +kernel
theorem dX13_tryVisits_8 : decode cX13_tryVisits 8 = .ok (.ifCond .ne 10, 3) := by decide +kernel
theorem dX13_tryVisits_11 : decode cX13_tryVisits 11 = .ok (.iload_n 1, 1) := by decide +kernel
theorem dX13_tryVisits_12 : decode cX13_tryVisits 12 = .ok (.iload_n 2, 1) := by decide +kernel
theorem dX13_tryVisits_13 : decode cX13_tryVisits 13 = .ok (.if_icmp .ne 5, 3) := by decide +kernel
theorem dX13_tryVisits_16 : decode cX13_tryVisits 16 = .ok (.iconst 1, 1) := by decide +kernel
theorem dX13_tryVisits_17 : decode cX13_tryVisits 17 = .ok (.ireturn, 1) := by decide +kernel
theorem dX13_tryVisits_18 : decode cX13_tryVisits 18 = .ok (.iload_n 2, 1) := by decide +kernel
theorem dX13_tryVisits_19 : decode cX13_tryVisits 19 = .ok (.iload_n 1, 1) := by decide +kernel
theorem dX13_tryVisits_20 : decode cX13_tryVisits 20 = .ok (.isub, 1) := by decide +kernel
theorem dX13_tryVisits_21 : decode cX13_tryVisits 21 = .ok (.iload 5, 2) := by decide +kernel
theorem dX13_tryVisits_23 : decode cX13_tryVisits 23 = .ok (.invokestatic 298, 3) := by decide +kernel
theorem dX13_tryVisits_26 : decode cX13_tryVisits 26 = .ok (.if_icmp .lt 8, 3) := by decide +kernel
theorem dX13_tryVisits_29 : decode cX13_tryVisits 29 = .ok (.iload_n 1, 1) := by decide +kernel
theorem dX13_tryVisits_30 : decode cX13_tryVisits 30 = .ok (.iload_n 2, 1) := by decide +kernel
theorem dX13_tryVisits_31 : decode cX13_tryVisits 31 = .ok (.if_icmp .ne 5, 3) := by decide +kernel
theorem dX13_tryVisits_34 : decode cX13_tryVisits 34 = .ok (.iconst 0, 1) := by decide +kernel
theorem dX13_tryVisits_35 : decode cX13_tryVisits 35 = .ok (.ireturn, 1) := by decide +kernel
theorem dX13_tryVisits_36 : decode cX13_tryVisits 36 = .ok (.iload_n 3, 1) := by decide +kernel
theorem dX13_tryVisits_37 : decode cX13_tryVisits 37 = .ok (.istore 6, 2) := by decide +kernel
theorem dX13_tryVisits_39 : decode cX13_tryVisits 39 = .ok (.iload 6, 2) := by decide +kernel
theorem dX13_tryVisits_41 : decode cX13_tryVisits 41 = .ok (.sipush 300, 3) := by decide +kernel
theorem dX13_tryVisits_44 : decode cX13_tryVisits 44 = .ok (.if_icmp .ge 98, 3) := by decide +kernel
theorem dX13_tryVisits_47 : decode cX13_tryVisits 47 = .ok (.iload 6, 2) := by decide +kernel
theorem dX13_tryVisits_49 : decode cX13_tryVisits 49 = .ok (.bipush 10, 2) := by decide +kernel
theorem dX13_tryVisits_51 : decode cX13_tryVisits 51 = .ok (.idiv, 1) := by decide +kernel
theorem dX13_tryVisits_52 : decode cX13_tryVisits 52 = .ok (.istore 7, 2) := by decide +kernel
theorem dX13_tryVisits_54 : decode cX13_tryVisits 54 = .ok (.iload 6, 2) := by decide +kernel
theorem dX13_tryVisits_56 : decode cX13_tryVisits 56 = .ok (.bipush 10, 2) := by decide +kernel
theorem dX13_tryVisits_58 : decode cX13_tryVisits 58 = .ok (.irem, 1) := by decide +kernel
theorem dX13_tryVisits_59 : decode cX13_tryVisits 59 = .ok (.istore 8, 2) := by decide +kernel
theorem dX13_tryVisits_61 : decode cX13_tryVisits 61 = .ok (.iload 4, 2) := by decide +kernel
theorem dX13_tryVisits_63 : decode cX13_tryVisits 63 = .ok (.iload 8, 2) := by decide +kernel
theorem dX13_tryVisits_65 : decode cX13_tryVisits 65 = .ok (.invokestatic 307, 3) := by decide +kernel
theorem dX13_tryVisits_68 : decode cX13_tryVisits 68 = .ok (.ifCond .eq 68, 3) := by decide +kernel
theorem dX13_tryVisits_71 : decode cX13_tryVisits 71 = .ok (.aload_n 0, 1) := by decide +kernel
theorem dX13_tryVisits_72 : decode cX13_tryVisits 72 = .ok (.iload 7, 2) := by decide +kernel
theorem dX13_tryVisits_74 : decode cX13_tryVisits 74 = .ok (.invokevirtual 316, 3) := by decide +kernel
theorem dX13_tryVisits_77 : decode cX13_tryVisits 77 = .ok (.ifCond .ne 6, 3) := by decide +kernel
theorem dX13_tryVisits_80 : decode cX13_tryVisits 80 = .ok (.goto 56, 3) := by decide +kernel
theorem dX13_tryVisits_83 : decode cX13_tryVisits 83 = .ok (.aload_n 0, 1) := by decide +kernel
theorem dX13_tryVisits_84 : decode cX13_tryVisits 84 = .ok (.getfield 26, 3) := by decide +kernel
theorem dX13_tryVisits_87 : decode cX13_tryVisits 87 = .ok (.iload 7, 2) := by decide +kernel
theorem dX13_tryVisits_89 : decode cX13_tryVisits 89 = .ok (.iload 8, 2) := by decide +kernel
theorem dX13_tryVisits_91 : decode cX13_tryVisits 91 = .ok (.iconst 1, 1) := by decide +kernel
theorem dX13_tryVisits_92 : decode cX13_tryVisits 92 = .ok (.iadd, 1) := by decide +kernel
theorem dX13_tryVisits_93 : decode cX13_tryVisits 93 = .ok (.iastore, 1) := by decide +kernel
theorem dX13_tryVisits_94 : decode cX13_tryVisits 94 = .ok (.aload_n 0, 1) := by decide +kernel
theorem dX13_tryVisits_95 : decode cX13_tryVisits 95 = .ok (.getfield 41, 3) := by decide +kernel
theorem dX13_tryVisits_98 : decode cX13_tryVisits 98 = .ok (.iload_n 1, 1) := by decide +kernel
theorem dX13_tryVisits_99 : decode cX13_tryVisits 99 = .ok (.iload 6, 2) := by decide +kernel
theorem dX13_tryVisits_101 : decode cX13_tryVisits 101 = .ok (.iastore, 1) := by decide +kernel
theorem dX13_tryVisits_102 : decode cX13_tryVisits 102 = .ok (.aload_n 0, 1) := by decide +kernel
theorem dX13_tryVisits_103 : decode cX13_tryVisits 103 = .ok (.iload_n 1, 1) := by decide +kernel
theorem dX13_tryVisits_104 : decode cX13_tryVisits 104 = .ok (.iconst 1, 1) := by decide +kernel
theorem dX13_tryVisits_105 : decode cX13_tryVisits 105 = .ok (.iadd, 1) := by decide +kernel
theorem dX13_tryVisits_106 : decode cX13_tryVisits 106 = .ok (.iload_n 2, 1) := by decide +kernel
theorem dX13_tryVisits_107 : decode cX13_tryVisits 107 = .ok (.bipush 10, 2) := by decide +kernel
theorem dX13_tryVisits_109 : decode cX13_tryVisits 109 = .ok (.iload 7, 2) := by decide +kernel
theorem dX13_tryVisits_111 : decode cX13_tryVisits 111 = .ok (.iconst 1, 1) := by decide +kernel
theorem dX13_tryVisits_112 : decode cX13_tryVisits 112 = .ok (.iadd, 1) := by decide +kernel
theorem dX13_tryVisits_113 : decode cX13_tryVisits 113 = .ok (.imul, 1) := by decide +kernel
theorem dX13_tryVisits_114 : decode cX13_tryVisits 114 = .ok (.iload 4, 2) := by decide +kernel
theorem dX13_tryVisits_116 : decode cX13_tryVisits 116 = .ok (.invokevirtual 322, 3) := by decide +kernel
theorem dX13_tryVisits_119 : decode cX13_tryVisits 119 = .ok (.istore 9, 2) := by decide +kernel
theorem dX13_tryVisits_121 : decode cX13_tryVisits 121 = .ok (.aload_n 0, 1) := by decide +kernel
theorem dX13_tryVisits_122 : decode cX13_tryVisits 122 = .ok (.getfield 26, 3) := by decide +kernel
theorem dX13_tryVisits_125 : decode cX13_tryVisits 125 = .ok (.iload 7, 2) := by decide +kernel
theorem dX13_tryVisits_127 : decode cX13_tryVisits 127 = .ok (.iconst 0, 1) := by decide +kernel
theorem dX13_tryVisits_128 : decode cX13_tryVisits 128 = .ok (.iastore, 1) := by decide +kernel
theorem dX13_tryVisits_129 : decode cX13_tryVisits 129 = .ok (.iload 9, 2) := by decide +kernel
theorem dX13_tryVisits_131 : decode cX13_tryVisits 131 = .ok (.ifCond .eq 5, 3) := by decide +kernel
theorem dX13_tryVisits_134 : decode cX13_tryVisits 134 = .ok (.iconst 1, 1) := by decide +kernel
theorem dX13_tryVisits_135 : decode cX13_tryVisits 135 = .ok (.ireturn, 1) := by decide +kernel
theorem dX13_tryVisits_136 : decode cX13_tryVisits 136 = .ok (.iinc 6 1, 3) := by decide +kernel
theorem dX13_tryVisits_139 : decode cX13_tryVisits 139 = .ok (.goto (-100), 3) := by decide +kernel
theorem dX13_tryVisits_142 : decode cX13_tryVisits 142 = .ok (.iconst 0, 1) := by decide +kernel
theorem dX13_tryVisits_143 : decode cX13_tryVisits 143 = .ok (.ireturn, 1) := by decide +kernel
theorem dX13_seekVisits_0 : decode cX13_seekVisits 0 = .ok (.aload_n 0, 1) := by decide +kernel
theorem dX13_seekVisits_1 : decode cX13_seekVisits 1 = .ok (.invokevirtual 319, 3) := by decide +kernel
theorem dX13_seekVisits_4 : decode cX13_seekVisits 4 = .ok (.istore_n 1, 1) := by decide +kernel
theorem dX13_seekVisits_5 : decode cX13_seekVisits 5 = .ok (.iconst 0, 1) := by decide +kernel
theorem dX13_seekVisits_6 : decode cX13_seekVisits 6 = .ok (.istore_n 2, 1) := by decide +kernel
theorem dX13_seekVisits_7 : decode cX13_seekVisits 7 = .ok (.iload_n 2, 1) := by decide +kernel
theorem dX13_seekVisits_8 : decode cX13_seekVisits 8 = .ok (.iconst 3, 1) := by decide +kernel
theorem dX13_seekVisits_9 : decode cX13_seekVisits 9 = .ok (.if_icmp .gt 39, 3) := by decide +kernel
theorem dX13_seekVisits_12 : decode cX13_seekVisits 12 = .ok (.aload_n 0, 1) := by decide +kernel
theorem dX13_seekVisits_13 : decode cX13_seekVisits 13 = .ok (.iconst 0, 1) := by decide +kernel
theorem dX13_seekVisits_14 : decode cX13_seekVisits 14 = .ok (.iload_n 2, 1) := by decide +kernel
theorem dX13_seekVisits_15 : decode cX13_seekVisits 15 = .ok (.iconst 0, 1) := by decide +kernel
theorem dX13_seekVisits_16 : decode cX13_seekVisits 16 = .ok (.iload_n 1, 1) := by decide +kernel
theorem dX13_seekVisits_17 : decode cX13_seekVisits 17 = .ok (.invokevirtual 322, 3) := by decide +kernel
theorem dX13_seekVisits_20 : decode cX13_seekVisits 20 = .ok (.ifCond .ne 6, 3) := by decide +kernel
theorem dX13_seekVisits_23 : decode cX13_seekVisits 23 = .ok (.goto 19, 3) := by decide +kernel
theorem dX13_seekVisits_26 : decode cX13_seekVisits 26 = .ok (.aload_n 0, 1) := by decide +kernel
theorem dX13_seekVisits_27 : decode cX13_seekVisits 27 = .ok (.getfield 41, 3) := by decide +kernel
theorem dX13_seekVisits_30 : decode cX13_seekVisits 30 = .ok (.iconst 0, 1) := by decide +kernel
theorem dX13_seekVisits_31 : decode cX13_seekVisits 31 = .ok (.aload_n 0, 1) := by decide +kernel
theorem dX13_seekVisits_32 : decode cX13_seekVisits 32 = .ok (.getfield 44, 3) := by decide +kernel
theorem dX13_seekVisits_35 : decode cX13_seekVisits 35 = .ok (.iconst 0, 1) := by decide +kernel
theorem dX13_seekVisits_36 : decode cX13_seekVisits 36 = .ok (.iload_n 2, 1) := by decide +kernel
theorem dX13_seekVisits_37 : decode cX13_seekVisits 37 = .ok (.invokestatic 175, 3) := by decide +kernel
theorem dX13_seekVisits_40 : decode cX13_seekVisits 40 = .ok (.iload_n 2, 1) := by decide +kernel
theorem dX13_seekVisits_41 : decode cX13_seekVisits 41 = .ok (.ireturn, 1) := by decide +kernel
theorem dX13_seekVisits_42 : decode cX13_seekVisits 42 = .ok (.iinc 2 1, 3) := by decide +kernel
theorem dX13_seekVisits_45 : decode cX13_seekVisits 45 = .ok (.goto (-38), 3) := by decide +kernel
theorem dX13_seekVisits_48 : decode cX13_seekVisits 48 = .ok (.bipush (-2), 2) := by decide +kernel
theorem dX13_seekVisits_50 : decode cX13_seekVisits 50 = .ok (.ireturn, 1) := by decide +kernel
theorem dX13_fewest_0 : decode cX13_fewest 0 = .ok (.aload_n 0, 1) := by decide +kernel
theorem dX13_fewest_1 : decode cX13_fewest 1 = .ok (.invokevirtual 166, 3) := by decide +kernel
theorem dX13_fewest_4 : decode cX13_fewest 4 = .ok (.aload_n 0, 1) := by decide +kernel
theorem dX13_fewest_5 : decode cX13_fewest 5 = .ok (.getfield 179, 3) := by decide +kernel
theorem dX13_fewest_8 : decode cX13_fewest 8 = .ok (.ifCond .eq 10, 3) := by decide +kernel
theorem dX13_fewest_11 : decode cX13_fewest 11 = .ok (.aload_n 0, 1) := by decide +kernel
theorem dX13_fewest_12 : decode cX13_fewest 12 = .ok (.invokevirtual 326, 3) := by decide +kernel
theorem dX13_fewest_15 : decode cX13_fewest 15 = .ok (.goto 8, 3) := by decide +kernel
theorem dX13_fewest_18 : decode cX13_fewest 18 = .ok (.aload_n 0, 1) := by decide +kernel
theorem dX13_fewest_19 : decode cX13_fewest 19 = .ok (.iconst 1, 1) := by decide +kernel
theorem dX13_fewest_20 : decode cX13_fewest 20 = .ok (.invokevirtual 169, 3) := by decide +kernel
theorem dX13_fewest_23 : decode cX13_fewest 23 = .ok (.ireturn, 1) := by decide +kernel
theorem dX13_fewestAt_0 : decode cX13_fewestAt 0 = .ok (.aload_n 0, 1) := by decide +kernel
theorem dX13_fewestAt_1 : decode cX13_fewestAt 1 = .ok (.invokevirtual 166, 3) := by decide +kernel
theorem dX13_fewestAt_4 : decode cX13_fewestAt 4 = .ok (.aload_n 0, 1) := by decide +kernel
theorem dX13_fewestAt_5 : decode cX13_fewestAt 5 = .ok (.getfield 179, 3) := by decide +kernel
theorem dX13_fewestAt_8 : decode cX13_fewestAt 8 = .ok (.ifCond .ne 9, 3) := by decide +kernel
theorem dX13_fewestAt_11 : decode cX13_fewestAt 11 = .ok (.aload_n 0, 1) := by decide +kernel
theorem dX13_fewestAt_12 : decode cX13_fewestAt 12 = .ok (.iconst 1, 1) := by decide +kernel
theorem dX13_fewestAt_13 : decode cX13_fewestAt 13 = .ok (.invokevirtual 169, 3) := by decide +kernel
theorem dX13_fewestAt_16 : decode cX13_fewestAt 16 = .ok (.ireturn, 1) := by decide +kernel
theorem dX13_fewestAt_17 : decode cX13_fewestAt 17 = .ok (.aload_n 0, 1) := by decide +kernel
theorem dX13_fewestAt_18 : decode cX13_fewestAt 18 = .ok (.invokevirtual 326, 3) := by decide +kernel
theorem dX13_fewestAt_21 : decode cX13_fewestAt 21 = .ok (.istore_n 2, 1) := by decide +kernel
theorem dX13_fewestAt_22 : decode cX13_fewestAt 22 = .ok (.iload_n 2, 1) := by decide +kernel
theorem dX13_fewestAt_23 : decode cX13_fewestAt 23 = .ok (.ifCond .ge 10, 3) := by decide +kernel
theorem dX13_fewestAt_26 : decode cX13_fewestAt 26 = .ok (.aload_n 0, 1) := by decide +kernel
theorem dX13_fewestAt_27 : decode cX13_fewestAt 27 = .ok (.bipush 6, 2) := by decide +kernel
theorem dX13_fewestAt_29 : decode cX13_fewestAt 29 = .ok (.invokevirtual 169, 3) := by decide +kernel
theorem dX13_fewestAt_32 : decode cX13_fewestAt 32 = .ok (.ireturn, 1) := by decide +kernel
theorem dX13_fewestAt_33 : decode cX13_fewestAt 33 = .ok (.iload_n 1, 1) := by decide +kernel
theorem dX13_fewestAt_34 : decode cX13_fewestAt 34 = .ok (.iconst 0, 1) := by decide +kernel
theorem dX13_fewestAt_35 : decode cX13_fewestAt 35 = .ok (.iload_n 2, 1) := by decide +kernel
theorem dX13_fewestAt_36 : decode cX13_fewestAt 36 = .ok (.iconst 1, 1) := by decide +kernel
theorem dX13_fewestAt_37 : decode cX13_fewestAt 37 = .ok (.isub, 1) := by decide +kernel
theorem dX13_fewestAt_38 : decode cX13_fewestAt 38 = .ok (.invokestatic 151, 3) := by decide +kernel
theorem dX13_fewestAt_41 : decode cX13_fewestAt 41 = .ok (.ifCond .eq 12, 3) := by decide +kernel
theorem dX13_fewestAt_44 : decode cX13_fewestAt 44 = .ok (.aload_n 0, 1) := by decide +kernel
theorem dX13_fewestAt_45 : decode cX13_fewestAt 45 = .ok (.getfield 44, 3) := by decide +kernel
theorem dX13_fewestAt_48 : decode cX13_fewestAt 48 = .ok (.iload_n 1, 1) := by decide +kernel
theorem dX13_fewestAt_49 : decode cX13_fewestAt 49 = .ok (.iaload, 1) := by decide +kernel
theorem dX13_fewestAt_50 : decode cX13_fewestAt 50 = .ok (.goto 8, 3) := by decide +kernel
theorem dX13_fewestAt_53 : decode cX13_fewestAt 53 = .ok (.aload_n 0, 1) := by decide +kernel
theorem dX13_fewestAt_54 : decode cX13_fewestAt 54 = .ok (.iconst 1, 1) := by decide +kernel
theorem dX13_fewestAt_55 : decode cX13_fewestAt 55 = .ok (.invokevirtual 169, 3) := by decide +kernel
theorem dX13_fewestAt_58 : decode cX13_fewestAt 58 = .ok (.ireturn, 1) := by decide +kernel
theorem dX13_layRings_0 : decode cX13_layRings 0 = .ok (.aload_n 0, 1) := by decide +kernel
theorem dX13_layRings_1 : decode cX13_layRings 1 = .ok (.iconst 0, 1) := by decide +kernel
theorem dX13_layRings_2 : decode cX13_layRings 2 = .ok (.putfield 329, 3) := by decide +kernel
theorem dX13_layRings_5 : decode cX13_layRings 5 = .ok (.iconst 0, 1) := by decide +kernel
theorem dX13_layRings_6 : decode cX13_layRings 6 = .ok (.istore_n 1, 1) := by decide +kernel
theorem dX13_layRings_7 : decode cX13_layRings 7 = .ok (.iload_n 1, 1) := by decide +kernel
theorem dX13_layRings_8 : decode cX13_layRings 8 = .ok (.aload_n 0, 1) := by decide +kernel
theorem dX13_layRings_9 : decode cX13_layRings 9 = .ok (.getfield 20, 3) := by decide +kernel
theorem dX13_layRings_12 : decode cX13_layRings 12 = .ok (.iconst 4, 1) := by decide +kernel
theorem dX13_layRings_13 : decode cX13_layRings 13 = .ok (.iaload, 1) := by decide +kernel
theorem dX13_layRings_14 : decode cX13_layRings 14 = .ok (.if_icmp .ge 160, 3) := by decide +kernel
theorem dX13_layRings_17 : decode cX13_layRings 17 = .ok (.iconst 0, 1) := by decide +kernel
theorem dX13_layRings_18 : decode cX13_layRings 18 = .ok (.istore_n 2, 1) := by decide +kernel
theorem dX13_layRings_19 : decode cX13_layRings 19 = .ok (.aload_n 0, 1) := by decide +kernel
theorem dX13_layRings_20 : decode cX13_layRings 20 = .ok (.getfield 47, 3) := by decide +kernel
theorem dX13_layRings_23 : decode cX13_layRings 23 = .ok (.iload_n 1, 1) := by decide +kernel
theorem dX13_layRings_24 : decode cX13_layRings 24 = .ok (.bipush (-2), 2) := by decide +kernel
theorem dX13_layRings_26 : decode cX13_layRings 26 = .ok (.iastore, 1) := by decide +kernel
theorem dX13_layRings_27 : decode cX13_layRings 27 = .ok (.aload_n 0, 1) := by decide +kernel
theorem dX13_layRings_28 : decode cX13_layRings 28 = .ok (.getfield 53, 3) := by decide +kernel
theorem dX13_layRings_31 : decode cX13_layRings 31 = .ok (.iload_n 1, 1) := by decide +kernel
theorem dX13_layRings_32 : decode cX13_layRings 32 = .ok (.bipush (-2), 2) := by decide +kernel
theorem dX13_layRings_34 : decode cX13_layRings 34 = .ok (.iastore, 1) := by decide +kernel
theorem dX13_layRings_35 : decode cX13_layRings 35 = .ok (.aload_n 0, 1) := by decide +kernel
theorem dX13_layRings_36 : decode cX13_layRings 36 = .ok (.getfield 50, 3) := by decide +kernel
theorem dX13_layRings_39 : decode cX13_layRings 39 = .ok (.iload_n 1, 1) := by decide +kernel
theorem dX13_layRings_40 : decode cX13_layRings 40 = .ok (.bipush (-2), 2) := by decide +kernel
theorem dX13_layRings_42 : decode cX13_layRings 42 = .ok (.iastore, 1) := by decide +kernel
theorem dX13_layRings_43 : decode cX13_layRings 43 = .ok (.aload_n 0, 1) := by decide +kernel
theorem dX13_layRings_44 : decode cX13_layRings 44 = .ok (.getfield 26, 3) := by decide +kernel
theorem dX13_layRings_47 : decode cX13_layRings 47 = .ok (.bipush 79, 2) := by decide +kernel
theorem dX13_layRings_49 : decode cX13_layRings 49 = .ok (.iaload, 1) := by decide +kernel
theorem dX13_layRings_50 : decode cX13_layRings 50 = .ok (.istore_n 3, 1) := by decide +kernel
theorem dX13_layRings_51 : decode cX13_layRings 51 = .ok (.iload_n 3, 1) := by decide +kernel
theorem dX13_layRings_52 : decode cX13_layRings 52 = .ok (.bipush 30, 2) := by decide +kernel
theorem dX13_layRings_54 : decode cX13_layRings 54 = .ok (.if_icmp .ge 34, 3) := by decide +kernel
theorem dX13_layRings_57 : decode cX13_layRings 57 = .ok (.aload_n 0, 1) := by decide +kernel
theorem dX13_layRings_58 : decode cX13_layRings 58 = .ok (.getfield 26, 3) := by decide +kernel
theorem dX13_layRings_61 : decode cX13_layRings 61 = .ok (.iload_n 3, 1) := by decide +kernel
theorem dX13_layRings_62 : decode cX13_layRings 62 = .ok (.iaload, 1) := by decide +kernel
theorem dX13_layRings_63 : decode cX13_layRings 63 = .ok (.iload_n 1, 1) := by decide +kernel
theorem dX13_layRings_64 : decode cX13_layRings 64 = .ok (.iconst 1, 1) := by decide +kernel
theorem dX13_layRings_65 : decode cX13_layRings 65 = .ok (.iadd, 1) := by decide +kernel
theorem dX13_layRings_66 : decode cX13_layRings 66 = .ok (.if_icmp .eq 6, 3) := by decide +kernel
theorem dX13_layRings_69 : decode cX13_layRings 69 = .ok (.goto 13, 3) := by decide +kernel
theorem dX13_layRings_72 : decode cX13_layRings 72 = .ok (.aload_n 0, 1) := by decide +kernel
theorem dX13_layRings_73 : decode cX13_layRings 73 = .ok (.getfield 47, 3) := by decide +kernel
theorem dX13_layRings_76 : decode cX13_layRings 76 = .ok (.iload_n 1, 1) := by decide +kernel
theorem dX13_layRings_77 : decode cX13_layRings 77 = .ok (.iload_n 3, 1) := by decide +kernel
theorem dX13_layRings_78 : decode cX13_layRings 78 = .ok (.iastore, 1) := by decide +kernel
theorem dX13_layRings_79 : decode cX13_layRings 79 = .ok (.iinc 2 1, 3) := by decide +kernel
theorem dX13_layRings_82 : decode cX13_layRings 82 = .ok (.iinc 3 1, 3) := by decide +kernel
theorem dX13_layRings_85 : decode cX13_layRings 85 = .ok (.goto (-34), 3) := by decide +kernel
theorem dX13_layRings_88 : decode cX13_layRings 88 = .ok (.aload_n 0, 1) := by decide +kernel
theorem dX13_layRings_89 : decode cX13_layRings 89 = .ok (.getfield 20, 3) := by decide +kernel
theorem dX13_layRings_92 : decode cX13_layRings 92 = .ok (.bipush 7, 2) := by decide +kernel
theorem dX13_layRings_94 : decode cX13_layRings 94 = .ok (.iaload, 1) := by decide +kernel
theorem dX13_layRings_95 : decode cX13_layRings 95 = .ok (.iconst 1, 1) := by decide +kernel
theorem dX13_layRings_96 : decode cX13_layRings 96 = .ok (.isub, 1) := by decide +kernel
theorem dX13_layRings_97 : decode cX13_layRings 97 = .ok (.istore_n 3, 1) := by decide +kernel
theorem dX13_layRings_98 : decode cX13_layRings 98 = .ok (.iload_n 3, 1) := by decide +kernel
theorem dX13_layRings_99 : decode cX13_layRings 99 = .ok (.ifCond .lt 43, 3) := by decide +kernel
theorem dX13_layRings_102 : decode cX13_layRings 102 = .ok (.aload_n 0, 1) := by decide +kernel
theorem dX13_layRings_103 : decode cX13_layRings 103 = .ok (.getfield 20, 3) := by decide +kernel
theorem dX13_layRings_106 : decode cX13_layRings 106 = .ok (.bipush 90, 2) := by decide +kernel
theorem dX13_layRings_108 : decode cX13_layRings 108 = .ok (.iconst 2, 1) := by decide +kernel
theorem dX13_layRings_109 : decode cX13_layRings 109 = .ok (.iload_n 3, 1) := by decide +kernel
theorem dX13_layRings_110 : decode cX13_layRings 110 = .ok (.imul, 1) := by decide +kernel
theorem dX13_layRings_111 : decode cX13_layRings 111 = .ok (.iadd, 1) := by decide +kernel
theorem dX13_layRings_112 : decode cX13_layRings 112 = .ok (.iaload, 1) := by decide +kernel
theorem dX13_layRings_113 : decode cX13_layRings 113 = .ok (.iload_n 1, 1) := by decide +kernel
theorem dX13_layRings_114 : decode cX13_layRings 114 = .ok (.if_icmp .ne 22, 3) := by decide +kernel
theorem dX13_layRings_117 : decode cX13_layRings 117 = .ok (.aload_n 0, 1) := by decide +kernel
theorem dX13_layRings_118 : decode cX13_layRings 118 = .ok (.getfield 50, 3) := by decide +kernel
theorem dX13_layRings_121 : decode cX13_layRings 121 = .ok (.iload_n 1, 1) := by decide +kernel
theorem dX13_layRings_122 : decode cX13_layRings 122 = .ok (.aload_n 0, 1) := by decide +kernel
theorem dX13_layRings_123 : decode cX13_layRings 123 = .ok (.getfield 20, 3) := by decide +kernel
theorem dX13_layRings_126 : decode cX13_layRings 126 = .ok (.bipush 90, 2) := by decide +kernel
theorem dX13_layRings_128 : decode cX13_layRings 128 = .ok (.iconst 2, 1) := by decide +kernel
theorem dX13_layRings_129 : decode cX13_layRings 129 = .ok (.iload_n 3, 1) := by decide +kernel
theorem dX13_layRings_130 : decode cX13_layRings 130 = .ok (.imul, 1) := by decide +kernel
theorem dX13_layRings_131 : decode cX13_layRings 131 = .ok (.iadd, 1) := by decide +kernel
theorem dX13_layRings_132 : decode cX13_layRings 132 = .ok (.iconst 1, 1) := by decide +kernel
theorem dX13_layRings_133 : decode cX13_layRings 133 = .ok (.iadd, 1) := by decide +kernel
theorem dX13_layRings_134 : decode cX13_layRings 134 = .ok (.iaload, 1) := by decide +kernel
theorem dX13_layRings_135 : decode cX13_layRings 135 = .ok (.iastore, 1) := by decide +kernel
theorem dX13_layRings_136 : decode cX13_layRings 136 = .ok (.iinc 3 (-1), 3) := by decide +kernel
theorem dX13_layRings_139 : decode cX13_layRings 139 = .ok (.goto (-41), 3) := by decide +kernel
theorem dX13_layRings_142 : decode cX13_layRings 142 = .ok (.iload_n 2, 1) := by decide +kernel
theorem dX13_layRings_143 : decode cX13_layRings 143 = .ok (.iconst 1, 1) := by decide +kernel
theorem dX13_layRings_144 : decode cX13_layRings 144 = .ok (.if_icmp .ne 24, 3) := by decide +kernel
theorem dX13_layRings_147 : decode cX13_layRings 147 = .ok (.aload_n 0, 1) := by decide +kernel
theorem dX13_layRings_148 : decode cX13_layRings 148 = .ok (.getfield 50, 3) := by decide +kernel
theorem dX13_layRings_151 : decode cX13_layRings 151 = .ok (.iload_n 1, 1) := by decide +kernel
theorem dX13_layRings_152 : decode cX13_layRings 152 = .ok (.iaload, 1) := by decide +kernel
theorem dX13_layRings_153 : decode cX13_layRings 153 = .ok (.ifCond .lt 15, 3) := by decide +kernel
theorem dX13_layRings_156 : decode cX13_layRings 156 = .ok (.aload_n 0, 1) := by decide +kernel
theorem dX13_layRings_157 : decode cX13_layRings 157 = .ok (.dup, 1) := by decide +kernel
theorem dX13_layRings_158 : decode cX13_layRings 158 = .ok (.getfield 329, 3) := by decide +kernel
theorem dX13_layRings_161 : decode cX13_layRings 161 = .ok (.iconst 1, 1) := by decide +kernel
theorem dX13_layRings_162 : decode cX13_layRings 162 = .ok (.iload_n 1, 1) := by decide +kernel
theorem dX13_layRings_163 : decode cX13_layRings 163 = .ok (.ishl, 1) := by decide +kernel
theorem dX13_layRings_164 : decode cX13_layRings 164 = .ok (.ior, 1) := by decide +kernel
theorem dX13_layRings_165 : decode cX13_layRings 165 = .ok (.putfield 329, 3) := by decide +kernel
theorem dX13_layRings_168 : decode cX13_layRings 168 = .ok (.iinc 1 1, 3) := by decide +kernel
theorem dX13_layRings_171 : decode cX13_layRings 171 = .ok (.goto (-164), 3) := by decide +kernel
theorem dX13_layRings_174 : decode cX13_layRings 174 = .ok (.aload_n 0, 1) := by decide +kernel
theorem dX13_layRings_175 : decode cX13_layRings 175 = .ok (.getfield 329, 3) := by decide +kernel
theorem dX13_layRings_178 : decode cX13_layRings 178 = .ok (.istore_n 1, 1) := by decide +kernel
theorem dX13_layRings_179 : decode cX13_layRings 179 = .ok (.iload_n 1, 1) := by decide +kernel
theorem dX13_layRings_180 : decode cX13_layRings 180 = .ok (.ifCond .eq 12, 3) := by decide +kernel
theorem dX13_layRings_183 : decode cX13_layRings 183 = .ok (.aload_n 0, 1) := by decide +kernel
theorem dX13_layRings_184 : decode cX13_layRings 184 = .ok (.iload_n 1, 1) := by decide +kernel
theorem dX13_layRings_185 : decode cX13_layRings 185 = .ok (.invokevirtual 332, 3) := by decide +kernel
theorem dX13_layRings_188 : decode cX13_layRings 188 = .ok (.istore_n 1, 1) := by decide +kernel
theorem dX13_layRings_189 : decode cX13_layRings 189 = .ok (.goto (-10), 3) := by decide +kernel
theorem dX13_layRings_192 : decode cX13_layRings 192 = .ok (.return_, 1) := by decide +kernel
theorem dX13_off_0 : decode cX13_off 0 = .ok (.iload_n 2, 1) := by decide +kernel
theorem dX13_off_1 : decode cX13_off 1 = .ok (.aload_n 0, 1) := by decide +kernel
theorem dX13_off_2 : decode cX13_off 2 = .ok (.getfield 50, 3) := by decide +kernel
theorem dX13_off_5 : decode cX13_off 5 = .ok (.iload_n 1, 1) := by decide +kernel
theorem dX13_off_6 : decode cX13_off 6 = .ok (.iaload, 1) := by decide +kernel
theorem dX13_off_7 : decode cX13_off 7 = .ok (.if_icmp .ge 14, 3) := by decide +kernel
theorem dX13_off_10 : decode cX13_off 10 = .ok (.aload_n 0, 1) := by decide +kernel
theorem dX13_off_11 : decode cX13_off 11 = .ok (.getfield 50, 3) := by decide +kernel
theorem dX13_off_14 : decode cX13_off 14 = .ok (.iload_n 1, 1) := by decide +kernel
theorem dX13_off_15 : decode cX13_off 15 = .ok (.iaload, 1) := by decide +kernel
theorem dX13_off_16 : decode cX13_off 16 = .ok (.iload_n 2, 1) := by decide +kernel
theorem dX13_off_17 : decode cX13_off 17 = .ok (.isub, 1) := by decide +kernel
theorem dX13_off_18 : decode cX13_off 18 = .ok (.goto 11, 3) := by decide +kernel
theorem dX13_off_21 : decode cX13_off 21 = .ok (.iload_n 2, 1) := by decide +kernel
theorem dX13_off_22 : decode cX13_off 22 = .ok (.aload_n 0, 1) := by decide +kernel
