theorem dX13_off_23 : decode cX13_off 23 = .ok (.getfield 50, 3) := by decide +kernel
theorem dX13_off_26 : decode cX13_off 26 = .ok (.iload_n 1, 1) := by decide +kernel
theorem dX13_off_27 : decode cX13_off 27 = .ok (.iaload, 1) := by decide +kernel
theorem dX13_off_28 : decode cX13_off 28 = .ok (.isub, 1) := by decide +kernel
theorem dX13_off_29 : decode cX13_off 29 = .ok (.ireturn, 1) := by decide +kernel
theorem dX13_pointsAt_0 : decode cX13_pointsAt 0 = .ok (.iconst (-1), 1) := by decide +kernel
theorem dX13_pointsAt_1 : decode cX13_pointsAt 1 = .ok (.istore_n 3, 1) := by decide +kernel
theorem dX13_pointsAt_2 : decode cX13_pointsAt 2 = .ok (.iconst 0, 1) := by decide +kernel
theorem dX13_pointsAt_3 : decode cX13_pointsAt 3 = .ok (.istore 4, 2) := by decide +kernel
theorem dX13_pointsAt_5 : decode cX13_pointsAt 5 = .ok (.iload 4, 2) := by decide +kernel
theorem dX13_pointsAt_7 : decode cX13_pointsAt 7 = .ok (.aload_n 0, 1) := by decide +kernel
theorem dX13_pointsAt_8 : decode cX13_pointsAt 8 = .ok (.getfield 20, 3) := by decide +kernel
theorem dX13_pointsAt_11 : decode cX13_pointsAt 11 = .ok (.iconst 4, 1) := by decide +kernel
theorem dX13_pointsAt_12 : decode cX13_pointsAt 12 = .ok (.iaload, 1) := by decide +kernel
theorem dX13_pointsAt_13 : decode cX13_pointsAt 13 = .ok (.if_icmp .ge 96, 3) := by decide +kernel
theorem dX13_pointsAt_16 : decode cX13_pointsAt 16 = .ok (.iload_n 2, 1) := by decide +kernel
theorem dX13_pointsAt_17 : decode cX13_pointsAt 17 = .ok (.iload 4, 2) := by decide +kernel
theorem dX13_pointsAt_19 : decode cX13_pointsAt 19 = .ok (.invokestatic 307, 3) := by decide +kernel
theorem dX13_pointsAt_22 : decode cX13_pointsAt 22 = .ok (.ifCond .ne 6, 3) := by decide +kernel
theorem dX13_pointsAt_25 : decode cX13_pointsAt 25 = .ok (.goto 78, 3) := by decide +kernel
theorem dX13_pointsAt_28 : decode cX13_pointsAt 28 = .ok (.iload_n 3, 1) := by decide +kernel
theorem dX13_pointsAt_29 : decode cX13_pointsAt 29 = .ok (.ifCond .lt 71, 3) := by decide +kernel
theorem dX13_pointsAt_32 : decode cX13_pointsAt 32 = .ok (.aload_n 0, 1) := by decide +kernel
theorem dX13_pointsAt_33 : decode cX13_pointsAt 33 = .ok (.iload_n 1, 1) := by decide +kernel
theorem dX13_pointsAt_34 : decode cX13_pointsAt 34 = .ok (.aload_n 0, 1) := by decide +kernel
theorem dX13_pointsAt_35 : decode cX13_pointsAt 35 = .ok (.getfield 47, 3) := by decide +kernel
theorem dX13_pointsAt_38 : decode cX13_pointsAt 38 = .ok (.iload 4, 2) := by decide +kernel
theorem dX13_pointsAt_40 : decode cX13_pointsAt 40 = .ok (.iaload, 1) := by decide +kernel
theorem dX13_pointsAt_41 : decode cX13_pointsAt 41 = .ok (.invokevirtual 335, 3) := by decide +kernel
theorem dX13_pointsAt_44 : decode cX13_pointsAt 44 = .ok (.aload_n 0, 1) := by decide +kernel
theorem dX13_pointsAt_45 : decode cX13_pointsAt 45 = .ok (.iload_n 1, 1) := by decide +kernel
theorem dX13_pointsAt_46 : decode cX13_pointsAt 46 = .ok (.aload_n 0, 1) := by decide +kernel
theorem dX13_pointsAt_47 : decode cX13_pointsAt 47 = .ok (.getfield 47, 3) := by decide +kernel
theorem dX13_pointsAt_50 : decode cX13_pointsAt 50 = .ok (.iload_n 3, 1) := by decide +kernel
theorem dX13_pointsAt_51 : decode cX13_pointsAt 51 = .ok (.iaload, 1) := by decide +kernel
theorem dX13_pointsAt_52 : decode cX13_pointsAt 52 = .ok (.invokevirtual 335, 3) := by decide +kernel
theorem dX13_pointsAt_55 : decode cX13_pointsAt 55 = .ok (.if_icmp .lt 45, 3) := by decide +kernel
theorem dX13_pointsAt_58 : decode cX13_pointsAt 58 = .ok (.aload_n 0, 1) := by decide +kernel
theorem dX13_pointsAt_59 : decode cX13_pointsAt 59 = .ok (.iload_n 1, 1) := by decide +kernel
theorem dX13_pointsAt_60 : decode cX13_pointsAt 60 = .ok (.aload_n 0, 1) := by decide +kernel
theorem dX13_pointsAt_61 : decode cX13_pointsAt 61 = .ok (.getfield 47, 3) := by decide +kernel
theorem dX13_pointsAt_64 : decode cX13_pointsAt 64 = .ok (.iload 4, 2) := by decide +kernel
theorem dX13_pointsAt_66 : decode cX13_pointsAt 66 = .ok (.iaload, 1) := by decide +kernel
theorem dX13_pointsAt_67 : decode cX13_pointsAt 67 = .ok (.invokevirtual 335, 3) := by decide +kernel
theorem dX13_pointsAt_70 : decode cX13_pointsAt 70 = .ok (.aload_n 0, 1) := by decide +kernel
theorem dX13_pointsAt_71 : decode cX13_pointsAt 71 = .ok (.iload_n 1, 1) := by decide +kernel
theorem dX13_pointsAt_72 : decode cX13_pointsAt 72 = .ok (.aload_n 0, 1) := by decide +kernel
theorem dX13_pointsAt_73 : decode cX13_pointsAt 73 = .ok (.getfield 47, 3) := by decide +kernel
theorem dX13_pointsAt_76 : decode cX13_pointsAt 76 = .ok (.iload_n 3, 1) := by decide +kernel
theorem dX13_pointsAt_77 : decode cX13_pointsAt 77 = .ok (.iaload, 1) := by decide +kernel
theorem dX13_pointsAt_78 : decode cX13_pointsAt 78 = .ok (.invokevirtual 335, 3) := by decide +kernel
theorem dX13_pointsAt_81 : decode cX13_pointsAt 81 = .ok (.if_icmp .ne 22, 3) := by decide +kernel
theorem dX13_pointsAt_84 : decode cX13_pointsAt 84 = .ok (.aload_n 0, 1) := by decide +kernel
theorem dX13_pointsAt_85 : decode cX13_pointsAt 85 = .ok (.getfield 47, 3) := by decide +kernel
theorem dX13_pointsAt_88 : decode cX13_pointsAt 88 = .ok (.iload 4, 2) := by decide +kernel
theorem dX13_pointsAt_90 : decode cX13_pointsAt 90 = .ok (.iaload, 1) := by decide +kernel
theorem dX13_pointsAt_91 : decode cX13_pointsAt 91 = .ok (.aload_n 0, 1) := by decide +kernel
theorem dX13_pointsAt_92 : decode cX13_pointsAt 92 = .ok (.getfield 47, 3) := by decide +kernel
theorem dX13_pointsAt_95 : decode cX13_pointsAt 95 = .ok (.iload_n 3, 1) := by decide +kernel
theorem dX13_pointsAt_96 : decode cX13_pointsAt 96 = .ok (.iaload, 1) := by decide +kernel
theorem dX13_pointsAt_97 : decode cX13_pointsAt 97 = .ok (.if_icmp .ge 6, 3) := by decide +kernel
theorem dX13_pointsAt_100 : decode cX13_pointsAt 100 = .ok (.iload 4, 2) := by decide +kernel
theorem dX13_pointsAt_102 : decode cX13_pointsAt 102 = .ok (.istore_n 3, 1) := by decide +kernel
theorem dX13_pointsAt_103 : decode cX13_pointsAt 103 = .ok (.iinc 4 1, 3) := by decide +kernel
theorem dX13_pointsAt_106 : decode cX13_pointsAt 106 = .ok (.goto (-101), 3) := by decide +kernel
theorem dX13_pointsAt_109 : decode cX13_pointsAt 109 = .ok (.iload_n 3, 1) := by decide +kernel
theorem dX13_pointsAt_110 : decode cX13_pointsAt 110 = .ok (.ireturn, 1) := by decide +kernel
theorem dX13_ringOut_0 : decode cX13_ringOut 0 = .ok (.iconst 0, 1) := by decide +kernel
theorem dX13_ringOut_1 : decode cX13_ringOut 1 = .ok (.istore_n 2, 1) := by decide +kernel
theorem dX13_ringOut_2 : decode cX13_ringOut 2 = .ok (.iconst 0, 1) := by decide +kernel
theorem dX13_ringOut_3 : decode cX13_ringOut 3 = .ok (.istore_n 3, 1) := by decide +kernel
theorem dX13_ringOut_4 : decode cX13_ringOut 4 = .ok (.iload_n 3, 1) := by decide +kernel
theorem dX13_ringOut_5 : decode cX13_ringOut 5 = .ok (.aload_n 0, 1) := by decide +kernel
theorem dX13_ringOut_6 : decode cX13_ringOut 6 = .ok (.getfield 20, 3) := by decide +kernel
theorem dX13_ringOut_9 : decode cX13_ringOut 9 = .ok (.iconst 4, 1) := by decide +kernel
theorem dX13_ringOut_10 : decode cX13_ringOut 10 = .ok (.iaload, 1) := by decide +kernel
theorem dX13_ringOut_11 : decode cX13_ringOut 11 = .ok (.if_icmp .ge 90, 3) := by decide +kernel
theorem dX13_ringOut_14 : decode cX13_ringOut 14 = .ok (.iload_n 1, 1) := by decide +kernel
theorem dX13_ringOut_15 : decode cX13_ringOut 15 = .ok (.iload_n 3, 1) := by decide +kernel
theorem dX13_ringOut_16 : decode cX13_ringOut 16 = .ok (.invokestatic 307, 3) := by decide +kernel
theorem dX13_ringOut_19 : decode cX13_ringOut 19 = .ok (.ifCond .ne 6, 3) := by decide +kernel
theorem dX13_ringOut_22 : decode cX13_ringOut 22 = .ok (.goto 73, 3) := by decide +kernel
theorem dX13_ringOut_25 : decode cX13_ringOut 25 = .ok (.aload_n 0, 1) := by decide +kernel
theorem dX13_ringOut_26 : decode cX13_ringOut 26 = .ok (.iload_n 3, 1) := by decide +kernel
theorem dX13_ringOut_27 : decode cX13_ringOut 27 = .ok (.iload_n 1, 1) := by decide +kernel
theorem dX13_ringOut_28 : decode cX13_ringOut 28 = .ok (.invokevirtual 338, 3) := by decide +kernel
theorem dX13_ringOut_31 : decode cX13_ringOut 31 = .ok (.istore 4, 2) := by decide +kernel
theorem dX13_ringOut_33 : decode cX13_ringOut 33 = .ok (.iconst 0, 1) := by decide +kernel
theorem dX13_ringOut_34 : decode cX13_ringOut 34 = .ok (.istore 5, 2) := by decide +kernel
theorem dX13_ringOut_36 : decode cX13_ringOut 36 = .ok (.iload 5, 2) := by decide +kernel
theorem dX13_ringOut_38 : decode cX13_ringOut 38 = .ok (.iconst 5, 1) := by decide +kernel
theorem dX13_ringOut_39 : decode cX13_ringOut 39 = .ok (.if_icmp .ge 24, 3) := by decide +kernel
theorem dX13_ringOut_42 : decode cX13_ringOut 42 = .ok (.iload 4, 2) := by decide +kernel
theorem dX13_ringOut_44 : decode cX13_ringOut 44 = .ok (.iload_n 3, 1) := by decide +kernel
theorem dX13_ringOut_45 : decode cX13_ringOut 45 = .ok (.if_icmp .eq 18, 3) := by decide +kernel
theorem dX13_ringOut_48 : decode cX13_ringOut 48 = .ok (.aload_n 0, 1) := by decide +kernel
theorem dX13_ringOut_49 : decode cX13_ringOut 49 = .ok (.iload 4, 2) := by decide +kernel
theorem dX13_ringOut_51 : decode cX13_ringOut 51 = .ok (.iload_n 1, 1) := by decide +kernel
theorem dX13_ringOut_52 : decode cX13_ringOut 52 = .ok (.invokevirtual 338, 3) := by decide +kernel
theorem dX13_ringOut_55 : decode cX13_ringOut 55 = .ok (.istore 4, 2) := by decide +kernel
theorem dX13_ringOut_57 : decode cX13_ringOut 57 = .ok (.iinc 5 1, 3) := by decide +kernel
theorem dX13_ringOut_60 : decode cX13_ringOut 60 = .ok (.goto (-24), 3) := by decide +kernel
theorem dX13_ringOut_63 : decode cX13_ringOut 63 = .ok (.iload 4, 2) := by decide +kernel
theorem dX13_ringOut_65 : decode cX13_ringOut 65 = .ok (.iload_n 3, 1) := by decide +kernel
theorem dX13_ringOut_66 : decode cX13_ringOut 66 = .ok (.if_icmp .eq 6, 3) := by decide +kernel
theorem dX13_ringOut_69 : decode cX13_ringOut 69 = .ok (.goto 26, 3) := by decide +kernel
theorem dX13_ringOut_72 : decode cX13_ringOut 72 = .ok (.iload_n 2, 1) := by decide +kernel
theorem dX13_ringOut_73 : decode cX13_ringOut 73 = .ok (.iconst 1, 1) := by decide +kernel
theorem dX13_ringOut_74 : decode cX13_ringOut 74 = .ok (.iload_n 3, 1) := by decide +kernel
theorem dX13_ringOut_75 : decode cX13_ringOut 75 = .ok (.ishl, 1) := by decide +kernel
theorem dX13_ringOut_76 : decode cX13_ringOut 76 = .ok (.ior, 1) := by decide +kernel
theorem dX13_ringOut_77 : decode cX13_ringOut 77 = .ok (.istore_n 2, 1) := by decide +kernel
theorem dX13_ringOut_78 : decode cX13_ringOut 78 = .ok (.aload_n 0, 1) := by decide +kernel
theorem dX13_ringOut_79 : decode cX13_ringOut 79 = .ok (.getfield 53, 3) := by decide +kernel
theorem dX13_ringOut_82 : decode cX13_ringOut 82 = .ok (.iload_n 3, 1) := by decide +kernel
theorem dX13_ringOut_83 : decode cX13_ringOut 83 = .ok (.aload_n 0, 1) := by decide +kernel
theorem dX13_ringOut_84 : decode cX13_ringOut 84 = .ok (.getfield 47, 3) := by decide +kernel
theorem dX13_ringOut_87 : decode cX13_ringOut 87 = .ok (.aload_n 0, 1) := by decide +kernel
theorem dX13_ringOut_88 : decode cX13_ringOut 88 = .ok (.iload_n 3, 1) := by decide +kernel
theorem dX13_ringOut_89 : decode cX13_ringOut 89 = .ok (.iload_n 1, 1) := by decide +kernel
theorem dX13_ringOut_90 : decode cX13_ringOut 90 = .ok (.invokevirtual 338, 3) := by decide +kernel
theorem dX13_ringOut_93 : decode cX13_ringOut 93 = .ok (.iaload, 1) := by decide +kernel
theorem dX13_ringOut_94 : decode cX13_ringOut 94 = .ok (.iastore, 1) := by decide +kernel
theorem dX13_ringOut_95 : decode cX13_ringOut 95 = .ok (.iinc 3 1, 3) := by decide +kernel
theorem dX13_ringOut_98 : decode cX13_ringOut 98 = .ok (.goto (-94), 3) := by decide +kernel
theorem dX13_ringOut_101 : decode cX13_ringOut 101 = .ok (.iload_n 1, 1) := by decide +kernel
theorem dX13_ringOut_102 : decode cX13_ringOut 102 = .ok (.iload_n 2, 1) := by decide +kernel
theorem dX13_ringOut_103 : decode cX13_ringOut 103 = .ok (.iconst (-1), 1) := by decide +kernel
theorem dX13_ringOut_104 : decode cX13_ringOut 104 = .ok (.ixor, 1) := by decide +kernel
theorem dX13_ringOut_105 : decode cX13_ringOut 105 = .ok (.iand, 1) := by decide +kernel
theorem dX13_ringOut_106 : decode cX13_ringOut 106 = .ok (.ireturn, 1) := by decide +kernel
theorem dX13_ring_0 : decode cX13_ring 0 = .ok (.aload_n 0, 1) := by decide +kernel
theorem dX13_ring_1 : decode cX13_ring 1 = .ok (.invokevirtual 166, 3) := by decide +kernel
theorem dX13_ring_4 : decode cX13_ring 4 = .ok (.aload_n 0, 1) := by decide +kernel
theorem dX13_ring_5 : decode cX13_ring 5 = .ok (.iload_n 1, 1) := by decide +kernel
theorem dX13_ring_6 : decode cX13_ring 6 = .ok (.invokevirtual 275, 3) := by decide +kernel
theorem dX13_ring_9 : decode cX13_ring 9 = .ok (.ifCond .ne 9, 3) := by decide +kernel
theorem dX13_ring_12 : decode cX13_ring 12 = .ok (.aload_n 0, 1) := by decide +kernel
theorem dX13_ring_13 : decode cX13_ring 13 = .ok (.iconst 1, 1) := by decide +kernel
theorem dX13_ring_14 : decode cX13_ring 14 = .ok (.invokevirtual 169, 3) := by decide +kernel
theorem dX13_ring_17 : decode cX13_ring 17 = .ok (.ireturn, 1) := by decide +kernel
theorem dX13_ring_18 : decode cX13_ring 18 = .ok (.aload_n 0, 1) := by decide +kernel
theorem dX13_ring_19 : decode cX13_ring 19 = .ok (.invokevirtual 341, 3) := by decide +kernel
theorem dX13_ring_22 : decode cX13_ring 22 = .ok (.aload_n 0, 1) := by decide +kernel
theorem dX13_ring_23 : decode cX13_ring 23 = .ok (.getfield 53, 3) := by decide +kernel
theorem dX13_ring_26 : decode cX13_ring 26 = .ok (.iload_n 1, 1) := by decide +kernel
theorem dX13_ring_27 : decode cX13_ring 27 = .ok (.iaload, 1) := by decide +kernel
theorem dX13_ring_28 : decode cX13_ring 28 = .ok (.ireturn, 1) := by decide +kernel
theorem dX13_changed_0 : decode cX13_changed 0 = .ok (.aload_n 0, 1) := by decide +kernel
theorem dX13_changed_1 : decode cX13_changed 1 = .ok (.invokevirtual 166, 3) := by decide +kernel
theorem dX13_changed_4 : decode cX13_changed 4 = .ok (.aload_n 0, 1) := by decide +kernel
theorem dX13_changed_5 : decode cX13_changed 5 = .ok (.getfield 179, 3) := by decide +kernel
theorem dX13_changed_8 : decode cX13_changed 8 = .ok (.ifCond .ne 9, 3) := by decide +kernel
theorem dX13_changed_11 : decode cX13_changed 11 = .ok (.aload_n 0, 1) := by decide +kernel
theorem dX13_changed_12 : decode cX13_changed 12 = .ok (.iconst 1, 1) := by decide +kernel
theorem dX13_changed_13 : decode cX13_changed 13 = .ok (.invokevirtual 169, 3) := by decide +kernel
theorem dX13_changed_16 : decode cX13_changed 16 = .ok (.ireturn, 1) := by decide +kernel
theorem dX13_changed_17 : decode cX13_changed 17 = .ok (.aload_n 0, 1) := by decide +kernel
theorem dX13_changed_18 : decode cX13_changed 18 = .ok (.invokevirtual 341, 3) := by decide +kernel
theorem dX13_changed_21 : decode cX13_changed 21 = .ok (.iconst 0, 1) := by decide +kernel
theorem dX13_changed_22 : decode cX13_changed 22 = .ok (.istore_n 1, 1) := by decide +kernel
theorem dX13_changed_23 : decode cX13_changed 23 = .ok (.iconst 0, 1) := by decide +kernel
theorem dX13_changed_24 : decode cX13_changed 24 = .ok (.istore_n 2, 1) := by decide +kernel
theorem dX13_changed_25 : decode cX13_changed 25 = .ok (.iload_n 2, 1) := by decide +kernel
theorem dX13_changed_26 : decode cX13_changed 26 = .ok (.aload_n 0, 1) := by decide +kernel
theorem dX13_changed_27 : decode cX13_changed 27 = .ok (.getfield 20, 3) := by decide +kernel
theorem dX13_changed_30 : decode cX13_changed 30 = .ok (.iconst 4, 1) := by decide +kernel
theorem dX13_changed_31 : decode cX13_changed 31 = .ok (.iaload, 1) := by decide +kernel
theorem dX13_changed_32 : decode cX13_changed 32 = .ok (.if_icmp .ge 43, 3) := by decide +kernel
theorem dX13_changed_35 : decode cX13_changed 35 = .ok (.iload_n 1, 1) := by decide +kernel
theorem dX13_changed_36 : decode cX13_changed 36 = .ok (.aload_n 0, 1) := by decide +kernel
theorem dX13_changed_37 : decode cX13_changed 37 = .ok (.getfield 329, 3) := by decide +kernel
theorem dX13_changed_40 : decode cX13_changed 40 = .ok (.iload_n 2, 1) := by decide +kernel
theorem dX13_changed_41 : decode cX13_changed 41 = .ok (.invokestatic 307, 3) := by decide +kernel
theorem dX13_changed_44 : decode cX13_changed 44 = .ok (.ifCond .eq 22, 3) := by decide +kernel
theorem dX13_changed_47 : decode cX13_changed 47 = .ok (.aload_n 0, 1) := by decide +kernel
theorem dX13_changed_48 : decode cX13_changed 48 = .ok (.getfield 53, 3) := by decide +kernel
theorem dX13_changed_51 : decode cX13_changed 51 = .ok (.iload_n 2, 1) := by decide +kernel
theorem dX13_changed_52 : decode cX13_changed 52 = .ok (.iaload, 1) := by decide +kernel
theorem dX13_changed_53 : decode cX13_changed 53 = .ok (.aload_n 0, 1) := by decide +kernel
theorem dX13_changed_54 : decode cX13_changed 54 = .ok (.getfield 47, 3) := by decide +kernel
theorem dX13_changed_57 : decode cX13_changed 57 = .ok (.iload_n 2, 1) := by decide +kernel
theorem dX13_changed_58 : decode cX13_changed 58 = .ok (.iaload, 1) := by decide +kernel
theorem dX13_changed_59 : decode cX13_changed 59 = .ok (.if_icmp .eq 7, 3) := by decide +kernel
theorem dX13_changed_62 : decode cX13_changed 62 = .ok (.iconst 1, 1) := by decide +kernel
theorem dX13_changed_63 : decode cX13_changed 63 = .ok (.goto 4, 3) := by decide +kernel
theorem dX13_changed_66 : decode cX13_changed 66 = .ok (.iconst 0, 1) := by decide +kernel
theorem dX13_changed_67 : decode cX13_changed 67 = .ok (.iadd, 1) := by decide +kernel
theorem dX13_changed_68 : decode cX13_changed 68 = .ok (.istore_n 1, 1) := by decide +kernel
theorem dX13_changed_69 : decode cX13_changed 69 = .ok (.iinc 2 1, 3) := by decide +kernel
theorem dX13_changed_72 : decode cX13_changed 72 = .ok (.goto (-47), 3) := by decide +kernel
theorem dX13_changed_75 : decode cX13_changed 75 = .ok (.iload_n 1, 1) := by decide +kernel
theorem dX13_changed_76 : decode cX13_changed 76 = .ok (.ireturn, 1) := by decide +kernel
theorem dX13_oddsOf_0 : decode cX13_oddsOf 0 = .ok (.aload_n 0, 1) := by decide +kernel
theorem dX13_oddsOf_1 : decode cX13_oddsOf 1 = .ok (.getfield 20, 3) := by decide +kernel
theorem dX13_oddsOf_4 : decode cX13_oddsOf 4 = .ok (.bipush 100, 2) := by decide +kernel
theorem dX13_oddsOf_6 : decode cX13_oddsOf 6 = .ok (.iconst 5, 1) := by decide +kernel
theorem dX13_oddsOf_7 : decode cX13_oddsOf 7 = .ok (.iload_n 1, 1) := by decide +kernel
theorem dX13_oddsOf_8 : decode cX13_oddsOf 8 = .ok (.imul, 1) := by decide +kernel
theorem dX13_oddsOf_9 : decode cX13_oddsOf 9 = .ok (.iadd, 1) := by decide +kernel
theorem dX13_oddsOf_10 : decode cX13_oddsOf 10 = .ok (.iload_n 2, 1) := by decide +kernel
theorem dX13_oddsOf_11 : decode cX13_oddsOf 11 = .ok (.iadd, 1) := by decide +kernel
theorem dX13_oddsOf_12 : decode cX13_oddsOf 12 = .ok (.iaload, 1) := by decide +kernel
theorem dX13_oddsOf_13 : decode cX13_oddsOf 13 = .ok (.iconst 1, 1) := by decide +kernel
theorem dX13_oddsOf_14 : decode cX13_oddsOf 14 = .ok (.isub, 1) := by decide +kernel
theorem dX13_oddsOf_15 : decode cX13_oddsOf 15 = .ok (.ireturn, 1) := by decide +kernel
theorem dX13_truthOf_0 : decode cX13_truthOf 0 = .ok (.lconst 0, 1) := by decide +kernel
theorem dX13_truthOf_1 : decode cX13_truthOf 1 = .ok (.lstore_n 3, 1) := by decide +kernel
theorem dX13_truthOf_2 : decode cX13_truthOf 2 = .ok (.iconst 0, 1) := by decide +kernel
theorem dX13_truthOf_3 : decode cX13_truthOf 3 = .ok (.istore 5, 2) := by decide +kernel
theorem dX13_truthOf_5 : decode cX13_truthOf 5 = .ok (.iload 5, 2) := by decide +kernel
theorem dX13_truthOf_7 : decode cX13_truthOf 7 = .ok (.iconst 1, 1) := by decide +kernel
theorem dX13_truthOf_8 : decode cX13_truthOf 8 = .ok (.aload_n 0, 1) := by decide +kernel
theorem dX13_truthOf_9 : decode cX13_truthOf 9 = .ok (.getfield 20, 3) := by decide +kernel
theorem dX13_truthOf_12 : decode cX13_truthOf 12 = .ok (.iconst 4, 1) := by decide +kernel
theorem dX13_truthOf_13 : decode cX13_truthOf 13 = .ok (.iaload, 1) := by decide +kernel
theorem dX13_truthOf_14 : decode cX13_truthOf 14 = .ok (.ishl, 1) := by decide +kernel
theorem dX13_truthOf_15 : decode cX13_truthOf 15 = .ok (.if_icmp .ge 109, 3) := by decide +kernel
theorem dX13_truthOf_18 : decode cX13_truthOf 18 = .ok (.iload 5, 2) := by decide +kernel
theorem dX13_truthOf_20 : decode cX13_truthOf 20 = .ok (.iload_n 2, 1) := by decide +kernel
theorem dX13_truthOf_21 : decode cX13_truthOf 21 = .ok (.iconst (-1), 1) := by decide +kernel
theorem dX13_truthOf_22 : decode cX13_truthOf 22 = .ok (.ixor, 1) := by decide +kernel
theorem dX13_truthOf_23 : decode cX13_truthOf 23 = .ok (.iand, 1) := by decide +kernel
theorem dX13_truthOf_24 : decode cX13_truthOf 24 = .ok (.ifCond .ne 94, 3) := by decide +kernel
theorem dX13_truthOf_27 : decode cX13_truthOf 27 = .ok (.iconst 2, 1) := by decide +kernel
theorem dX13_truthOf_28 : decode cX13_truthOf 28 = .ok (.iload 5, 2) := by decide +kernel
theorem dX13_truthOf_30 : decode cX13_truthOf 30 = .ok (.invokestatic 298, 3) := by decide +kernel
theorem dX13_truthOf_33 : decode cX13_truthOf 33 = .ok (.imul, 1) := by decide +kernel
theorem dX13_truthOf_34 : decode cX13_truthOf 34 = .ok (.iload_n 2, 1) := by decide +kernel
theorem dX13_truthOf_35 : decode cX13_truthOf 35 = .ok (.invokestatic 298, 3) := by decide +kernel
theorem dX13_truthOf_38 : decode cX13_truthOf 38 = .ok (.if_icmp .gt 6, 3) := by decide +kernel
theorem dX13_truthOf_41 : decode cX13_truthOf 41 = .ok (.goto 77, 3) := by decide +kernel
theorem dX13_truthOf_44 : decode cX13_truthOf 44 = .ok (.lconst 1, 1) := by decide +kernel
theorem dX13_truthOf_45 : decode cX13_truthOf 45 = .ok (.lstore 6, 2) := by decide +kernel
theorem dX13_truthOf_47 : decode cX13_truthOf 47 = .ok (.iconst 0, 1) := by decide +kernel
theorem dX13_truthOf_48 : decode cX13_truthOf 48 = .ok (.istore 8, 2) := by decide +kernel
theorem dX13_truthOf_50 : decode cX13_truthOf 50 = .ok (.iload 8, 2) := by decide +kernel
theorem dX13_truthOf_52 : decode cX13_truthOf 52 = .ok (.aload_n 0, 1) := by decide +kernel
theorem dX13_truthOf_53 : decode cX13_truthOf 53 = .ok (.getfield 20, 3) := by decide +kernel
theorem dX13_truthOf_56 : decode cX13_truthOf 56 = .ok (.iconst 4, 1) := by decide +kernel
theorem dX13_truthOf_57 : decode cX13_truthOf 57 = .ok (.iaload, 1) := by decide +kernel
theorem dX13_truthOf_58 : decode cX13_truthOf 58 = .ok (.if_icmp .ge 55, 3) := by decide +kernel
theorem dX13_truthOf_61 : decode cX13_truthOf 61 = .ok (.iload_n 2, 1) := by decide +kernel
theorem dX13_truthOf_62 : decode cX13_truthOf 62 = .ok (.iload 8, 2) := by decide +kernel
theorem dX13_truthOf_64 : decode cX13_truthOf 64 = .ok (.invokestatic 307, 3) := by decide +kernel
theorem dX13_truthOf_67 : decode cX13_truthOf 67 = .ok (.ifCond .eq 40, 3) := by decide +kernel
theorem dX13_truthOf_70 : decode cX13_truthOf 70 = .ok (.lload 6, 2) := by decide +kernel
theorem dX13_truthOf_72 : decode cX13_truthOf 72 = .ok (.iload 5, 2) := by decide +kernel
theorem dX13_truthOf_74 : decode cX13_truthOf 74 = .ok (.iload 8, 2) := by decide +kernel
theorem dX13_truthOf_76 : decode cX13_truthOf 76 = .ok (.invokestatic 307, 3) := by decide +kernel
theorem dX13_truthOf_79 : decode cX13_truthOf 79 = .ok (.ifCond .eq 14, 3) := by decide +kernel
theorem dX13_truthOf_82 : decode cX13_truthOf 82 = .ok (.aload_n 0, 1) := by decide +kernel
theorem dX13_truthOf_83 : decode cX13_truthOf 83 = .ok (.iload_n 1, 1) := by decide +kernel
theorem dX13_truthOf_84 : decode cX13_truthOf 84 = .ok (.iload 8, 2) := by decide +kernel
theorem dX13_truthOf_86 : decode cX13_truthOf 86 = .ok (.invokevirtual 344, 3) := by decide +kernel
theorem dX13_truthOf_89 : decode cX13_truthOf 89 = .ok (.i2l, 1) := by decide +kernel
theorem dX13_truthOf_90 : decode cX13_truthOf 90 = .ok (.goto 14, 3) := by decide +kernel
theorem dX13_truthOf_93 : decode cX13_truthOf 93 = .ok (.bipush 100, 2) := by decide +kernel
theorem dX13_truthOf_95 : decode cX13_truthOf 95 = .ok (.aload_n 0, 1) := by decide +kernel
theorem dX13_truthOf_96 : decode cX13_truthOf 96 = .ok (.iload_n 1, 1) := by decide +kernel
theorem dX13_truthOf_97 : decode cX13_truthOf 97 = .ok (.iload 8, 2) := by decide +kernel
theorem dX13_truthOf_99 : decode cX13_truthOf 99 = .ok (.invokevirtual 344, 3) := by decide +kernel
theorem dX13_truthOf_102 : decode cX13_truthOf 102 = .ok (.isub, 1) := by decide +kernel
theorem dX13_truthOf_103 : decode cX13_truthOf 103 = .ok (.i2l, 1) := by decide +kernel
theorem dX13_truthOf_104 : decode cX13_truthOf 104 = .ok (.lmul, 1) := by decide +kernel
theorem dX13_truthOf_105 : decode cX13_truthOf 105 = .ok (.lstore 6, 2) := by decide +kernel
theorem dX13_truthOf_107 : decode cX13_truthOf 107 = .ok (.iinc 8 1, 3) := by decide +kernel
theorem dX13_truthOf_110 : decode cX13_truthOf 110 = .ok (.goto (-60), 3) := by decide +kernel
theorem dX13_truthOf_113 : decode cX13_truthOf 113 = .ok (.lload_n 3, 1) := by decide +kernel
theorem dX13_truthOf_114 : decode cX13_truthOf 114 = .ok (.lload 6, 2) := by decide +kernel
theorem dX13_truthOf_116 : decode cX13_truthOf 116 = .ok (.ladd, 1) := by decide +kernel
theorem dX13_truthOf_117 : decode cX13_truthOf 117 = .ok (.lstore_n 3, 1) := by decide +kernel
theorem dX13_truthOf_118 : decode cX13_truthOf 118 = .ok (.iinc 5 1, 3) := by decide +kernel
theorem dX13_truthOf_121 : decode cX13_truthOf 121 = .ok (.goto (-116), 3) := by decide +kernel
theorem dX13_truthOf_124 : decode cX13_truthOf 124 = .ok (.lload_n 3, 1) := by decide +kernel
theorem dX13_truthOf_125 : decode cX13_truthOf 125 = .ok (.lreturn, 1) := by decide +kernel
theorem dX13_hundreds_0 : decode cX13_hundreds 0 = .ok (.lconst 1, 1) := by decide +kernel
theorem dX13_hundreds_1 : decode cX13_hundreds 1 = .ok (.lstore_n 1, 1) := by decide +kernel
theorem dX13_hundreds_2 : decode cX13_hundreds 2 = .ok (.iconst 0, 1) := by decide +kernel
theorem dX13_hundreds_3 : decode cX13_hundreds 3 = .ok (.istore_n 3, 1) := by decide +kernel
theorem dX13_hundreds_4 : decode cX13_hundreds 4 = .ok (.iload_n 3, 1) := by decide +kernel
theorem dX13_hundreds_5 : decode cX13_hundreds 5 = .ok (.iload_n 0, 1) := by decide +kernel
theorem dX13_hundreds_6 : decode cX13_hundreds 6 = .ok (.if_icmp .ge 15, 3) := by decide +kernel
theorem dX13_hundreds_9 : decode cX13_hundreds 9 = .ok (.lload_n 1, 1) := by decide +kernel
theorem dX13_hundreds_10 : decode cX13_hundreds 10 = .ok (.ldc2_w 347, 3) := by decide +kernel
theorem dX13_hundreds_13 : decode cX13_hundreds 13 = .ok (.lmul, 1) := by decide +kernel
theorem dX13_hundreds_14 : decode cX13_hundreds 14 = .ok (.lstore_n 1, 1) := by decide +kernel
theorem dX13_hundreds_15 : decode cX13_hundreds 15 = .ok (.iinc 3 1, 3) := by decide +kernel
theorem dX13_hundreds_18 : decode cX13_hundreds 18 = .ok (.goto (-14), 3) := by decide +kernel
theorem dX13_hundreds_21 : decode cX13_hundreds 21 = .ok (.lload_n 1, 1) := by decide +kernel
theorem dX13_hundreds_22 : decode cX13_hundreds 22 = .ok (.lreturn, 1) := by decide +kernel
theorem dX13_askedBy_0 : decode cX13_askedBy 0 = .ok (.iconst 0, 1) := by decide +kernel
theorem dX13_askedBy_1 : decode cX13_askedBy 1 = .ok (.istore_n 2, 1) := by decide +kernel
theorem dX13_askedBy_2 : decode cX13_askedBy 2 = .ok (.iconst 0, 1) := by decide +kernel
theorem dX13_askedBy_3 : decode cX13_askedBy 3 = .ok (.istore_n 3, 1) := by decide +kernel
theorem dX13_askedBy_4 : decode cX13_askedBy 4 = .ok (.iload_n 3, 1) := by decide +kernel
theorem dX13_askedBy_5 : decode cX13_askedBy 5 = .ok (.aload_n 0, 1) := by decide +kernel
theorem dX13_askedBy_6 : decode cX13_askedBy 6 = .ok (.getfield 20, 3) := by decide +kernel
theorem dX13_askedBy_9 : decode cX13_askedBy 9 = .ok (.iconst 4, 1) := by decide +kernel
theorem dX13_askedBy_10 : decode cX13_askedBy 10 = .ok (.iaload, 1) := by decide +kernel
theorem dX13_askedBy_11 : decode cX13_askedBy 11 = .ok (.if_icmp .ge 35, 3) := by decide +kernel
theorem dX13_askedBy_14 : decode cX13_askedBy 14 = .ok (.iload_n 2, 1) := by decide +kernel
theorem dX13_askedBy_15 : decode cX13_askedBy 15 = .ok (.aload_n 0, 1) := by decide +kernel
theorem dX13_askedBy_16 : decode cX13_askedBy 16 = .ok (.getfield 20, 3) := by decide +kernel
theorem dX13_askedBy_19 : decode cX13_askedBy 19 = .ok (.bipush 100, 2) := by decide +kernel
theorem dX13_askedBy_21 : decode cX13_askedBy 21 = .ok (.iconst 5, 1) := by decide +kernel
theorem dX13_askedBy_22 : decode cX13_askedBy 22 = .ok (.iload_n 1, 1) := by decide +kernel
theorem dX13_askedBy_23 : decode cX13_askedBy 23 = .ok (.imul, 1) := by decide +kernel
theorem dX13_askedBy_24 : decode cX13_askedBy 24 = .ok (.iadd, 1) := by decide +kernel
theorem dX13_askedBy_25 : decode cX13_askedBy 25 = .ok (.iload_n 3, 1) := by decide +kernel
theorem dX13_askedBy_26 : decode cX13_askedBy 26 = .ok (.iadd, 1) := by decide +kernel
theorem dX13_askedBy_27 : decode cX13_askedBy 27 = .ok (.iaload, 1) := by decide +kernel
theorem dX13_askedBy_28 : decode cX13_askedBy 28 = .ok (.ifCond .le 9, 3) := by decide +kernel
theorem dX13_askedBy_31 : decode cX13_askedBy 31 = .ok (.iconst 1, 1) := by decide +kernel
theorem dX13_askedBy_32 : decode cX13_askedBy 32 = .ok (.iload_n 3, 1) := by decide +kernel
theorem dX13_askedBy_33 : decode cX13_askedBy 33 = .ok (.ishl, 1) := by decide +kernel
theorem dX13_askedBy_34 : decode cX13_askedBy 34 = .ok (.goto 4, 3) := by decide +kernel
theorem dX13_askedBy_37 : decode cX13_askedBy 37 = .ok (.iconst 0, 1) := by decide +kernel
theorem dX13_askedBy_38 : decode cX13_askedBy 38 = .ok (.ior, 1) := by decide +kernel
theorem dX13_askedBy_39 : decode cX13_askedBy 39 = .ok (.istore_n 2, 1) := by decide +kernel
theorem dX13_askedBy_40 : decode cX13_askedBy 40 = .ok (.iinc 3 1, 3) := by decide +kernel
theorem dX13_askedBy_43 : decode cX13_askedBy 43 = .ok (.goto (-39), 3) := by decide +kernel
theorem dX13_askedBy_46 : decode cX13_askedBy 46 = .ok (.iload_n 2, 1) := by decide +kernel
theorem dX13_askedBy_47 : decode cX13_askedBy 47 = .ok (.ireturn, 1) := by decide +kernel
theorem dX13_askOf_0 : decode cX13_askOf 0 = .ok (.iconst 0, 1) := by decide +kernel
theorem dX13_askOf_1 : decode cX13_askOf 1 = .ok (.istore_n 2, 1) := by decide +kernel
theorem dX13_askOf_2 : decode cX13_askOf 2 = .ok (.ldc2_w 349, 3) := by decide +kernel
theorem dX13_askOf_5 : decode cX13_askOf 5 = .ok (.lstore_n 3, 1) := by decide +kernel
theorem dX13_askOf_6 : decode cX13_askOf 6 = .ok (.iconst 1, 1) := by decide +kernel
theorem dX13_askOf_7 : decode cX13_askOf 7 = .ok (.istore 5, 2) := by decide +kernel
theorem dX13_askOf_9 : decode cX13_askOf 9 = .ok (.iload 5, 2) := by decide +kernel
theorem dX13_askOf_11 : decode cX13_askOf 11 = .ok (.iconst 1, 1) := by decide +kernel
theorem dX13_askOf_12 : decode cX13_askOf 12 = .ok (.aload_n 0, 1) := by decide +kernel
theorem dX13_askOf_13 : decode cX13_askOf 13 = .ok (.getfield 20, 3) := by decide +kernel
theorem dX13_askOf_16 : decode cX13_askOf 16 = .ok (.iconst 4, 1) := by decide +kernel
theorem dX13_askOf_17 : decode cX13_askOf 17 = .ok (.iaload, 1) := by decide +kernel
theorem dX13_askOf_18 : decode cX13_askOf 18 = .ok (.ishl, 1) := by decide +kernel
theorem dX13_askOf_19 : decode cX13_askOf 19 = .ok (.if_icmp .ge 90, 3) := by decide +kernel
theorem dX13_askOf_22 : decode cX13_askOf 22 = .ok (.iload 5, 2) := by decide +kernel
theorem dX13_askOf_24 : decode cX13_askOf 24 = .ok (.aload_n 0, 1) := by decide +kernel
theorem dX13_askOf_25 : decode cX13_askOf 25 = .ok (.iload_n 1, 1) := by decide +kernel
theorem dX13_askOf_26 : decode cX13_askOf 26 = .ok (.invokevirtual 351, 3) := by decide +kernel
theorem dX13_askOf_29 : decode cX13_askOf 29 = .ok (.iconst (-1), 1) := by decide +kernel
theorem dX13_askOf_30 : decode cX13_askOf 30 = .ok (.ixor, 1) := by decide +kernel
theorem dX13_askOf_31 : decode cX13_askOf 31 = .ok (.iand, 1) := by decide +kernel
theorem dX13_askOf_32 : decode cX13_askOf 32 = .ok (.ifCond .ne 71, 3) := by decide +kernel
theorem dX13_askOf_35 : decode cX13_askOf 35 = .ok (.iload 5, 2) := by decide +kernel
theorem dX13_askOf_37 : decode cX13_askOf 37 = .ok (.invokestatic 298, 3) := by decide +kernel
theorem dX13_askOf_40 : decode cX13_askOf 40 = .ok (.iconst 2, 1) := by decide +kernel
theorem dX13_askOf_41 : decode cX13_askOf 41 = .ok (.irem, 1) := by decide +kernel
theorem dX13_askOf_42 : decode cX13_askOf 42 = .ok (.ifCond .ne 6, 3) := by decide +kernel
theorem dX13_askOf_45 : decode cX13_askOf 45 = .ok (.goto 58, 3) := by decide +kernel
theorem dX13_askOf_48 : decode cX13_askOf 48 = .ok (.aload_n 0, 1) := by decide +kernel
theorem dX13_askOf_49 : decode cX13_askOf 49 = .ok (.iload_n 1, 1) := by decide +kernel
theorem dX13_askOf_50 : decode cX13_askOf 50 = .ok (.iload 5, 2) := by decide +kernel
theorem dX13_askOf_52 : decode cX13_askOf 52 = .ok (.invokevirtual 354, 3) := by decide +kernel
theorem dX13_askOf_55 : decode cX13_askOf 55 = .ok (.iconst 5, 1) := by decide +kernel
theorem dX13_askOf_56 : decode cX13_askOf 56 = .ok (.iload 5, 2) := by decide +kernel
theorem dX13_askOf_58 : decode cX13_askOf 58 = .ok (.invokestatic 298, 3) := by decide +kernel
theorem dX13_askOf_61 : decode cX13_askOf 61 = .ok (.isub, 1) := by decide +kernel
theorem dX13_askOf_62 : decode cX13_askOf 62 = .ok (.invokestatic 358, 3) := by decide +kernel
theorem dX13_askOf_65 : decode cX13_askOf 65 = .ok (.lmul, 1) := by decide +kernel
theorem dX13_askOf_66 : decode cX13_askOf 66 = .ok (.lstore 6, 2) := by decide +kernel
theorem dX13_askOf_68 : decode cX13_askOf 68 = .ok (.lload 6, 2) := by decide +kernel
theorem dX13_askOf_70 : decode cX13_askOf 70 = .ok (.lload_n 3, 1) := by decide +kernel
theorem dX13_askOf_71 : decode cX13_askOf 71 = .ok (.lcmp, 1) := by decide +kernel
theorem dX13_askOf_72 : decode cX13_askOf 72 = .ok (.ifCond .lt 31, 3) := by decide +kernel
theorem dX13_askOf_75 : decode cX13_askOf 75 = .ok (.lload 6, 2) := by decide +kernel
theorem dX13_askOf_77 : decode cX13_askOf 77 = .ok (.lload_n 3, 1) := by decide +kernel
theorem dX13_askOf_78 : decode cX13_askOf 78 = .ok (.lcmp, 1) := by decide +kernel
theorem dX13_askOf_79 : decode cX13_askOf 79 = .ok (.ifCond .ne 18, 3) := by decide +kernel
theorem dX13_askOf_82 : decode cX13_askOf 82 = .ok (.iload 5, 2) := by decide +kernel
theorem dX13_askOf_84 : decode cX13_askOf 84 = .ok (.invokestatic 298, 3) := by decide +kernel
theorem dX13_askOf_87 : decode cX13_askOf 87 = .ok (.iload_n 2, 1) := by decide +kernel
theorem dX13_askOf_88 : decode cX13_askOf 88 = .ok (.invokestatic 298, 3) := by decide +kernel
theorem dX13_askOf_91 : decode cX13_askOf 91 = .ok (.if_icmp .lt 6, 3) := by decide +kernel
theorem dX13_askOf_94 : decode cX13_askOf 94 = .ok (.goto 9, 3) := by decide +kernel
theorem dX13_askOf_97 : decode cX13_askOf 97 = .ok (.iload 5, 2) := by decide +kernel
theorem dX13_askOf_99 : decode cX13_askOf 99 = .ok (.istore_n 2, 1) := by decide +kernel
theorem dX13_askOf_100 : decode cX13_askOf 100 = .ok (.lload 6, 2) := by decide +kernel
theorem dX13_askOf_102 : decode cX13_askOf 102 = .ok (.lstore_n 3, 1) := by decide +kernel
theorem dX13_askOf_103 : decode cX13_askOf 103 = .ok (.iinc 5 1, 3) := by decide +kernel
theorem dX13_askOf_106 : decode cX13_askOf 106 = .ok (.goto (-97), 3) := by decide +kernel
theorem dX13_askOf_109 : decode cX13_askOf 109 = .ok (.iload_n 2, 1) := by decide +kernel
theorem dX13_askOf_110 : decode cX13_askOf 110 = .ok (.ireturn, 1) := by decide +kernel
theorem dX13_ask_0 : decode cX13_ask 0 = .ok (.aload_n 0, 1) := by decide +kernel
theorem dX13_ask_1 : decode cX13_ask 1 = .ok (.invokevirtual 166, 3) := by decide +kernel
theorem dX13_ask_4 : decode cX13_ask 4 = .ok (.aload_n 0, 1) := by decide +kernel
theorem dX13_ask_5 : decode cX13_ask 5 = .ok (.iload_n 1, 1) := by decide +kernel
theorem dX13_ask_6 : decode cX13_ask 6 = .ok (.invokevirtual 275, 3) := by decide +kernel
theorem dX13_ask_9 : decode cX13_ask 9 = .ok (.ifCond .eq 11, 3) := by decide +kernel
theorem dX13_ask_12 : decode cX13_ask 12 = .ok (.aload_n 0, 1) := by decide +kernel
theorem dX13_ask_13 : decode cX13_ask 13 = .ok (.iload_n 1, 1) := by decide +kernel
theorem dX13_ask_14 : decode cX13_ask 14 = .ok (.invokevirtual 362, 3) := by decide +kernel
theorem dX13_ask_17 : decode cX13_ask 17 = .ok (.goto 8, 3) := by decide +kernel
theorem dX13_ask_20 : decode cX13_ask 20 = .ok (.aload_n 0, 1) := by decide +kernel
theorem dX13_ask_21 : decode cX13_ask 21 = .ok (.iconst 1, 1) := by decide +kernel
theorem dX13_ask_22 : decode cX13_ask 22 = .ok (.invokevirtual 169, 3) := by decide +kernel
theorem dX13_ask_25 : decode cX13_ask 25 = .ok (.ireturn, 1) := by decide +kernel
theorem dX13_truth_0 : decode cX13_truth 0 = .ok (.aload_n 0, 1) := by decide +kernel
theorem dX13_truth_1 : decode cX13_truth 1 = .ok (.invokevirtual 166, 3) := by decide +kernel
theorem dX13_truth_4 : decode cX13_truth 4 = .ok (.aload_n 0, 1) := by decide +kernel
theorem dX13_truth_5 : decode cX13_truth 5 = .ok (.iload_n 1, 1) := by decide +kernel
theorem dX13_truth_6 : decode cX13_truth 6 = .ok (.invokevirtual 275, 3) := by decide +kernel
theorem dX13_truth_9 : decode cX13_truth 9 = .ok (.ifCond .ne 10, 3) := by decide +kernel
theorem dX13_truth_12 : decode cX13_truth 12 = .ok (.aload_n 0, 1) := by decide +kernel
theorem dX13_truth_13 : decode cX13_truth 13 = .ok (.iconst 1, 1) := by decide +kernel
theorem dX13_truth_14 : decode cX13_truth 14 = .ok (.invokevirtual 169, 3) := by decide +kernel
theorem dX13_truth_17 : decode cX13_truth 17 = .ok (.i2l, 1) := by decide +kernel
theorem dX13_truth_18 : decode cX13_truth 18 = .ok (.lreturn, 1) := by decide +kernel
theorem dX13_truth_19 : decode cX13_truth 19 = .ok (.aload_n 0, 1) := by decide +kernel
theorem dX13_truth_20 : decode cX13_truth 20 = .ok (.iload_n 1, 1) := by decide +kernel
theorem dX13_truth_21 : decode cX13_truth 21 = .ok (.invokevirtual 362, 3) := by decide +kernel
theorem dX13_truth_24 : decode cX13_truth 24 = .ok (.istore_n 3, 1) := by decide +kernel
theorem dX13_truth_25 : decode cX13_truth 25 = .ok (.iload_n 3, 1) := by decide +kernel
theorem dX13_truth_26 : decode cX13_truth 26 = .ok (.ifCond .ne 7, 3) := by decide +kernel
theorem dX13_truth_29 : decode cX13_truth 29 = .ok (.lconst 0, 1) := by decide +kernel
theorem dX13_truth_30 : decode cX13_truth 30 = .ok (.goto 9, 3) := by decide +kernel
theorem dX13_truth_33 : decode cX13_truth 33 = .ok (.aload_n 0, 1) := by decide +kernel
theorem dX13_truth_34 : decode cX13_truth 34 = .ok (.iload_n 1, 1) := by decide +kernel
theorem dX13_truth_35 : decode cX13_truth 35 = .ok (.iload_n 3, 1) := by decide +kernel
theorem dX13_truth_36 : decode cX13_truth 36 = .ok (.invokevirtual 354, 3) := by decide +kernel
theorem dX13_truth_39 : decode cX13_truth 39 = .ok (.iload_n 3, 1) := by decide +kernel
theorem dX13_truth_40 : decode cX13_truth 40 = .ok (.invokestatic 298, 3) := by decide +kernel
theorem dX13_truth_43 : decode cX13_truth 43 = .ok (.invokestatic 358, 3) := by decide +kernel
theorem dX13_truth_46 : decode cX13_truth 46 = .ok (.iload_n 2, 1) := by decide +kernel
theorem dX13_truth_47 : decode cX13_truth 47 = .ok (.invokestatic 365, 3) := by decide +kernel
theorem dX13_truth_50 : decode cX13_truth 50 = .ok (.lreturn, 1) := by decide +kernel
theorem dX13_allTell_0 : decode cX13_allTell 0 = .ok (.aload_n 0, 1) := by decide +kernel
theorem dX13_allTell_1 : decode cX13_allTell 1 = .ok (.invokevirtual 166, 3) := by decide +kernel
theorem dX13_allTell_4 : decode cX13_allTell 4 = .ok (.aload_n 0, 1) := by decide +kernel
theorem dX13_allTell_5 : decode cX13_allTell 5 = .ok (.iload_n 1, 1) := by decide +kernel
theorem dX13_allTell_6 : decode cX13_allTell 6 = .ok (.invokevirtual 275, 3) := by decide +kernel
theorem dX13_allTell_9 : decode cX13_allTell 9 = .ok (.ifCond .ne 10, 3) := by decide +kernel
theorem dX13_allTell_12 : decode cX13_allTell 12 = .ok (.aload_n 0, 1) := by decide +kernel
theorem dX13_allTell_13 : decode cX13_allTell 13 = .ok (.iconst 1, 1) := by decide +kernel
theorem dX13_allTell_14 : decode cX13_allTell 14 = .ok (.invokevirtual 169, 3) := by decide +kernel
theorem dX13_allTell_17 : decode cX13_allTell 17 = .ok (.i2l, 1) := by decide +kernel
theorem dX13_allTell_18 : decode cX13_allTell 18 = .ok (.lreturn, 1) := by decide +kernel
theorem dX13_allTell_19 : decode cX13_allTell 19 = .ok (.lconst 1, 1) := by decide +kernel
theorem dX13_allTell_20 : decode cX13_allTell 20 = .ok (.lstore_n 3, 1) := by decide +kernel
theorem dX13_allTell_21 : decode cX13_allTell 21 = .ok (.iconst 0, 1) := by decide +kernel
theorem dX13_allTell_22 : decode cX13_allTell 22 = .ok (.istore 5, 2) := by decide +kernel
theorem dX13_allTell_24 : decode cX13_allTell 24 = .ok (.iload 5, 2) := by decide +kernel
theorem dX13_allTell_26 : decode cX13_allTell 26 = .ok (.aload_n 0, 1) := by decide +kernel
theorem dX13_allTell_27 : decode cX13_allTell 27 = .ok (.getfield 20, 3) := by decide +kernel
theorem dX13_allTell_30 : decode cX13_allTell 30 = .ok (.iconst 4, 1) := by decide +kernel
theorem dX13_allTell_31 : decode cX13_allTell 31 = .ok (.iaload, 1) := by decide +kernel
theorem dX13_allTell_32 : decode cX13_allTell 32 = .ok (.if_icmp .ge 33, 3) := by decide +kernel
theorem dX13_allTell_35 : decode cX13_allTell 35 = .ok (.aload_n 0, 1) := by decide +kernel
theorem dX13_allTell_36 : decode cX13_allTell 36 = .ok (.iload_n 1, 1) := by decide +kernel
theorem dX13_allTell_37 : decode cX13_allTell 37 = .ok (.invokevirtual 351, 3) := by decide +kernel
theorem dX13_allTell_40 : decode cX13_allTell 40 = .ok (.iload 5, 2) := by decide +kernel
theorem dX13_allTell_42 : decode cX13_allTell 42 = .ok (.invokestatic 307, 3) := by decide +kernel
theorem dX13_allTell_45 : decode cX13_allTell 45 = .ok (.ifCond .eq 14, 3) := by decide +kernel
theorem dX13_allTell_48 : decode cX13_allTell 48 = .ok (.lload_n 3, 1) := by decide +kernel
theorem dX13_allTell_49 : decode cX13_allTell 49 = .ok (.aload_n 0, 1) := by decide +kernel
theorem dX13_allTell_50 : decode cX13_allTell 50 = .ok (.iload_n 1, 1) := by decide +kernel
theorem dX13_allTell_51 : decode cX13_allTell 51 = .ok (.iload 5, 2) := by decide +kernel
theorem dX13_allTell_53 : decode cX13_allTell 53 = .ok (.invokevirtual 344, 3) := by decide +kernel
theorem dX13_allTell_56 : decode cX13_allTell 56 = .ok (.i2l, 1) := by decide +kernel
theorem dX13_allTell_57 : decode cX13_allTell 57 = .ok (.lmul, 1) := by decide +kernel
theorem dX13_allTell_58 : decode cX13_allTell 58 = .ok (.lstore_n 3, 1) := by decide +kernel
theorem dX13_allTell_59 : decode cX13_allTell 59 = .ok (.iinc 5 1, 3) := by decide +kernel
theorem dX13_allTell_62 : decode cX13_allTell 62 = .ok (.goto (-38), 3) := by decide +kernel
theorem dX13_allTell_65 : decode cX13_allTell 65 = .ok (.lload_n 3, 1) := by decide +kernel
theorem dX13_allTell_66 : decode cX13_allTell 66 = .ok (.aload_n 0, 1) := by decide +kernel
theorem dX13_allTell_67 : decode cX13_allTell 67 = .ok (.iload_n 1, 1) := by decide +kernel
theorem dX13_allTell_68 : decode cX13_allTell 68 = .ok (.invokevirtual 351, 3) := by decide +kernel
theorem dX13_allTell_71 : decode cX13_allTell 71 = .ok (.invokestatic 298, 3) := by decide +kernel
theorem dX13_allTell_74 : decode cX13_allTell 74 = .ok (.invokestatic 358, 3) := by decide +kernel
theorem dX13_allTell_77 : decode cX13_allTell 77 = .ok (.iload_n 2, 1) := by decide +kernel
theorem dX13_allTell_78 : decode cX13_allTell 78 = .ok (.invokestatic 365, 3) := by decide +kernel
theorem dX13_allTell_81 : decode cX13_allTell 81 = .ok (.lreturn, 1) := by decide +kernel
theorem dX13_guard_0 : decode cX13_guard 0 = .ok (.aload_n 0, 1) := by decide +kernel
theorem dX13_guard_1 : decode cX13_guard 1 = .ok (.invokevirtual 166, 3) := by decide +kernel
theorem dX13_guard_4 : decode cX13_guard 4 = .ok (.aload_n 0, 1) := by decide +kernel
theorem dX13_guard_5 : decode cX13_guard 5 = .ok (.aload_n 0, 1) := by decide +kernel
theorem dX13_guard_6 : decode cX13_guard 6 = .ok (.getfield 179, 3) := by decide +kernel
theorem dX13_guard_9 : decode cX13_guard 9 = .ok (.iload_n 1, 1) := by decide +kernel
theorem dX13_guard_10 : decode cX13_guard 10 = .ok (.invokevirtual 281, 3) := by decide +kernel
theorem dX13_guard_13 : decode cX13_guard 13 = .ok (.istore_n 2, 1) := by decide +kernel
theorem dX13_guard_14 : decode cX13_guard 14 = .ok (.iload_n 2, 1) := by decide +kernel
theorem dX13_guard_15 : decode cX13_guard 15 = .ok (.ifCond .eq 9, 3) := by decide +kernel
theorem dX13_guard_18 : decode cX13_guard 18 = .ok (.aload_n 0, 1) := by decide +kernel
theorem dX13_guard_19 : decode cX13_guard 19 = .ok (.iload_n 2, 1) := by decide +kernel
theorem dX13_guard_20 : decode cX13_guard 20 = .ok (.invokevirtual 169, 3) := by decide +kernel
theorem dX13_guard_23 : decode cX13_guard 23 = .ok (.ireturn, 1) := by decide +kernel
theorem dX13_guard_24 : decode cX13_guard 24 = .ok (.bipush (-2), 2) := by decide +kernel
theorem dX13_guard_26 : decode cX13_guard 26 = .ok (.istore_n 3, 1) := by decide +kernel
theorem dX13_guard_27 : decode cX13_guard 27 = .ok (.iconst 0, 1) := by decide +kernel
theorem dX13_guard_28 : decode cX13_guard 28 = .ok (.istore 4, 2) := by decide +kernel
theorem dX13_guard_30 : decode cX13_guard 30 = .ok (.iload 4, 2) := by decide +kernel
theorem dX13_guard_32 : decode cX13_guard 32 = .ok (.iconst 1, 1) := by decide +kernel
theorem dX13_guard_33 : decode cX13_guard 33 = .ok (.aload_n 0, 1) := by decide +kernel
theorem dX13_guard_34 : decode cX13_guard 34 = .ok (.getfield 20, 3) := by decide +kernel
theorem dX13_guard_37 : decode cX13_guard 37 = .ok (.iconst 0, 1) := by decide +kernel
theorem dX13_guard_38 : decode cX13_guard 38 = .ok (.iaload, 1) := by decide +kernel
theorem dX13_guard_39 : decode cX13_guard 39 = .ok (.ishl, 1) := by decide +kernel
theorem dX13_guard_40 : decode cX13_guard 40 = .ok (.if_icmp .ge 38, 3) := by decide +kernel
theorem dX13_guard_43 : decode cX13_guard 43 = .ok (.iload_n 3, 1) := by decide +kernel
theorem dX13_guard_44 : decode cX13_guard 44 = .ok (.ifCond .lt 15, 3) := by decide +kernel
theorem dX13_guard_47 : decode cX13_guard 47 = .ok (.iload 4, 2) := by decide +kernel
theorem dX13_guard_49 : decode cX13_guard 49 = .ok (.invokestatic 298, 3) := by decide +kernel
theorem dX13_guard_52 : decode cX13_guard 52 = .ok (.iload_n 3, 1) := by decide +kernel
theorem dX13_guard_53 : decode cX13_guard 53 = .ok (.invokestatic 298, 3) := by decide +kernel
theorem dX13_guard_56 : decode cX13_guard 56 = .ok (.if_icmp .ge 16, 3) := by decide +kernel
theorem dX13_guard_59 : decode cX13_guard 59 = .ok (.aload_n 0, 1) := by decide +kernel
theorem dX13_guard_60 : decode cX13_guard 60 = .ok (.iload 4, 2) := by decide +kernel
theorem dX13_guard_62 : decode cX13_guard 62 = .ok (.iload_n 1, 1) := by decide +kernel
theorem dX13_guard_63 : decode cX13_guard 63 = .ok (.invokevirtual 369, 3) := by decide +kernel
theorem dX13_guard_66 : decode cX13_guard 66 = .ok (.ifCond .eq 6, 3) := by decide +kernel
theorem dX13_guard_69 : decode cX13_guard 69 = .ok (.iload 4, 2) := by decide +kernel
theorem dX13_guard_71 : decode cX13_guard 71 = .ok (.istore_n 3, 1) := by decide +kernel
theorem dX13_guard_72 : decode cX13_guard 72 = .ok (.iinc 4 1, 3) := by decide +kernel
theorem dX13_guard_75 : decode cX13_guard 75 = .ok (.goto (-45), 3) := by decide +kernel
theorem dX13_guard_78 : decode cX13_guard 78 = .ok (.iload_n 3, 1) := by decide +kernel
theorem dX13_guard_79 : decode cX13_guard 79 = .ok (.ireturn, 1) := by decide +kernel
theorem dX13_doesGuard_0 : decode cX13_doesGuard 0 = .ok (.iconst 0, 1) := by decide +kernel
theorem dX13_doesGuard_1 : decode cX13_doesGuard 1 = .ok (.istore_n 3, 1) := by decide +kernel
theorem dX13_doesGuard_2 : decode cX13_doesGuard 2 = .ok (.iload_n 3, 1) := by decide +kernel
theorem dX13_doesGuard_3 : decode cX13_doesGuard 3 = .ok (.aload_n 0, 1) := by decide +kernel
theorem dX13_doesGuard_4 : decode cX13_doesGuard 4 = .ok (.getfield 20, 3) := by decide +kernel
theorem dX13_doesGuard_7 : decode cX13_doesGuard 7 = .ok (.iconst 4, 1) := by decide +kernel
theorem dX13_doesGuard_8 : decode cX13_doesGuard 8 = .ok (.iaload, 1) := by decide +kernel
theorem dX13_doesGuard_9 : decode cX13_doesGuard 9 = .ok (.if_icmp .ge 115, 3) := by decide +kernel
theorem dX13_doesGuard_12 : decode cX13_doesGuard 12 = .ok (.iconst 0, 1) := by decide +kernel
theorem dX13_doesGuard_13 : decode cX13_doesGuard 13 = .ok (.istore 4, 2) := by decide +kernel
theorem dX13_doesGuard_15 : decode cX13_doesGuard 15 = .ok (.iload 4, 2) := by decide +kernel
theorem dX13_doesGuard_17 : decode cX13_doesGuard 17 = .ok (.aload_n 0, 1) := by decide +kernel
theorem dX13_doesGuard_18 : decode cX13_doesGuard 18 = .ok (.getfield 20, 3) := by decide +kernel
theorem dX13_doesGuard_21 : decode cX13_doesGuard 21 = .ok (.iconst 4, 1) := by decide +kernel
theorem dX13_doesGuard_22 : decode cX13_doesGuard 22 = .ok (.iaload, 1) := by decide +kernel
theorem dX13_doesGuard_23 : decode cX13_doesGuard 23 = .ok (.if_icmp .ge 95, 3) := by decide +kernel
theorem dX13_doesGuard_26 : decode cX13_doesGuard 26 = .ok (.iload_n 3, 1) := by decide +kernel
theorem dX13_doesGuard_27 : decode cX13_doesGuard 27 = .ok (.iload 4, 2) := by decide +kernel
theorem dX13_doesGuard_29 : decode cX13_doesGuard 29 = .ok (.if_icmp .ne 6, 3) := by decide +kernel
theorem dX13_doesGuard_32 : decode cX13_doesGuard 32 = .ok (.goto 80, 3) := by decide +kernel
theorem dX13_doesGuard_35 : decode cX13_doesGuard 35 = .ok (.iconst 1, 1) := by decide +kernel
theorem dX13_doesGuard_36 : decode cX13_doesGuard 36 = .ok (.istore 5, 2) := by decide +kernel
theorem dX13_doesGuard_38 : decode cX13_doesGuard 38 = .ok (.iconst 0, 1) := by decide +kernel
theorem dX13_doesGuard_39 : decode cX13_doesGuard 39 = .ok (.istore 6, 2) := by decide +kernel
theorem dX13_doesGuard_41 : decode cX13_doesGuard 41 = .ok (.iload 6, 2) := by decide +kernel
theorem dX13_doesGuard_43 : decode cX13_doesGuard 43 = .ok (.aload_n 0, 1) := by decide +kernel
theorem dX13_doesGuard_44 : decode cX13_doesGuard 44 = .ok (.getfield 20, 3) := by decide +kernel
theorem dX13_doesGuard_47 : decode cX13_doesGuard 47 = .ok (.iconst 0, 1) := by decide +kernel
theorem dX13_doesGuard_48 : decode cX13_doesGuard 48 = .ok (.iaload, 1) := by decide +kernel
theorem dX13_doesGuard_49 : decode cX13_doesGuard 49 = .ok (.if_icmp .ge 56, 3) := by decide +kernel
theorem dX13_doesGuard_52 : decode cX13_doesGuard 52 = .ok (.iload 5, 2) := by decide +kernel
theorem dX13_doesGuard_54 : decode cX13_doesGuard 54 = .ok (.ifCond .eq 42, 3) := by decide +kernel
theorem dX13_doesGuard_57 : decode cX13_doesGuard 57 = .ok (.iload_n 1, 1) := by decide +kernel
theorem dX13_doesGuard_58 : decode cX13_doesGuard 58 = .ok (.iload 6, 2) := by decide +kernel
theorem dX13_doesGuard_60 : decode cX13_doesGuard 60 = .ok (.invokestatic 307, 3) := by decide +kernel
theorem dX13_doesGuard_63 : decode cX13_doesGuard 63 = .ok (.ifCond .eq 29, 3) := by decide +kernel
theorem dX13_doesGuard_66 : decode cX13_doesGuard 66 = .ok (.aload_n 0, 1) := by decide +kernel
theorem dX13_doesGuard_67 : decode cX13_doesGuard 67 = .ok (.iload_n 3, 1) := by decide +kernel
theorem dX13_doesGuard_68 : decode cX13_doesGuard 68 = .ok (.iload_n 2, 1) := by decide +kernel
theorem dX13_doesGuard_69 : decode cX13_doesGuard 69 = .ok (.invokevirtual 263, 3) := by decide +kernel
theorem dX13_doesGuard_72 : decode cX13_doesGuard 72 = .ok (.iload 6, 2) := by decide +kernel
theorem dX13_doesGuard_74 : decode cX13_doesGuard 74 = .ok (.invokestatic 247, 3) := by decide +kernel
theorem dX13_doesGuard_77 : decode cX13_doesGuard 77 = .ok (.aload_n 0, 1) := by decide +kernel
theorem dX13_doesGuard_78 : decode cX13_doesGuard 78 = .ok (.iload 4, 2) := by decide +kernel
theorem dX13_doesGuard_80 : decode cX13_doesGuard 80 = .ok (.iload_n 2, 1) := by decide +kernel
theorem dX13_doesGuard_81 : decode cX13_doesGuard 81 = .ok (.invokevirtual 285, 3) := by decide +kernel
theorem dX13_doesGuard_84 : decode cX13_doesGuard 84 = .ok (.iload 6, 2) := by decide +kernel
theorem dX13_doesGuard_86 : decode cX13_doesGuard 86 = .ok (.invokestatic 247, 3) := by decide +kernel
theorem dX13_doesGuard_89 : decode cX13_doesGuard 89 = .ok (.if_icmp .ne 7, 3) := by decide +kernel
theorem dX13_doesGuard_92 : decode cX13_doesGuard 92 = .ok (.iconst 1, 1) := by decide +kernel
theorem dX13_doesGuard_93 : decode cX13_doesGuard 93 = .ok (.goto 4, 3) := by decide +kernel
theorem dX13_doesGuard_96 : decode cX13_doesGuard 96 = .ok (.iconst 0, 1) := by decide +kernel
theorem dX13_doesGuard_97 : decode cX13_doesGuard 97 = .ok (.istore 5, 2) := by decide +kernel
theorem dX13_doesGuard_99 : decode cX13_doesGuard 99 = .ok (.iinc 6 1, 3) := by decide +kernel
theorem dX13_doesGuard_102 : decode cX13_doesGuard 102 = .ok (.goto (-61), 3) := by decide +kernel
theorem dX13_doesGuard_105 : decode cX13_doesGuard 105 = .ok (.iload 5, 2) := by decide +kernel
theorem dX13_doesGuard_107 : decode cX13_doesGuard 107 = .ok (.ifCond .eq 5, 3) := by decide +kernel
theorem dX13_doesGuard_110 : decode cX13_doesGuard 110 = .ok (.iconst 0, 1) := by decide +kernel
theorem dX13_doesGuard_111 : decode cX13_doesGuard 111 = .ok (.ireturn, 1) := by decide +kernel
theorem dX13_doesGuard_112 : decode cX13_doesGuard 112 = .ok (.iinc 4 1, 3) := by decide +kernel
theorem dX13_doesGuard_115 : decode cX13_doesGuard 115 = .ok (.goto (-100), 3) := by decide +kernel
theorem dX13_doesGuard_118 : decode cX13_doesGuard 118 = .ok (.iinc 3 1, 3) := by decide +kernel
theorem dX13_doesGuard_121 : decode cX13_doesGuard 121 = .ok (.goto (-119), 3) := by decide +kernel
theorem dX13_doesGuard_124 : decode cX13_doesGuard 124 = .ok (.iconst 1, 1) := by decide +kernel
theorem dX13_doesGuard_125 : decode cX13_doesGuard 125 = .ok (.ireturn, 1) := by decide +kernel
theorem dX13_alike_0 : decode cX13_alike 0 = .ok (.aload_n 0, 1) := by decide +kernel
theorem dX13_alike_1 : decode cX13_alike 1 = .ok (.getfield 20, 3) := by decide +kernel
theorem dX13_alike_4 : decode cX13_alike 4 = .ok (.iconst 0, 1) := by decide +kernel
theorem dX13_alike_5 : decode cX13_alike 5 = .ok (.iaload, 1) := by decide +kernel
theorem dX13_alike_6 : decode cX13_alike 6 = .ok (.aload_n 0, 1) := by decide +kernel
theorem dX13_alike_7 : decode cX13_alike 7 = .ok (.aload_n 0, 1) := by decide +kernel
theorem dX13_alike_8 : decode cX13_alike 8 = .ok (.iload_n 1, 1) := by decide +kernel
theorem dX13_alike_9 : decode cX13_alike 9 = .ok (.invokevirtual 250, 3) := by decide +kernel
theorem dX13_alike_12 : decode cX13_alike 12 = .ok (.iload_n 2, 1) := by decide +kernel
theorem dX13_alike_13 : decode cX13_alike 13 = .ok (.invokevirtual 269, 3) := by decide +kernel
theorem dX13_alike_16 : decode cX13_alike 16 = .ok (.isub, 1) := by decide +kernel
theorem dX13_alike_17 : decode cX13_alike 17 = .ok (.ireturn, 1) := by decide +kernel
theorem dX13_canBe_0 : decode cX13_canBe 0 = .ok (.iconst 1, 1) := by decide +kernel
theorem dX13_canBe_1 : decode cX13_canBe 1 = .ok (.istore_n 2, 1) := by decide +kernel
theorem dX13_canBe_2 : decode cX13_canBe 2 = .ok (.iconst 0, 1) := by decide +kernel
theorem dX13_canBe_3 : decode cX13_canBe 3 = .ok (.istore_n 3, 1) := by decide +kernel
theorem dX13_canBe_4 : decode cX13_canBe 4 = .ok (.iload_n 3, 1) := by decide +kernel
theorem dX13_canBe_5 : decode cX13_canBe 5 = .ok (.aload_n 0, 1) := by decide +kernel
theorem dX13_canBe_6 : decode cX13_canBe 6 = .ok (.getfield 20, 3) := by decide +kernel
theorem dX13_canBe_9 : decode cX13_canBe 9 = .ok (.iconst 4, 1) := by decide +kernel
theorem dX13_canBe_10 : decode cX13_canBe 10 = .ok (.iaload, 1) := by decide +kernel
theorem dX13_canBe_11 : decode cX13_canBe 11 = .ok (.if_icmp .ge 51, 3) := by decide +kernel
theorem dX13_canBe_14 : decode cX13_canBe 14 = .ok (.iload_n 2, 1) := by decide +kernel
theorem dX13_canBe_15 : decode cX13_canBe 15 = .ok (.ifCond .eq 39, 3) := by decide +kernel
theorem dX13_canBe_18 : decode cX13_canBe 18 = .ok (.aload_n 0, 1) := by decide +kernel
theorem dX13_canBe_19 : decode cX13_canBe 19 = .ok (.getfield 20, 3) := by decide +kernel
theorem dX13_canBe_22 : decode cX13_canBe 22 = .ok (.bipush 125, 2) := by decide +kernel
theorem dX13_canBe_24 : decode cX13_canBe 24 = .ok (.iload_n 3, 1) := by decide +kernel
theorem dX13_canBe_25 : decode cX13_canBe 25 = .ok (.iadd, 1) := by decide +kernel
theorem dX13_canBe_26 : decode cX13_canBe 26 = .ok (.iaload, 1) := by decide +kernel
theorem dX13_canBe_27 : decode cX13_canBe 27 = .ok (.ifCond .eq 23, 3) := by decide +kernel
theorem dX13_canBe_30 : decode cX13_canBe 30 = .ok (.aload_n 0, 1) := by decide +kernel
theorem dX13_canBe_31 : decode cX13_canBe 31 = .ok (.iload_n 3, 1) := by decide +kernel
theorem dX13_canBe_32 : decode cX13_canBe 32 = .ok (.iload_n 1, 1) := by decide +kernel
theorem dX13_canBe_33 : decode cX13_canBe 33 = .ok (.invokevirtual 372, 3) := by decide +kernel
theorem dX13_canBe_36 : decode cX13_canBe 36 = .ok (.aload_n 0, 1) := by decide +kernel
theorem dX13_canBe_37 : decode cX13_canBe 37 = .ok (.getfield 20, 3) := by decide +kernel
theorem dX13_canBe_40 : decode cX13_canBe 40 = .ok (.bipush 125, 2) := by decide +kernel
theorem dX13_canBe_42 : decode cX13_canBe 42 = .ok (.iload_n 3, 1) := by decide +kernel
theorem dX13_canBe_43 : decode cX13_canBe 43 = .ok (.iadd, 1) := by decide +kernel
theorem dX13_canBe_44 : decode cX13_canBe 44 = .ok (.iaload, 1) := by decide +kernel
theorem dX13_canBe_45 : decode cX13_canBe 45 = .ok (.iconst 1, 1) := by decide +kernel
theorem dX13_canBe_46 : decode cX13_canBe 46 = .ok (.isub, 1) := by decide +kernel
theorem dX13_canBe_47 : decode cX13_canBe 47 = .ok (.if_icmp .ne 7, 3) := by decide +kernel
theorem dX13_canBe_50 : decode cX13_canBe 50 = .ok (.iconst 1, 1) := by decide +kernel
theorem dX13_canBe_51 : decode cX13_canBe 51 = .ok (.goto 4, 3) := by decide +kernel
theorem dX13_canBe_54 : decode cX13_canBe 54 = .ok (.iconst 0, 1) := by decide +kernel
theorem dX13_canBe_55 : decode cX13_canBe 55 = .ok (.istore_n 2, 1) := by decide +kernel
theorem dX13_canBe_56 : decode cX13_canBe 56 = .ok (.iinc 3 1, 3) := by decide +kernel
theorem dX13_canBe_59 : decode cX13_canBe 59 = .ok (.goto (-55), 3) := by decide +kernel
theorem dX13_canBe_62 : decode cX13_canBe 62 = .ok (.iload_n 2, 1) := by decide +kernel
theorem dX13_canBe_63 : decode cX13_canBe 63 = .ok (.ireturn, 1) := by decide +kernel
theorem dX13_lookBy_0 : decode cX13_lookBy 0 = .ok (.iconst 0, 1) := by decide +kernel
theorem dX13_lookBy_1 : decode cX13_lookBy 1 = .ok (.istore_n 2, 1) := by decide +kernel
theorem dX13_lookBy_2 : decode cX13_lookBy 2 = .ok (.iload_n 1, 1) := by decide +kernel
theorem dX13_lookBy_3 : decode cX13_lookBy 3 = .ok (.istore_n 3, 1) := by decide +kernel
theorem dX13_lookBy_4 : decode cX13_lookBy 4 = .ok (.aload_n 0, 1) := by decide +kernel
theorem dX13_lookBy_5 : decode cX13_lookBy 5 = .ok (.getfield 20, 3) := by decide +kernel
theorem dX13_lookBy_8 : decode cX13_lookBy 8 = .ok (.iconst 0, 1) := by decide +kernel
theorem dX13_lookBy_9 : decode cX13_lookBy 9 = .ok (.iaload, 1) := by decide +kernel
theorem dX13_lookBy_10 : decode cX13_lookBy 10 = .ok (.iconst 1, 1) := by decide +kernel
theorem dX13_lookBy_11 : decode cX13_lookBy 11 = .ok (.isub, 1) := by decide +kernel
theorem dX13_lookBy_12 : decode cX13_lookBy 12 = .ok (.istore 4, 2) := by decide +kernel
theorem dX13_lookBy_14 : decode cX13_lookBy 14 = .ok (.iload 4, 2) := by decide +kernel
theorem dX13_lookBy_16 : decode cX13_lookBy 16 = .ok (.ifCond .lt 24, 3) := by decide +kernel
theorem dX13_lookBy_19 : decode cX13_lookBy 19 = .ok (.iload_n 2, 1) := by decide +kernel
theorem dX13_lookBy_20 : decode cX13_lookBy 20 = .ok (.iload_n 3, 1) := by decide +kernel
theorem dX13_lookBy_21 : decode cX13_lookBy 21 = .ok (.iconst 4, 1) := by decide +kernel
theorem dX13_lookBy_22 : decode cX13_lookBy 22 = .ok (.irem, 1) := by decide +kernel
theorem dX13_lookBy_23 : decode cX13_lookBy 23 = .ok (.iconst 2, 1) := by decide +kernel
theorem dX13_lookBy_24 : decode cX13_lookBy 24 = .ok (.iload 4, 2) := by decide +kernel
theorem dX13_lookBy_26 : decode cX13_lookBy 26 = .ok (.imul, 1) := by decide +kernel
theorem dX13_lookBy_27 : decode cX13_lookBy 27 = .ok (.ishl, 1) := by decide +kernel
theorem dX13_lookBy_28 : decode cX13_lookBy 28 = .ok (.ior, 1) := by decide +kernel
theorem dX13_lookBy_29 : decode cX13_lookBy 29 = .ok (.istore_n 2, 1) := by decide +kernel
theorem dX13_lookBy_30 : decode cX13_lookBy 30 = .ok (.iload_n 3, 1) := by decide +kernel
theorem dX13_lookBy_31 : decode cX13_lookBy 31 = .ok (.iconst 4, 1) := by decide +kernel
theorem dX13_lookBy_32 : decode cX13_lookBy 32 = .ok (.idiv, 1) := by decide +kernel
theorem dX13_lookBy_33 : decode cX13_lookBy 33 = .ok (.istore_n 3, 1) := by decide +kernel
theorem dX13_lookBy_34 : decode cX13_lookBy 34 = .ok (.iinc 4 (-1), 3) := by decide +kernel
theorem dX13_lookBy_37 : decode cX13_lookBy 37 = .ok (.goto (-23), 3) := by decide +kernel
theorem dX13_lookBy_40 : decode cX13_lookBy 40 = .ok (.iload_n 2, 1) := by decide +kernel
theorem dX13_lookBy_41 : decode cX13_lookBy 41 = .ok (.ireturn, 1) := by decide +kernel
theorem dX13_allLooks_0 : decode cX13_allLooks 0 = .ok (.iconst 1, 1) := by decide +kernel
theorem dX13_allLooks_1 : decode cX13_allLooks 1 = .ok (.iconst 2, 1) := by decide +kernel
theorem dX13_allLooks_2 : decode cX13_allLooks 2 = .ok (.aload_n 0, 1) := by decide +kernel
theorem dX13_allLooks_3 : decode cX13_allLooks 3 = .ok (.getfield 20, 3) := by decide +kernel
theorem dX13_allLooks_6 : decode cX13_allLooks 6 = .ok (.iconst 0, 1) := by decide +kernel
theorem dX13_allLooks_7 : decode cX13_allLooks 7 = .ok (.iaload, 1) := by decide +kernel
theorem dX13_allLooks_8 : decode cX13_allLooks 8 = .ok (.imul, 1) := by decide +kernel
theorem dX13_allLooks_9 : decode cX13_allLooks 9 = .ok (.ishl, 1) := by decide +kernel
theorem dX13_allLooks_10 : decode cX13_allLooks 10 = .ok (.ireturn, 1) := by decide +kernel
theorem dX13_unknown_0 : decode cX13_unknown 0 = .ok (.aload_n 0, 1) := by decide +kernel
theorem dX13_unknown_1 : decode cX13_unknown 1 = .ok (.invokevirtual 166, 3) := by decide +kernel
theorem dX13_unknown_4 : decode cX13_unknown 4 = .ok (.aload_n 0, 1) := by decide +kernel
theorem dX13_unknown_5 : decode cX13_unknown 5 = .ok (.getfield 179, 3) := by decide +kernel
theorem dX13_unknown_8 : decode cX13_unknown 8 = .ok (.ifCond .ne 9, 3) := by decide +kernel
theorem dX13_unknown_11 : decode cX13_unknown 11 = .ok (.aload_n 0, 1) := by decide +kernel
theorem dX13_unknown_12 : decode cX13_unknown 12 = .ok (.iconst 1, 1) := by decide +kernel
theorem dX13_unknown_13 : decode cX13_unknown 13 = .ok (.invokevirtual 169, 3) := by decide +kernel
theorem dX13_unknown_16 : decode cX13_unknown 16 = .ok (.ireturn, 1) := by decide +kernel
theorem dX13_unknown_17 : decode cX13_unknown 17 = .ok (.iconst 0, 1) := by decide +kernel
theorem dX13_unknown_18 : decode cX13_unknown 18 = .ok (.istore_n 1, 1) := by decide +kernel
theorem dX13_unknown_19 : decode cX13_unknown 19 = .ok (.iconst 0, 1) := by decide +kernel
theorem dX13_unknown_20 : decode cX13_unknown 20 = .ok (.istore_n 2, 1) := by decide +kernel
theorem dX13_unknown_21 : decode cX13_unknown 21 = .ok (.iload_n 2, 1) := by decide +kernel
theorem dX13_unknown_22 : decode cX13_unknown 22 = .ok (.aload_n 0, 1) := by decide +kernel
theorem dX13_unknown_23 : decode cX13_unknown 23 = .ok (.invokevirtual 375, 3) := by decide +kernel
theorem dX13_unknown_26 : decode cX13_unknown 26 = .ok (.if_icmp .ge 29, 3) := by decide +kernel
theorem dX13_unknown_29 : decode cX13_unknown 29 = .ok (.iload_n 1, 1) := by decide +kernel
theorem dX13_unknown_30 : decode cX13_unknown 30 = .ok (.aload_n 0, 1) := by decide +kernel
theorem dX13_unknown_31 : decode cX13_unknown 31 = .ok (.aload_n 0, 1) := by decide +kernel
theorem dX13_unknown_32 : decode cX13_unknown 32 = .ok (.iload_n 2, 1) := by decide +kernel
theorem dX13_unknown_33 : decode cX13_unknown 33 = .ok (.invokevirtual 378, 3) := by decide +kernel
theorem dX13_unknown_36 : decode cX13_unknown 36 = .ok (.invokevirtual 381, 3) := by decide +kernel
theorem dX13_unknown_39 : decode cX13_unknown 39 = .ok (.ifCond .eq 7, 3) := by decide +kernel
theorem dX13_unknown_42 : decode cX13_unknown 42 = .ok (.iconst 1, 1) := by decide +kernel
theorem dX13_unknown_43 : decode cX13_unknown 43 = .ok (.goto 4, 3) := by decide +kernel
theorem dX13_unknown_46 : decode cX13_unknown 46 = .ok (.iconst 0, 1) := by decide +kernel
theorem dX13_unknown_47 : decode cX13_unknown 47 = .ok (.iadd, 1) := by decide +kernel
theorem dX13_unknown_48 : decode cX13_unknown 48 = .ok (.istore_n 1, 1) := by decide +kernel
theorem dX13_unknown_49 : decode cX13_unknown 49 = .ok (.iinc 2 1, 3) := by decide +kernel
theorem dX13_unknown_52 : decode cX13_unknown 52 = .ok (.goto (-31), 3) := by decide +kernel
theorem dX13_unknown_55 : decode cX13_unknown 55 = .ok (.iload_n 1, 1) := by decide +kernel
theorem dX13_unknown_56 : decode cX13_unknown 56 = .ok (.ireturn, 1) := by decide +kernel
theorem dX13_unknownAt_0 : decode cX13_unknownAt 0 = .ok (.aload_n 0, 1) := by decide +kernel
theorem dX13_unknownAt_1 : decode cX13_unknownAt 1 = .ok (.invokevirtual 166, 3) := by decide +kernel
theorem dX13_unknownAt_4 : decode cX13_unknownAt 4 = .ok (.aload_n 0, 1) := by decide +kernel
theorem dX13_unknownAt_5 : decode cX13_unknownAt 5 = .ok (.getfield 179, 3) := by decide +kernel
theorem dX13_unknownAt_8 : decode cX13_unknownAt 8 = .ok (.ifCond .ne 9, 3) := by decide +kernel
theorem dX13_unknownAt_11 : decode cX13_unknownAt 11 = .ok (.aload_n 0, 1) := by decide +kernel
theorem dX13_unknownAt_12 : decode cX13_unknownAt 12 = .ok (.iconst 1, 1) := by decide +kernel
theorem dX13_unknownAt_13 : decode cX13_unknownAt 13 = .ok (.invokevirtual 169, 3) := by decide +kernel
theorem dX13_unknownAt_16 : decode cX13_unknownAt 16 = .ok (.ireturn, 1) := by decide +kernel
theorem dX13_unknownAt_17 : decode cX13_unknownAt 17 = .ok (.iconst 0, 1) := by decide +kernel
theorem dX13_unknownAt_18 : decode cX13_unknownAt 18 = .ok (.istore_n 2, 1) := by decide +kernel
theorem dX13_unknownAt_19 : decode cX13_unknownAt 19 = .ok (.iconst 0, 1) := by decide +kernel
theorem dX13_unknownAt_20 : decode cX13_unknownAt 20 = .ok (.istore_n 3, 1) := by decide +kernel
theorem dX13_unknownAt_21 : decode cX13_unknownAt 21 = .ok (.iload_n 3, 1) := by decide +kernel
theorem dX13_unknownAt_22 : decode cX13_unknownAt 22 = .ok (.aload_n 0, 1) := by decide +kernel
theorem dX13_unknownAt_23 : decode cX13_unknownAt 23 = .ok (.invokevirtual 375, 3) := by decide +kernel
theorem dX13_unknownAt_26 : decode cX13_unknownAt 26 = .ok (.if_icmp .ge 43, 3) := by decide +kernel
theorem dX13_unknownAt_29 : decode cX13_unknownAt 29 = .ok (.aload_n 0, 1) := by decide +kernel
theorem dX13_unknownAt_30 : decode cX13_unknownAt 30 = .ok (.iload_n 3, 1) := by decide +kernel
theorem dX13_unknownAt_31 : decode cX13_unknownAt 31 = .ok (.invokevirtual 378, 3) := by decide +kernel
theorem dX13_unknownAt_34 : decode cX13_unknownAt 34 = .ok (.istore 4, 2) := by decide +kernel
theorem dX13_unknownAt_36 : decode cX13_unknownAt 36 = .ok (.aload_n 0, 1) := by decide +kernel
theorem dX13_unknownAt_37 : decode cX13_unknownAt 37 = .ok (.iload 4, 2) := by decide +kernel
theorem dX13_unknownAt_39 : decode cX13_unknownAt 39 = .ok (.invokevirtual 381, 3) := by decide +kernel
theorem dX13_unknownAt_42 : decode cX13_unknownAt 42 = .ok (.ifCond .ne 6, 3) := by decide +kernel
theorem dX13_unknownAt_45 : decode cX13_unknownAt 45 = .ok (.goto 18, 3) := by decide +kernel
theorem dX13_unknownAt_48 : decode cX13_unknownAt 48 = .ok (.iload_n 2, 1) := by decide +kernel
theorem dX13_unknownAt_49 : decode cX13_unknownAt 49 = .ok (.iload_n 1, 1) := by decide +kernel
theorem dX13_unknownAt_50 : decode cX13_unknownAt 50 = .ok (.if_icmp .ne 10, 3) := by decide +kernel
theorem dX13_unknownAt_53 : decode cX13_unknownAt 53 = .ok (.aload_n 0, 1) := by decide +kernel
theorem dX13_unknownAt_54 : decode cX13_unknownAt 54 = .ok (.iload 4, 2) := by decide +kernel
theorem dX13_unknownAt_56 : decode cX13_unknownAt 56 = .ok (.invokevirtual 384, 3) := by decide +kernel
theorem dX13_unknownAt_59 : decode cX13_unknownAt 59 = .ok (.ireturn, 1) := by decide +kernel
theorem dX13_unknownAt_60 : decode cX13_unknownAt 60 = .ok (.iinc 2 1, 3) := by decide +kernel
theorem dX13_unknownAt_63 : decode cX13_unknownAt 63 = .ok (.iinc 3 1, 3) := by decide +kernel
theorem dX13_unknownAt_66 : decode cX13_unknownAt 66 = .ok (.goto (-45), 3) := by decide +kernel
theorem dX13_unknownAt_69 : decode cX13_unknownAt 69 = .ok (.aload_n 0, 1) := by decide +kernel
theorem dX13_unknownAt_70 : decode cX13_unknownAt 70 = .ok (.iconst 1, 1) := by decide +kernel
theorem dX13_unknownAt_71 : decode cX13_unknownAt 71 = .ok (.invokevirtual 169, 3) := by decide +kernel
theorem dX13_unknownAt_74 : decode cX13_unknownAt 74 = .ok (.ireturn, 1) := by decide +kernel
theorem dX13_digits_0 : decode cX13_digits 0 = .ok (.iconst 0, 1) := by decide +kernel
theorem dX13_digits_1 : decode cX13_digits 1 = .ok (.istore_n 2, 1) := by decide +kernel
theorem dX13_digits_2 : decode cX13_digits 2 = .ok (.iconst 0, 1) := by decide +kernel
theorem dX13_digits_3 : decode cX13_digits 3 = .ok (.istore_n 3, 1) := by decide +kernel
theorem dX13_digits_4 : decode cX13_digits 4 = .ok (.iload_n 3, 1) := by decide +kernel
theorem dX13_digits_5 : decode cX13_digits 5 = .ok (.aload_n 0, 1) := by decide +kernel
theorem dX13_digits_6 : decode cX13_digits 6 = .ok (.getfield 20, 3) := by decide +kernel
theorem dX13_digits_9 : decode cX13_digits 9 = .ok (.iconst 0, 1) := by decide +kernel
theorem dX13_digits_10 : decode cX13_digits 10 = .ok (.iaload, 1) := by decide +kernel
theorem dX13_digits_11 : decode cX13_digits 11 = .ok (.if_icmp .ge 22, 3) := by decide +kernel
theorem dX13_digits_14 : decode cX13_digits 14 = .ok (.bipush 10, 2) := by decide +kernel
theorem dX13_digits_16 : decode cX13_digits 16 = .ok (.iload_n 2, 1) := by decide +kernel
theorem dX13_digits_17 : decode cX13_digits 17 = .ok (.imul, 1) := by decide +kernel
theorem dX13_digits_18 : decode cX13_digits 18 = .ok (.iload_n 1, 1) := by decide +kernel
theorem dX13_digits_19 : decode cX13_digits 19 = .ok (.iload_n 3, 1) := by decide +kernel
theorem dX13_digits_20 : decode cX13_digits 20 = .ok (.invokestatic 247, 3) := by decide +kernel
theorem dX13_digits_23 : decode cX13_digits 23 = .ok (.iadd, 1) := by decide +kernel
theorem dX13_digits_24 : decode cX13_digits 24 = .ok (.iconst 1, 1) := by decide +kernel
theorem dX13_digits_25 : decode cX13_digits 25 = .ok (.iadd, 1) := by decide +kernel
theorem dX13_digits_26 : decode cX13_digits 26 = .ok (.istore_n 2, 1) := by decide +kernel
theorem dX13_digits_27 : decode cX13_digits 27 = .ok (.iinc 3 1, 3) := by decide +kernel
theorem dX13_digits_30 : decode cX13_digits 30 = .ok (.goto (-26), 3) := by decide +kernel
theorem dX13_digits_33 : decode cX13_digits 33 = .ok (.iload_n 2, 1) := by decide +kernel
theorem dX13_digits_34 : decode cX13_digits 34 = .ok (.ireturn, 1) := by decide +kernel
theorem dX13_leavesBy_0 : decode cX13_leavesBy 0 = .ok (.iconst 0, 1) := by decide +kernel
theorem dX13_leavesBy_1 : decode cX13_leavesBy 1 = .ok (.istore_n 2, 1) := by decide +kernel
theorem dX13_leavesBy_2 : decode cX13_leavesBy 2 = .ok (.iconst 0, 1) := by decide +kernel
theorem dX13_leavesBy_3 : decode cX13_leavesBy 3 = .ok (.istore_n 3, 1) := by decide +kernel
theorem dX13_leavesBy_4 : decode cX13_leavesBy 4 = .ok (.iload_n 3, 1) := by decide +kernel
theorem dX13_leavesBy_5 : decode cX13_leavesBy 5 = .ok (.bipush 6, 2) := by decide +kernel
theorem dX13_leavesBy_7 : decode cX13_leavesBy 7 = .ok (.if_icmp .gt 40, 3) := by decide +kernel
theorem dX13_leavesBy_10 : decode cX13_leavesBy 10 = .ok (.aload_n 0, 1) := by decide +kernel
theorem dX13_leavesBy_11 : decode cX13_leavesBy 11 = .ok (.getfield 56, 3) := by decide +kernel
theorem dX13_leavesBy_14 : decode cX13_leavesBy 14 = .ok (.bipush 7, 2) := by decide +kernel
theorem dX13_leavesBy_16 : decode cX13_leavesBy 16 = .ok (.iload_n 1, 1) := by decide +kernel
theorem dX13_leavesBy_17 : decode cX13_leavesBy 17 = .ok (.imul, 1) := by decide +kernel
theorem dX13_leavesBy_18 : decode cX13_leavesBy 18 = .ok (.iload_n 3, 1) := by decide +kernel
theorem dX13_leavesBy_19 : decode cX13_leavesBy 19 = .ok (.iadd, 1) := by decide +kernel
theorem dX13_leavesBy_20 : decode cX13_leavesBy 20 = .ok (.iaload, 1) := by decide +kernel
theorem dX13_leavesBy_21 : decode cX13_leavesBy 21 = .ok (.iload_n 2, 1) := by decide +kernel
theorem dX13_leavesBy_22 : decode cX13_leavesBy 22 = .ok (.if_icmp .le 17, 3) := by decide +kernel
theorem dX13_leavesBy_25 : decode cX13_leavesBy 25 = .ok (.aload_n 0, 1) := by decide +kernel
theorem dX13_leavesBy_26 : decode cX13_leavesBy 26 = .ok (.getfield 56, 3) := by decide +kernel
theorem dX13_leavesBy_29 : decode cX13_leavesBy 29 = .ok (.bipush 7, 2) := by decide +kernel
theorem dX13_leavesBy_31 : decode cX13_leavesBy 31 = .ok (.iload_n 1, 1) := by decide +kernel
theorem dX13_leavesBy_32 : decode cX13_leavesBy 32 = .ok (.imul, 1) := by decide +kernel
theorem dX13_leavesBy_33 : decode cX13_leavesBy 33 = .ok (.iload_n 3, 1) := by decide +kernel
theorem dX13_leavesBy_34 : decode cX13_leavesBy 34 = .ok (.iadd, 1) := by decide +kernel
theorem dX13_leavesBy_35 : decode cX13_leavesBy 35 = .ok (.iaload, 1) := by decide +kernel
theorem dX13_leavesBy_36 : decode cX13_leavesBy 36 = .ok (.goto 4, 3) := by decide +kernel
theorem dX13_leavesBy_39 : decode cX13_leavesBy 39 = .ok (.iload_n 2, 1) := by decide +kernel
theorem dX13_leavesBy_40 : decode cX13_leavesBy 40 = .ok (.istore_n 2, 1) := by decide +kernel
theorem dX13_leavesBy_41 : decode cX13_leavesBy 41 = .ok (.iinc 3 1, 3) := by decide +kernel
theorem dX13_leavesBy_44 : decode cX13_leavesBy 44 = .ok (.goto (-40), 3) := by decide +kernel
theorem dX13_leavesBy_47 : decode cX13_leavesBy 47 = .ok (.iload_n 2, 1) := by decide +kernel
theorem dX13_leavesBy_48 : decode cX13_leavesBy 48 = .ok (.ireturn, 1) := by decide +kernel
theorem dX13_seekPass_0 : decode cX13_seekPass 0 = .ok (.iconst 0, 1) := by decide +kernel
theorem dX13_seekPass_1 : decode cX13_seekPass 1 = .ok (.istore_n 1, 1) := by decide +kernel
theorem dX13_seekPass_2 : decode cX13_seekPass 2 = .ok (.iload_n 1, 1) := by decide +kernel
theorem dX13_seekPass_3 : decode cX13_seekPass 3 = .ok (.bipush 35, 2) := by decide +kernel
theorem dX13_seekPass_5 : decode cX13_seekPass 5 = .ok (.if_icmp .ge 16, 3) := by decide +kernel
theorem dX13_seekPass_8 : decode cX13_seekPass 8 = .ok (.aload_n 0, 1) := by decide +kernel
theorem dX13_seekPass_9 : decode cX13_seekPass 9 = .ok (.getfield 56, 3) := by decide +kernel
theorem dX13_seekPass_12 : decode cX13_seekPass 12 = .ok (.iload_n 1, 1) := by decide +kernel
theorem dX13_seekPass_13 : decode cX13_seekPass 13 = .ok (.iconst 0, 1) := by decide +kernel
theorem dX13_seekPass_14 : decode cX13_seekPass 14 = .ok (.iastore, 1) := by decide +kernel
theorem dX13_seekPass_15 : decode cX13_seekPass 15 = .ok (.iinc 1 1, 3) := by decide +kernel
theorem dX13_seekPass_18 : decode cX13_seekPass 18 = .ok (.goto (-16), 3) := by decide +kernel
theorem dX13_seekPass_21 : decode cX13_seekPass 21 = .ok (.iconst 0, 1) := by decide +kernel
theorem dX13_seekPass_22 : decode cX13_seekPass 22 = .ok (.istore_n 1, 1) := by decide +kernel
theorem dX13_seekPass_23 : decode cX13_seekPass 23 = .ok (.iconst 0, 1) := by decide +kernel
theorem dX13_seekPass_24 : decode cX13_seekPass 24 = .ok (.istore_n 2, 1) := by decide +kernel
theorem dX13_seekPass_25 : decode cX13_seekPass 25 = .ok (.iload_n 2, 1) := by decide +kernel
theorem dX13_seekPass_26 : decode cX13_seekPass 26 = .ok (.aload_n 0, 1) := by decide +kernel
theorem dX13_seekPass_27 : decode cX13_seekPass 27 = .ok (.invokevirtual 375, 3) := by decide +kernel
theorem dX13_seekPass_30 : decode cX13_seekPass 30 = .ok (.if_icmp .ge 71, 3) := by decide +kernel
theorem dX13_seekPass_33 : decode cX13_seekPass 33 = .ok (.aload_n 0, 1) := by decide +kernel
theorem dX13_seekPass_34 : decode cX13_seekPass 34 = .ok (.iload_n 2, 1) := by decide +kernel
theorem dX13_seekPass_35 : decode cX13_seekPass 35 = .ok (.invokevirtual 378, 3) := by decide +kernel
theorem dX13_seekPass_38 : decode cX13_seekPass 38 = .ok (.istore_n 3, 1) := by decide +kernel
theorem dX13_seekPass_39 : decode cX13_seekPass 39 = .ok (.aload_n 0, 1) := by decide +kernel
theorem dX13_seekPass_40 : decode cX13_seekPass 40 = .ok (.iload_n 3, 1) := by decide +kernel
theorem dX13_seekPass_41 : decode cX13_seekPass 41 = .ok (.invokevirtual 381, 3) := by decide +kernel
theorem dX13_seekPass_44 : decode cX13_seekPass 44 = .ok (.ifCond .ne 6, 3) := by decide +kernel
theorem dX13_seekPass_47 : decode cX13_seekPass 47 = .ok (.goto 48, 3) := by decide +kernel
theorem dX13_seekPass_50 : decode cX13_seekPass 50 = .ok (.iinc 1 1, 3) := by decide +kernel
theorem dX13_seekPass_53 : decode cX13_seekPass 53 = .ok (.iconst 0, 1) := by decide +kernel
theorem dX13_seekPass_54 : decode cX13_seekPass 54 = .ok (.istore 4, 2) := by decide +kernel
theorem dX13_seekPass_56 : decode cX13_seekPass 56 = .ok (.iload 4, 2) := by decide +kernel
theorem dX13_seekPass_58 : decode cX13_seekPass 58 = .ok (.aload_n 0, 1) := by decide +kernel
theorem dX13_seekPass_59 : decode cX13_seekPass 59 = .ok (.getfield 20, 3) := by decide +kernel
theorem dX13_seekPass_62 : decode cX13_seekPass 62 = .ok (.iconst 4, 1) := by decide +kernel
theorem dX13_seekPass_63 : decode cX13_seekPass 63 = .ok (.iaload, 1) := by decide +kernel
theorem dX13_seekPass_64 : decode cX13_seekPass 64 = .ok (.if_icmp .ge 31, 3) := by decide +kernel
theorem dX13_seekPass_67 : decode cX13_seekPass 67 = .ok (.aload_n 0, 1) := by decide +kernel
theorem dX13_seekPass_68 : decode cX13_seekPass 68 = .ok (.getfield 56, 3) := by decide +kernel
theorem dX13_seekPass_71 : decode cX13_seekPass 71 = .ok (.bipush 7, 2) := by decide +kernel
theorem dX13_seekPass_73 : decode cX13_seekPass 73 = .ok (.iload 4, 2) := by decide +kernel
theorem dX13_seekPass_75 : decode cX13_seekPass 75 = .ok (.imul, 1) := by decide +kernel
theorem dX13_seekPass_76 : decode cX13_seekPass 76 = .ok (.aload_n 0, 1) := by decide +kernel
theorem dX13_seekPass_77 : decode cX13_seekPass 77 = .ok (.iload 4, 2) := by decide +kernel
theorem dX13_seekPass_79 : decode cX13_seekPass 79 = .ok (.iload_n 3, 1) := by decide +kernel
theorem dX13_seekPass_80 : decode cX13_seekPass 80 = .ok (.invokevirtual 372, 3) := by decide +kernel
theorem dX13_seekPass_83 : decode cX13_seekPass 83 = .ok (.iadd, 1) := by decide +kernel
theorem dX13_seekPass_84 : decode cX13_seekPass 84 = .ok (.dup2, 1) := by decide +kernel
theorem dX13_seekPass_85 : decode cX13_seekPass 85 = .ok (.iaload, 1) := by decide +kernel
theorem dX13_seekPass_86 : decode cX13_seekPass 86 = .ok (.iconst 1, 1) := by decide +kernel
theorem dX13_seekPass_87 : decode cX13_seekPass 87 = .ok (.iadd, 1) := by decide +kernel
theorem dX13_seekPass_88 : decode cX13_seekPass 88 = .ok (.iastore, 1) := by decide +kernel
theorem dX13_seekPass_89 : decode cX13_seekPass 89 = .ok (.iinc 4 1, 3) := by decide +kernel
theorem dX13_seekPass_92 : decode cX13_seekPass 92 = .ok (.goto (-36), 3) := by decide +kernel
theorem dX13_seekPass_95 : decode cX13_seekPass 95 = .ok (.iinc 2 1, 3) := by decide +kernel
theorem dX13_seekPass_98 : decode cX13_seekPass 98 = .ok (.goto (-73), 3) := by decide +kernel
theorem dX13_seekPass_101 : decode cX13_seekPass 101 = .ok (.iload_n 1, 1) := by decide +kernel
theorem dX13_seekPass_102 : decode cX13_seekPass 102 = .ok (.ifCond .ne 6, 3) := by decide +kernel
theorem dX13_seekPass_105 : decode cX13_seekPass 105 = .ok (.bipush (-2), 2) := by decide +kernel
theorem dX13_seekPass_107 : decode cX13_seekPass 107 = .ok (.ireturn, 1) := by decide +kernel
theorem dX13_seekPass_108 : decode cX13_seekPass 108 = .ok (.iconst 0, 1) := by decide +kernel
theorem dX13_seekPass_109 : decode cX13_seekPass 109 = .ok (.istore_n 2, 1) := by decide +kernel
theorem dX13_seekPass_110 : decode cX13_seekPass 110 = .ok (.iconst 1, 1) := by decide +kernel
theorem dX13_seekPass_111 : decode cX13_seekPass 111 = .ok (.istore_n 3, 1) := by decide +kernel
theorem dX13_seekPass_112 : decode cX13_seekPass 112 = .ok (.iload_n 3, 1) := by decide +kernel
theorem dX13_seekPass_113 : decode cX13_seekPass 113 = .ok (.aload_n 0, 1) := by decide +kernel
theorem dX13_seekPass_114 : decode cX13_seekPass 114 = .ok (.getfield 20, 3) := by decide +kernel
theorem dX13_seekPass_117 : decode cX13_seekPass 117 = .ok (.iconst 4, 1) := by decide +kernel
theorem dX13_seekPass_118 : decode cX13_seekPass 118 = .ok (.iaload, 1) := by decide +kernel
theorem dX13_seekPass_119 : decode cX13_seekPass 119 = .ok (.if_icmp .ge 28, 3) := by decide +kernel
theorem dX13_seekPass_122 : decode cX13_seekPass 122 = .ok (.aload_n 0, 1) := by decide +kernel
theorem dX13_seekPass_123 : decode cX13_seekPass 123 = .ok (.iload_n 3, 1) := by decide +kernel
theorem dX13_seekPass_124 : decode cX13_seekPass 124 = .ok (.invokevirtual 387, 3) := by decide +kernel
theorem dX13_seekPass_127 : decode cX13_seekPass 127 = .ok (.aload_n 0, 1) := by decide +kernel
theorem dX13_seekPass_128 : decode cX13_seekPass 128 = .ok (.iload_n 2, 1) := by decide +kernel
theorem dX13_seekPass_129 : decode cX13_seekPass 129 = .ok (.invokevirtual 387, 3) := by decide +kernel
theorem dX13_seekPass_132 : decode cX13_seekPass 132 = .ok (.if_icmp .ge 7, 3) := by decide +kernel
theorem dX13_seekPass_135 : decode cX13_seekPass 135 = .ok (.iload_n 3, 1) := by decide +kernel
theorem dX13_seekPass_136 : decode cX13_seekPass 136 = .ok (.goto 4, 3) := by decide +kernel
theorem dX13_seekPass_139 : decode cX13_seekPass 139 = .ok (.iload_n 2, 1) := by decide +kernel
theorem dX13_seekPass_140 : decode cX13_seekPass 140 = .ok (.istore_n 2, 1) := by decide +kernel
theorem dX13_seekPass_141 : decode cX13_seekPass 141 = .ok (.iinc 3 1, 3) := by decide +kernel
theorem dX13_seekPass_144 : decode cX13_seekPass 144 = .ok (.goto (-32), 3) := by decide +kernel
theorem dX13_seekPass_147 : decode cX13_seekPass 147 = .ok (.iload_n 2, 1) := by decide +kernel
theorem dX13_seekPass_148 : decode cX13_seekPass 148 = .ok (.ireturn, 1) := by decide +kernel
theorem dX13_pass_0 : decode cX13_pass 0 = .ok (.aload_n 0, 1) := by decide +kernel
theorem dX13_pass_1 : decode cX13_pass 1 = .ok (.invokevirtual 166, 3) := by decide +kernel
theorem dX13_pass_4 : decode cX13_pass 4 = .ok (.aload_n 0, 1) := by decide +kernel
theorem dX13_pass_5 : decode cX13_pass 5 = .ok (.getfield 179, 3) := by decide +kernel
theorem dX13_pass_8 : decode cX13_pass 8 = .ok (.ifCond .eq 10, 3) := by decide +kernel
theorem dX13_pass_11 : decode cX13_pass 11 = .ok (.aload_n 0, 1) := by decide +kernel
theorem dX13_pass_12 : decode cX13_pass 12 = .ok (.invokevirtual 390, 3) := by decide +kernel
theorem dX13_pass_15 : decode cX13_pass 15 = .ok (.goto 8, 3) := by decide +kernel
theorem dX13_pass_18 : decode cX13_pass 18 = .ok (.aload_n 0, 1) := by decide +kernel
theorem dX13_pass_19 : decode cX13_pass 19 = .ok (.iconst 1, 1) := by decide +kernel
theorem dX13_pass_20 : decode cX13_pass 20 = .ok (.invokevirtual 169, 3) := by decide +kernel
theorem dX13_pass_23 : decode cX13_pass 23 = .ok (.ireturn, 1) := by decide +kernel
theorem dX13_passLeaves_0 : decode cX13_passLeaves 0 = .ok (.aload_n 0, 1) := by decide +kernel
theorem dX13_passLeaves_1 : decode cX13_passLeaves 1 = .ok (.invokevirtual 166, 3) := by decide +kernel
theorem dX13_passLeaves_4 : decode cX13_passLeaves 4 = .ok (.aload_n 0, 1) := by decide +kernel
theorem dX13_passLeaves_5 : decode cX13_passLeaves 5 = .ok (.getfield 179, 3) := by decide +kernel
theorem dX13_passLeaves_8 : decode cX13_passLeaves 8 = .ok (.ifCond .ne 9, 3) := by decide +kernel
theorem dX13_passLeaves_11 : decode cX13_passLeaves 11 = .ok (.aload_n 0, 1) := by decide +kernel
theorem dX13_passLeaves_12 : decode cX13_passLeaves 12 = .ok (.iconst 1, 1) := by decide +kernel
theorem dX13_passLeaves_13 : decode cX13_passLeaves 13 = .ok (.invokevirtual 169, 3) := by decide +kernel
theorem dX13_passLeaves_16 : decode cX13_passLeaves 16 = .ok (.ireturn, 1) := by decide +kernel
theorem dX13_passLeaves_17 : decode cX13_passLeaves 17 = .ok (.aload_n 0, 1) := by decide +kernel
theorem dX13_passLeaves_18 : decode cX13_passLeaves 18 = .ok (.invokevirtual 390, 3) := by decide +kernel
theorem dX13_passLeaves_21 : decode cX13_passLeaves 21 = .ok (.istore_n 1, 1) := by decide +kernel
theorem dX13_passLeaves_22 : decode cX13_passLeaves 22 = .ok (.iload_n 1, 1) := by decide +kernel
theorem dX13_passLeaves_23 : decode cX13_passLeaves 23 = .ok (.ifCond .ge 8, 3) := by decide +kernel
theorem dX13_passLeaves_26 : decode cX13_passLeaves 26 = .ok (.bipush (-2), 2) := by decide +kernel
theorem dX13_passLeaves_28 : decode cX13_passLeaves 28 = .ok (.goto 8, 3) := by decide +kernel
theorem dX13_passLeaves_31 : decode cX13_passLeaves 31 = .ok (.aload_n 0, 1) := by decide +kernel
theorem dX13_passLeaves_32 : decode cX13_passLeaves 32 = .ok (.iload_n 1, 1) := by decide +kernel
theorem dX13_passLeaves_33 : decode cX13_passLeaves 33 = .ok (.invokevirtual 387, 3) := by decide +kernel
theorem dX13_passLeaves_36 : decode cX13_passLeaves 36 = .ok (.ireturn, 1) := by decide +kernel
theorem dX13_draw_0 : decode cX13_draw 0 = .ok (.aload_n 0, 1) := by decide +kernel
theorem dX13_draw_1 : decode cX13_draw 1 = .ok (.bipush 75, 2) := by decide +kernel
theorem dX13_draw_3 : decode cX13_draw 3 = .ok (.aload_n 0, 1) := by decide +kernel
theorem dX13_draw_4 : decode cX13_draw 4 = .ok (.getfield 393, 3) := by decide +kernel
theorem dX13_draw_7 : decode cX13_draw 7 = .ok (.imul, 1) := by decide +kernel
theorem dX13_draw_8 : decode cX13_draw 8 = .ok (.bipush 74, 2) := by decide +kernel
theorem dX13_draw_10 : decode cX13_draw 10 = .ok (.iadd, 1) := by decide +kernel
theorem dX13_draw_11 : decode cX13_draw 11 = .ok (.ldc_w 396, 3) := by decide +kernel
theorem dX13_draw_14 : decode cX13_draw 14 = .ok (.irem, 1) := by decide +kernel
theorem dX13_draw_15 : decode cX13_draw 15 = .ok (.putfield 393, 3) := by decide +kernel
theorem dX13_draw_18 : decode cX13_draw 18 = .ok (.aload_n 0, 1) := by decide +kernel
theorem dX13_draw_19 : decode cX13_draw 19 = .ok (.getfield 393, 3) := by decide +kernel
theorem dX13_draw_22 : decode cX13_draw 22 = .ok (.iload_n 1, 1) := by decide +kernel
theorem dX13_draw_23 : decode cX13_draw 23 = .ok (.irem, 1) := by decide +kernel
theorem dX13_draw_24 : decode cX13_draw 24 = .ok (.ireturn, 1) := by decide +kernel
theorem dX13_lostIn_0 : decode cX13_lostIn 0 = .ok (.iconst 0, 1) := by decide +kernel
theorem dX13_lostIn_1 : decode cX13_lostIn 1 = .ok (.istore_n 2, 1) := by decide +kernel
theorem dX13_lostIn_2 : decode cX13_lostIn 2 = .ok (.iload_n 2, 1) := by decide +kernel
theorem dX13_lostIn_3 : decode cX13_lostIn 3 = .ok (.bipush 30, 2) := by decide +kernel
theorem dX13_lostIn_5 : decode cX13_lostIn 5 = .ok (.if_icmp .ge 41, 3) := by decide +kernel
theorem dX13_lostIn_8 : decode cX13_lostIn 8 = .ok (.aload_n 0, 1) := by decide +kernel
theorem dX13_lostIn_9 : decode cX13_lostIn 9 = .ok (.getfield 35, 3) := by decide +kernel
theorem dX13_lostIn_12 : decode cX13_lostIn 12 = .ok (.iload_n 2, 1) := by decide +kernel
theorem dX13_lostIn_13 : decode cX13_lostIn 13 = .ok (.aload_n 0, 1) := by decide +kernel
theorem dX13_lostIn_14 : decode cX13_lostIn 14 = .ok (.aload_n 0, 1) := by decide +kernel
theorem dX13_lostIn_15 : decode cX13_lostIn 15 = .ok (.getfield 20, 3) := by decide +kernel
theorem dX13_lostIn_18 : decode cX13_lostIn 18 = .ok (.iconst 4, 1) := by decide +kernel
theorem dX13_lostIn_19 : decode cX13_lostIn 19 = .ok (.iaload, 1) := by decide +kernel
theorem dX13_lostIn_20 : decode cX13_lostIn 20 = .ok (.invokevirtual 397, 3) := by decide +kernel
theorem dX13_lostIn_23 : decode cX13_lostIn 23 = .ok (.iastore, 1) := by decide +kernel
theorem dX13_lostIn_24 : decode cX13_lostIn 24 = .ok (.aload_n 0, 1) := by decide +kernel
theorem dX13_lostIn_25 : decode cX13_lostIn 25 = .ok (.getfield 38, 3) := by decide +kernel
theorem dX13_lostIn_28 : decode cX13_lostIn 28 = .ok (.iload_n 2, 1) := by decide +kernel
theorem dX13_lostIn_29 : decode cX13_lostIn 29 = .ok (.aload_n 0, 1) := by decide +kernel
theorem dX13_lostIn_30 : decode cX13_lostIn 30 = .ok (.aload_n 0, 1) := by decide +kernel
theorem dX13_lostIn_31 : decode cX13_lostIn 31 = .ok (.getfield 20, 3) := by decide +kernel
theorem dX13_lostIn_34 : decode cX13_lostIn 34 = .ok (.iconst 0, 1) := by decide +kernel
theorem dX13_lostIn_35 : decode cX13_lostIn 35 = .ok (.iaload, 1) := by decide +kernel
theorem dX13_lostIn_36 : decode cX13_lostIn 36 = .ok (.invokevirtual 397, 3) := by decide +kernel
theorem dX13_lostIn_39 : decode cX13_lostIn 39 = .ok (.iastore, 1) := by decide +kernel
theorem dX13_lostIn_40 : decode cX13_lostIn 40 = .ok (.iinc 2 1, 3) := by decide +kernel
theorem dX13_lostIn_43 : decode cX13_lostIn 43 = .ok (.goto (-41), 3) := by decide +kernel
theorem dX13_lostIn_46 : decode cX13_lostIn 46 = .ok (.aload_n 0, 1) := by decide +kernel
theorem dX13_lostIn_47 : decode cX13_lostIn 47 = .ok (.iconst 1, 1) := by decide +kernel
theorem dX13_lostIn_48 : decode cX13_lostIn 48 = .ok (.putfield 257, 3) := by decide +kernel
theorem dX13_lostIn_51 : decode cX13_lostIn 51 = .ok (.iconst 0, 1) := by decide +kernel
theorem dX13_lostIn_52 : decode cX13_lostIn 52 = .ok (.istore_n 2, 1) := by decide +kernel
theorem dX13_lostIn_53 : decode cX13_lostIn 53 = .ok (.iconst 0, 1) := by decide +kernel
theorem dX13_lostIn_54 : decode cX13_lostIn 54 = .ok (.istore_n 3, 1) := by decide +kernel
theorem dX13_lostIn_55 : decode cX13_lostIn 55 = .ok (.iload_n 3, 1) := by decide +kernel
theorem dX13_lostIn_56 : decode cX13_lostIn 56 = .ok (.bipush 30, 2) := by decide +kernel
theorem dX13_lostIn_58 : decode cX13_lostIn 58 = .ok (.if_icmp .ge 77, 3) := by decide +kernel
theorem dX13_lostIn_61 : decode cX13_lostIn 61 = .ok (.iconst 0, 1) := by decide +kernel
theorem dX13_lostIn_62 : decode cX13_lostIn 62 = .ok (.istore 4, 2) := by decide +kernel
theorem dX13_lostIn_64 : decode cX13_lostIn 64 = .ok (.iconst 0, 1) := by decide +kernel
theorem dX13_lostIn_65 : decode cX13_lostIn 65 = .ok (.istore 5, 2) := by decide +kernel
theorem dX13_lostIn_67 : decode cX13_lostIn 67 = .ok (.iload 5, 2) := by decide +kernel
theorem dX13_lostIn_69 : decode cX13_lostIn 69 = .ok (.aload_n 0, 1) := by decide +kernel
theorem dX13_lostIn_70 : decode cX13_lostIn 70 = .ok (.getfield 20, 3) := by decide +kernel
theorem dX13_lostIn_73 : decode cX13_lostIn 73 = .ok (.iconst 4, 1) := by decide +kernel
theorem dX13_lostIn_74 : decode cX13_lostIn 74 = .ok (.iaload, 1) := by decide +kernel
theorem dX13_lostIn_75 : decode cX13_lostIn 75 = .ok (.if_icmp .ge 41, 3) := by decide +kernel
theorem dX13_lostIn_78 : decode cX13_lostIn 78 = .ok (.iload 4, 2) := by decide +kernel
theorem dX13_lostIn_80 : decode cX13_lostIn 80 = .ok (.ifCond .ne 23, 3) := by decide +kernel
theorem dX13_lostIn_83 : decode cX13_lostIn 83 = .ok (.iload_n 1, 1) := by decide +kernel
theorem dX13_lostIn_84 : decode cX13_lostIn 84 = .ok (.ifCond .lt 9, 3) := by decide +kernel
theorem dX13_lostIn_87 : decode cX13_lostIn 87 = .ok (.iload_n 1, 1) := by decide +kernel
theorem dX13_lostIn_88 : decode cX13_lostIn 88 = .ok (.iload 5, 2) := by decide +kernel
theorem dX13_lostIn_90 : decode cX13_lostIn 90 = .ok (.if_icmp .ne 17, 3) := by decide +kernel
theorem dX13_lostIn_93 : decode cX13_lostIn 93 = .ok (.aload_n 0, 1) := by decide +kernel
theorem dX13_lostIn_94 : decode cX13_lostIn 94 = .ok (.iload 5, 2) := by decide +kernel
theorem dX13_lostIn_96 : decode cX13_lostIn 96 = .ok (.iload_n 3, 1) := by decide +kernel
theorem dX13_lostIn_97 : decode cX13_lostIn 97 = .ok (.invokevirtual 291, 3) := by decide +kernel
theorem dX13_lostIn_100 : decode cX13_lostIn 100 = .ok (.ifCond .ne 7, 3) := by decide +kernel
theorem dX13_lostIn_103 : decode cX13_lostIn 103 = .ok (.iconst 1, 1) := by decide +kernel
theorem dX13_lostIn_104 : decode cX13_lostIn 104 = .ok (.goto 4, 3) := by decide +kernel
theorem dX13_lostIn_107 : decode cX13_lostIn 107 = .ok (.iconst 0, 1) := by decide +kernel
theorem dX13_lostIn_108 : decode cX13_lostIn 108 = .ok (.istore 4, 2) := by decide +kernel
theorem dX13_lostIn_110 : decode cX13_lostIn 110 = .ok (.iinc 5 1, 3) := by decide +kernel
theorem dX13_lostIn_113 : decode cX13_lostIn 113 = .ok (.goto (-46), 3) := by decide +kernel
theorem dX13_lostIn_116 : decode cX13_lostIn 116 = .ok (.iload_n 2, 1) := by decide +kernel
theorem dX13_lostIn_117 : decode cX13_lostIn 117 = .ok (.iload 4, 2) := by decide +kernel
theorem dX13_lostIn_119 : decode cX13_lostIn 119 = .ok (.ifCond .eq 7, 3) := by decide +kernel
theorem dX13_lostIn_122 : decode cX13_lostIn 122 = .ok (.iconst 1, 1) := by decide +kernel
theorem dX13_lostIn_123 : decode cX13_lostIn 123 = .ok (.goto 4, 3) := by decide +kernel
theorem dX13_lostIn_126 : decode cX13_lostIn 126 = .ok (.iconst 0, 1) := by decide +kernel
theorem dX13_lostIn_127 : decode cX13_lostIn 127 = .ok (.iadd, 1) := by decide +kernel
theorem dX13_lostIn_128 : decode cX13_lostIn 128 = .ok (.istore_n 2, 1) := by decide +kernel
theorem dX13_lostIn_129 : decode cX13_lostIn 129 = .ok (.iinc 3 1, 3) := by decide +kernel
theorem dX13_lostIn_132 : decode cX13_lostIn 132 = .ok (.goto (-77), 3) := by decide +kernel
theorem dX13_lostIn_135 : decode cX13_lostIn 135 = .ok (.aload_n 0, 1) := by decide +kernel
theorem dX13_lostIn_136 : decode cX13_lostIn 136 = .ok (.iconst 0, 1) := by decide +kernel
theorem dX13_lostIn_137 : decode cX13_lostIn 137 = .ok (.putfield 257, 3) := by decide +kernel
theorem dX13_lostIn_140 : decode cX13_lostIn 140 = .ok (.iload_n 2, 1) := by decide +kernel
theorem dX13_lostIn_141 : decode cX13_lostIn 141 = .ok (.ireturn, 1) := by decide +kernel
theorem dX13_month_0 : decode cX13_month 0 = .ok (.aload_n 0, 1) := by decide +kernel
theorem dX13_month_1 : decode cX13_month 1 = .ok (.invokevirtual 166, 3) := by decide +kernel
theorem dX13_month_4 : decode cX13_month 4 = .ok (.aload_n 0, 1) := by decide +kernel
theorem dX13_month_5 : decode cX13_month 5 = .ok (.getfield 179, 3) := by decide +kernel
theorem dX13_month_8 : decode cX13_month 8 = .ok (.ifCond .ne 9, 3) := by decide +kernel
theorem dX13_month_11 : decode cX13_month 11 = .ok (.aload_n 0, 1) := by decide +kernel
theorem dX13_month_12 : decode cX13_month 12 = .ok (.iconst 1, 1) := by decide +kernel
theorem dX13_month_13 : decode cX13_month 13 = .ok (.invokevirtual 169, 3) := by decide +kernel
theorem dX13_month_16 : decode cX13_month 16 = .ok (.ireturn, 1) := by decide +kernel
theorem dX13_month_17 : decode cX13_month 17 = .ok (.iload_n 1, 1) := by decide +kernel
theorem dX13_month_18 : decode cX13_month 18 = .ok (.iconst 0, 1) := by decide +kernel
theorem dX13_month_19 : decode cX13_month 19 = .ok (.ldc_w 400, 3) := by decide +kernel
theorem dX13_month_22 : decode cX13_month 22 = .ok (.invokestatic 151, 3) := by decide +kernel
theorem dX13_month_25 : decode cX13_month 25 = .ok (.ifCond .ne 9, 3) := by decide +kernel
theorem dX13_month_28 : decode cX13_month 28 = .ok (.aload_n 0, 1) := by decide +kernel
theorem dX13_month_29 : decode cX13_month 29 = .ok (.iconst 2, 1) := by decide +kernel
theorem dX13_month_30 : decode cX13_month 30 = .ok (.invokevirtual 169, 3) := by decide +kernel
theorem dX13_month_33 : decode cX13_month 33 = .ok (.ireturn, 1) := by decide +kernel
theorem dX13_month_34 : decode cX13_month 34 = .ok (.aload_n 0, 1) := by decide +kernel
theorem dX13_month_35 : decode cX13_month 35 = .ok (.iload_n 1, 1) := by decide +kernel
theorem dX13_month_36 : decode cX13_month 36 = .ok (.putfield 393, 3) := by decide +kernel
theorem dX13_month_39 : decode cX13_month 39 = .ok (.aload_n 0, 1) := by decide +kernel
theorem dX13_month_40 : decode cX13_month 40 = .ok (.iconst (-1), 1) := by decide +kernel
theorem dX13_month_41 : decode cX13_month 41 = .ok (.invokevirtual 401, 3) := by decide +kernel
theorem dX13_month_44 : decode cX13_month 44 = .ok (.ireturn, 1) := by decide +kernel
theorem dX13_lost_0 : decode cX13_lost 0 = .ok (.aload_n 0, 1) := by decide +kernel
theorem dX13_lost_1 : decode cX13_lost 1 = .ok (.invokevirtual 166, 3) := by decide +kernel
theorem dX13_lost_4 : decode cX13_lost 4 = .ok (.aload_n 0, 1) := by decide +kernel
theorem dX13_lost_5 : decode cX13_lost 5 = .ok (.iload_n 1, 1) := by decide +kernel
theorem dX13_lost_6 : decode cX13_lost 6 = .ok (.invokevirtual 275, 3) := by decide +kernel
theorem dX13_lost_9 : decode cX13_lost 9 = .ok (.ifCond .ne 9, 3) := by decide +kernel
theorem dX13_lost_12 : decode cX13_lost 12 = .ok (.aload_n 0, 1) := by decide +kernel
theorem dX13_lost_13 : decode cX13_lost 13 = .ok (.iconst 1, 1) := by decide +kernel
theorem dX13_lost_14 : decode cX13_lost 14 = .ok (.invokevirtual 169, 3) := by decide +kernel
theorem dX13_lost_17 : decode cX13_lost 17 = .ok (.ireturn, 1) := by decide +kernel
theorem dX13_lost_18 : decode cX13_lost 18 = .ok (.iload_n 2, 1) := by decide +kernel
theorem dX13_lost_19 : decode cX13_lost 19 = .ok (.iconst 0, 1) := by decide +kernel
theorem dX13_lost_20 : decode cX13_lost 20 = .ok (.ldc_w 400, 3) := by decide +kernel
theorem dX13_lost_23 : decode cX13_lost 23 = .ok (.invokestatic 151, 3) := by decide +kernel
theorem dX13_lost_26 : decode cX13_lost 26 = .ok (.ifCond .eq 13, 3) := by decide +kernel
theorem dX13_lost_29 : decode cX13_lost 29 = .ok (.iload_n 3, 1) := by decide +kernel
theorem dX13_lost_30 : decode cX13_lost 30 = .ok (.iconst 1, 1) := by decide +kernel
theorem dX13_lost_31 : decode cX13_lost 31 = .ok (.bipush 20, 2) := by decide +kernel
theorem dX13_lost_33 : decode cX13_lost 33 = .ok (.invokestatic 151, 3) := by decide +kernel
theorem dX13_lost_36 : decode cX13_lost 36 = .ok (.ifCond .ne 9, 3) := by decide +kernel
theorem dX13_lost_39 : decode cX13_lost 39 = .ok (.aload_n 0, 1) := by decide +kernel
theorem dX13_lost_40 : decode cX13_lost 40 = .ok (.iconst 2, 1) := by decide +kernel
theorem dX13_lost_41 : decode cX13_lost 41 = .ok (.invokevirtual 169, 3) := by decide +kernel
theorem dX13_lost_44 : decode cX13_lost 44 = .ok (.ireturn, 1) := by decide +kernel
theorem dX13_lost_45 : decode cX13_lost 45 = .ok (.aload_n 0, 1) := by decide +kernel
theorem dX13_lost_46 : decode cX13_lost 46 = .ok (.iload_n 2, 1) := by decide +kernel
theorem dX13_lost_47 : decode cX13_lost 47 = .ok (.putfield 393, 3) := by decide +kernel
theorem dX13_lost_50 : decode cX13_lost 50 = .ok (.iconst 0, 1) := by decide +kernel
theorem dX13_lost_51 : decode cX13_lost 51 = .ok (.istore 4, 2) := by decide +kernel
theorem dX13_lost_53 : decode cX13_lost 53 = .ok (.iconst 0, 1) := by decide +kernel
theorem dX13_lost_54 : decode cX13_lost 54 = .ok (.istore 5, 2) := by decide +kernel
theorem dX13_lost_56 : decode cX13_lost 56 = .ok (.iload 5, 2) := by decide +kernel
theorem dX13_lost_58 : decode cX13_lost 58 = .ok (.iload_n 3, 1) := by decide +kernel
theorem dX13_lost_59 : decode cX13_lost 59 = .ok (.if_icmp .ge 19, 3) := by decide +kernel
theorem dX13_lost_62 : decode cX13_lost 62 = .ok (.iload 4, 2) := by decide +kernel
theorem dX13_lost_64 : decode cX13_lost 64 = .ok (.aload_n 0, 1) := by decide +kernel
theorem dX13_lost_65 : decode cX13_lost 65 = .ok (.iload_n 1, 1) := by decide +kernel
theorem dX13_lost_66 : decode cX13_lost 66 = .ok (.invokevirtual 401, 3) := by decide +kernel
theorem dX13_lost_69 : decode cX13_lost 69 = .ok (.iadd, 1) := by decide +kernel
theorem dX13_lost_70 : decode cX13_lost 70 = .ok (.istore 4, 2) := by decide +kernel
theorem dX13_lost_72 : decode cX13_lost 72 = .ok (.iinc 5 1, 3) := by decide +kernel
theorem dX13_lost_75 : decode cX13_lost 75 = .ok (.goto (-19), 3) := by decide +kernel
theorem dX13_lost_78 : decode cX13_lost 78 = .ok (.iload 4, 2) := by decide +kernel
theorem dX13_lost_80 : decode cX13_lost 80 = .ok (.ireturn, 1) := by decide +kernel
theorem dX13_note_0 : decode cX13_note 0 = .ok (.aload_n 0, 1) := by decide +kernel
theorem dX13_note_1 : decode cX13_note 1 = .ok (.getfield 182, 3) := by decide +kernel
theorem dX13_note_4 : decode cX13_note 4 = .ok (.bipush 16, 2) := by decide +kernel
theorem dX13_note_6 : decode cX13_note 6 = .ok (.if_icmp .ne 43, 3) := by decide +kernel
theorem dX13_note_9 : decode cX13_note 9 = .ok (.iconst 0, 1) := by decide +kernel
theorem dX13_note_10 : decode cX13_note 10 = .ok (.istore_n 1, 1) := by decide +kernel
theorem dX13_note_11 : decode cX13_note 11 = .ok (.iload_n 1, 1) := by decide +kernel
theorem dX13_note_12 : decode cX13_note 12 = .ok (.sipush 1200, 3) := by decide +kernel
theorem dX13_note_15 : decode cX13_note 15 = .ok (.if_icmp .ge 24, 3) := by decide +kernel
theorem dX13_note_18 : decode cX13_note 18 = .ok (.aload_n 0, 1) := by decide +kernel
theorem dX13_note_19 : decode cX13_note 19 = .ok (.getfield 29, 3) := by decide +kernel
theorem dX13_note_22 : decode cX13_note 22 = .ok (.iload_n 1, 1) := by decide +kernel
theorem dX13_note_23 : decode cX13_note 23 = .ok (.aload_n 0, 1) := by decide +kernel
theorem dX13_note_24 : decode cX13_note 24 = .ok (.getfield 29, 3) := by decide +kernel
theorem dX13_note_27 : decode cX13_note 27 = .ok (.iload_n 1, 1) := by decide +kernel
theorem dX13_note_28 : decode cX13_note 28 = .ok (.bipush 80, 2) := by decide +kernel
theorem dX13_note_30 : decode cX13_note 30 = .ok (.iadd, 1) := by decide +kernel
theorem dX13_note_31 : decode cX13_note 31 = .ok (.iaload, 1) := by decide +kernel
theorem dX13_note_32 : decode cX13_note 32 = .ok (.iastore, 1) := by decide +kernel
theorem dX13_note_33 : decode cX13_note 33 = .ok (.iinc 1 1, 3) := by decide +kernel
theorem dX13_note_36 : decode cX13_note 36 = .ok (.goto (-25), 3) := by decide +kernel
theorem dX13_note_39 : decode cX13_note 39 = .ok (.aload_n 0, 1) := by decide +kernel
theorem dX13_note_40 : decode cX13_note 40 = .ok (.dup, 1) := by decide +kernel
theorem dX13_note_41 : decode cX13_note 41 = .ok (.getfield 182, 3) := by decide +kernel
theorem dX13_note_44 : decode cX13_note 44 = .ok (.iconst 1, 1) := by decide +kernel
theorem dX13_note_45 : decode cX13_note 45 = .ok (.isub, 1) := by decide +kernel
theorem dX13_note_46 : decode cX13_note 46 = .ok (.putfield 182, 3) := by decide +kernel
theorem dX13_note_49 : decode cX13_note 49 = .ok (.aload_n 0, 1) := by decide +kernel
theorem dX13_note_50 : decode cX13_note 50 = .ok (.getfield 26, 3) := by decide +kernel
theorem dX13_note_53 : decode cX13_note 53 = .ok (.iconst 0, 1) := by decide +kernel
theorem dX13_note_54 : decode cX13_note 54 = .ok (.aload_n 0, 1) := by decide +kernel
theorem dX13_note_55 : decode cX13_note 55 = .ok (.getfield 29, 3) := by decide +kernel
theorem dX13_note_58 : decode cX13_note 58 = .ok (.bipush 80, 2) := by decide +kernel
theorem dX13_note_60 : decode cX13_note 60 = .ok (.aload_n 0, 1) := by decide +kernel
theorem dX13_note_61 : decode cX13_note 61 = .ok (.getfield 182, 3) := by decide +kernel
theorem dX13_note_64 : decode cX13_note 64 = .ok (.imul, 1) := by decide +kernel
theorem dX13_note_65 : decode cX13_note 65 = .ok (.bipush 80, 2) := by decide +kernel
theorem dX13_note_67 : decode cX13_note 67 = .ok (.invokestatic 175, 3) := by decide +kernel
theorem dX13_note_70 : decode cX13_note 70 = .ok (.aload_n 0, 1) := by decide +kernel
theorem dX13_note_71 : decode cX13_note 71 = .ok (.dup, 1) := by decide +kernel
theorem dX13_note_72 : decode cX13_note 72 = .ok (.getfield 182, 3) := by decide +kernel
theorem dX13_note_75 : decode cX13_note 75 = .ok (.iconst 1, 1) := by decide +kernel
theorem dX13_note_76 : decode cX13_note 76 = .ok (.iadd, 1) := by decide +kernel
theorem dX13_note_77 : decode cX13_note 77 = .ok (.putfield 182, 3) := by decide +kernel
theorem dX13_note_80 : decode cX13_note 80 = .ok (.return_, 1) := by decide +kernel
theorem dX13_book_0 : decode cX13_book 0 = .ok (.aload_n 0, 1) := by decide +kernel
theorem dX13_book_1 : decode cX13_book 1 = .ok (.invokevirtual 166, 3) := by decide +kernel
theorem dX13_book_4 : decode cX13_book 4 = .ok (.aload_n 0, 1) := by decide +kernel
theorem dX13_book_5 : decode cX13_book 5 = .ok (.iload_n 1, 1) := by decide +kernel
theorem dX13_book_6 : decode cX13_book 6 = .ok (.invokevirtual 275, 3) := by decide +kernel
theorem dX13_book_9 : decode cX13_book 9 = .ok (.ifCond .ne 9, 3) := by decide +kernel
theorem dX13_book_12 : decode cX13_book 12 = .ok (.aload_n 0, 1) := by decide +kernel
theorem dX13_book_13 : decode cX13_book 13 = .ok (.iconst 1, 1) := by decide +kernel
theorem dX13_book_14 : decode cX13_book 14 = .ok (.invokevirtual 404, 3) := by decide +kernel
theorem dX13_book_17 : decode cX13_book 17 = .ok (.ireturn, 1) := by decide +kernel
theorem dX13_book_18 : decode cX13_book 18 = .ok (.iload_n 2, 1) := by decide +kernel
theorem dX13_book_19 : decode cX13_book 19 = .ok (.invokestatic 272, 3) := by decide +kernel
theorem dX13_book_22 : decode cX13_book 22 = .ok (.ifCond .ne 9, 3) := by decide +kernel
theorem dX13_book_25 : decode cX13_book 25 = .ok (.aload_n 0, 1) := by decide +kernel
theorem dX13_book_26 : decode cX13_book 26 = .ok (.iconst 2, 1) := by decide +kernel
theorem dX13_book_27 : decode cX13_book 27 = .ok (.invokevirtual 404, 3) := by decide +kernel
theorem dX13_book_30 : decode cX13_book 30 = .ok (.ireturn, 1) := by decide +kernel
theorem dX13_book_31 : decode cX13_book 31 = .ok (.aload_n 0, 1) := by decide +kernel
theorem dX13_book_32 : decode cX13_book 32 = .ok (.iload_n 2, 1) := by decide +kernel
theorem dX13_book_33 : decode cX13_book 33 = .ok (.invokevirtual 316, 3) := by decide +kernel
theorem dX13_book_36 : decode cX13_book 36 = .ok (.ifCond .ne 9, 3) := by decide +kernel
theorem dX13_book_39 : decode cX13_book 39 = .ok (.aload_n 0, 1) := by decide +kernel
theorem dX13_book_40 : decode cX13_book 40 = .ok (.iconst 5, 1) := by decide +kernel
theorem dX13_book_41 : decode cX13_book 41 = .ok (.invokevirtual 404, 3) := by decide +kernel
theorem dX13_book_44 : decode cX13_book 44 = .ok (.ireturn, 1) := by decide +kernel
theorem dX13_book_45 : decode cX13_book 45 = .ok (.aload_n 0, 1) := by decide +kernel
theorem dX13_book_46 : decode cX13_book 46 = .ok (.invokevirtual 407, 3) := by decide +kernel
theorem dX13_book_49 : decode cX13_book 49 = .ok (.aload_n 0, 1) := by decide +kernel
theorem dX13_book_50 : decode cX13_book 50 = .ok (.getfield 26, 3) := by decide +kernel
theorem dX13_book_53 : decode cX13_book 53 = .ok (.iload_n 2, 1) := by decide +kernel
theorem dX13_book_54 : decode cX13_book 54 = .ok (.iload_n 1, 1) := by decide +kernel
theorem dX13_book_55 : decode cX13_book 55 = .ok (.iconst 1, 1) := by decide +kernel
theorem dX13_book_56 : decode cX13_book 56 = .ok (.iadd, 1) := by decide +kernel
theorem dX13_book_57 : decode cX13_book 57 = .ok (.iastore, 1) := by decide +kernel
theorem dX13_book_58 : decode cX13_book 58 = .ok (.iconst 1, 1) := by decide +kernel
theorem dX13_book_59 : decode cX13_book 59 = .ok (.ireturn, 1) := by decide +kernel
theorem dX13_callOff_0 : decode cX13_callOff 0 = .ok (.aload_n 0, 1) := by decide +kernel
theorem dX13_callOff_1 : decode cX13_callOff 1 = .ok (.invokevirtual 166, 3) := by decide +kernel
theorem dX13_callOff_4 : decode cX13_callOff 4 = .ok (.aload_n 0, 1) := by decide +kernel
theorem dX13_callOff_5 : decode cX13_callOff 5 = .ok (.getfield 179, 3) := by decide +kernel
theorem dX13_callOff_8 : decode cX13_callOff 8 = .ok (.ifCond .ne 9, 3) := by decide +kernel
theorem dX13_callOff_11 : decode cX13_callOff 11 = .ok (.aload_n 0, 1) := by decide +kernel
theorem dX13_callOff_12 : decode cX13_callOff 12 = .ok (.iconst 1, 1) := by decide +kernel
theorem dX13_callOff_13 : decode cX13_callOff 13 = .ok (.invokevirtual 404, 3) := by decide +kernel
theorem dX13_callOff_16 : decode cX13_callOff 16 = .ok (.ireturn, 1) := by decide +kernel
theorem dX13_callOff_17 : decode cX13_callOff 17 = .ok (.iload_n 1, 1) := by decide +kernel
theorem dX13_callOff_18 : decode cX13_callOff 18 = .ok (.invokestatic 272, 3) := by decide +kernel
theorem dX13_callOff_21 : decode cX13_callOff 21 = .ok (.ifCond .ne 9, 3) := by decide +kernel
theorem dX13_callOff_24 : decode cX13_callOff 24 = .ok (.aload_n 0, 1) := by decide +kernel
theorem dX13_callOff_25 : decode cX13_callOff 25 = .ok (.iconst 2, 1) := by decide +kernel
theorem dX13_callOff_26 : decode cX13_callOff 26 = .ok (.invokevirtual 404, 3) := by decide +kernel
theorem dX13_callOff_29 : decode cX13_callOff 29 = .ok (.ireturn, 1) := by decide +kernel
theorem dX13_callOff_30 : decode cX13_callOff 30 = .ok (.aload_n 0, 1) := by decide +kernel
theorem dX13_callOff_31 : decode cX13_callOff 31 = .ok (.iload_n 1, 1) := by decide +kernel
theorem dX13_callOff_32 : decode cX13_callOff 32 = .ok (.invokevirtual 310, 3) := by decide +kernel
theorem dX13_callOff_35 : decode cX13_callOff 35 = .ok (.ifCond .ne 9, 3) := by decide +kernel
theorem dX13_callOff_38 : decode cX13_callOff 38 = .ok (.aload_n 0, 1) := by decide +kernel
theorem dX13_callOff_39 : decode cX13_callOff 39 = .ok (.iconst 5, 1) := by decide +kernel
theorem dX13_callOff_40 : decode cX13_callOff 40 = .ok (.invokevirtual 404, 3) := by decide +kernel
theorem dX13_callOff_43 : decode cX13_callOff 43 = .ok (.ireturn, 1) := by decide +kernel
theorem dX13_callOff_44 : decode cX13_callOff 44 = .ok (.aload_n 0, 1) := by decide +kernel
theorem dX13_callOff_45 : decode cX13_callOff 45 = .ok (.invokevirtual 407, 3) := by decide +kernel
theorem dX13_callOff_48 : decode cX13_callOff 48 = .ok (.aload_n 0, 1) := by decide +kernel
theorem dX13_callOff_49 : decode cX13_callOff 49 = .ok (.getfield 26, 3) := by decide +kernel
theorem dX13_callOff_52 : decode cX13_callOff 52 = .ok (.iload_n 1, 1) := by decide +kernel
theorem dX13_callOff_53 : decode cX13_callOff 53 = .ok (.iconst 0, 1) := by decide +kernel
theorem dX13_callOff_54 : decode cX13_callOff 54 = .ok (.iastore, 1) := by decide +kernel
theorem dX13_callOff_55 : decode cX13_callOff 55 = .ok (.iconst 1, 1) := by decide +kernel
theorem dX13_callOff_56 : decode cX13_callOff 56 = .ok (.ireturn, 1) := by decide +kernel
theorem dX13_shock_0 : decode cX13_shock 0 = .ok (.aload_n 0, 1) := by decide +kernel
theorem dX13_shock_1 : decode cX13_shock 1 = .ok (.invokevirtual 166, 3) := by decide +kernel
theorem dX13_shock_4 : decode cX13_shock 4 = .ok (.aload_n 0, 1) := by decide +kernel
theorem dX13_shock_5 : decode cX13_shock 5 = .ok (.iload_n 1, 1) := by decide +kernel
theorem dX13_shock_6 : decode cX13_shock 6 = .ok (.invokevirtual 275, 3) := by decide +kernel
theorem dX13_shock_9 : decode cX13_shock 9 = .ok (.ifCond .eq 11, 3) := by decide +kernel
theorem dX13_shock_12 : decode cX13_shock 12 = .ok (.aload_n 0, 1) := by decide +kernel
theorem dX13_shock_13 : decode cX13_shock 13 = .ok (.iload_n 2, 1) := by decide +kernel
theorem dX13_shock_14 : decode cX13_shock 14 = .ok (.invokevirtual 278, 3) := by decide +kernel
theorem dX13_shock_17 : decode cX13_shock 17 = .ok (.ifCond .ne 9, 3) := by decide +kernel
theorem dX13_shock_20 : decode cX13_shock 20 = .ok (.aload_n 0, 1) := by decide +kernel
theorem dX13_shock_21 : decode cX13_shock 21 = .ok (.iconst 1, 1) := by decide +kernel
theorem dX13_shock_22 : decode cX13_shock 22 = .ok (.invokevirtual 404, 3) := by decide +kernel
theorem dX13_shock_25 : decode cX13_shock 25 = .ok (.ireturn, 1) := by decide +kernel
theorem dX13_shock_26 : decode cX13_shock 26 = .ok (.iload_n 3, 1) := by decide +kernel
theorem dX13_shock_27 : decode cX13_shock 27 = .ok (.iconst 1, 1) := by decide +kernel
theorem dX13_shock_28 : decode cX13_shock 28 = .ok (.iconst 3, 1) := by decide +kernel
theorem dX13_shock_29 : decode cX13_shock 29 = .ok (.invokestatic 151, 3) := by decide +kernel
theorem dX13_shock_32 : decode cX13_shock 32 = .ok (.ifCond .ne 9, 3) := by decide +kernel
theorem dX13_shock_35 : decode cX13_shock 35 = .ok (.aload_n 0, 1) := by decide +kernel
theorem dX13_shock_36 : decode cX13_shock 36 = .ok (.iconst 2, 1) := by decide +kernel
theorem dX13_shock_37 : decode cX13_shock 37 = .ok (.invokevirtual 404, 3) := by decide +kernel
theorem dX13_shock_40 : decode cX13_shock 40 = .ok (.ireturn, 1) := by decide +kernel
theorem dX13_shock_41 : decode cX13_shock 41 = .ok (.aload_n 0, 1) := by decide +kernel
theorem dX13_shock_42 : decode cX13_shock 42 = .ok (.getfield 26, 3) := by decide +kernel
theorem dX13_shock_45 : decode cX13_shock 45 = .ok (.bipush 78, 2) := by decide +kernel
theorem dX13_shock_47 : decode cX13_shock 47 = .ok (.iaload, 1) := by decide +kernel
theorem dX13_shock_48 : decode cX13_shock 48 = .ok (.bipush 12, 2) := by decide +kernel
theorem dX13_shock_50 : decode cX13_shock 50 = .ok (.if_icmp .ne 9, 3) := by decide +kernel
theorem dX13_shock_53 : decode cX13_shock 53 = .ok (.aload_n 0, 1) := by decide +kernel
theorem dX13_shock_54 : decode cX13_shock 54 = .ok (.iconst 3, 1) := by decide +kernel
theorem dX13_shock_55 : decode cX13_shock 55 = .ok (.invokevirtual 404, 3) := by decide +kernel
theorem dX13_shock_58 : decode cX13_shock 58 = .ok (.ireturn, 1) := by decide +kernel
theorem dX13_shock_59 : decode cX13_shock 59 = .ok (.aload_n 0, 1) := by decide +kernel
theorem dX13_shock_60 : decode cX13_shock 60 = .ok (.invokevirtual 407, 3) := by decide +kernel
theorem dX13_shock_63 : decode cX13_shock 63 = .ok (.bipush 30, 2) := by decide +kernel
theorem dX13_shock_65 : decode cX13_shock 65 = .ok (.iconst 4, 1) := by decide +kernel
theorem dX13_shock_66 : decode cX13_shock 66 = .ok (.aload_n 0, 1) := by decide +kernel
theorem dX13_shock_67 : decode cX13_shock 67 = .ok (.getfield 26, 3) := by decide +kernel
theorem dX13_shock_70 : decode cX13_shock 70 = .ok (.bipush 78, 2) := by decide +kernel
theorem dX13_shock_72 : decode cX13_shock 72 = .ok (.iaload, 1) := by decide +kernel
theorem dX13_shock_73 : decode cX13_shock 73 = .ok (.imul, 1) := by decide +kernel
theorem dX13_shock_74 : decode cX13_shock 74 = .ok (.iadd, 1) := by decide +kernel
theorem dX13_shock_75 : decode cX13_shock 75 = .ok (.istore 4, 2) := by decide +kernel
theorem dX13_shock_77 : decode cX13_shock 77 = .ok (.aload_n 0, 1) := by decide +kernel
theorem dX13_shock_78 : decode cX13_shock 78 = .ok (.getfield 26, 3) := by decide +kernel
theorem dX13_shock_81 : decode cX13_shock 81 = .ok (.iload 4, 2) := by decide +kernel
theorem dX13_shock_83 : decode cX13_shock 83 = .ok (.iload_n 1, 1) := by decide +kernel
theorem dX13_shock_84 : decode cX13_shock 84 = .ok (.iastore, 1) := by decide +kernel
theorem dX13_shock_85 : decode cX13_shock 85 = .ok (.aload_n 0, 1) := by decide +kernel
theorem dX13_shock_86 : decode cX13_shock 86 = .ok (.getfield 26, 3) := by decide +kernel
theorem dX13_shock_89 : decode cX13_shock 89 = .ok (.iload 4, 2) := by decide +kernel
theorem dX13_shock_91 : decode cX13_shock 91 = .ok (.iconst 1, 1) := by decide +kernel
theorem dX13_shock_92 : decode cX13_shock 92 = .ok (.iadd, 1) := by decide +kernel
theorem dX13_shock_93 : decode cX13_shock 93 = .ok (.aload_n 0, 1) := by decide +kernel
theorem dX13_shock_94 : decode cX13_shock 94 = .ok (.getfield 26, 3) := by decide +kernel
theorem dX13_shock_97 : decode cX13_shock 97 = .ok (.bipush 79, 2) := by decide +kernel
theorem dX13_shock_99 : decode cX13_shock 99 = .ok (.iaload, 1) := by decide +kernel
theorem dX13_shock_100 : decode cX13_shock 100 = .ok (.iastore, 1) := by decide +kernel
theorem dX13_shock_101 : decode cX13_shock 101 = .ok (.aload_n 0, 1) := by decide +kernel
theorem dX13_shock_102 : decode cX13_shock 102 = .ok (.getfield 26, 3) := by decide +kernel
theorem dX13_shock_105 : decode cX13_shock 105 = .ok (.iload 4, 2) := by decide +kernel
theorem dX13_shock_107 : decode cX13_shock 107 = .ok (.iconst 2, 1) := by decide +kernel
theorem dX13_shock_108 : decode cX13_shock 108 = .ok (.iadd, 1) := by decide +kernel
theorem dX13_shock_109 : decode cX13_shock 109 = .ok (.iload_n 2, 1) := by decide +kernel
theorem dX13_shock_110 : decode cX13_shock 110 = .ok (.iastore, 1) := by decide +kernel
theorem dX13_shock_111 : decode cX13_shock 111 = .ok (.aload_n 0, 1) := by decide +kernel
theorem dX13_shock_112 : decode cX13_shock 112 = .ok (.getfield 26, 3) := by decide +kernel
theorem dX13_shock_115 : decode cX13_shock 115 = .ok (.iload 4, 2) := by decide +kernel
theorem dX13_shock_117 : decode cX13_shock 117 = .ok (.iconst 3, 1) := by decide +kernel
theorem dX13_shock_118 : decode cX13_shock 118 = .ok (.iadd, 1) := by decide +kernel
theorem dX13_shock_119 : decode cX13_shock 119 = .ok (.iload_n 3, 1) := by decide +kernel
theorem dX13_shock_120 : decode cX13_shock 120 = .ok (.iastore, 1) := by decide +kernel
theorem dX13_shock_121 : decode cX13_shock 121 = .ok (.aload_n 0, 1) := by decide +kernel
theorem dX13_shock_122 : decode cX13_shock 122 = .ok (.getfield 26, 3) := by decide +kernel
theorem dX13_shock_125 : decode cX13_shock 125 = .ok (.bipush 78, 2) := by decide +kernel
theorem dX13_shock_127 : decode cX13_shock 127 = .ok (.dup2, 1) := by decide +kernel
theorem dX13_shock_128 : decode cX13_shock 128 = .ok (.iaload, 1) := by decide +kernel
theorem dX13_shock_129 : decode cX13_shock 129 = .ok (.iconst 1, 1) := by decide +kernel
theorem dX13_shock_130 : decode cX13_shock 130 = .ok (.iadd, 1) := by decide +kernel
theorem dX13_shock_131 : decode cX13_shock 131 = .ok (.iastore, 1) := by decide +kernel
theorem dX13_shock_132 : decode cX13_shock 132 = .ok (.iconst 1, 1) := by decide +kernel
theorem dX13_shock_133 : decode cX13_shock 133 = .ok (.ireturn, 1) := by decide +kernel
theorem dX13_days_0 : decode cX13_days 0 = .ok (.aload_n 0, 1) := by decide +kernel
theorem dX13_days_1 : decode cX13_days 1 = .ok (.invokevirtual 166, 3) := by decide +kernel
theorem dX13_days_4 : decode cX13_days 4 = .ok (.aload_n 0, 1) := by decide +kernel
theorem dX13_days_5 : decode cX13_days 5 = .ok (.getfield 179, 3) := by decide +kernel
theorem dX13_days_8 : decode cX13_days 8 = .ok (.ifCond .ne 9, 3) := by decide +kernel
theorem dX13_days_11 : decode cX13_days 11 = .ok (.aload_n 0, 1) := by decide +kernel
theorem dX13_days_12 : decode cX13_days 12 = .ok (.iconst 1, 1) := by decide +kernel
theorem dX13_days_13 : decode cX13_days 13 = .ok (.invokevirtual 169, 3) := by decide +kernel
theorem dX13_days_16 : decode cX13_days 16 = .ok (.ireturn, 1) := by decide +kernel
theorem dX13_days_17 : decode cX13_days 17 = .ok (.iload_n 1, 1) := by decide +kernel
theorem dX13_days_18 : decode cX13_days 18 = .ok (.iconst 1, 1) := by decide +kernel
theorem dX13_days_19 : decode cX13_days 19 = .ok (.bipush 29, 2) := by decide +kernel
theorem dX13_days_21 : decode cX13_days 21 = .ok (.invokestatic 151, 3) := by decide +kernel
theorem dX13_days_24 : decode cX13_days 24 = .ok (.ifCond .ne 9, 3) := by decide +kernel
theorem dX13_days_27 : decode cX13_days 27 = .ok (.aload_n 0, 1) := by decide +kernel
theorem dX13_days_28 : decode cX13_days 28 = .ok (.iconst 2, 1) := by decide +kernel
theorem dX13_days_29 : decode cX13_days 29 = .ok (.invokevirtual 169, 3) := by decide +kernel
theorem dX13_days_32 : decode cX13_days 32 = .ok (.ireturn, 1) := by decide +kernel
theorem dX13_days_33 : decode cX13_days 33 = .ok (.aload_n 0, 1) := by decide +kernel
theorem dX13_days_34 : decode cX13_days 34 = .ok (.getfield 26, 3) := by decide +kernel
theorem dX13_days_37 : decode cX13_days 37 = .ok (.bipush 79, 2) := by decide +kernel
theorem dX13_days_39 : decode cX13_days 39 = .ok (.iaload, 1) := by decide +kernel
theorem dX13_days_40 : decode cX13_days 40 = .ok (.iload_n 1, 1) := by decide +kernel
theorem dX13_days_41 : decode cX13_days 41 = .ok (.iadd, 1) := by decide +kernel
theorem dX13_days_42 : decode cX13_days 42 = .ok (.bipush 30, 2) := by decide +kernel
theorem dX13_days_44 : decode cX13_days 44 = .ok (.if_icmp .lt 9, 3) := by decide +kernel
theorem dX13_days_47 : decode cX13_days 47 = .ok (.aload_n 0, 1) := by decide +kernel
theorem dX13_days_48 : decode cX13_days 48 = .ok (.iconst 3, 1) := by decide +kernel
theorem dX13_days_49 : decode cX13_days 49 = .ok (.invokevirtual 169, 3) := by decide +kernel
theorem dX13_days_52 : decode cX13_days 52 = .ok (.ireturn, 1) := by decide +kernel
theorem dX13_days_53 : decode cX13_days 53 = .ok (.aload_n 0, 1) := by decide +kernel
theorem dX13_days_54 : decode cX13_days 54 = .ok (.invokevirtual 407, 3) := by decide +kernel
theorem dX13_days_57 : decode cX13_days 57 = .ok (.aload_n 0, 1) := by decide +kernel
theorem dX13_days_58 : decode cX13_days 58 = .ok (.getfield 26, 3) := by decide +kernel
theorem dX13_days_61 : decode cX13_days 61 = .ok (.bipush 79, 2) := by decide +kernel
theorem dX13_days_63 : decode cX13_days 63 = .ok (.dup2, 1) := by decide +kernel
theorem dX13_days_64 : decode cX13_days 64 = .ok (.iaload, 1) := by decide +kernel
theorem dX13_days_65 : decode cX13_days 65 = .ok (.iload_n 1, 1) := by decide +kernel
theorem dX13_days_66 : decode cX13_days 66 = .ok (.iadd, 1) := by decide +kernel
theorem dX13_days_67 : decode cX13_days 67 = .ok (.iastore, 1) := by decide +kernel
theorem dX13_days_68 : decode cX13_days 68 = .ok (.aload_n 0, 1) := by decide +kernel
theorem dX13_days_69 : decode cX13_days 69 = .ok (.getfield 26, 3) := by decide +kernel
theorem dX13_days_72 : decode cX13_days 72 = .ok (.bipush 79, 2) := by decide +kernel
theorem dX13_days_74 : decode cX13_days 74 = .ok (.iaload, 1) := by decide +kernel
theorem dX13_days_75 : decode cX13_days 75 = .ok (.ireturn, 1) := by decide +kernel
theorem dX13_undo_0 : decode cX13_undo 0 = .ok (.aload_n 0, 1) := by decide +kernel
theorem dX13_undo_1 : decode cX13_undo 1 = .ok (.invokevirtual 166, 3) := by decide +kernel
theorem dX13_undo_4 : decode cX13_undo 4 = .ok (.aload_n 0, 1) := by decide +kernel
theorem dX13_undo_5 : decode cX13_undo 5 = .ok (.getfield 182, 3) := by decide +kernel
theorem dX13_undo_8 : decode cX13_undo 8 = .ok (.ifCond .ne 10, 3) := by decide +kernel
theorem dX13_undo_11 : decode cX13_undo 11 = .ok (.aload_n 0, 1) := by decide +kernel
theorem dX13_undo_12 : decode cX13_undo 12 = .ok (.bipush 6, 2) := by decide +kernel
theorem dX13_undo_14 : decode cX13_undo 14 = .ok (.invokevirtual 404, 3) := by decide +kernel
theorem dX13_undo_17 : decode cX13_undo 17 = .ok (.ireturn, 1) := by decide +kernel
theorem dX13_undo_18 : decode cX13_undo 18 = .ok (.aload_n 0, 1) := by decide +kernel
theorem dX13_undo_19 : decode cX13_undo 19 = .ok (.dup, 1) := by decide +kernel
theorem dX13_undo_20 : decode cX13_undo 20 = .ok (.getfield 182, 3) := by decide +kernel
theorem dX13_undo_23 : decode cX13_undo 23 = .ok (.iconst 1, 1) := by decide +kernel
theorem dX13_undo_24 : decode cX13_undo 24 = .ok (.isub, 1) := by decide +kernel
theorem dX13_undo_25 : decode cX13_undo 25 = .ok (.putfield 182, 3) := by decide +kernel
theorem dX13_undo_28 : decode cX13_undo 28 = .ok (.aload_n 0, 1) := by decide +kernel
theorem dX13_undo_29 : decode cX13_undo 29 = .ok (.getfield 29, 3) := by decide +kernel
theorem dX13_undo_32 : decode cX13_undo 32 = .ok (.bipush 80, 2) := by decide +kernel
theorem dX13_undo_34 : decode cX13_undo 34 = .ok (.aload_n 0, 1) := by decide +kernel
theorem dX13_undo_35 : decode cX13_undo 35 = .ok (.getfield 182, 3) := by decide +kernel
theorem dX13_undo_38 : decode cX13_undo 38 = .ok (.imul, 1) := by decide +kernel
theorem dX13_undo_39 : decode cX13_undo 39 = .ok (.aload_n 0, 1) := by decide +kernel
theorem dX13_undo_40 : decode cX13_undo 40 = .ok (.getfield 26, 3) := by decide +kernel
theorem dX13_undo_43 : decode cX13_undo 43 = .ok (.iconst 0, 1) := by decide +kernel
theorem dX13_undo_44 : decode cX13_undo 44 = .ok (.bipush 80, 2) := by decide +kernel
theorem dX13_undo_46 : decode cX13_undo 46 = .ok (.invokestatic 175, 3) := by decide +kernel
theorem dX13_undo_49 : decode cX13_undo 49 = .ok (.iconst 1, 1) := by decide +kernel
theorem dX13_undo_50 : decode cX13_undo 50 = .ok (.ireturn, 1) := by decide +kernel
theorem dX13_image_0 : decode cX13_image 0 = .ok (.aload_n 0, 1) := by decide +kernel
theorem dX13_image_1 : decode cX13_image 1 = .ok (.invokevirtual 166, 3) := by decide +kernel
theorem dX13_image_4 : decode cX13_image 4 = .ok (.aload_n 0, 1) := by decide +kernel
theorem dX13_image_5 : decode cX13_image 5 = .ok (.getfield 179, 3) := by decide +kernel
theorem dX13_image_8 : decode cX13_image 8 = .ok (.ifCond .ne 9, 3) := by decide +kernel
theorem dX13_image_11 : decode cX13_image 11 = .ok (.aload_n 0, 1) := by decide +kernel
theorem dX13_image_12 : decode cX13_image 12 = .ok (.iconst 1, 1) := by decide +kernel
theorem dX13_image_13 : decode cX13_image 13 = .ok (.invokevirtual 169, 3) := by decide +kernel
theorem dX13_image_16 : decode cX13_image 16 = .ok (.ireturn, 1) := by decide +kernel
theorem dX13_image_17 : decode cX13_image 17 = .ok (.aload_n 0, 1) := by decide +kernel
theorem dX13_image_18 : decode cX13_image 18 = .ok (.getfield 185, 3) := by decide +kernel
theorem dX13_image_21 : decode cX13_image 21 = .ok (.iconst 3, 1) := by decide +kernel
theorem dX13_image_22 : decode cX13_image 22 = .ok (.if_icmp .ne 9, 3) := by decide +kernel
theorem dX13_image_25 : decode cX13_image 25 = .ok (.aload_n 0, 1) := by decide +kernel
theorem dX13_image_26 : decode cX13_image 26 = .ok (.iconst 3, 1) := by decide +kernel
theorem dX13_image_27 : decode cX13_image 27 = .ok (.invokevirtual 169, 3) := by decide +kernel
theorem dX13_image_30 : decode cX13_image 30 = .ok (.ireturn, 1) := by decide +kernel
theorem dX13_image_31 : decode cX13_image 31 = .ok (.aload_n 0, 1) := by decide +kernel
theorem dX13_image_32 : decode cX13_image 32 = .ok (.getfield 26, 3) := by decide +kernel
theorem dX13_image_35 : decode cX13_image 35 = .ok (.iconst 0, 1) := by decide +kernel
theorem dX13_image_36 : decode cX13_image 36 = .ok (.aload_n 0, 1) := by decide +kernel
theorem dX13_image_37 : decode cX13_image 37 = .ok (.getfield 32, 3) := by decide +kernel
theorem dX13_image_40 : decode cX13_image 40 = .ok (.bipush 80, 2) := by decide +kernel
theorem dX13_image_42 : decode cX13_image 42 = .ok (.aload_n 0, 1) := by decide +kernel
theorem dX13_image_43 : decode cX13_image 43 = .ok (.getfield 185, 3) := by decide +kernel
theorem dX13_image_46 : decode cX13_image 46 = .ok (.imul, 1) := by decide +kernel
theorem dX13_image_47 : decode cX13_image 47 = .ok (.bipush 80, 2) := by decide +kernel
theorem dX13_image_49 : decode cX13_image 49 = .ok (.invokestatic 175, 3) := by decide +kernel
theorem dX13_image_52 : decode cX13_image 52 = .ok (.aload_n 0, 1) := by decide +kernel
theorem dX13_image_53 : decode cX13_image 53 = .ok (.dup, 1) := by decide +kernel
theorem dX13_image_54 : decode cX13_image 54 = .ok (.getfield 185, 3) := by decide +kernel
theorem dX13_image_57 : decode cX13_image 57 = .ok (.iconst 1, 1) := by decide +kernel
theorem dX13_image_58 : decode cX13_image 58 = .ok (.iadd, 1) := by decide +kernel
theorem dX13_image_59 : decode cX13_image 59 = .ok (.putfield 185, 3) := by decide +kernel
theorem dX13_image_62 : decode cX13_image 62 = .ok (.aload_n 0, 1) := by decide +kernel
theorem dX13_image_63 : decode cX13_image 63 = .ok (.getfield 185, 3) := by decide +kernel
theorem dX13_image_66 : decode cX13_image 66 = .ok (.iconst 1, 1) := by decide +kernel
theorem dX13_image_67 : decode cX13_image 67 = .ok (.isub, 1) := by decide +kernel
theorem dX13_image_68 : decode cX13_image 68 = .ok (.ireturn, 1) := by decide +kernel
theorem dX13_back_0 : decode cX13_back 0 = .ok (.aload_n 0, 1) := by decide +kernel
theorem dX13_back_1 : decode cX13_back 1 = .ok (.invokevirtual 166, 3) := by decide +kernel
theorem dX13_back_4 : decode cX13_back 4 = .ok (.iload_n 1, 1) := by decide +kernel
theorem dX13_back_5 : decode cX13_back 5 = .ok (.iconst 0, 1) := by decide +kernel
theorem dX13_back_6 : decode cX13_back 6 = .ok (.aload_n 0, 1) := by decide +kernel
theorem dX13_back_7 : decode cX13_back 7 = .ok (.getfield 185, 3) := by decide +kernel
theorem dX13_back_10 : decode cX13_back 10 = .ok (.iconst 1, 1) := by decide +kernel
theorem dX13_back_11 : decode cX13_back 11 = .ok (.isub, 1) := by decide +kernel
theorem dX13_back_12 : decode cX13_back 12 = .ok (.invokestatic 151, 3) := by decide +kernel
theorem dX13_back_15 : decode cX13_back 15 = .ok (.ifCond .ne 9, 3) := by decide +kernel
theorem dX13_back_18 : decode cX13_back 18 = .ok (.aload_n 0, 1) := by decide +kernel
theorem dX13_back_19 : decode cX13_back 19 = .ok (.iconst 1, 1) := by decide +kernel
theorem dX13_back_20 : decode cX13_back 20 = .ok (.invokevirtual 404, 3) := by decide +kernel
theorem dX13_back_23 : decode cX13_back 23 = .ok (.ireturn, 1) := by decide +kernel
theorem dX13_back_24 : decode cX13_back 24 = .ok (.aload_n 0, 1) := by decide +kernel
theorem dX13_back_25 : decode cX13_back 25 = .ok (.getfield 32, 3) := by decide +kernel
theorem dX13_back_28 : decode cX13_back 28 = .ok (.bipush 80, 2) := by decide +kernel
theorem dX13_back_30 : decode cX13_back 30 = .ok (.iload_n 1, 1) := by decide +kernel
theorem dX13_back_31 : decode cX13_back 31 = .ok (.imul, 1) := by decide +kernel
theorem dX13_back_32 : decode cX13_back 32 = .ok (.aload_n 0, 1) := by decide +kernel
theorem dX13_back_33 : decode cX13_back 33 = .ok (.getfield 26, 3) := by decide +kernel
theorem dX13_back_36 : decode cX13_back 36 = .ok (.iconst 0, 1) := by decide +kernel
theorem dX13_back_37 : decode cX13_back 37 = .ok (.bipush 80, 2) := by decide +kernel
theorem dX13_back_39 : decode cX13_back 39 = .ok (.invokestatic 175, 3) := by decide +kernel
theorem dX13_back_42 : decode cX13_back 42 = .ok (.aload_n 0, 1) := by decide +kernel
theorem dX13_back_43 : decode cX13_back 43 = .ok (.iconst 0, 1) := by decide +kernel
theorem dX13_back_44 : decode cX13_back 44 = .ok (.putfield 182, 3) := by decide +kernel
theorem dX13_back_47 : decode cX13_back 47 = .ok (.iconst 1, 1) := by decide +kernel
theorem dX13_back_48 : decode cX13_back 48 = .ok (.ireturn, 1) := by decide +kernel
theorem dX13_led_0 : decode cX13_led 0 = .ok (.iconst 0, 1) := by decide +kernel
theorem dX13_led_1 : decode cX13_led 1 = .ok (.istore_n 2, 1) := by decide +kernel
theorem dX13_led_2 : decode cX13_led 2 = .ok (.iconst 0, 1) := by decide +kernel
theorem dX13_led_3 : decode cX13_led 3 = .ok (.istore_n 3, 1) := by decide +kernel
theorem dX13_led_4 : decode cX13_led 4 = .ok (.aload_n 0, 1) := by decide +kernel
theorem dX13_led_5 : decode cX13_led 5 = .ok (.getfield 179, 3) := by decide +kernel
theorem dX13_led_8 : decode cX13_led 8 = .ok (.ifCond .eq 52, 3) := by decide +kernel
theorem dX13_led_11 : decode cX13_led 11 = .ok (.iload_n 3, 1) := by decide +kernel
theorem dX13_led_12 : decode cX13_led 12 = .ok (.aload_n 0, 1) := by decide +kernel
theorem dX13_led_13 : decode cX13_led 13 = .ok (.getfield 20, 3) := by decide +kernel
theorem dX13_led_16 : decode cX13_led 16 = .ok (.iconst 4, 1) := by decide +kernel
theorem dX13_led_17 : decode cX13_led 17 = .ok (.iaload, 1) := by decide +kernel
theorem dX13_led_18 : decode cX13_led 18 = .ok (.if_icmp .ge 42, 3) := by decide +kernel
theorem dX13_led_21 : decode cX13_led 21 = .ok (.aload_n 0, 1) := by decide +kernel
theorem dX13_led_22 : decode cX13_led 22 = .ok (.iload_n 3, 1) := by decide +kernel
theorem dX13_led_23 : decode cX13_led 23 = .ok (.aload_n 0, 1) := by decide +kernel
theorem dX13_led_24 : decode cX13_led 24 = .ok (.getfield 26, 3) := by decide +kernel
theorem dX13_led_27 : decode cX13_led 27 = .ok (.bipush 79, 2) := by decide +kernel
theorem dX13_led_29 : decode cX13_led 29 = .ok (.iaload, 1) := by decide +kernel
theorem dX13_led_30 : decode cX13_led 30 = .ok (.invokevirtual 291, 3) := by decide +kernel
theorem dX13_led_33 : decode cX13_led 33 = .ok (.ifCond .eq 6, 3) := by decide +kernel
theorem dX13_led_36 : decode cX13_led 36 = .ok (.goto 18, 3) := by decide +kernel
theorem dX13_led_39 : decode cX13_led 39 = .ok (.iload_n 2, 1) := by decide +kernel
theorem dX13_led_40 : decode cX13_led 40 = .ok (.iload_n 1, 1) := by decide +kernel
theorem dX13_led_41 : decode cX13_led 41 = .ok (.if_icmp .ne 10, 3) := by decide +kernel
theorem dX13_led_44 : decode cX13_led 44 = .ok (.aload_n 0, 1) := by decide +kernel
theorem dX13_led_45 : decode cX13_led 45 = .ok (.iconst 0, 1) := by decide +kernel
theorem dX13_led_46 : decode cX13_led 46 = .ok (.putfield 59, 3) := by decide +kernel
theorem dX13_led_49 : decode cX13_led 49 = .ok (.iload_n 3, 1) := by decide +kernel
theorem dX13_led_50 : decode cX13_led 50 = .ok (.ireturn, 1) := by decide +kernel
theorem dX13_led_51 : decode cX13_led 51 = .ok (.iinc 2 1, 3) := by decide +kernel
theorem dX13_led_54 : decode cX13_led 54 = .ok (.iinc 3 1, 3) := by decide +kernel
theorem dX13_led_57 : decode cX13_led 57 = .ok (.goto (-53), 3) := by decide +kernel
theorem dX13_led_60 : decode cX13_led 60 = .ok (.aload_n 0, 1) := by decide +kernel
theorem dX13_led_61 : decode cX13_led 61 = .ok (.iconst 1, 1) := by decide +kernel
theorem dX13_led_62 : decode cX13_led 62 = .ok (.putfield 59, 3) := by decide +kernel
theorem dX13_led_65 : decode cX13_led 65 = .ok (.iconst 0, 1) := by decide +kernel
theorem dX13_led_66 : decode cX13_led 66 = .ok (.ireturn, 1) := by decide +kernel
theorem dX13_visitsNow_0 : decode cX13_visitsNow 0 = .ok (.iconst 0, 1) := by decide +kernel
theorem dX13_visitsNow_1 : decode cX13_visitsNow 1 = .ok (.istore_n 1, 1) := by decide +kernel
theorem dX13_visitsNow_2 : decode cX13_visitsNow 2 = .ok (.iconst 0, 1) := by decide +kernel
theorem dX13_visitsNow_3 : decode cX13_visitsNow 3 = .ok (.istore_n 2, 1) := by decide +kernel
theorem dX13_visitsNow_4 : decode cX13_visitsNow 4 = .ok (.iload_n 2, 1) := by decide +kernel
theorem dX13_visitsNow_5 : decode cX13_visitsNow 5 = .ok (.bipush 30, 2) := by decide +kernel
theorem dX13_visitsNow_7 : decode cX13_visitsNow 7 = .ok (.if_icmp .ge 26, 3) := by decide +kernel
theorem dX13_visitsNow_10 : decode cX13_visitsNow 10 = .ok (.iload_n 1, 1) := by decide +kernel
theorem dX13_visitsNow_11 : decode cX13_visitsNow 11 = .ok (.aload_n 0, 1) := by decide +kernel
theorem dX13_visitsNow_12 : decode cX13_visitsNow 12 = .ok (.getfield 26, 3) := by decide +kernel
theorem dX13_visitsNow_15 : decode cX13_visitsNow 15 = .ok (.iload_n 2, 1) := by decide +kernel
theorem dX13_visitsNow_16 : decode cX13_visitsNow 16 = .ok (.iaload, 1) := by decide +kernel
theorem dX13_visitsNow_17 : decode cX13_visitsNow 17 = .ok (.ifCond .le 7, 3) := by decide +kernel
theorem dX13_visitsNow_20 : decode cX13_visitsNow 20 = .ok (.iconst 1, 1) := by decide +kernel
theorem dX13_visitsNow_21 : decode cX13_visitsNow 21 = .ok (.goto 4, 3) := by decide +kernel
theorem dX13_visitsNow_24 : decode cX13_visitsNow 24 = .ok (.iconst 0, 1) := by decide +kernel
theorem dX13_visitsNow_25 : decode cX13_visitsNow 25 = .ok (.iadd, 1) := by decide +kernel
theorem dX13_visitsNow_26 : decode cX13_visitsNow 26 = .ok (.istore_n 1, 1) := by decide +kernel
theorem dX13_visitsNow_27 : decode cX13_visitsNow 27 = .ok (.iinc 2 1, 3) := by decide +kernel
theorem dX13_visitsNow_30 : decode cX13_visitsNow 30 = .ok (.goto (-26), 3) := by decide +kernel
theorem dX13_visitsNow_33 : decode cX13_visitsNow 33 = .ok (.iload_n 1, 1) := by decide +kernel
theorem dX13_visitsNow_34 : decode cX13_visitsNow 34 = .ok (.ireturn, 1) := by decide +kernel
theorem dX13_size_0 : decode cX13_size 0 = .ok (.aload_n 0, 1) := by decide +kernel
theorem dX13_size_1 : decode cX13_size 1 = .ok (.iconst 0, 1) := by decide +kernel
theorem dX13_size_2 : decode cX13_size 2 = .ok (.putfield 59, 3) := by decide +kernel
theorem dX13_size_5 : decode cX13_size 5 = .ok (.iload_n 1, 1) := by decide +kernel
theorem dX13_size_6 : decode cX13_size 6 = .ok (.bipush 14, 2) := by decide +kernel
theorem dX13_size_8 : decode cX13_size 8 = .ok (.if_icmp .ne 8, 3) := by decide +kernel
theorem dX13_size_11 : decode cX13_size 11 = .ok (.aload_n 0, 1) := by decide +kernel
theorem dX13_size_12 : decode cX13_size 12 = .ok (.getfield 65, 3) := by decide +kernel
theorem dX13_size_15 : decode cX13_size 15 = .ok (.ireturn, 1) := by decide +kernel
theorem dX13_size_16 : decode cX13_size 16 = .ok (.aload_n 0, 1) := by decide +kernel
theorem dX13_size_17 : decode cX13_size 17 = .ok (.getfield 179, 3) := by decide +kernel
theorem dX13_size_20 : decode cX13_size 20 = .ok (.ifCond .ne 19, 3) := by decide +kernel
theorem dX13_size_23 : decode cX13_size 23 = .ok (.iload_n 1, 1) := by decide +kernel
theorem dX13_size_24 : decode cX13_size 24 = .ok (.iconst 0, 1) := by decide +kernel
theorem dX13_size_25 : decode cX13_size 25 = .ok (.bipush 13, 2) := by decide +kernel
theorem dX13_size_27 : decode cX13_size 27 = .ok (.invokestatic 151, 3) := by decide +kernel
theorem dX13_size_30 : decode cX13_size 30 = .ok (.ifCond .eq 7, 3) := by decide +kernel
theorem dX13_size_33 : decode cX13_size 33 = .ok (.iconst 0, 1) := by decide +kernel
theorem dX13_size_34 : decode cX13_size 34 = .ok (.goto 4, 3) := by decide +kernel
theorem dX13_size_37 : decode cX13_size 37 = .ok (.iconst (-1), 1) := by decide +kernel
theorem dX13_size_38 : decode cX13_size 38 = .ok (.ireturn, 1) := by decide +kernel
theorem dX13_size_39 : decode cX13_size 39 = .ok (.iload_n 1, 1) := by decide +kernel
theorem dX13_size_40 : decode cX13_size 40 = .ok (.iconst 0, 1) := by decide +kernel
theorem dX13_size_41 : decode cX13_size 41 = .ok (.bipush 9, 2) := by decide +kernel
theorem dX13_size_43 : decode cX13_size 43 = .ok (.invokestatic 151, 3) := by decide +kernel
theorem dX13_size_46 : decode cX13_size 46 = .ok (.ifCond .eq 23, 3) := by decide +kernel
theorem dX13_size_49 : decode cX13_size 49 = .ok (.iload_n 1, 1) := by decide +kernel
theorem dX13_size_50 : decode cX13_size 50 = .ok (.bipush 6, 2) := by decide +kernel
theorem dX13_size_52 : decode cX13_size 52 = .ok (.if_icmp .ne 10, 3) := by decide +kernel
theorem dX13_size_55 : decode cX13_size 55 = .ok (.aload_n 0, 1) := by decide +kernel
theorem dX13_size_56 : decode cX13_size 56 = .ok (.invokevirtual 410, 3) := by decide +kernel
theorem dX13_size_59 : decode cX13_size 59 = .ok (.goto 9, 3) := by decide +kernel
theorem dX13_size_62 : decode cX13_size 62 = .ok (.aload_n 0, 1) := by decide +kernel
theorem dX13_size_63 : decode cX13_size 63 = .ok (.getfield 20, 3) := by decide +kernel
theorem dX13_size_66 : decode cX13_size 66 = .ok (.iload_n 1, 1) := by decide +kernel
theorem dX13_size_67 : decode cX13_size 67 = .ok (.iaload, 1) := by decide +kernel
theorem dX13_size_68 : decode cX13_size 68 = .ok (.ireturn, 1) := by decide +kernel
theorem dX13_size_69 : decode cX13_size 69 = .ok (.iload_n 1, 1) := by decide +kernel
theorem dX13_size_70 : decode cX13_size 70 = .ok (.bipush 10, 2) := by decide +kernel
theorem dX13_size_72 : decode cX13_size 72 = .ok (.if_icmp .ne 13, 3) := by decide +kernel
theorem dX13_size_75 : decode cX13_size 75 = .ok (.aload_n 0, 1) := by decide +kernel
theorem dX13_size_76 : decode cX13_size 76 = .ok (.getfield 26, 3) := by decide +kernel
theorem dX13_size_79 : decode cX13_size 79 = .ok (.bipush 79, 2) := by decide +kernel
theorem dX13_size_81 : decode cX13_size 81 = .ok (.iaload, 1) := by decide +kernel
theorem dX13_size_82 : decode cX13_size 82 = .ok (.goto 46, 3) := by decide +kernel
theorem dX13_size_85 : decode cX13_size 85 = .ok (.iload_n 1, 1) := by decide +kernel
theorem dX13_size_86 : decode cX13_size 86 = .ok (.bipush 11, 2) := by decide +kernel
theorem dX13_size_88 : decode cX13_size 88 = .ok (.if_icmp .ne 13, 3) := by decide +kernel
theorem dX13_size_91 : decode cX13_size 91 = .ok (.aload_n 0, 1) := by decide +kernel
theorem dX13_size_92 : decode cX13_size 92 = .ok (.getfield 26, 3) := by decide +kernel
theorem dX13_size_95 : decode cX13_size 95 = .ok (.bipush 78, 2) := by decide +kernel
theorem dX13_size_97 : decode cX13_size 97 = .ok (.iaload, 1) := by decide +kernel
theorem dX13_size_98 : decode cX13_size 98 = .ok (.goto 30, 3) := by decide +kernel
theorem dX13_size_101 : decode cX13_size 101 = .ok (.iload_n 1, 1) := by decide +kernel
theorem dX13_size_102 : decode cX13_size 102 = .ok (.bipush 12, 2) := by decide +kernel
theorem dX13_size_104 : decode cX13_size 104 = .ok (.if_icmp .ne 10, 3) := by decide +kernel
theorem dX13_size_107 : decode cX13_size 107 = .ok (.aload_n 0, 1) := by decide +kernel
theorem dX13_size_108 : decode cX13_size 108 = .ok (.getfield 182, 3) := by decide +kernel
theorem dX13_size_111 : decode cX13_size 111 = .ok (.goto 17, 3) := by decide +kernel
theorem dX13_size_114 : decode cX13_size 114 = .ok (.iload_n 1, 1) := by decide +kernel
theorem dX13_size_115 : decode cX13_size 115 = .ok (.bipush 13, 2) := by decide +kernel
theorem dX13_size_117 : decode cX13_size 117 = .ok (.if_icmp .ne 10, 3) := by decide +kernel
theorem dX13_size_120 : decode cX13_size 120 = .ok (.aload_n 0, 1) := by decide +kernel
theorem dX13_size_121 : decode cX13_size 121 = .ok (.getfield 185, 3) := by decide +kernel
theorem dX13_size_124 : decode cX13_size 124 = .ok (.goto 4, 3) := by decide +kernel
theorem dX13_size_127 : decode cX13_size 127 = .ok (.iconst (-1), 1) := by decide +kernel
theorem dX13_size_128 : decode cX13_size 128 = .ok (.ireturn, 1) := by decide +kernel
theorem dX13_trouble_0 : decode cX13_trouble 0 = .ok (.aload_n 0, 1) := by decide +kernel
theorem dX13_trouble_1 : decode cX13_trouble 1 = .ok (.iconst 0, 1) := by decide +kernel
theorem dX13_trouble_2 : decode cX13_trouble 2 = .ok (.putfield 59, 3) := by decide +kernel
theorem dX13_trouble_5 : decode cX13_trouble 5 = .ok (.aload_n 0, 1) := by decide +kernel
theorem dX13_trouble_6 : decode cX13_trouble 6 = .ok (.getfield 62, 3) := by decide +kernel
theorem dX13_trouble_9 : decode cX13_trouble 9 = .ok (.ireturn, 1) := by decide +kernel
theorem dJx29ce0_ordinal_8abf5_0 : decode cJx29ce0_ordinal_8abf5 0 = .ok (.aload_n 0, 1) := by decide +kernel
theorem dJx29ce0_ordinal_8abf5_1 : decode cJx29ce0_ordinal_8abf5 1 = .ok (.getfield 7, 3) := by decide +kernel
theorem dJx29ce0_ordinal_8abf5_4 : decode cJx29ce0_ordinal_8abf5 4 = .ok (.ireturn, 1) := by decide +kernel
theorem dJ6_bitCount_0f7a4_0 : decode cJ6_bitCount_0f7a4 0 = .ok (.iload_n 0, 1) := by decide +kernel
theorem dJ6_bitCount_0f7a4_1 : decode cJ6_bitCount_0f7a4 1 = .ok (.iload_n 0, 1) := by decide +kernel
theorem dJ6_bitCount_0f7a4_2 : decode cJ6_bitCount_0f7a4 2 = .ok (.iconst 1, 1) := by decide +kernel
theorem dJ6_bitCount_0f7a4_3 : decode cJ6_bitCount_0f7a4 3 = .ok (.iushr, 1) := by decide +kernel
theorem dJ6_bitCount_0f7a4_4 : decode cJ6_bitCount_0f7a4 4 = .ok (.ldc_w 265, 3) := by decide +kernel
theorem dJ6_bitCount_0f7a4_7 : decode cJ6_bitCount_0f7a4 7 = .ok (.iand, 1) := by decide +kernel
theorem dJ6_bitCount_0f7a4_8 : decode cJ6_bitCount_0f7a4 8 = .ok (.isub, 1) := by decide +kernel
theorem dJ6_bitCount_0f7a4_9 : decode cJ6_bitCount_0f7a4 9 = .ok (.istore_n 0, 1) := by decide +kernel
theorem dJ6_bitCount_0f7a4_10 : decode cJ6_bitCount_0f7a4 10 = .ok (.iload_n 0, 1) := by decide +kernel
theorem dJ6_bitCount_0f7a4_11 : decode cJ6_bitCount_0f7a4 11 = .ok (.ldc_w 266, 3) := by decide +kernel
theorem dJ6_bitCount_0f7a4_14 : decode cJ6_bitCount_0f7a4 14 = .ok (.iand, 1) := by decide +kernel
theorem dJ6_bitCount_0f7a4_15 : decode cJ6_bitCount_0f7a4 15 = .ok (.iload_n 0, 1) := by decide +kernel
theorem dJ6_bitCount_0f7a4_16 : decode cJ6_bitCount_0f7a4 16 = .ok (.iconst 2, 1) := by decide +kernel
theorem dJ6_bitCount_0f7a4_17 : decode cJ6_bitCount_0f7a4 17 = .ok (.iushr, 1) := by decide +kernel
theorem dJ6_bitCount_0f7a4_18 : decode cJ6_bitCount_0f7a4 18 = .ok (.ldc_w 266, 3) := by decide +kernel
theorem dJ6_bitCount_0f7a4_21 : decode cJ6_bitCount_0f7a4 21 = .ok (.iand, 1) := by decide +kernel
theorem dJ6_bitCount_0f7a4_22 : decode cJ6_bitCount_0f7a4 22 = .ok (.iadd, 1) := by decide +kernel
theorem dJ6_bitCount_0f7a4_23 : decode cJ6_bitCount_0f7a4 23 = .ok (.istore_n 0, 1) := by decide +kernel
theorem dJ6_bitCount_0f7a4_24 : decode cJ6_bitCount_0f7a4 24 = .ok (.iload_n 0, 1) := by decide +kernel
theorem dJ6_bitCount_0f7a4_25 : decode cJ6_bitCount_0f7a4 25 = .ok (.iload_n 0, 1) := by decide +kernel
theorem dJ6_bitCount_0f7a4_26 : decode cJ6_bitCount_0f7a4 26 = .ok (.iconst 4, 1) := by decide +kernel
theorem dJ6_bitCount_0f7a4_27 : decode cJ6_bitCount_0f7a4 27 = .ok (.iushr, 1) := by decide +kernel
theorem dJ6_bitCount_0f7a4_28 : decode cJ6_bitCount_0f7a4 28 = .ok (.iadd, 1) := by decide +kernel
theorem dJ6_bitCount_0f7a4_29 : decode cJ6_bitCount_0f7a4 29 = .ok (.ldc_w 267, 3) := by decide +kernel
theorem dJ6_bitCount_0f7a4_32 : decode cJ6_bitCount_0f7a4 32 = .ok (.iand, 1) := by decide +kernel
theorem dJ6_bitCount_0f7a4_33 : decode cJ6_bitCount_0f7a4 33 = .ok (.istore_n 0, 1) := by decide +kernel
theorem dJ6_bitCount_0f7a4_34 : decode cJ6_bitCount_0f7a4 34 = .ok (.iload_n 0, 1) := by decide +kernel
theorem dJ6_bitCount_0f7a4_35 : decode cJ6_bitCount_0f7a4 35 = .ok (.iload_n 0, 1) := by decide +kernel
theorem dJ6_bitCount_0f7a4_36 : decode cJ6_bitCount_0f7a4 36 = .ok (.bipush 8, 2) := by decide +kernel
theorem dJ6_bitCount_0f7a4_38 : decode cJ6_bitCount_0f7a4 38 = .ok (.iushr, 1) := by decide +kernel
theorem dJ6_bitCount_0f7a4_39 : decode cJ6_bitCount_0f7a4 39 = .ok (.iadd, 1) := by decide +kernel
theorem dJ6_bitCount_0f7a4_40 : decode cJ6_bitCount_0f7a4 40 = .ok (.istore_n 0, 1) := by decide +kernel
theorem dJ6_bitCount_0f7a4_41 : decode cJ6_bitCount_0f7a4 41 = .ok (.iload_n 0, 1) := by decide +kernel
theorem dJ6_bitCount_0f7a4_42 : decode cJ6_bitCount_0f7a4 42 = .ok (.iload_n 0, 1) := by decide +kernel
theorem dJ6_bitCount_0f7a4_43 : decode cJ6_bitCount_0f7a4 43 = .ok (.bipush 16, 2) := by decide +kernel
theorem dJ6_bitCount_0f7a4_45 : decode cJ6_bitCount_0f7a4 45 = .ok (.iushr, 1) := by decide +kernel
theorem dJ6_bitCount_0f7a4_46 : decode cJ6_bitCount_0f7a4 46 = .ok (.iadd, 1) := by decide +kernel
theorem dJ6_bitCount_0f7a4_47 : decode cJ6_bitCount_0f7a4 47 = .ok (.istore_n 0, 1) := by decide +kernel
theorem dJ6_bitCount_0f7a4_48 : decode cJ6_bitCount_0f7a4 48 = .ok (.iload_n 0, 1) := by decide +kernel
theorem dJ6_bitCount_0f7a4_49 : decode cJ6_bitCount_0f7a4 49 = .ok (.bipush 63, 2) := by decide +kernel
theorem dJ6_bitCount_0f7a4_51 : decode cJ6_bitCount_0f7a4 51 = .ok (.iand, 1) := by decide +kernel
theorem dJ6_bitCount_0f7a4_52 : decode cJ6_bitCount_0f7a4 52 = .ok (.ireturn, 1) := by decide +kernel
theorem dJ9_abs_0f7a4_0 : decode cJ9_abs_0f7a4 0 = .ok (.iload_n 0, 1) := by decide +kernel
theorem dJ9_abs_0f7a4_1 : decode cJ9_abs_0f7a4 1 = .ok (.ifCond .ge 8, 3) := by decide +kernel
theorem dJ9_abs_0f7a4_4 : decode cJ9_abs_0f7a4 4 = .ok (.iload_n 0, 1) := by decide +kernel
theorem dJ9_abs_0f7a4_5 : decode cJ9_abs_0f7a4 5 = .ok (.ineg, 1) := by decide +kernel
theorem dJ9_abs_0f7a4_6 : decode cJ9_abs_0f7a4 6 = .ok (.goto 4, 3) := by decide +kernel
theorem dJ9_abs_0f7a4_9 : decode cJ9_abs_0f7a4 9 = .ok (.iload_n 0, 1) := by decide +kernel
theorem dJ9_abs_0f7a4_10 : decode cJ9_abs_0f7a4 10 = .ok (.ireturn, 1) := by decide +kernel
theorem dJ9_max_7cf53_0 : decode cJ9_max_7cf53 0 = .ok (.iload_n 0, 1) := by decide +kernel
theorem dJ9_max_7cf53_1 : decode cJ9_max_7cf53 1 = .ok (.iload_n 1, 1) := by decide +kernel
theorem dJ9_max_7cf53_2 : decode cJ9_max_7cf53 2 = .ok (.if_icmp .lt 7, 3) := by decide +kernel
theorem dJ9_max_7cf53_5 : decode cJ9_max_7cf53 5 = .ok (.iload_n 0, 1) := by decide +kernel
theorem dJ9_max_7cf53_6 : decode cJ9_max_7cf53 6 = .ok (.goto 4, 3) := by decide +kernel
theorem dJ9_max_7cf53_9 : decode cJ9_max_7cf53 9 = .ok (.iload_n 1, 1) := by decide +kernel
theorem dJ9_max_7cf53_10 : decode cJ9_max_7cf53 10 = .ok (.ireturn, 1) := by decide +kernel
theorem dJ9_min_7cf53_0 : decode cJ9_min_7cf53 0 = .ok (.iload_n 0, 1) := by decide +kernel
theorem dJ9_min_7cf53_1 : decode cJ9_min_7cf53 1 = .ok (.iload_n 1, 1) := by decide +kernel
theorem dJ9_min_7cf53_2 : decode cJ9_min_7cf53 2 = .ok (.if_icmp .gt 7, 3) := by decide +kernel
theorem dJ9_min_7cf53_5 : decode cJ9_min_7cf53 5 = .ok (.iload_n 0, 1) := by decide +kernel
theorem dJ9_min_7cf53_6 : decode cJ9_min_7cf53 6 = .ok (.goto 4, 3) := by decide +kernel
theorem dJ9_min_7cf53_9 : decode cJ9_min_7cf53 9 = .ok (.iload_n 1, 1) := by decide +kernel
theorem dJ9_min_7cf53_10 : decode cJ9_min_7cf53 10 = .ok (.ireturn, 1) := by decide +kernel
theorem dJ0_length_8abf5_0 : decode cJ0_length_8abf5 0 = .ok (.aload_n 0, 1) := by decide +kernel
theorem dJ0_length_8abf5_1 : decode cJ0_length_8abf5 1 = .ok (.getfield 9, 3) := by decide +kernel
theorem dJ0_length_8abf5_4 : decode cJ0_length_8abf5 4 = .ok (.arraylength, 1) := by decide +kernel
theorem dJ0_length_8abf5_5 : decode cJ0_length_8abf5 5 = .ok (.aload_n 0, 1) := by decide +kernel
theorem dJ0_length_8abf5_6 : decode cJ0_length_8abf5 6 = .ok (.invokevirtual 335, 3) := by decide +kernel
theorem dJ0_length_8abf5_9 : decode cJ0_length_8abf5 9 = .ok (.ishr, 1) := by decide +kernel
theorem dJ0_length_8abf5_10 : decode cJ0_length_8abf5 10 = .ok (.ireturn, 1) := by decide +kernel
theorem dJ0_charAt_5068e_0 : decode cJ0_charAt_5068e 0 = .ok (.aload_n 0, 1) := by decide +kernel
theorem dJ0_charAt_5068e_1 : decode cJ0_charAt_5068e 1 = .ok (.invokevirtual 492, 3) := by decide +kernel
theorem dJ0_charAt_5068e_4 : decode cJ0_charAt_5068e 4 = .ok (.ifCond .eq 12, 3) := by decide +kernel
theorem dJ0_charAt_5068e_7 : decode cJ0_charAt_5068e 7 = .ok (.aload_n 0, 1) := by decide +kernel
theorem dJ0_charAt_5068e_8 : decode cJ0_charAt_5068e 8 = .ok (.getfield 9, 3) := by decide +kernel
theorem dJ0_charAt_5068e_11 : decode cJ0_charAt_5068e 11 = .ok (.iload_n 1, 1) := by decide +kernel
theorem dJ0_charAt_5068e_12 : decode cJ0_charAt_5068e 12 = .ok (.invokestatic 495, 3) := by decide +kernel
theorem dJ0_charAt_5068e_15 : decode cJ0_charAt_5068e 15 = .ok (.ireturn, 1) := by decide +kernel
theorem dJ0_charAt_5068e_16 : decode cJ0_charAt_5068e 16 = .ok (.aload_n 0, 1) := by decide +kernel
theorem dJ0_charAt_5068e_17 : decode cJ0_charAt_5068e 17 = .ok (.getfield 9, 3) := by decide +kernel
theorem dJ0_charAt_5068e_20 : decode cJ0_charAt_5068e 20 = .ok (.iload_n 1, 1) := by decide +kernel
theorem dJ0_charAt_5068e_21 : decode cJ0_charAt_5068e 21 = .ok (.invokestatic 498, 3) := by decide +kernel
theorem dJ0_charAt_5068e_24 : decode cJ0_charAt_5068e 24 = .ok (.ireturn, 1) := by decide +kernel
theorem dJ0_coder_7d493_0 : decode cJ0_coder_7d493 0 = .ok (.getstatic 38, 3) := by decide +kernel
theorem dJ0_coder_7d493_3 : decode cJ0_coder_7d493 3 = .ok (.ifCond .eq 10, 3) := by decide +kernel
theorem dJ0_coder_7d493_6 : decode cJ0_coder_7d493 6 = .ok (.aload_n 0, 1) := by decide +kernel
theorem dJ0_coder_7d493_7 : decode cJ0_coder_7d493 7 = .ok (.getfield 15, 3) := by decide +kernel
theorem dJ0_coder_7d493_10 : decode cJ0_coder_7d493 10 = .ok (.goto 4, 3) := by decide +kernel
theorem dJ0_coder_7d493_13 : decode cJ0_coder_7d493 13 = .ok (.iconst 1, 1) := by decide +kernel
theorem dJ0_coder_7d493_14 : decode cJ0_coder_7d493 14 = .ok (.ireturn, 1) := by decide +kernel
theorem dJ0_isLatin1_aae02_0 : decode cJ0_isLatin1_aae02 0 = .ok (.getstatic 38, 3) := by decide +kernel
theorem dJ0_isLatin1_aae02_3 : decode cJ0_isLatin1_aae02 3 = .ok (.ifCond .eq 14, 3) := by decide +kernel
theorem dJ0_isLatin1_aae02_6 : decode cJ0_isLatin1_aae02 6 = .ok (.aload_n 0, 1) := by decide +kernel
theorem dJ0_isLatin1_aae02_7 : decode cJ0_isLatin1_aae02 7 = .ok (.getfield 15, 3) := by decide +kernel
theorem dJ0_isLatin1_aae02_10 : decode cJ0_isLatin1_aae02 10 = .ok (.ifCond .ne 7, 3) := by decide +kernel
theorem dJ0_isLatin1_aae02_13 : decode cJ0_isLatin1_aae02 13 = .ok (.iconst 1, 1) := by decide +kernel
theorem dJ0_isLatin1_aae02_14 : decode cJ0_isLatin1_aae02 14 = .ok (.goto 4, 3) := by decide +kernel
theorem dJ0_isLatin1_aae02_17 : decode cJ0_isLatin1_aae02 17 = .ok (.iconst 0, 1) := by decide +kernel
theorem dJ0_isLatin1_aae02_18 : decode cJ0_isLatin1_aae02 18 = .ok (.ireturn, 1) := by decide +kernel
theorem dJ0_checkIndex_df160_0 : decode cJ0_checkIndex_df160 0 = .ok (.iload_n 0, 1) := by decide +kernel
theorem dJ0_checkIndex_df160_1 : decode cJ0_checkIndex_df160 1 = .ok (.iload_n 1, 1) := by decide +kernel
theorem dJ0_checkIndex_df160_2 : decode cJ0_checkIndex_df160 2 = .ok (.getstatic 1053, 3) := by decide +kernel
theorem dJ0_checkIndex_df160_5 : decode cJ0_checkIndex_df160 5 = .ok (.invokestatic 1059, 3) := by decide +kernel
theorem dJ0_checkIndex_df160_8 : decode cJ0_checkIndex_df160 8 = .ok (.pop, 1) := by decide +kernel
theorem dJ0_checkIndex_df160_9 : decode cJ0_checkIndex_df160 9 = .ok (.return_, 1) := by decide +kernel
theorem dJ1_charAt_3b067_0 : decode cJ1_charAt_3b067 0 = .ok (.iload_n 1, 1) := by decide +kernel
theorem dJ1_charAt_3b067_1 : decode cJ1_charAt_3b067 1 = .ok (.aload_n 0, 1) := by decide +kernel
theorem dJ1_charAt_3b067_2 : decode cJ1_charAt_3b067 2 = .ok (.arraylength, 1) := by decide +kernel
theorem dJ1_charAt_3b067_3 : decode cJ1_charAt_3b067 3 = .ok (.invokestatic 9, 3) := by decide +kernel
theorem dJ1_charAt_3b067_6 : decode cJ1_charAt_3b067 6 = .ok (.aload_n 0, 1) := by decide +kernel
theorem dJ1_charAt_3b067_7 : decode cJ1_charAt_3b067 7 = .ok (.iload_n 1, 1) := by decide +kernel
theorem dJ1_charAt_3b067_8 : decode cJ1_charAt_3b067 8 = .ok (.baload, 1) := by decide +kernel
theorem dJ1_charAt_3b067_9 : decode cJ1_charAt_3b067 9 = .ok (.sipush 255, 3) := by decide +kernel
theorem dJ1_charAt_3b067_12 : decode cJ1_charAt_3b067 12 = .ok (.iand, 1) := by decide +kernel
theorem dJ1_charAt_3b067_13 : decode cJ1_charAt_3b067 13 = .ok (.i2c, 1) := by decide +kernel
theorem dJ1_charAt_3b067_14 : decode cJ1_charAt_3b067 14 = .ok (.ireturn, 1) := by decide +kernel
theorem dJ2_getChar_3b067_0 : decode cJ2_getChar_3b067 0 = .ok (.getstatic 44, 3) := by decide +kernel
theorem dJ2_getChar_3b067_3 : decode cJ2_getChar_3b067 3 = .ok (.ifCond .ne 25, 3) := by decide +kernel
theorem dJ2_getChar_3b067_6 : decode cJ2_getChar_3b067 6 = .ok (.iload_n 1, 1) := by decide +kernel
theorem dJ2_getChar_3b067_7 : decode cJ2_getChar_3b067 7 = .ok (.ifCond .lt 11, 3) := by decide +kernel
theorem dJ2_getChar_3b067_10 : decode cJ2_getChar_3b067 10 = .ok (.iload_n 1, 1) := by decide +kernel
theorem dJ2_getChar_3b067_11 : decode cJ2_getChar_3b067 11 = .ok (.aload_n 0, 1) := by decide +kernel
theorem dJ2_getChar_3b067_12 : decode cJ2_getChar_3b067 12 = .ok (.invokestatic 48, 3) := by decide +kernel
theorem dJ2_getChar_3b067_15 : decode cJ2_getChar_3b067 15 = .ok (.if_icmp .lt 13, 3) := by decide +kernel
theorem dJ2_getChar_3b067_18 : decode cJ2_getChar_3b067 18 = .ok (.new 52, 3) := by decide +kernel
theorem dJ2_getChar_3b067_21 : decode cJ2_getChar_3b067 21 = .ok (.dup, 1) := by decide +kernel
theorem dJ2_getChar_3b067_22 : decode cJ2_getChar_3b067 22 = .ok (.ldc 54, 2) := by decide +kernel
theorem dJ2_getChar_3b067_24 : decode cJ2_getChar_3b067 24 = .ok (.invokespecial 56, 3) := by decide +kernel
theorem dJ2_getChar_3b067_27 : decode cJ2_getChar_3b067 27 = .ok (.athrow, 1) := by decide +kernel
theorem dJ2_getChar_3b067_28 : decode cJ2_getChar_3b067 28 = .ok (.iload_n 1, 1) := by decide +kernel
theorem dJ2_getChar_3b067_29 : decode cJ2_getChar_3b067 29 = .ok (.iconst 1, 1) := by decide +kernel
theorem dJ2_getChar_3b067_30 : decode cJ2_getChar_3b067 30 = .ok (.ishl, 1) := by decide +kernel
theorem dJ2_getChar_3b067_31 : decode cJ2_getChar_3b067 31 = .ok (.istore_n 1, 1) := by decide +kernel
theorem dJ2_getChar_3b067_32 : decode cJ2_getChar_3b067 32 = .ok (.aload_n 0, 1) := by decide +kernel
theorem dJ2_getChar_3b067_33 : decode cJ2_getChar_3b067 33 = .ok (.iload_n 1, 1) := by decide +kernel
theorem dJ2_getChar_3b067_34 : decode cJ2_getChar_3b067 34 = .ok (.iinc 1 1, 3) := by decide +kernel
theorem dJ2_getChar_3b067_37 : decode cJ2_getChar_3b067 37 = .ok (.baload, 1) := by decide +kernel
theorem dJ2_getChar_3b067_38 : decode cJ2_getChar_3b067 38 = .ok (.sipush 255, 3) := by decide +kernel
theorem dJ2_getChar_3b067_41 : decode cJ2_getChar_3b067 41 = .ok (.iand, 1) := by decide +kernel
theorem dJ2_getChar_3b067_42 : decode cJ2_getChar_3b067 42 = .ok (.getstatic 59, 3) := by decide +kernel
theorem dJ2_getChar_3b067_45 : decode cJ2_getChar_3b067 45 = .ok (.ishl, 1) := by decide +kernel
theorem dJ2_getChar_3b067_46 : decode cJ2_getChar_3b067 46 = .ok (.aload_n 0, 1) := by decide +kernel
theorem dJ2_getChar_3b067_47 : decode cJ2_getChar_3b067 47 = .ok (.iload_n 1, 1) := by decide +kernel
theorem dJ2_getChar_3b067_48 : decode cJ2_getChar_3b067 48 = .ok (.baload, 1) := by decide +kernel
theorem dJ2_getChar_3b067_49 : decode cJ2_getChar_3b067 49 = .ok (.sipush 255, 3) := by decide +kernel
theorem dJ2_getChar_3b067_52 : decode cJ2_getChar_3b067 52 = .ok (.iand, 1) := by decide +kernel
theorem dJ2_getChar_3b067_53 : decode cJ2_getChar_3b067 53 = .ok (.getstatic 63, 3) := by decide +kernel
theorem dJ2_getChar_3b067_56 : decode cJ2_getChar_3b067 56 = .ok (.ishl, 1) := by decide +kernel
theorem dJ2_getChar_3b067_57 : decode cJ2_getChar_3b067 57 = .ok (.ior, 1) := by decide +kernel
theorem dJ2_getChar_3b067_58 : decode cJ2_getChar_3b067 58 = .ok (.i2c, 1) := by decide +kernel
theorem dJ2_getChar_3b067_59 : decode cJ2_getChar_3b067 59 = .ok (.ireturn, 1) := by decide +kernel
theorem dJ2_length_9d52b_0 : decode cJ2_length_9d52b 0 = .ok (.aload_n 0, 1) := by decide +kernel
theorem dJ2_length_9d52b_1 : decode cJ2_length_9d52b 1 = .ok (.arraylength, 1) := by decide +kernel
theorem dJ2_length_9d52b_2 : decode cJ2_length_9d52b 2 = .ok (.iconst 1, 1) := by decide +kernel
theorem dJ2_length_9d52b_3 : decode cJ2_length_9d52b 3 = .ok (.ishr, 1) := by decide +kernel
theorem dJ2_length_9d52b_4 : decode cJ2_length_9d52b 4 = .ok (.ireturn, 1) := by decide +kernel
theorem dJ2_charAt_3b067_0 : decode cJ2_charAt_3b067 0 = .ok (.iload_n 1, 1) := by decide +kernel
theorem dJ2_charAt_3b067_1 : decode cJ2_charAt_3b067 1 = .ok (.aload_n 0, 1) := by decide +kernel
theorem dJ2_charAt_3b067_2 : decode cJ2_charAt_3b067 2 = .ok (.invokestatic 67, 3) := by decide +kernel
theorem dJ2_charAt_3b067_5 : decode cJ2_charAt_3b067 5 = .ok (.aload_n 0, 1) := by decide +kernel
theorem dJ2_charAt_3b067_6 : decode cJ2_charAt_3b067 6 = .ok (.iload_n 1, 1) := by decide +kernel
theorem dJ2_charAt_3b067_7 : decode cJ2_charAt_3b067 7 = .ok (.invokestatic 71, 3) := by decide +kernel
theorem dJ2_charAt_3b067_10 : decode cJ2_charAt_3b067 10 = .ok (.ireturn, 1) := by decide +kernel
theorem dJ2_checkIndex_2214a_0 : decode cJ2_checkIndex_2214a 0 = .ok (.iload_n 0, 1) := by decide +kernel
theorem dJ2_checkIndex_2214a_1 : decode cJ2_checkIndex_2214a 1 = .ok (.aload_n 1, 1) := by decide +kernel
theorem dJ2_checkIndex_2214a_2 : decode cJ2_checkIndex_2214a 2 = .ok (.invokestatic 48, 3) := by decide +kernel
theorem dJ2_checkIndex_2214a_5 : decode cJ2_checkIndex_2214a 5 = .ok (.invokestatic 414, 3) := by decide +kernel
theorem dJ2_checkIndex_2214a_8 : decode cJ2_checkIndex_2214a 8 = .ok (.return_, 1) := by decide +kernel
theorem dJ3_checkIndex_8e157_0 : decode cJ3_checkIndex_8e157 0 = .ok (.iload_n 0, 1) := by decide +kernel
theorem dJ3_checkIndex_8e157_1 : decode cJ3_checkIndex_8e157 1 = .ok (.ifCond .lt 8, 3) := by decide +kernel
theorem dJ3_checkIndex_8e157_4 : decode cJ3_checkIndex_8e157 4 = .ok (.iload_n 0, 1) := by decide +kernel
theorem dJ3_checkIndex_8e157_5 : decode cJ3_checkIndex_8e157 5 = .ok (.iload_n 1, 1) := by decide +kernel
theorem dJ3_checkIndex_8e157_6 : decode cJ3_checkIndex_8e157 6 = .ok (.if_icmp .lt 10, 3) := by decide +kernel
theorem dJ3_checkIndex_8e157_9 : decode cJ3_checkIndex_8e157 9 = .ok (.aload_n 2, 1) := by decide +kernel
theorem dJ3_checkIndex_8e157_10 : decode cJ3_checkIndex_8e157 10 = .ok (.iload_n 0, 1) := by decide +kernel
theorem dJ3_checkIndex_8e157_11 : decode cJ3_checkIndex_8e157 11 = .ok (.iload_n 1, 1) := by decide +kernel
theorem dJ3_checkIndex_8e157_12 : decode cJ3_checkIndex_8e157 12 = .ok (.invokestatic 95, 3) := by decide +kernel
theorem dJ3_checkIndex_8e157_15 : decode cJ3_checkIndex_8e157 15 = .ok (.athrow, 1) := by decide +kernel
theorem dJ3_checkIndex_8e157_16 : decode cJ3_checkIndex_8e157 16 = .ok (.iload_n 0, 1) := by decide +kernel
theorem dJ3_checkIndex_8e157_17 : decode cJ3_checkIndex_8e157 17 = .ok (.ireturn, 1) := by decide +kernel
theorem dL_led_0 : decode cL_led 0 = .ok (.aload_n 2, 1) := by decide +kernel
theorem dL_led_1 : decode cL_led 1 = .ok (.iconst 0, 1) := by decide +kernel
theorem dL_led_2 : decode cL_led 2 = .ok (.aload_n 0, 1) := by decide +kernel
theorem dL_led_3 : decode cL_led 3 = .ok (.iload_n 1, 1) := by decide +kernel
theorem dL_led_4 : decode cL_led 4 = .ok (.invokevirtual 7, 3) := by decide +kernel
theorem dL_led_7 : decode cL_led 7 = .ok (.i2l, 1) := by decide +kernel
theorem dL_led_8 : decode cL_led 8 = .ok (.lastore, 1) := by decide +kernel
theorem dL_led_9 : decode cL_led 9 = .ok (.goto 6, 3) := by decide +kernel
theorem dL_led_12 : decode cL_led 12 = .ok (.astore_n 3, 1) := by decide +kernel
theorem dL_led_13 : decode cL_led 13 = .ok (.iconst 1, 1) := by decide +kernel
theorem dL_led_14 : decode cL_led 14 = .ok (.ireturn, 1) := by decide +kernel
theorem dL_led_15 : decode cL_led 15 = .ok (.iconst 0, 1) := by decide +kernel
theorem dL_led_16 : decode cL_led 16 = .ok (.ireturn, 1) := by decide +kernel
theorem dL_law_0 : decode cL_law 0 = .ok (.new 8, 3) := by decide +kernel
theorem dL_law_3 : decode cL_law 3 = .ok (.dup, 1) := by decide +kernel
theorem dL_law_4 : decode cL_law 4 = .ok (.invokespecial 15, 3) := by decide +kernel
theorem dL_law_7 : decode cL_law 7 = .ok (.astore_n 1, 1) := by decide +kernel
theorem dL_law_8 : decode cL_law 8 = .ok (.new 16, 3) := by decide +kernel
theorem dL_law_11 : decode cL_law 11 = .ok (.dup, 1) := by decide +kernel
theorem dL_law_12 : decode cL_law 12 = .ok (.invokespecial 18, 3) := by decide +kernel
theorem dL_law_15 : decode cL_law 15 = .ok (.astore_n 2, 1) := by decide +kernel
theorem dL_law_16 : decode cL_law 16 = .ok (.iconst 1, 1) := by decide +kernel
theorem dL_law_17 : decode cL_law 17 = .ok (.newarray .long, 2) := by decide +kernel
theorem dL_law_19 : decode cL_law 19 = .ok (.astore_n 3, 1) := by decide +kernel
theorem dL_law_20 : decode cL_law 20 = .ok (.iconst 0, 1) := by decide +kernel
theorem dL_law_21 : decode cL_law 21 = .ok (.istore 4, 2) := by decide +kernel
theorem dL_law_23 : decode cL_law 23 = .ok (.iload 4, 2) := by decide +kernel
theorem dL_law_25 : decode cL_law 25 = .ok (.aload_n 0, 1) := by decide +kernel
theorem dL_law_26 : decode cL_law 26 = .ok (.arraylength, 1) := by decide +kernel
theorem dL_law_27 : decode cL_law 27 = .ok (.bipush 6, 2) := by decide +kernel
theorem dL_law_29 : decode cL_law 29 = .ok (.isub, 1) := by decide +kernel
theorem dL_law_30 : decode cL_law 30 = .ok (.if_icmp .gt 1585, 3) := by decide +kernel
theorem dL_law_33 : decode cL_law 33 = .ok (.aload_n 0, 1) := by decide +kernel
theorem dL_law_34 : decode cL_law 34 = .ok (.iload 4, 2) := by decide +kernel
theorem dL_law_36 : decode cL_law 36 = .ok (.iaload, 1) := by decide +kernel
theorem dL_law_37 : decode cL_law 37 = .ok (.bipush 63, 2) := by decide +kernel
theorem dL_law_39 : decode cL_law 39 = .ok (.iand, 1) := by decide +kernel
theorem dL_law_40 : decode cL_law 40 = .ok (.tableswitch 1569 0 47 #[208, 281, 306, 319, 332, 381, 430, 479, 504, 541, 566, 603, 628, 653, 690, 727, 752, 777, 802, 815, 828, 841, 866, 891, 904, 929, 942, 979, 992, 1017, 1071, 1125, 1150, 1163, 1188, 1201, 1214, 1239, 1288, 1325, 1350, 1399, 1424, 1437, 1450, 1475, 1531, 1556], 208) := by decide +kernel
theorem dL_law_248 : decode cL_law 248 = .ok (.aload_n 1, 1) := by decide +kernel
theorem dL_law_249 : decode cL_law 249 = .ok (.aload_n 0, 1) := by decide +kernel
theorem dL_law_250 : decode cL_law 250 = .ok (.iload 4, 2) := by decide +kernel
theorem dL_law_252 : decode cL_law 252 = .ok (.iconst 1, 1) := by decide +kernel
theorem dL_law_253 : decode cL_law 253 = .ok (.iadd, 1) := by decide +kernel
theorem dL_law_254 : decode cL_law 254 = .ok (.iaload, 1) := by decide +kernel
theorem dL_law_255 : decode cL_law 255 = .ok (.aload_n 0, 1) := by decide +kernel
theorem dL_law_256 : decode cL_law 256 = .ok (.iload 4, 2) := by decide +kernel
theorem dL_law_258 : decode cL_law 258 = .ok (.iconst 2, 1) := by decide +kernel
theorem dL_law_259 : decode cL_law 259 = .ok (.iadd, 1) := by decide +kernel
theorem dL_law_260 : decode cL_law 260 = .ok (.iaload, 1) := by decide +kernel
theorem dL_law_261 : decode cL_law 261 = .ok (.aload_n 0, 1) := by decide +kernel
theorem dL_law_262 : decode cL_law 262 = .ok (.iload 4, 2) := by decide +kernel
theorem dL_law_264 : decode cL_law 264 = .ok (.iconst 3, 1) := by decide +kernel
theorem dL_law_265 : decode cL_law 265 = .ok (.iadd, 1) := by decide +kernel
theorem dL_law_266 : decode cL_law 266 = .ok (.iaload, 1) := by decide +kernel
theorem dL_law_267 : decode cL_law 267 = .ok (.aload_n 0, 1) := by decide +kernel
theorem dL_law_268 : decode cL_law 268 = .ok (.iload 4, 2) := by decide +kernel
theorem dL_law_270 : decode cL_law 270 = .ok (.iconst 4, 1) := by decide +kernel
theorem dL_law_271 : decode cL_law 271 = .ok (.iadd, 1) := by decide +kernel
theorem dL_law_272 : decode cL_law 272 = .ok (.iaload, 1) := by decide +kernel
theorem dL_law_273 : decode cL_law 273 = .ok (.aload_n 0, 1) := by decide +kernel
theorem dL_law_274 : decode cL_law 274 = .ok (.iload 4, 2) := by decide +kernel
theorem dL_law_276 : decode cL_law 276 = .ok (.iconst 5, 1) := by decide +kernel
theorem dL_law_277 : decode cL_law 277 = .ok (.iadd, 1) := by decide +kernel
theorem dL_law_278 : decode cL_law 278 = .ok (.iaload, 1) := by decide +kernel
theorem dL_law_279 : decode cL_law 279 = .ok (.invokevirtual 19, 3) := by decide +kernel
theorem dL_law_282 : decode cL_law 282 = .ok (.aload_n 2, 1) := by decide +kernel
theorem dL_law_283 : decode cL_law 283 = .ok (.aload_n 0, 1) := by decide +kernel
theorem dL_law_284 : decode cL_law 284 = .ok (.iload 4, 2) := by decide +kernel
theorem dL_law_286 : decode cL_law 286 = .ok (.iconst 1, 1) := by decide +kernel
theorem dL_law_287 : decode cL_law 287 = .ok (.iadd, 1) := by decide +kernel
theorem dL_law_288 : decode cL_law 288 = .ok (.iaload, 1) := by decide +kernel
theorem dL_law_289 : decode cL_law 289 = .ok (.aload_n 0, 1) := by decide +kernel
theorem dL_law_290 : decode cL_law 290 = .ok (.iload 4, 2) := by decide +kernel
theorem dL_law_292 : decode cL_law 292 = .ok (.iconst 2, 1) := by decide +kernel
theorem dL_law_293 : decode cL_law 293 = .ok (.iadd, 1) := by decide +kernel
theorem dL_law_294 : decode cL_law 294 = .ok (.iaload, 1) := by decide +kernel
theorem dL_law_295 : decode cL_law 295 = .ok (.aload_n 0, 1) := by decide +kernel
theorem dL_law_296 : decode cL_law 296 = .ok (.iload 4, 2) := by decide +kernel
theorem dL_law_298 : decode cL_law 298 = .ok (.iconst 3, 1) := by decide +kernel
theorem dL_law_299 : decode cL_law 299 = .ok (.iadd, 1) := by decide +kernel
theorem dL_law_300 : decode cL_law 300 = .ok (.iaload, 1) := by decide +kernel
theorem dL_law_301 : decode cL_law 301 = .ok (.aload_n 0, 1) := by decide +kernel
theorem dL_law_302 : decode cL_law 302 = .ok (.iload 4, 2) := by decide +kernel
theorem dL_law_304 : decode cL_law 304 = .ok (.iconst 4, 1) := by decide +kernel
theorem dL_law_305 : decode cL_law 305 = .ok (.iadd, 1) := by decide +kernel
theorem dL_law_306 : decode cL_law 306 = .ok (.iaload, 1) := by decide +kernel
theorem dL_law_307 : decode cL_law 307 = .ok (.aload_n 0, 1) := by decide +kernel
theorem dL_law_308 : decode cL_law 308 = .ok (.iload 4, 2) := by decide +kernel
theorem dL_law_310 : decode cL_law 310 = .ok (.iconst 5, 1) := by decide +kernel
theorem dL_law_311 : decode cL_law 311 = .ok (.iadd, 1) := by decide +kernel
theorem dL_law_312 : decode cL_law 312 = .ok (.iaload, 1) := by decide +kernel
theorem dL_law_313 : decode cL_law 313 = .ok (.invokevirtual 23, 3) := by decide +kernel
theorem dL_law_316 : decode cL_law 316 = .ok (.if_icmp .eq 1293, 3) := by decide +kernel
theorem dL_law_319 : decode cL_law 319 = .ok (.iconst 0, 1) := by decide +kernel
theorem dL_law_320 : decode cL_law 320 = .ok (.ireturn, 1) := by decide +kernel
theorem dL_law_321 : decode cL_law 321 = .ok (.aload_n 1, 1) := by decide +kernel
theorem dL_law_322 : decode cL_law 322 = .ok (.aload_n 0, 1) := by decide +kernel
theorem dL_law_323 : decode cL_law 323 = .ok (.iload 4, 2) := by decide +kernel
theorem dL_law_325 : decode cL_law 325 = .ok (.iconst 1, 1) := by decide +kernel
theorem dL_law_326 : decode cL_law 326 = .ok (.iadd, 1) := by decide +kernel
theorem dL_law_327 : decode cL_law 327 = .ok (.iaload, 1) := by decide +kernel
theorem dL_law_328 : decode cL_law 328 = .ok (.invokevirtual 24, 3) := by decide +kernel
theorem dL_law_331 : decode cL_law 331 = .ok (.aload_n 2, 1) := by decide +kernel
theorem dL_law_332 : decode cL_law 332 = .ok (.aload_n 0, 1) := by decide +kernel
theorem dL_law_333 : decode cL_law 333 = .ok (.iload 4, 2) := by decide +kernel
theorem dL_law_335 : decode cL_law 335 = .ok (.iconst 1, 1) := by decide +kernel
theorem dL_law_336 : decode cL_law 336 = .ok (.iadd, 1) := by decide +kernel
theorem dL_law_337 : decode cL_law 337 = .ok (.iaload, 1) := by decide +kernel
theorem dL_law_338 : decode cL_law 338 = .ok (.invokevirtual 27, 3) := by decide +kernel
theorem dL_law_341 : decode cL_law 341 = .ok (.if_icmp .eq 1268, 3) := by decide +kernel
theorem dL_law_344 : decode cL_law 344 = .ok (.iconst 0, 1) := by decide +kernel
theorem dL_law_345 : decode cL_law 345 = .ok (.ireturn, 1) := by decide +kernel
theorem dL_law_346 : decode cL_law 346 = .ok (.aload_n 1, 1) := by decide +kernel
theorem dL_law_347 : decode cL_law 347 = .ok (.invokevirtual 28, 3) := by decide +kernel
theorem dL_law_350 : decode cL_law 350 = .ok (.aload_n 2, 1) := by decide +kernel
theorem dL_law_351 : decode cL_law 351 = .ok (.invokevirtual 32, 3) := by decide +kernel
theorem dL_law_354 : decode cL_law 354 = .ok (.if_icmp .eq 1255, 3) := by decide +kernel
theorem dL_law_357 : decode cL_law 357 = .ok (.iconst 0, 1) := by decide +kernel
theorem dL_law_358 : decode cL_law 358 = .ok (.ireturn, 1) := by decide +kernel
theorem dL_law_359 : decode cL_law 359 = .ok (.aload_n 1, 1) := by decide +kernel
theorem dL_law_360 : decode cL_law 360 = .ok (.invokevirtual 33, 3) := by decide +kernel
theorem dL_law_363 : decode cL_law 363 = .ok (.aload_n 2, 1) := by decide +kernel
theorem dL_law_364 : decode cL_law 364 = .ok (.invokevirtual 36, 3) := by decide +kernel
theorem dL_law_367 : decode cL_law 367 = .ok (.if_icmp .eq 1242, 3) := by decide +kernel
theorem dL_law_370 : decode cL_law 370 = .ok (.iconst 0, 1) := by decide +kernel
theorem dL_law_371 : decode cL_law 371 = .ok (.ireturn, 1) := by decide +kernel
theorem dL_law_372 : decode cL_law 372 = .ok (.aload_n 1, 1) := by decide +kernel
theorem dL_law_373 : decode cL_law 373 = .ok (.aload_n 0, 1) := by decide +kernel
theorem dL_law_374 : decode cL_law 374 = .ok (.iload 4, 2) := by decide +kernel
theorem dL_law_376 : decode cL_law 376 = .ok (.iconst 1, 1) := by decide +kernel
theorem dL_law_377 : decode cL_law 377 = .ok (.iadd, 1) := by decide +kernel
theorem dL_law_378 : decode cL_law 378 = .ok (.iaload, 1) := by decide +kernel
theorem dL_law_379 : decode cL_law 379 = .ok (.aload_n 0, 1) := by decide +kernel
theorem dL_law_380 : decode cL_law 380 = .ok (.iload 4, 2) := by decide +kernel
theorem dL_law_382 : decode cL_law 382 = .ok (.iconst 2, 1) := by decide +kernel
theorem dL_law_383 : decode cL_law 383 = .ok (.iadd, 1) := by decide +kernel
theorem dL_law_384 : decode cL_law 384 = .ok (.iaload, 1) := by decide +kernel
theorem dL_law_385 : decode cL_law 385 = .ok (.aload_n 0, 1) := by decide +kernel
theorem dL_law_386 : decode cL_law 386 = .ok (.iload 4, 2) := by decide +kernel
theorem dL_law_388 : decode cL_law 388 = .ok (.iconst 3, 1) := by decide +kernel
theorem dL_law_389 : decode cL_law 389 = .ok (.iadd, 1) := by decide +kernel
theorem dL_law_390 : decode cL_law 390 = .ok (.iaload, 1) := by decide +kernel
theorem dL_law_391 : decode cL_law 391 = .ok (.invokevirtual 37, 3) := by decide +kernel
theorem dL_law_394 : decode cL_law 394 = .ok (.aload_n 2, 1) := by decide +kernel
theorem dL_law_395 : decode cL_law 395 = .ok (.aload_n 0, 1) := by decide +kernel
theorem dL_law_396 : decode cL_law 396 = .ok (.iload 4, 2) := by decide +kernel
theorem dL_law_398 : decode cL_law 398 = .ok (.iconst 1, 1) := by decide +kernel
theorem dL_law_399 : decode cL_law 399 = .ok (.iadd, 1) := by decide +kernel
theorem dL_law_400 : decode cL_law 400 = .ok (.iaload, 1) := by decide +kernel
theorem dL_law_401 : decode cL_law 401 = .ok (.aload_n 0, 1) := by decide +kernel
theorem dL_law_402 : decode cL_law 402 = .ok (.iload 4, 2) := by decide +kernel
theorem dL_law_404 : decode cL_law 404 = .ok (.iconst 2, 1) := by decide +kernel
theorem dL_law_405 : decode cL_law 405 = .ok (.iadd, 1) := by decide +kernel
theorem dL_law_406 : decode cL_law 406 = .ok (.iaload, 1) := by decide +kernel
theorem dL_law_407 : decode cL_law 407 = .ok (.aload_n 0, 1) := by decide +kernel
theorem dL_law_408 : decode cL_law 408 = .ok (.iload 4, 2) := by decide +kernel
theorem dL_law_410 : decode cL_law 410 = .ok (.iconst 3, 1) := by decide +kernel
theorem dL_law_411 : decode cL_law 411 = .ok (.iadd, 1) := by decide +kernel
theorem dL_law_412 : decode cL_law 412 = .ok (.iaload, 1) := by decide +kernel
theorem dL_law_413 : decode cL_law 413 = .ok (.invokevirtual 41, 3) := by decide +kernel
theorem dL_law_416 : decode cL_law 416 = .ok (.if_icmp .eq 1193, 3) := by decide +kernel
theorem dL_law_419 : decode cL_law 419 = .ok (.iconst 0, 1) := by decide +kernel
theorem dL_law_420 : decode cL_law 420 = .ok (.ireturn, 1) := by decide +kernel
theorem dL_law_421 : decode cL_law 421 = .ok (.aload_n 1, 1) := by decide +kernel
theorem dL_law_422 : decode cL_law 422 = .ok (.aload_n 0, 1) := by decide +kernel
theorem dL_law_423 : decode cL_law 423 = .ok (.iload 4, 2) := by decide +kernel
theorem dL_law_425 : decode cL_law 425 = .ok (.iconst 1, 1) := by decide +kernel
theorem dL_law_426 : decode cL_law 426 = .ok (.iadd, 1) := by decide +kernel
theorem dL_law_427 : decode cL_law 427 = .ok (.iaload, 1) := by decide +kernel
theorem dL_law_428 : decode cL_law 428 = .ok (.aload_n 0, 1) := by decide +kernel
theorem dL_law_429 : decode cL_law 429 = .ok (.iload 4, 2) := by decide +kernel
theorem dL_law_431 : decode cL_law 431 = .ok (.iconst 2, 1) := by decide +kernel
theorem dL_law_432 : decode cL_law 432 = .ok (.iadd, 1) := by decide +kernel
theorem dL_law_433 : decode cL_law 433 = .ok (.iaload, 1) := by decide +kernel
theorem dL_law_434 : decode cL_law 434 = .ok (.aload_n 0, 1) := by decide +kernel
theorem dL_law_435 : decode cL_law 435 = .ok (.iload 4, 2) := by decide +kernel
theorem dL_law_437 : decode cL_law 437 = .ok (.iconst 3, 1) := by decide +kernel
theorem dL_law_438 : decode cL_law 438 = .ok (.iadd, 1) := by decide +kernel
theorem dL_law_439 : decode cL_law 439 = .ok (.iaload, 1) := by decide +kernel
theorem dL_law_440 : decode cL_law 440 = .ok (.invokevirtual 42, 3) := by decide +kernel
theorem dL_law_443 : decode cL_law 443 = .ok (.aload_n 2, 1) := by decide +kernel
theorem dL_law_444 : decode cL_law 444 = .ok (.aload_n 0, 1) := by decide +kernel
theorem dL_law_445 : decode cL_law 445 = .ok (.iload 4, 2) := by decide +kernel
theorem dL_law_447 : decode cL_law 447 = .ok (.iconst 1, 1) := by decide +kernel
theorem dL_law_448 : decode cL_law 448 = .ok (.iadd, 1) := by decide +kernel
theorem dL_law_449 : decode cL_law 449 = .ok (.iaload, 1) := by decide +kernel
theorem dL_law_450 : decode cL_law 450 = .ok (.aload_n 0, 1) := by decide +kernel
theorem dL_law_451 : decode cL_law 451 = .ok (.iload 4, 2) := by decide +kernel
theorem dL_law_453 : decode cL_law 453 = .ok (.iconst 2, 1) := by decide +kernel
theorem dL_law_454 : decode cL_law 454 = .ok (.iadd, 1) := by decide +kernel
theorem dL_law_455 : decode cL_law 455 = .ok (.iaload, 1) := by decide +kernel
theorem dL_law_456 : decode cL_law 456 = .ok (.aload_n 0, 1) := by decide +kernel
theorem dL_law_457 : decode cL_law 457 = .ok (.iload 4, 2) := by decide +kernel
theorem dL_law_459 : decode cL_law 459 = .ok (.iconst 3, 1) := by decide +kernel
theorem dL_law_460 : decode cL_law 460 = .ok (.iadd, 1) := by decide +kernel
theorem dL_law_461 : decode cL_law 461 = .ok (.iaload, 1) := by decide +kernel
theorem dL_law_462 : decode cL_law 462 = .ok (.invokevirtual 45, 3) := by decide +kernel
theorem dL_law_465 : decode cL_law 465 = .ok (.if_icmp .eq 1144, 3) := by decide +kernel
theorem dL_law_468 : decode cL_law 468 = .ok (.iconst 0, 1) := by decide +kernel
theorem dL_law_469 : decode cL_law 469 = .ok (.ireturn, 1) := by decide +kernel
theorem dL_law_470 : decode cL_law 470 = .ok (.aload_n 1, 1) := by decide +kernel
theorem dL_law_471 : decode cL_law 471 = .ok (.aload_n 0, 1) := by decide +kernel
theorem dL_law_472 : decode cL_law 472 = .ok (.iload 4, 2) := by decide +kernel
theorem dL_law_474 : decode cL_law 474 = .ok (.iconst 1, 1) := by decide +kernel
theorem dL_law_475 : decode cL_law 475 = .ok (.iadd, 1) := by decide +kernel
theorem dL_law_476 : decode cL_law 476 = .ok (.iaload, 1) := by decide +kernel
theorem dL_law_477 : decode cL_law 477 = .ok (.aload_n 0, 1) := by decide +kernel
theorem dL_law_478 : decode cL_law 478 = .ok (.iload 4, 2) := by decide +kernel
theorem dL_law_480 : decode cL_law 480 = .ok (.iconst 2, 1) := by decide +kernel
theorem dL_law_481 : decode cL_law 481 = .ok (.iadd, 1) := by decide +kernel
theorem dL_law_482 : decode cL_law 482 = .ok (.iaload, 1) := by decide +kernel
theorem dL_law_483 : decode cL_law 483 = .ok (.aload_n 0, 1) := by decide +kernel
theorem dL_law_484 : decode cL_law 484 = .ok (.iload 4, 2) := by decide +kernel
theorem dL_law_486 : decode cL_law 486 = .ok (.iconst 3, 1) := by decide +kernel
theorem dL_law_487 : decode cL_law 487 = .ok (.iadd, 1) := by decide +kernel
theorem dL_law_488 : decode cL_law 488 = .ok (.iaload, 1) := by decide +kernel
theorem dL_law_489 : decode cL_law 489 = .ok (.invokevirtual 46, 3) := by decide +kernel
theorem dL_law_492 : decode cL_law 492 = .ok (.aload_n 2, 1) := by decide +kernel
theorem dL_law_493 : decode cL_law 493 = .ok (.aload_n 0, 1) := by decide +kernel
theorem dL_law_494 : decode cL_law 494 = .ok (.iload 4, 2) := by decide +kernel
theorem dL_law_496 : decode cL_law 496 = .ok (.iconst 1, 1) := by decide +kernel
theorem dL_law_497 : decode cL_law 497 = .ok (.iadd, 1) := by decide +kernel
theorem dL_law_498 : decode cL_law 498 = .ok (.iaload, 1) := by decide +kernel
theorem dL_law_499 : decode cL_law 499 = .ok (.aload_n 0, 1) := by decide +kernel
theorem dL_law_500 : decode cL_law 500 = .ok (.iload 4, 2) := by decide +kernel
theorem dL_law_502 : decode cL_law 502 = .ok (.iconst 2, 1) := by decide +kernel
theorem dL_law_503 : decode cL_law 503 = .ok (.iadd, 1) := by decide +kernel
theorem dL_law_504 : decode cL_law 504 = .ok (.iaload, 1) := by decide +kernel
theorem dL_law_505 : decode cL_law 505 = .ok (.aload_n 0, 1) := by decide +kernel
theorem dL_law_506 : decode cL_law 506 = .ok (.iload 4, 2) := by decide +kernel
theorem dL_law_508 : decode cL_law 508 = .ok (.iconst 3, 1) := by decide +kernel
theorem dL_law_509 : decode cL_law 509 = .ok (.iadd, 1) := by decide +kernel
theorem dL_law_510 : decode cL_law 510 = .ok (.iaload, 1) := by decide +kernel
theorem dL_law_511 : decode cL_law 511 = .ok (.invokevirtual 49, 3) := by decide +kernel
theorem dL_law_514 : decode cL_law 514 = .ok (.if_icmp .eq 1095, 3) := by decide +kernel
theorem dL_law_517 : decode cL_law 517 = .ok (.iconst 0, 1) := by decide +kernel
theorem dL_law_518 : decode cL_law 518 = .ok (.ireturn, 1) := by decide +kernel
theorem dL_law_519 : decode cL_law 519 = .ok (.aload_n 1, 1) := by decide +kernel
theorem dL_law_520 : decode cL_law 520 = .ok (.aload_n 0, 1) := by decide +kernel
theorem dL_law_521 : decode cL_law 521 = .ok (.iload 4, 2) := by decide +kernel
theorem dL_law_523 : decode cL_law 523 = .ok (.iconst 1, 1) := by decide +kernel
theorem dL_law_524 : decode cL_law 524 = .ok (.iadd, 1) := by decide +kernel
theorem dL_law_525 : decode cL_law 525 = .ok (.iaload, 1) := by decide +kernel
theorem dL_law_526 : decode cL_law 526 = .ok (.invokevirtual 50, 3) := by decide +kernel
theorem dL_law_529 : decode cL_law 529 = .ok (.aload_n 2, 1) := by decide +kernel
theorem dL_law_530 : decode cL_law 530 = .ok (.aload_n 0, 1) := by decide +kernel
theorem dL_law_531 : decode cL_law 531 = .ok (.iload 4, 2) := by decide +kernel
theorem dL_law_533 : decode cL_law 533 = .ok (.iconst 1, 1) := by decide +kernel
theorem dL_law_534 : decode cL_law 534 = .ok (.iadd, 1) := by decide +kernel
theorem dL_law_535 : decode cL_law 535 = .ok (.iaload, 1) := by decide +kernel
theorem dL_law_536 : decode cL_law 536 = .ok (.invokevirtual 53, 3) := by decide +kernel
theorem dL_law_539 : decode cL_law 539 = .ok (.if_icmp .eq 1070, 3) := by decide +kernel
theorem dL_law_542 : decode cL_law 542 = .ok (.iconst 0, 1) := by decide +kernel
theorem dL_law_543 : decode cL_law 543 = .ok (.ireturn, 1) := by decide +kernel
theorem dL_law_544 : decode cL_law 544 = .ok (.aload_n 1, 1) := by decide +kernel
theorem dL_law_545 : decode cL_law 545 = .ok (.aload_n 0, 1) := by decide +kernel
theorem dL_law_546 : decode cL_law 546 = .ok (.iload 4, 2) := by decide +kernel
theorem dL_law_548 : decode cL_law 548 = .ok (.iconst 1, 1) := by decide +kernel
theorem dL_law_549 : decode cL_law 549 = .ok (.iadd, 1) := by decide +kernel
theorem dL_law_550 : decode cL_law 550 = .ok (.iaload, 1) := by decide +kernel
theorem dL_law_551 : decode cL_law 551 = .ok (.aload_n 0, 1) := by decide +kernel
theorem dL_law_552 : decode cL_law 552 = .ok (.iload 4, 2) := by decide +kernel
theorem dL_law_554 : decode cL_law 554 = .ok (.iconst 2, 1) := by decide +kernel
theorem dL_law_555 : decode cL_law 555 = .ok (.iadd, 1) := by decide +kernel
theorem dL_law_556 : decode cL_law 556 = .ok (.iaload, 1) := by decide +kernel
theorem dL_law_557 : decode cL_law 557 = .ok (.invokevirtual 54, 3) := by decide +kernel
theorem dL_law_560 : decode cL_law 560 = .ok (.aload_n 2, 1) := by decide +kernel
theorem dL_law_561 : decode cL_law 561 = .ok (.aload_n 0, 1) := by decide +kernel
theorem dL_law_562 : decode cL_law 562 = .ok (.iload 4, 2) := by decide +kernel
theorem dL_law_564 : decode cL_law 564 = .ok (.iconst 1, 1) := by decide +kernel
theorem dL_law_565 : decode cL_law 565 = .ok (.iadd, 1) := by decide +kernel
theorem dL_law_566 : decode cL_law 566 = .ok (.iaload, 1) := by decide +kernel
theorem dL_law_567 : decode cL_law 567 = .ok (.aload_n 0, 1) := by decide +kernel
theorem dL_law_568 : decode cL_law 568 = .ok (.iload 4, 2) := by decide +kernel
theorem dL_law_570 : decode cL_law 570 = .ok (.iconst 2, 1) := by decide +kernel
theorem dL_law_571 : decode cL_law 571 = .ok (.iadd, 1) := by decide +kernel
theorem dL_law_572 : decode cL_law 572 = .ok (.iaload, 1) := by decide +kernel
theorem dL_law_573 : decode cL_law 573 = .ok (.invokevirtual 58, 3) := by decide +kernel
theorem dL_law_576 : decode cL_law 576 = .ok (.if_icmp .eq 1033, 3) := by decide +kernel
theorem dL_law_579 : decode cL_law 579 = .ok (.iconst 0, 1) := by decide +kernel
theorem dL_law_580 : decode cL_law 580 = .ok (.ireturn, 1) := by decide +kernel
theorem dL_law_581 : decode cL_law 581 = .ok (.aload_n 1, 1) := by decide +kernel
theorem dL_law_582 : decode cL_law 582 = .ok (.aload_n 0, 1) := by decide +kernel
theorem dL_law_583 : decode cL_law 583 = .ok (.iload 4, 2) := by decide +kernel
theorem dL_law_585 : decode cL_law 585 = .ok (.iconst 1, 1) := by decide +kernel
theorem dL_law_586 : decode cL_law 586 = .ok (.iadd, 1) := by decide +kernel
theorem dL_law_587 : decode cL_law 587 = .ok (.iaload, 1) := by decide +kernel
theorem dL_law_588 : decode cL_law 588 = .ok (.invokevirtual 59, 3) := by decide +kernel
theorem dL_law_591 : decode cL_law 591 = .ok (.aload_n 2, 1) := by decide +kernel
theorem dL_law_592 : decode cL_law 592 = .ok (.aload_n 0, 1) := by decide +kernel
theorem dL_law_593 : decode cL_law 593 = .ok (.iload 4, 2) := by decide +kernel
theorem dL_law_595 : decode cL_law 595 = .ok (.iconst 1, 1) := by decide +kernel
theorem dL_law_596 : decode cL_law 596 = .ok (.iadd, 1) := by decide +kernel
theorem dL_law_597 : decode cL_law 597 = .ok (.iaload, 1) := by decide +kernel
theorem dL_law_598 : decode cL_law 598 = .ok (.invokevirtual 62, 3) := by decide +kernel
theorem dL_law_601 : decode cL_law 601 = .ok (.if_icmp .eq 1008, 3) := by decide +kernel
theorem dL_law_604 : decode cL_law 604 = .ok (.iconst 0, 1) := by decide +kernel
theorem dL_law_605 : decode cL_law 605 = .ok (.ireturn, 1) := by decide +kernel
theorem dL_law_606 : decode cL_law 606 = .ok (.aload_n 1, 1) := by decide +kernel
theorem dL_law_607 : decode cL_law 607 = .ok (.aload_n 0, 1) := by decide +kernel
theorem dL_law_608 : decode cL_law 608 = .ok (.iload 4, 2) := by decide +kernel
theorem dL_law_610 : decode cL_law 610 = .ok (.iconst 1, 1) := by decide +kernel
theorem dL_law_611 : decode cL_law 611 = .ok (.iadd, 1) := by decide +kernel
theorem dL_law_612 : decode cL_law 612 = .ok (.iaload, 1) := by decide +kernel
theorem dL_law_613 : decode cL_law 613 = .ok (.aload_n 0, 1) := by decide +kernel
theorem dL_law_614 : decode cL_law 614 = .ok (.iload 4, 2) := by decide +kernel
theorem dL_law_616 : decode cL_law 616 = .ok (.iconst 2, 1) := by decide +kernel
theorem dL_law_617 : decode cL_law 617 = .ok (.iadd, 1) := by decide +kernel
theorem dL_law_618 : decode cL_law 618 = .ok (.iaload, 1) := by decide +kernel
theorem dL_law_619 : decode cL_law 619 = .ok (.invokevirtual 63, 3) := by decide +kernel
theorem dL_law_622 : decode cL_law 622 = .ok (.aload_n 2, 1) := by decide +kernel
theorem dL_law_623 : decode cL_law 623 = .ok (.aload_n 0, 1) := by decide +kernel
theorem dL_law_624 : decode cL_law 624 = .ok (.iload 4, 2) := by decide +kernel
theorem dL_law_626 : decode cL_law 626 = .ok (.iconst 1, 1) := by decide +kernel
theorem dL_law_627 : decode cL_law 627 = .ok (.iadd, 1) := by decide +kernel
theorem dL_law_628 : decode cL_law 628 = .ok (.iaload, 1) := by decide +kernel
theorem dL_law_629 : decode cL_law 629 = .ok (.aload_n 0, 1) := by decide +kernel
theorem dL_law_630 : decode cL_law 630 = .ok (.iload 4, 2) := by decide +kernel
theorem dL_law_632 : decode cL_law 632 = .ok (.iconst 2, 1) := by decide +kernel
theorem dL_law_633 : decode cL_law 633 = .ok (.iadd, 1) := by decide +kernel
theorem dL_law_634 : decode cL_law 634 = .ok (.iaload, 1) := by decide +kernel
theorem dL_law_635 : decode cL_law 635 = .ok (.invokevirtual 66, 3) := by decide +kernel
theorem dL_law_638 : decode cL_law 638 = .ok (.if_icmp .eq 971, 3) := by decide +kernel
theorem dL_law_641 : decode cL_law 641 = .ok (.iconst 0, 1) := by decide +kernel
theorem dL_law_642 : decode cL_law 642 = .ok (.ireturn, 1) := by decide +kernel
theorem dL_law_643 : decode cL_law 643 = .ok (.aload_n 1, 1) := by decide +kernel
theorem dL_law_644 : decode cL_law 644 = .ok (.aload_n 0, 1) := by decide +kernel
theorem dL_law_645 : decode cL_law 645 = .ok (.iload 4, 2) := by decide +kernel
theorem dL_law_647 : decode cL_law 647 = .ok (.iconst 1, 1) := by decide +kernel
theorem dL_law_648 : decode cL_law 648 = .ok (.iadd, 1) := by decide +kernel
theorem dL_law_649 : decode cL_law 649 = .ok (.iaload, 1) := by decide +kernel
theorem dL_law_650 : decode cL_law 650 = .ok (.invokevirtual 67, 3) := by decide +kernel
theorem dL_law_653 : decode cL_law 653 = .ok (.aload_n 2, 1) := by decide +kernel
theorem dL_law_654 : decode cL_law 654 = .ok (.aload_n 0, 1) := by decide +kernel
theorem dL_law_655 : decode cL_law 655 = .ok (.iload 4, 2) := by decide +kernel
theorem dL_law_657 : decode cL_law 657 = .ok (.iconst 1, 1) := by decide +kernel
theorem dL_law_658 : decode cL_law 658 = .ok (.iadd, 1) := by decide +kernel
theorem dL_law_659 : decode cL_law 659 = .ok (.iaload, 1) := by decide +kernel
theorem dL_law_660 : decode cL_law 660 = .ok (.invokevirtual 70, 3) := by decide +kernel
theorem dL_law_663 : decode cL_law 663 = .ok (.if_icmp .eq 946, 3) := by decide +kernel
theorem dL_law_666 : decode cL_law 666 = .ok (.iconst 0, 1) := by decide +kernel
theorem dL_law_667 : decode cL_law 667 = .ok (.ireturn, 1) := by decide +kernel
theorem dL_law_668 : decode cL_law 668 = .ok (.aload_n 1, 1) := by decide +kernel
theorem dL_law_669 : decode cL_law 669 = .ok (.aload_n 0, 1) := by decide +kernel
theorem dL_law_670 : decode cL_law 670 = .ok (.iload 4, 2) := by decide +kernel
theorem dL_law_672 : decode cL_law 672 = .ok (.iconst 1, 1) := by decide +kernel
theorem dL_law_673 : decode cL_law 673 = .ok (.iadd, 1) := by decide +kernel
theorem dL_law_674 : decode cL_law 674 = .ok (.iaload, 1) := by decide +kernel
theorem dL_law_675 : decode cL_law 675 = .ok (.invokevirtual 71, 3) := by decide +kernel
theorem dL_law_678 : decode cL_law 678 = .ok (.aload_n 2, 1) := by decide +kernel
theorem dL_law_679 : decode cL_law 679 = .ok (.aload_n 0, 1) := by decide +kernel
theorem dL_law_680 : decode cL_law 680 = .ok (.iload 4, 2) := by decide +kernel
theorem dL_law_682 : decode cL_law 682 = .ok (.iconst 1, 1) := by decide +kernel
theorem dL_law_683 : decode cL_law 683 = .ok (.iadd, 1) := by decide +kernel
theorem dL_law_684 : decode cL_law 684 = .ok (.iaload, 1) := by decide +kernel
theorem dL_law_685 : decode cL_law 685 = .ok (.invokevirtual 74, 3) := by decide +kernel
theorem dL_law_688 : decode cL_law 688 = .ok (.if_icmp .eq 921, 3) := by decide +kernel
theorem dL_law_691 : decode cL_law 691 = .ok (.iconst 0, 1) := by decide +kernel
theorem dL_law_692 : decode cL_law 692 = .ok (.ireturn, 1) := by decide +kernel
theorem dL_law_693 : decode cL_law 693 = .ok (.aload_n 1, 1) := by decide +kernel
theorem dL_law_694 : decode cL_law 694 = .ok (.aload_n 0, 1) := by decide +kernel
theorem dL_law_695 : decode cL_law 695 = .ok (.iload 4, 2) := by decide +kernel
theorem dL_law_697 : decode cL_law 697 = .ok (.iconst 1, 1) := by decide +kernel
theorem dL_law_698 : decode cL_law 698 = .ok (.iadd, 1) := by decide +kernel
theorem dL_law_699 : decode cL_law 699 = .ok (.iaload, 1) := by decide +kernel
theorem dL_law_700 : decode cL_law 700 = .ok (.aload_n 0, 1) := by decide +kernel
theorem dL_law_701 : decode cL_law 701 = .ok (.iload 4, 2) := by decide +kernel
theorem dL_law_703 : decode cL_law 703 = .ok (.iconst 2, 1) := by decide +kernel
theorem dL_law_704 : decode cL_law 704 = .ok (.iadd, 1) := by decide +kernel
theorem dL_law_705 : decode cL_law 705 = .ok (.iaload, 1) := by decide +kernel
theorem dL_law_706 : decode cL_law 706 = .ok (.invokevirtual 75, 3) := by decide +kernel
theorem dL_law_709 : decode cL_law 709 = .ok (.aload_n 2, 1) := by decide +kernel
theorem dL_law_710 : decode cL_law 710 = .ok (.aload_n 0, 1) := by decide +kernel
theorem dL_law_711 : decode cL_law 711 = .ok (.iload 4, 2) := by decide +kernel
theorem dL_law_713 : decode cL_law 713 = .ok (.iconst 1, 1) := by decide +kernel
theorem dL_law_714 : decode cL_law 714 = .ok (.iadd, 1) := by decide +kernel
theorem dL_law_715 : decode cL_law 715 = .ok (.iaload, 1) := by decide +kernel
theorem dL_law_716 : decode cL_law 716 = .ok (.aload_n 0, 1) := by decide +kernel
theorem dL_law_717 : decode cL_law 717 = .ok (.iload 4, 2) := by decide +kernel
theorem dL_law_719 : decode cL_law 719 = .ok (.iconst 2, 1) := by decide +kernel
theorem dL_law_720 : decode cL_law 720 = .ok (.iadd, 1) := by decide +kernel
theorem dL_law_721 : decode cL_law 721 = .ok (.iaload, 1) := by decide +kernel
theorem dL_law_722 : decode cL_law 722 = .ok (.invokevirtual 78, 3) := by decide +kernel
theorem dL_law_725 : decode cL_law 725 = .ok (.if_icmp .eq 884, 3) := by decide +kernel
theorem dL_law_728 : decode cL_law 728 = .ok (.iconst 0, 1) := by decide +kernel
theorem dL_law_729 : decode cL_law 729 = .ok (.ireturn, 1) := by decide +kernel
theorem dL_law_730 : decode cL_law 730 = .ok (.aload_n 1, 1) := by decide +kernel
theorem dL_law_731 : decode cL_law 731 = .ok (.aload_n 0, 1) := by decide +kernel
theorem dL_law_732 : decode cL_law 732 = .ok (.iload 4, 2) := by decide +kernel
theorem dL_law_734 : decode cL_law 734 = .ok (.iconst 1, 1) := by decide +kernel
theorem dL_law_735 : decode cL_law 735 = .ok (.iadd, 1) := by decide +kernel
theorem dL_law_736 : decode cL_law 736 = .ok (.iaload, 1) := by decide +kernel
theorem dL_law_737 : decode cL_law 737 = .ok (.aload_n 0, 1) := by decide +kernel
theorem dL_law_738 : decode cL_law 738 = .ok (.iload 4, 2) := by decide +kernel
theorem dL_law_740 : decode cL_law 740 = .ok (.iconst 2, 1) := by decide +kernel
theorem dL_law_741 : decode cL_law 741 = .ok (.iadd, 1) := by decide +kernel
theorem dL_law_742 : decode cL_law 742 = .ok (.iaload, 1) := by decide +kernel
theorem dL_law_743 : decode cL_law 743 = .ok (.invokevirtual 79, 3) := by decide +kernel
theorem dL_law_746 : decode cL_law 746 = .ok (.aload_n 2, 1) := by decide +kernel
theorem dL_law_747 : decode cL_law 747 = .ok (.aload_n 0, 1) := by decide +kernel
theorem dL_law_748 : decode cL_law 748 = .ok (.iload 4, 2) := by decide +kernel
theorem dL_law_750 : decode cL_law 750 = .ok (.iconst 1, 1) := by decide +kernel
theorem dL_law_751 : decode cL_law 751 = .ok (.iadd, 1) := by decide +kernel
theorem dL_law_752 : decode cL_law 752 = .ok (.iaload, 1) := by decide +kernel
theorem dL_law_753 : decode cL_law 753 = .ok (.aload_n 0, 1) := by decide +kernel
theorem dL_law_754 : decode cL_law 754 = .ok (.iload 4, 2) := by decide +kernel
theorem dL_law_756 : decode cL_law 756 = .ok (.iconst 2, 1) := by decide +kernel
theorem dL_law_757 : decode cL_law 757 = .ok (.iadd, 1) := by decide +kernel
theorem dL_law_758 : decode cL_law 758 = .ok (.iaload, 1) := by decide +kernel
theorem dL_law_759 : decode cL_law 759 = .ok (.invokevirtual 82, 3) := by decide +kernel
theorem dL_law_762 : decode cL_law 762 = .ok (.if_icmp .eq 847, 3) := by decide +kernel
theorem dL_law_765 : decode cL_law 765 = .ok (.iconst 0, 1) := by decide +kernel
theorem dL_law_766 : decode cL_law 766 = .ok (.ireturn, 1) := by decide +kernel
theorem dL_law_767 : decode cL_law 767 = .ok (.aload_n 1, 1) := by decide +kernel
theorem dL_law_768 : decode cL_law 768 = .ok (.aload_n 0, 1) := by decide +kernel
theorem dL_law_769 : decode cL_law 769 = .ok (.iload 4, 2) := by decide +kernel
theorem dL_law_771 : decode cL_law 771 = .ok (.iconst 1, 1) := by decide +kernel
theorem dL_law_772 : decode cL_law 772 = .ok (.iadd, 1) := by decide +kernel
theorem dL_law_773 : decode cL_law 773 = .ok (.iaload, 1) := by decide +kernel
theorem dL_law_774 : decode cL_law 774 = .ok (.invokevirtual 83, 3) := by decide +kernel
theorem dL_law_777 : decode cL_law 777 = .ok (.aload_n 2, 1) := by decide +kernel
theorem dL_law_778 : decode cL_law 778 = .ok (.aload_n 0, 1) := by decide +kernel
theorem dL_law_779 : decode cL_law 779 = .ok (.iload 4, 2) := by decide +kernel
theorem dL_law_781 : decode cL_law 781 = .ok (.iconst 1, 1) := by decide +kernel
theorem dL_law_782 : decode cL_law 782 = .ok (.iadd, 1) := by decide +kernel
theorem dL_law_783 : decode cL_law 783 = .ok (.iaload, 1) := by decide +kernel
theorem dL_law_784 : decode cL_law 784 = .ok (.invokevirtual 86, 3) := by decide +kernel
theorem dL_law_787 : decode cL_law 787 = .ok (.if_icmp .eq 822, 3) := by decide +kernel
theorem dL_law_790 : decode cL_law 790 = .ok (.iconst 0, 1) := by decide +kernel
theorem dL_law_791 : decode cL_law 791 = .ok (.ireturn, 1) := by decide +kernel
theorem dL_law_792 : decode cL_law 792 = .ok (.aload_n 1, 1) := by decide +kernel
theorem dL_law_793 : decode cL_law 793 = .ok (.aload_n 0, 1) := by decide +kernel
theorem dL_law_794 : decode cL_law 794 = .ok (.iload 4, 2) := by decide +kernel
theorem dL_law_796 : decode cL_law 796 = .ok (.iconst 1, 1) := by decide +kernel
theorem dL_law_797 : decode cL_law 797 = .ok (.iadd, 1) := by decide +kernel
theorem dL_law_798 : decode cL_law 798 = .ok (.iaload, 1) := by decide +kernel
theorem dL_law_799 : decode cL_law 799 = .ok (.invokevirtual 87, 3) := by decide +kernel
theorem dL_law_802 : decode cL_law 802 = .ok (.aload_n 2, 1) := by decide +kernel
theorem dL_law_803 : decode cL_law 803 = .ok (.aload_n 0, 1) := by decide +kernel
theorem dL_law_804 : decode cL_law 804 = .ok (.iload 4, 2) := by decide +kernel
theorem dL_law_806 : decode cL_law 806 = .ok (.iconst 1, 1) := by decide +kernel
theorem dL_law_807 : decode cL_law 807 = .ok (.iadd, 1) := by decide +kernel
theorem dL_law_808 : decode cL_law 808 = .ok (.iaload, 1) := by decide +kernel
theorem dL_law_809 : decode cL_law 809 = .ok (.invokevirtual 90, 3) := by decide +kernel
theorem dL_law_812 : decode cL_law 812 = .ok (.if_icmp .eq 797, 3) := by decide +kernel
theorem dL_law_815 : decode cL_law 815 = .ok (.iconst 0, 1) := by decide +kernel
theorem dL_law_816 : decode cL_law 816 = .ok (.ireturn, 1) := by decide +kernel
theorem dL_law_817 : decode cL_law 817 = .ok (.aload_n 1, 1) := by decide +kernel
theorem dL_law_818 : decode cL_law 818 = .ok (.aload_n 0, 1) := by decide +kernel
theorem dL_law_819 : decode cL_law 819 = .ok (.iload 4, 2) := by decide +kernel
theorem dL_law_821 : decode cL_law 821 = .ok (.iconst 1, 1) := by decide +kernel
theorem dL_law_822 : decode cL_law 822 = .ok (.iadd, 1) := by decide +kernel
theorem dL_law_823 : decode cL_law 823 = .ok (.iaload, 1) := by decide +kernel
theorem dL_law_824 : decode cL_law 824 = .ok (.invokevirtual 91, 3) := by decide +kernel
theorem dL_law_827 : decode cL_law 827 = .ok (.aload_n 2, 1) := by decide +kernel
theorem dL_law_828 : decode cL_law 828 = .ok (.aload_n 0, 1) := by decide +kernel
theorem dL_law_829 : decode cL_law 829 = .ok (.iload 4, 2) := by decide +kernel
theorem dL_law_831 : decode cL_law 831 = .ok (.iconst 1, 1) := by decide +kernel
theorem dL_law_832 : decode cL_law 832 = .ok (.iadd, 1) := by decide +kernel
theorem dL_law_833 : decode cL_law 833 = .ok (.iaload, 1) := by decide +kernel
theorem dL_law_834 : decode cL_law 834 = .ok (.invokevirtual 94, 3) := by decide +kernel
theorem dL_law_837 : decode cL_law 837 = .ok (.if_icmp .eq 772, 3) := by decide +kernel
theorem dL_law_840 : decode cL_law 840 = .ok (.iconst 0, 1) := by decide +kernel
theorem dL_law_841 : decode cL_law 841 = .ok (.ireturn, 1) := by decide +kernel
theorem dL_law_842 : decode cL_law 842 = .ok (.aload_n 1, 1) := by decide +kernel
theorem dL_law_843 : decode cL_law 843 = .ok (.invokevirtual 95, 3) := by decide +kernel
theorem dL_law_846 : decode cL_law 846 = .ok (.aload_n 2, 1) := by decide +kernel
theorem dL_law_847 : decode cL_law 847 = .ok (.invokevirtual 98, 3) := by decide +kernel
theorem dL_law_850 : decode cL_law 850 = .ok (.if_icmp .eq 759, 3) := by decide +kernel
theorem dL_law_853 : decode cL_law 853 = .ok (.iconst 0, 1) := by decide +kernel
theorem dL_law_854 : decode cL_law 854 = .ok (.ireturn, 1) := by decide +kernel
theorem dL_law_855 : decode cL_law 855 = .ok (.aload_n 1, 1) := by decide +kernel
theorem dL_law_856 : decode cL_law 856 = .ok (.invokevirtual 99, 3) := by decide +kernel
theorem dL_law_859 : decode cL_law 859 = .ok (.aload_n 2, 1) := by decide +kernel
theorem dL_law_860 : decode cL_law 860 = .ok (.invokevirtual 102, 3) := by decide +kernel
theorem dL_law_863 : decode cL_law 863 = .ok (.if_icmp .eq 746, 3) := by decide +kernel
theorem dL_law_866 : decode cL_law 866 = .ok (.iconst 0, 1) := by decide +kernel
theorem dL_law_867 : decode cL_law 867 = .ok (.ireturn, 1) := by decide +kernel
theorem dL_law_868 : decode cL_law 868 = .ok (.aload_n 1, 1) := by decide +kernel
theorem dL_law_869 : decode cL_law 869 = .ok (.invokevirtual 103, 3) := by decide +kernel
theorem dL_law_872 : decode cL_law 872 = .ok (.aload_n 2, 1) := by decide +kernel
theorem dL_law_873 : decode cL_law 873 = .ok (.invokevirtual 106, 3) := by decide +kernel
theorem dL_law_876 : decode cL_law 876 = .ok (.if_icmp .eq 733, 3) := by decide +kernel
theorem dL_law_879 : decode cL_law 879 = .ok (.iconst 0, 1) := by decide +kernel
theorem dL_law_880 : decode cL_law 880 = .ok (.ireturn, 1) := by decide +kernel
theorem dL_law_881 : decode cL_law 881 = .ok (.aload_n 1, 1) := by decide +kernel
theorem dL_law_882 : decode cL_law 882 = .ok (.aload_n 0, 1) := by decide +kernel
theorem dL_law_883 : decode cL_law 883 = .ok (.iload 4, 2) := by decide +kernel
theorem dL_law_885 : decode cL_law 885 = .ok (.iconst 1, 1) := by decide +kernel
theorem dL_law_886 : decode cL_law 886 = .ok (.iadd, 1) := by decide +kernel
theorem dL_law_887 : decode cL_law 887 = .ok (.iaload, 1) := by decide +kernel
theorem dL_law_888 : decode cL_law 888 = .ok (.invokevirtual 107, 3) := by decide +kernel
theorem dL_law_891 : decode cL_law 891 = .ok (.aload_n 2, 1) := by decide +kernel
theorem dL_law_892 : decode cL_law 892 = .ok (.aload_n 0, 1) := by decide +kernel
theorem dL_law_893 : decode cL_law 893 = .ok (.iload 4, 2) := by decide +kernel
theorem dL_law_895 : decode cL_law 895 = .ok (.iconst 1, 1) := by decide +kernel
theorem dL_law_896 : decode cL_law 896 = .ok (.iadd, 1) := by decide +kernel
theorem dL_law_897 : decode cL_law 897 = .ok (.iaload, 1) := by decide +kernel
theorem dL_law_898 : decode cL_law 898 = .ok (.invokevirtual 110, 3) := by decide +kernel
theorem dL_law_901 : decode cL_law 901 = .ok (.if_icmp .eq 708, 3) := by decide +kernel
theorem dL_law_904 : decode cL_law 904 = .ok (.iconst 0, 1) := by decide +kernel
theorem dL_law_905 : decode cL_law 905 = .ok (.ireturn, 1) := by decide +kernel
theorem dL_law_906 : decode cL_law 906 = .ok (.aload_n 1, 1) := by decide +kernel
theorem dL_law_907 : decode cL_law 907 = .ok (.aload_n 0, 1) := by decide +kernel
theorem dL_law_908 : decode cL_law 908 = .ok (.iload 4, 2) := by decide +kernel
theorem dL_law_910 : decode cL_law 910 = .ok (.iconst 1, 1) := by decide +kernel
theorem dL_law_911 : decode cL_law 911 = .ok (.iadd, 1) := by decide +kernel
theorem dL_law_912 : decode cL_law 912 = .ok (.iaload, 1) := by decide +kernel
theorem dL_law_913 : decode cL_law 913 = .ok (.invokevirtual 111, 3) := by decide +kernel
theorem dL_law_916 : decode cL_law 916 = .ok (.aload_n 2, 1) := by decide +kernel
theorem dL_law_917 : decode cL_law 917 = .ok (.aload_n 0, 1) := by decide +kernel
theorem dL_law_918 : decode cL_law 918 = .ok (.iload 4, 2) := by decide +kernel
theorem dL_law_920 : decode cL_law 920 = .ok (.iconst 1, 1) := by decide +kernel
theorem dL_law_921 : decode cL_law 921 = .ok (.iadd, 1) := by decide +kernel
theorem dL_law_922 : decode cL_law 922 = .ok (.iaload, 1) := by decide +kernel
theorem dL_law_923 : decode cL_law 923 = .ok (.invokevirtual 114, 3) := by decide +kernel
theorem dL_law_926 : decode cL_law 926 = .ok (.if_icmp .eq 683, 3) := by decide +kernel
theorem dL_law_929 : decode cL_law 929 = .ok (.iconst 0, 1) := by decide +kernel
theorem dL_law_930 : decode cL_law 930 = .ok (.ireturn, 1) := by decide +kernel
theorem dL_law_931 : decode cL_law 931 = .ok (.aload_n 1, 1) := by decide +kernel
theorem dL_law_932 : decode cL_law 932 = .ok (.invokevirtual 115, 3) := by decide +kernel
theorem dL_law_935 : decode cL_law 935 = .ok (.aload_n 2, 1) := by decide +kernel
theorem dL_law_936 : decode cL_law 936 = .ok (.invokevirtual 118, 3) := by decide +kernel
theorem dL_law_939 : decode cL_law 939 = .ok (.if_icmp .eq 670, 3) := by decide +kernel
theorem dL_law_942 : decode cL_law 942 = .ok (.iconst 0, 1) := by decide +kernel
theorem dL_law_943 : decode cL_law 943 = .ok (.ireturn, 1) := by decide +kernel
theorem dL_law_944 : decode cL_law 944 = .ok (.aload_n 1, 1) := by decide +kernel
theorem dL_law_945 : decode cL_law 945 = .ok (.aload_n 0, 1) := by decide +kernel
theorem dL_law_946 : decode cL_law 946 = .ok (.iload 4, 2) := by decide +kernel
theorem dL_law_948 : decode cL_law 948 = .ok (.iconst 1, 1) := by decide +kernel
theorem dL_law_949 : decode cL_law 949 = .ok (.iadd, 1) := by decide +kernel
theorem dL_law_950 : decode cL_law 950 = .ok (.iaload, 1) := by decide +kernel
theorem dL_law_951 : decode cL_law 951 = .ok (.invokevirtual 119, 3) := by decide +kernel
theorem dL_law_954 : decode cL_law 954 = .ok (.aload_n 2, 1) := by decide +kernel
theorem dL_law_955 : decode cL_law 955 = .ok (.aload_n 0, 1) := by decide +kernel
theorem dL_law_956 : decode cL_law 956 = .ok (.iload 4, 2) := by decide +kernel
theorem dL_law_958 : decode cL_law 958 = .ok (.iconst 1, 1) := by decide +kernel
theorem dL_law_959 : decode cL_law 959 = .ok (.iadd, 1) := by decide +kernel
theorem dL_law_960 : decode cL_law 960 = .ok (.iaload, 1) := by decide +kernel
theorem dL_law_961 : decode cL_law 961 = .ok (.invokevirtual 122, 3) := by decide +kernel
theorem dL_law_964 : decode cL_law 964 = .ok (.if_icmp .eq 645, 3) := by decide +kernel
theorem dL_law_967 : decode cL_law 967 = .ok (.iconst 0, 1) := by decide +kernel
theorem dL_law_968 : decode cL_law 968 = .ok (.ireturn, 1) := by decide +kernel
theorem dL_law_969 : decode cL_law 969 = .ok (.aload_n 1, 1) := by decide +kernel
theorem dL_law_970 : decode cL_law 970 = .ok (.invokevirtual 123, 3) := by decide +kernel
theorem dL_law_973 : decode cL_law 973 = .ok (.aload_n 2, 1) := by decide +kernel
theorem dL_law_974 : decode cL_law 974 = .ok (.invokevirtual 126, 3) := by decide +kernel
theorem dL_law_977 : decode cL_law 977 = .ok (.if_icmp .eq 632, 3) := by decide +kernel
theorem dL_law_980 : decode cL_law 980 = .ok (.iconst 0, 1) := by decide +kernel
theorem dL_law_981 : decode cL_law 981 = .ok (.ireturn, 1) := by decide +kernel
theorem dL_law_982 : decode cL_law 982 = .ok (.aload_n 1, 1) := by decide +kernel
theorem dL_law_983 : decode cL_law 983 = .ok (.aload_n 0, 1) := by decide +kernel
theorem dL_law_984 : decode cL_law 984 = .ok (.iload 4, 2) := by decide +kernel
theorem dL_law_986 : decode cL_law 986 = .ok (.iconst 1, 1) := by decide +kernel
theorem dL_law_987 : decode cL_law 987 = .ok (.iadd, 1) := by decide +kernel
theorem dL_law_988 : decode cL_law 988 = .ok (.iaload, 1) := by decide +kernel
theorem dL_law_989 : decode cL_law 989 = .ok (.aload_n 0, 1) := by decide +kernel
theorem dL_law_990 : decode cL_law 990 = .ok (.iload 4, 2) := by decide +kernel
theorem dL_law_992 : decode cL_law 992 = .ok (.iconst 2, 1) := by decide +kernel
theorem dL_law_993 : decode cL_law 993 = .ok (.iadd, 1) := by decide +kernel
theorem dL_law_994 : decode cL_law 994 = .ok (.iaload, 1) := by decide +kernel
theorem dL_law_995 : decode cL_law 995 = .ok (.invokevirtual 127, 3) := by decide +kernel
theorem dL_law_998 : decode cL_law 998 = .ok (.aload_n 2, 1) := by decide +kernel
theorem dL_law_999 : decode cL_law 999 = .ok (.aload_n 0, 1) := by decide +kernel
theorem dL_law_1000 : decode cL_law 1000 = .ok (.iload 4, 2) := by decide +kernel
theorem dL_law_1002 : decode cL_law 1002 = .ok (.iconst 1, 1) := by decide +kernel
theorem dL_law_1003 : decode cL_law 1003 = .ok (.iadd, 1) := by decide +kernel
theorem dL_law_1004 : decode cL_law 1004 = .ok (.iaload, 1) := by decide +kernel
theorem dL_law_1005 : decode cL_law 1005 = .ok (.aload_n 0, 1) := by decide +kernel
theorem dL_law_1006 : decode cL_law 1006 = .ok (.iload 4, 2) := by decide +kernel
theorem dL_law_1008 : decode cL_law 1008 = .ok (.iconst 2, 1) := by decide +kernel
theorem dL_law_1009 : decode cL_law 1009 = .ok (.iadd, 1) := by decide +kernel
theorem dL_law_1010 : decode cL_law 1010 = .ok (.iaload, 1) := by decide +kernel
theorem dL_law_1011 : decode cL_law 1011 = .ok (.invokevirtual 130, 3) := by decide +kernel
theorem dL_law_1014 : decode cL_law 1014 = .ok (.if_icmp .eq 595, 3) := by decide +kernel
theorem dL_law_1017 : decode cL_law 1017 = .ok (.iconst 0, 1) := by decide +kernel
theorem dL_law_1018 : decode cL_law 1018 = .ok (.ireturn, 1) := by decide +kernel
theorem dL_law_1019 : decode cL_law 1019 = .ok (.aload_n 1, 1) := by decide +kernel
theorem dL_law_1020 : decode cL_law 1020 = .ok (.invokevirtual 131, 3) := by decide +kernel
theorem dL_law_1023 : decode cL_law 1023 = .ok (.aload_n 2, 1) := by decide +kernel
theorem dL_law_1024 : decode cL_law 1024 = .ok (.invokevirtual 134, 3) := by decide +kernel
theorem dL_law_1027 : decode cL_law 1027 = .ok (.if_icmp .eq 582, 3) := by decide +kernel
theorem dL_law_1030 : decode cL_law 1030 = .ok (.iconst 0, 1) := by decide +kernel
theorem dL_law_1031 : decode cL_law 1031 = .ok (.ireturn, 1) := by decide +kernel
theorem dL_law_1032 : decode cL_law 1032 = .ok (.aload_n 1, 1) := by decide +kernel
theorem dL_law_1033 : decode cL_law 1033 = .ok (.aload_n 0, 1) := by decide +kernel
theorem dL_law_1034 : decode cL_law 1034 = .ok (.iload 4, 2) := by decide +kernel
theorem dL_law_1036 : decode cL_law 1036 = .ok (.iconst 1, 1) := by decide +kernel
theorem dL_law_1037 : decode cL_law 1037 = .ok (.iadd, 1) := by decide +kernel
theorem dL_law_1038 : decode cL_law 1038 = .ok (.iaload, 1) := by decide +kernel
theorem dL_law_1039 : decode cL_law 1039 = .ok (.invokevirtual 135, 3) := by decide +kernel
theorem dL_law_1042 : decode cL_law 1042 = .ok (.aload_n 2, 1) := by decide +kernel
theorem dL_law_1043 : decode cL_law 1043 = .ok (.aload_n 0, 1) := by decide +kernel
theorem dL_law_1044 : decode cL_law 1044 = .ok (.iload 4, 2) := by decide +kernel
theorem dL_law_1046 : decode cL_law 1046 = .ok (.iconst 1, 1) := by decide +kernel
theorem dL_law_1047 : decode cL_law 1047 = .ok (.iadd, 1) := by decide +kernel
theorem dL_law_1048 : decode cL_law 1048 = .ok (.iaload, 1) := by decide +kernel
theorem dL_law_1049 : decode cL_law 1049 = .ok (.invokevirtual 138, 3) := by decide +kernel
theorem dL_law_1052 : decode cL_law 1052 = .ok (.if_icmp .eq 557, 3) := by decide +kernel
theorem dL_law_1055 : decode cL_law 1055 = .ok (.iconst 0, 1) := by decide +kernel
theorem dL_law_1056 : decode cL_law 1056 = .ok (.ireturn, 1) := by decide +kernel
theorem dL_law_1057 : decode cL_law 1057 = .ok (.aload_n 1, 1) := by decide +kernel
theorem dL_law_1058 : decode cL_law 1058 = .ok (.aload_n 0, 1) := by decide +kernel
theorem dL_law_1059 : decode cL_law 1059 = .ok (.iload 4, 2) := by decide +kernel
theorem dL_law_1061 : decode cL_law 1061 = .ok (.iconst 1, 1) := by decide +kernel
theorem dL_law_1062 : decode cL_law 1062 = .ok (.iadd, 1) := by decide +kernel
theorem dL_law_1063 : decode cL_law 1063 = .ok (.iaload, 1) := by decide +kernel
theorem dL_law_1064 : decode cL_law 1064 = .ok (.aload_n 0, 1) := by decide +kernel
theorem dL_law_1065 : decode cL_law 1065 = .ok (.iload 4, 2) := by decide +kernel
theorem dL_law_1067 : decode cL_law 1067 = .ok (.iconst 2, 1) := by decide +kernel
theorem dL_law_1068 : decode cL_law 1068 = .ok (.iadd, 1) := by decide +kernel
theorem dL_law_1069 : decode cL_law 1069 = .ok (.iaload, 1) := by decide +kernel
theorem dL_law_1070 : decode cL_law 1070 = .ok (.ifCond .eq 7, 3) := by decide +kernel
theorem dL_law_1073 : decode cL_law 1073 = .ok (.iconst 1, 1) := by decide +kernel
theorem dL_law_1074 : decode cL_law 1074 = .ok (.goto 4, 3) := by decide +kernel
theorem dL_law_1077 : decode cL_law 1077 = .ok (.iconst 0, 1) := by decide +kernel
theorem dL_law_1078 : decode cL_law 1078 = .ok (.invokevirtual 139, 3) := by decide +kernel
theorem dL_law_1081 : decode cL_law 1081 = .ok (.aload_n 2, 1) := by decide +kernel
theorem dL_law_1082 : decode cL_law 1082 = .ok (.aload_n 0, 1) := by decide +kernel
theorem dL_law_1083 : decode cL_law 1083 = .ok (.iload 4, 2) := by decide +kernel
theorem dL_law_1085 : decode cL_law 1085 = .ok (.iconst 1, 1) := by decide +kernel
theorem dL_law_1086 : decode cL_law 1086 = .ok (.iadd, 1) := by decide +kernel
theorem dL_law_1087 : decode cL_law 1087 = .ok (.iaload, 1) := by decide +kernel
theorem dL_law_1088 : decode cL_law 1088 = .ok (.aload_n 0, 1) := by decide +kernel
theorem dL_law_1089 : decode cL_law 1089 = .ok (.iload 4, 2) := by decide +kernel
theorem dL_law_1091 : decode cL_law 1091 = .ok (.iconst 2, 1) := by decide +kernel
theorem dL_law_1092 : decode cL_law 1092 = .ok (.iadd, 1) := by decide +kernel
theorem dL_law_1093 : decode cL_law 1093 = .ok (.iaload, 1) := by decide +kernel
theorem dL_law_1094 : decode cL_law 1094 = .ok (.ifCond .eq 7, 3) := by decide +kernel
theorem dL_law_1097 : decode cL_law 1097 = .ok (.iconst 1, 1) := by decide +kernel
theorem dL_law_1098 : decode cL_law 1098 = .ok (.goto 4, 3) := by decide +kernel
theorem dL_law_1101 : decode cL_law 1101 = .ok (.iconst 0, 1) := by decide +kernel
theorem dL_law_1102 : decode cL_law 1102 = .ok (.invokevirtual 143, 3) := by decide +kernel
theorem dL_law_1105 : decode cL_law 1105 = .ok (.lcmp, 1) := by decide +kernel
theorem dL_law_1106 : decode cL_law 1106 = .ok (.ifCond .eq 503, 3) := by decide +kernel
theorem dL_law_1109 : decode cL_law 1109 = .ok (.iconst 0, 1) := by decide +kernel
theorem dL_law_1110 : decode cL_law 1110 = .ok (.ireturn, 1) := by decide +kernel
theorem dL_law_1111 : decode cL_law 1111 = .ok (.aload_n 1, 1) := by decide +kernel
theorem dL_law_1112 : decode cL_law 1112 = .ok (.aload_n 0, 1) := by decide +kernel
theorem dL_law_1113 : decode cL_law 1113 = .ok (.iload 4, 2) := by decide +kernel
theorem dL_law_1115 : decode cL_law 1115 = .ok (.iconst 1, 1) := by decide +kernel
theorem dL_law_1116 : decode cL_law 1116 = .ok (.iadd, 1) := by decide +kernel
theorem dL_law_1117 : decode cL_law 1117 = .ok (.iaload, 1) := by decide +kernel
theorem dL_law_1118 : decode cL_law 1118 = .ok (.aload_n 0, 1) := by decide +kernel
theorem dL_law_1119 : decode cL_law 1119 = .ok (.iload 4, 2) := by decide +kernel
theorem dL_law_1121 : decode cL_law 1121 = .ok (.iconst 2, 1) := by decide +kernel
theorem dL_law_1122 : decode cL_law 1122 = .ok (.iadd, 1) := by decide +kernel
theorem dL_law_1123 : decode cL_law 1123 = .ok (.iaload, 1) := by decide +kernel
theorem dL_law_1124 : decode cL_law 1124 = .ok (.ifCond .eq 7, 3) := by decide +kernel
theorem dL_law_1127 : decode cL_law 1127 = .ok (.iconst 1, 1) := by decide +kernel
theorem dL_law_1128 : decode cL_law 1128 = .ok (.goto 4, 3) := by decide +kernel
theorem dL_law_1131 : decode cL_law 1131 = .ok (.iconst 0, 1) := by decide +kernel
theorem dL_law_1132 : decode cL_law 1132 = .ok (.invokevirtual 144, 3) := by decide +kernel
theorem dL_law_1135 : decode cL_law 1135 = .ok (.aload_n 2, 1) := by decide +kernel
theorem dL_law_1136 : decode cL_law 1136 = .ok (.aload_n 0, 1) := by decide +kernel
theorem dL_law_1137 : decode cL_law 1137 = .ok (.iload 4, 2) := by decide +kernel
theorem dL_law_1139 : decode cL_law 1139 = .ok (.iconst 1, 1) := by decide +kernel
theorem dL_law_1140 : decode cL_law 1140 = .ok (.iadd, 1) := by decide +kernel
theorem dL_law_1141 : decode cL_law 1141 = .ok (.iaload, 1) := by decide +kernel
theorem dL_law_1142 : decode cL_law 1142 = .ok (.aload_n 0, 1) := by decide +kernel
theorem dL_law_1143 : decode cL_law 1143 = .ok (.iload 4, 2) := by decide +kernel
theorem dL_law_1145 : decode cL_law 1145 = .ok (.iconst 2, 1) := by decide +kernel
theorem dL_law_1146 : decode cL_law 1146 = .ok (.iadd, 1) := by decide +kernel
theorem dL_law_1147 : decode cL_law 1147 = .ok (.iaload, 1) := by decide +kernel
theorem dL_law_1148 : decode cL_law 1148 = .ok (.ifCond .eq 7, 3) := by decide +kernel
theorem dL_law_1151 : decode cL_law 1151 = .ok (.iconst 1, 1) := by decide +kernel
theorem dL_law_1152 : decode cL_law 1152 = .ok (.goto 4, 3) := by decide +kernel
theorem dL_law_1155 : decode cL_law 1155 = .ok (.iconst 0, 1) := by decide +kernel
theorem dL_law_1156 : decode cL_law 1156 = .ok (.invokevirtual 147, 3) := by decide +kernel
theorem dL_law_1159 : decode cL_law 1159 = .ok (.lcmp, 1) := by decide +kernel
theorem dL_law_1160 : decode cL_law 1160 = .ok (.ifCond .eq 449, 3) := by decide +kernel
theorem dL_law_1163 : decode cL_law 1163 = .ok (.iconst 0, 1) := by decide +kernel
theorem dL_law_1164 : decode cL_law 1164 = .ok (.ireturn, 1) := by decide +kernel
theorem dL_law_1165 : decode cL_law 1165 = .ok (.aload_n 1, 1) := by decide +kernel
theorem dL_law_1166 : decode cL_law 1166 = .ok (.aload_n 0, 1) := by decide +kernel
theorem dL_law_1167 : decode cL_law 1167 = .ok (.iload 4, 2) := by decide +kernel
theorem dL_law_1169 : decode cL_law 1169 = .ok (.iconst 1, 1) := by decide +kernel
theorem dL_law_1170 : decode cL_law 1170 = .ok (.iadd, 1) := by decide +kernel
theorem dL_law_1171 : decode cL_law 1171 = .ok (.iaload, 1) := by decide +kernel
theorem dL_law_1172 : decode cL_law 1172 = .ok (.invokevirtual 148, 3) := by decide +kernel
theorem dL_law_1175 : decode cL_law 1175 = .ok (.aload_n 2, 1) := by decide +kernel
theorem dL_law_1176 : decode cL_law 1176 = .ok (.aload_n 0, 1) := by decide +kernel
theorem dL_law_1177 : decode cL_law 1177 = .ok (.iload 4, 2) := by decide +kernel
theorem dL_law_1179 : decode cL_law 1179 = .ok (.iconst 1, 1) := by decide +kernel
theorem dL_law_1180 : decode cL_law 1180 = .ok (.iadd, 1) := by decide +kernel
theorem dL_law_1181 : decode cL_law 1181 = .ok (.iaload, 1) := by decide +kernel
theorem dL_law_1182 : decode cL_law 1182 = .ok (.invokevirtual 151, 3) := by decide +kernel
theorem dL_law_1185 : decode cL_law 1185 = .ok (.if_icmp .eq 424, 3) := by decide +kernel
theorem dL_law_1188 : decode cL_law 1188 = .ok (.iconst 0, 1) := by decide +kernel
theorem dL_law_1189 : decode cL_law 1189 = .ok (.ireturn, 1) := by decide +kernel
theorem dL_law_1190 : decode cL_law 1190 = .ok (.aload_n 1, 1) := by decide +kernel
theorem dL_law_1191 : decode cL_law 1191 = .ok (.invokevirtual 152, 3) := by decide +kernel
theorem dL_law_1194 : decode cL_law 1194 = .ok (.aload_n 2, 1) := by decide +kernel
theorem dL_law_1195 : decode cL_law 1195 = .ok (.invokevirtual 155, 3) := by decide +kernel
theorem dL_law_1198 : decode cL_law 1198 = .ok (.if_icmp .eq 411, 3) := by decide +kernel
theorem dL_law_1201 : decode cL_law 1201 = .ok (.iconst 0, 1) := by decide +kernel
theorem dL_law_1202 : decode cL_law 1202 = .ok (.ireturn, 1) := by decide +kernel
theorem dL_law_1203 : decode cL_law 1203 = .ok (.aload_n 1, 1) := by decide +kernel
theorem dL_law_1204 : decode cL_law 1204 = .ok (.aload_n 0, 1) := by decide +kernel
theorem dL_law_1205 : decode cL_law 1205 = .ok (.iload 4, 2) := by decide +kernel
theorem dL_law_1207 : decode cL_law 1207 = .ok (.iconst 1, 1) := by decide +kernel
theorem dL_law_1208 : decode cL_law 1208 = .ok (.iadd, 1) := by decide +kernel
theorem dL_law_1209 : decode cL_law 1209 = .ok (.iaload, 1) := by decide +kernel
theorem dL_law_1210 : decode cL_law 1210 = .ok (.invokevirtual 156, 3) := by decide +kernel
theorem dL_law_1213 : decode cL_law 1213 = .ok (.aload_n 2, 1) := by decide +kernel
theorem dL_law_1214 : decode cL_law 1214 = .ok (.aload_n 0, 1) := by decide +kernel
theorem dL_law_1215 : decode cL_law 1215 = .ok (.iload 4, 2) := by decide +kernel
theorem dL_law_1217 : decode cL_law 1217 = .ok (.iconst 1, 1) := by decide +kernel
theorem dL_law_1218 : decode cL_law 1218 = .ok (.iadd, 1) := by decide +kernel
theorem dL_law_1219 : decode cL_law 1219 = .ok (.iaload, 1) := by decide +kernel
theorem dL_law_1220 : decode cL_law 1220 = .ok (.invokevirtual 159, 3) := by decide +kernel
theorem dL_law_1223 : decode cL_law 1223 = .ok (.if_icmp .eq 386, 3) := by decide +kernel
theorem dL_law_1226 : decode cL_law 1226 = .ok (.iconst 0, 1) := by decide +kernel
theorem dL_law_1227 : decode cL_law 1227 = .ok (.ireturn, 1) := by decide +kernel
theorem dL_law_1228 : decode cL_law 1228 = .ok (.aload_n 1, 1) := by decide +kernel
theorem dL_law_1229 : decode cL_law 1229 = .ok (.invokevirtual 160, 3) := by decide +kernel
theorem dL_law_1232 : decode cL_law 1232 = .ok (.aload_n 2, 1) := by decide +kernel
theorem dL_law_1233 : decode cL_law 1233 = .ok (.invokevirtual 163, 3) := by decide +kernel
theorem dL_law_1236 : decode cL_law 1236 = .ok (.if_icmp .eq 373, 3) := by decide +kernel
theorem dL_law_1239 : decode cL_law 1239 = .ok (.iconst 0, 1) := by decide +kernel
theorem dL_law_1240 : decode cL_law 1240 = .ok (.ireturn, 1) := by decide +kernel
theorem dL_law_1241 : decode cL_law 1241 = .ok (.aload_n 1, 1) := by decide +kernel
theorem dL_law_1242 : decode cL_law 1242 = .ok (.invokevirtual 164, 3) := by decide +kernel
theorem dL_law_1245 : decode cL_law 1245 = .ok (.aload_n 2, 1) := by decide +kernel
theorem dL_law_1246 : decode cL_law 1246 = .ok (.invokevirtual 167, 3) := by decide +kernel
theorem dL_law_1249 : decode cL_law 1249 = .ok (.if_icmp .eq 360, 3) := by decide +kernel
theorem dL_law_1252 : decode cL_law 1252 = .ok (.iconst 0, 1) := by decide +kernel
theorem dL_law_1253 : decode cL_law 1253 = .ok (.ireturn, 1) := by decide +kernel
theorem dL_law_1254 : decode cL_law 1254 = .ok (.aload_n 1, 1) := by decide +kernel
theorem dL_law_1255 : decode cL_law 1255 = .ok (.aload_n 0, 1) := by decide +kernel
theorem dL_law_1256 : decode cL_law 1256 = .ok (.iload 4, 2) := by decide +kernel
theorem dL_law_1258 : decode cL_law 1258 = .ok (.iconst 1, 1) := by decide +kernel
theorem dL_law_1259 : decode cL_law 1259 = .ok (.iadd, 1) := by decide +kernel
theorem dL_law_1260 : decode cL_law 1260 = .ok (.iaload, 1) := by decide +kernel
theorem dL_law_1261 : decode cL_law 1261 = .ok (.invokevirtual 168, 3) := by decide +kernel
theorem dL_law_1264 : decode cL_law 1264 = .ok (.aload_n 2, 1) := by decide +kernel
theorem dL_law_1265 : decode cL_law 1265 = .ok (.aload_n 0, 1) := by decide +kernel
theorem dL_law_1266 : decode cL_law 1266 = .ok (.iload 4, 2) := by decide +kernel
theorem dL_law_1268 : decode cL_law 1268 = .ok (.iconst 1, 1) := by decide +kernel
theorem dL_law_1269 : decode cL_law 1269 = .ok (.iadd, 1) := by decide +kernel
theorem dL_law_1270 : decode cL_law 1270 = .ok (.iaload, 1) := by decide +kernel
theorem dL_law_1271 : decode cL_law 1271 = .ok (.invokevirtual 171, 3) := by decide +kernel
theorem dL_law_1274 : decode cL_law 1274 = .ok (.if_icmp .eq 335, 3) := by decide +kernel
theorem dL_law_1277 : decode cL_law 1277 = .ok (.iconst 0, 1) := by decide +kernel
theorem dL_law_1278 : decode cL_law 1278 = .ok (.ireturn, 1) := by decide +kernel
theorem dL_law_1279 : decode cL_law 1279 = .ok (.aload_n 1, 1) := by decide +kernel
theorem dL_law_1280 : decode cL_law 1280 = .ok (.aload_n 0, 1) := by decide +kernel
theorem dL_law_1281 : decode cL_law 1281 = .ok (.iload 4, 2) := by decide +kernel
theorem dL_law_1283 : decode cL_law 1283 = .ok (.iconst 1, 1) := by decide +kernel
theorem dL_law_1284 : decode cL_law 1284 = .ok (.iadd, 1) := by decide +kernel
theorem dL_law_1285 : decode cL_law 1285 = .ok (.iaload, 1) := by decide +kernel
theorem dL_law_1286 : decode cL_law 1286 = .ok (.aload_n 0, 1) := by decide +kernel
theorem dL_law_1287 : decode cL_law 1287 = .ok (.iload 4, 2) := by decide +kernel
theorem dL_law_1289 : decode cL_law 1289 = .ok (.iconst 2, 1) := by decide +kernel
theorem dL_law_1290 : decode cL_law 1290 = .ok (.iadd, 1) := by decide +kernel
theorem dL_law_1291 : decode cL_law 1291 = .ok (.iaload, 1) := by decide +kernel
theorem dL_law_1292 : decode cL_law 1292 = .ok (.aload_n 0, 1) := by decide +kernel
theorem dL_law_1293 : decode cL_law 1293 = .ok (.iload 4, 2) := by decide +kernel
theorem dL_law_1295 : decode cL_law 1295 = .ok (.iconst 3, 1) := by decide +kernel
theorem dL_law_1296 : decode cL_law 1296 = .ok (.iadd, 1) := by decide +kernel
theorem dL_law_1297 : decode cL_law 1297 = .ok (.iaload, 1) := by decide +kernel
theorem dL_law_1298 : decode cL_law 1298 = .ok (.invokevirtual 172, 3) := by decide +kernel
theorem dL_law_1301 : decode cL_law 1301 = .ok (.aload_n 2, 1) := by decide +kernel
theorem dL_law_1302 : decode cL_law 1302 = .ok (.aload_n 0, 1) := by decide +kernel
theorem dL_law_1303 : decode cL_law 1303 = .ok (.iload 4, 2) := by decide +kernel
theorem dL_law_1305 : decode cL_law 1305 = .ok (.iconst 1, 1) := by decide +kernel
theorem dL_law_1306 : decode cL_law 1306 = .ok (.iadd, 1) := by decide +kernel
theorem dL_law_1307 : decode cL_law 1307 = .ok (.iaload, 1) := by decide +kernel
theorem dL_law_1308 : decode cL_law 1308 = .ok (.aload_n 0, 1) := by decide +kernel
theorem dL_law_1309 : decode cL_law 1309 = .ok (.iload 4, 2) := by decide +kernel
theorem dL_law_1311 : decode cL_law 1311 = .ok (.iconst 2, 1) := by decide +kernel
theorem dL_law_1312 : decode cL_law 1312 = .ok (.iadd, 1) := by decide +kernel
theorem dL_law_1313 : decode cL_law 1313 = .ok (.iaload, 1) := by decide +kernel
theorem dL_law_1314 : decode cL_law 1314 = .ok (.aload_n 0, 1) := by decide +kernel
theorem dL_law_1315 : decode cL_law 1315 = .ok (.iload 4, 2) := by decide +kernel
theorem dL_law_1317 : decode cL_law 1317 = .ok (.iconst 3, 1) := by decide +kernel
theorem dL_law_1318 : decode cL_law 1318 = .ok (.iadd, 1) := by decide +kernel
theorem dL_law_1319 : decode cL_law 1319 = .ok (.iaload, 1) := by decide +kernel
theorem dL_law_1320 : decode cL_law 1320 = .ok (.invokevirtual 175, 3) := by decide +kernel
theorem dL_law_1323 : decode cL_law 1323 = .ok (.if_icmp .eq 286, 3) := by decide +kernel
theorem dL_law_1326 : decode cL_law 1326 = .ok (.iconst 0, 1) := by decide +kernel
theorem dL_law_1327 : decode cL_law 1327 = .ok (.ireturn, 1) := by decide +kernel
theorem dL_law_1328 : decode cL_law 1328 = .ok (.aload_n 1, 1) := by decide +kernel
theorem dL_law_1329 : decode cL_law 1329 = .ok (.aload_n 0, 1) := by decide +kernel
theorem dL_law_1330 : decode cL_law 1330 = .ok (.iload 4, 2) := by decide +kernel
theorem dL_law_1332 : decode cL_law 1332 = .ok (.iconst 1, 1) := by decide +kernel
theorem dL_law_1333 : decode cL_law 1333 = .ok (.iadd, 1) := by decide +kernel
theorem dL_law_1334 : decode cL_law 1334 = .ok (.iaload, 1) := by decide +kernel
theorem dL_law_1335 : decode cL_law 1335 = .ok (.aload_n 0, 1) := by decide +kernel
theorem dL_law_1336 : decode cL_law 1336 = .ok (.iload 4, 2) := by decide +kernel
theorem dL_law_1338 : decode cL_law 1338 = .ok (.iconst 2, 1) := by decide +kernel
theorem dL_law_1339 : decode cL_law 1339 = .ok (.iadd, 1) := by decide +kernel
theorem dL_law_1340 : decode cL_law 1340 = .ok (.iaload, 1) := by decide +kernel
theorem dL_law_1341 : decode cL_law 1341 = .ok (.invokevirtual 176, 3) := by decide +kernel
theorem dL_law_1344 : decode cL_law 1344 = .ok (.aload_n 2, 1) := by decide +kernel
theorem dL_law_1345 : decode cL_law 1345 = .ok (.aload_n 0, 1) := by decide +kernel
theorem dL_law_1346 : decode cL_law 1346 = .ok (.iload 4, 2) := by decide +kernel
theorem dL_law_1348 : decode cL_law 1348 = .ok (.iconst 1, 1) := by decide +kernel
theorem dL_law_1349 : decode cL_law 1349 = .ok (.iadd, 1) := by decide +kernel
theorem dL_law_1350 : decode cL_law 1350 = .ok (.iaload, 1) := by decide +kernel
theorem dL_law_1351 : decode cL_law 1351 = .ok (.aload_n 0, 1) := by decide +kernel
theorem dL_law_1352 : decode cL_law 1352 = .ok (.iload 4, 2) := by decide +kernel
theorem dL_law_1354 : decode cL_law 1354 = .ok (.iconst 2, 1) := by decide +kernel
theorem dL_law_1355 : decode cL_law 1355 = .ok (.iadd, 1) := by decide +kernel
theorem dL_law_1356 : decode cL_law 1356 = .ok (.iaload, 1) := by decide +kernel
theorem dL_law_1357 : decode cL_law 1357 = .ok (.invokevirtual 180, 3) := by decide +kernel
theorem dL_law_1360 : decode cL_law 1360 = .ok (.if_icmp .eq 249, 3) := by decide +kernel
theorem dL_law_1363 : decode cL_law 1363 = .ok (.iconst 0, 1) := by decide +kernel
theorem dL_law_1364 : decode cL_law 1364 = .ok (.ireturn, 1) := by decide +kernel
theorem dL_law_1365 : decode cL_law 1365 = .ok (.aload_n 1, 1) := by decide +kernel
theorem dL_law_1366 : decode cL_law 1366 = .ok (.aload_n 0, 1) := by decide +kernel
theorem dL_law_1367 : decode cL_law 1367 = .ok (.iload 4, 2) := by decide +kernel
theorem dL_law_1369 : decode cL_law 1369 = .ok (.iconst 1, 1) := by decide +kernel
theorem dL_law_1370 : decode cL_law 1370 = .ok (.iadd, 1) := by decide +kernel
theorem dL_law_1371 : decode cL_law 1371 = .ok (.iaload, 1) := by decide +kernel
theorem dL_law_1372 : decode cL_law 1372 = .ok (.invokevirtual 181, 3) := by decide +kernel
theorem dL_law_1375 : decode cL_law 1375 = .ok (.aload_n 2, 1) := by decide +kernel
theorem dL_law_1376 : decode cL_law 1376 = .ok (.aload_n 0, 1) := by decide +kernel
theorem dL_law_1377 : decode cL_law 1377 = .ok (.iload 4, 2) := by decide +kernel
theorem dL_law_1379 : decode cL_law 1379 = .ok (.iconst 1, 1) := by decide +kernel
theorem dL_law_1380 : decode cL_law 1380 = .ok (.iadd, 1) := by decide +kernel
theorem dL_law_1381 : decode cL_law 1381 = .ok (.iaload, 1) := by decide +kernel
theorem dL_law_1382 : decode cL_law 1382 = .ok (.invokevirtual 185, 3) := by decide +kernel
theorem dL_law_1385 : decode cL_law 1385 = .ok (.if_icmp .eq 224, 3) := by decide +kernel
theorem dL_law_1388 : decode cL_law 1388 = .ok (.iconst 0, 1) := by decide +kernel
theorem dL_law_1389 : decode cL_law 1389 = .ok (.ireturn, 1) := by decide +kernel
theorem dL_law_1390 : decode cL_law 1390 = .ok (.aload_n 1, 1) := by decide +kernel
theorem dL_law_1391 : decode cL_law 1391 = .ok (.aload_n 0, 1) := by decide +kernel
theorem dL_law_1392 : decode cL_law 1392 = .ok (.iload 4, 2) := by decide +kernel
theorem dL_law_1394 : decode cL_law 1394 = .ok (.iconst 1, 1) := by decide +kernel
theorem dL_law_1395 : decode cL_law 1395 = .ok (.iadd, 1) := by decide +kernel
theorem dL_law_1396 : decode cL_law 1396 = .ok (.iaload, 1) := by decide +kernel
theorem dL_law_1397 : decode cL_law 1397 = .ok (.aload_n 0, 1) := by decide +kernel
theorem dL_law_1398 : decode cL_law 1398 = .ok (.iload 4, 2) := by decide +kernel
theorem dL_law_1400 : decode cL_law 1400 = .ok (.iconst 2, 1) := by decide +kernel
theorem dL_law_1401 : decode cL_law 1401 = .ok (.iadd, 1) := by decide +kernel
theorem dL_law_1402 : decode cL_law 1402 = .ok (.iaload, 1) := by decide +kernel
theorem dL_law_1403 : decode cL_law 1403 = .ok (.aload_n 0, 1) := by decide +kernel
theorem dL_law_1404 : decode cL_law 1404 = .ok (.iload 4, 2) := by decide +kernel
theorem dL_law_1406 : decode cL_law 1406 = .ok (.iconst 3, 1) := by decide +kernel
theorem dL_law_1407 : decode cL_law 1407 = .ok (.iadd, 1) := by decide +kernel
theorem dL_law_1408 : decode cL_law 1408 = .ok (.iaload, 1) := by decide +kernel
theorem dL_law_1409 : decode cL_law 1409 = .ok (.invokevirtual 186, 3) := by decide +kernel
theorem dL_law_1412 : decode cL_law 1412 = .ok (.aload_n 2, 1) := by decide +kernel
theorem dL_law_1413 : decode cL_law 1413 = .ok (.aload_n 0, 1) := by decide +kernel
theorem dL_law_1414 : decode cL_law 1414 = .ok (.iload 4, 2) := by decide +kernel
theorem dL_law_1416 : decode cL_law 1416 = .ok (.iconst 1, 1) := by decide +kernel
theorem dL_law_1417 : decode cL_law 1417 = .ok (.iadd, 1) := by decide +kernel
theorem dL_law_1418 : decode cL_law 1418 = .ok (.iaload, 1) := by decide +kernel
theorem dL_law_1419 : decode cL_law 1419 = .ok (.aload_n 0, 1) := by decide +kernel
theorem dL_law_1420 : decode cL_law 1420 = .ok (.iload 4, 2) := by decide +kernel
theorem dL_law_1422 : decode cL_law 1422 = .ok (.iconst 2, 1) := by decide +kernel
theorem dL_law_1423 : decode cL_law 1423 = .ok (.iadd, 1) := by decide +kernel
theorem dL_law_1424 : decode cL_law 1424 = .ok (.iaload, 1) := by decide +kernel
theorem dL_law_1425 : decode cL_law 1425 = .ok (.aload_n 0, 1) := by decide +kernel
theorem dL_law_1426 : decode cL_law 1426 = .ok (.iload 4, 2) := by decide +kernel
theorem dL_law_1428 : decode cL_law 1428 = .ok (.iconst 3, 1) := by decide +kernel
theorem dL_law_1429 : decode cL_law 1429 = .ok (.iadd, 1) := by decide +kernel
theorem dL_law_1430 : decode cL_law 1430 = .ok (.iaload, 1) := by decide +kernel
theorem dL_law_1431 : decode cL_law 1431 = .ok (.invokevirtual 190, 3) := by decide +kernel
theorem dL_law_1434 : decode cL_law 1434 = .ok (.if_icmp .eq 175, 3) := by decide +kernel
theorem dL_law_1437 : decode cL_law 1437 = .ok (.iconst 0, 1) := by decide +kernel
theorem dL_law_1438 : decode cL_law 1438 = .ok (.ireturn, 1) := by decide +kernel
theorem dL_law_1439 : decode cL_law 1439 = .ok (.aload_n 1, 1) := by decide +kernel
theorem dL_law_1440 : decode cL_law 1440 = .ok (.aload_n 0, 1) := by decide +kernel
theorem dL_law_1441 : decode cL_law 1441 = .ok (.iload 4, 2) := by decide +kernel
theorem dL_law_1443 : decode cL_law 1443 = .ok (.iconst 1, 1) := by decide +kernel
theorem dL_law_1444 : decode cL_law 1444 = .ok (.iadd, 1) := by decide +kernel
theorem dL_law_1445 : decode cL_law 1445 = .ok (.iaload, 1) := by decide +kernel
theorem dL_law_1446 : decode cL_law 1446 = .ok (.invokevirtual 191, 3) := by decide +kernel
theorem dL_law_1449 : decode cL_law 1449 = .ok (.aload_n 2, 1) := by decide +kernel
theorem dL_law_1450 : decode cL_law 1450 = .ok (.aload_n 0, 1) := by decide +kernel
theorem dL_law_1451 : decode cL_law 1451 = .ok (.iload 4, 2) := by decide +kernel
theorem dL_law_1453 : decode cL_law 1453 = .ok (.iconst 1, 1) := by decide +kernel
theorem dL_law_1454 : decode cL_law 1454 = .ok (.iadd, 1) := by decide +kernel
theorem dL_law_1455 : decode cL_law 1455 = .ok (.iaload, 1) := by decide +kernel
theorem dL_law_1456 : decode cL_law 1456 = .ok (.invokevirtual 194, 3) := by decide +kernel
theorem dL_law_1459 : decode cL_law 1459 = .ok (.if_icmp .eq 150, 3) := by decide +kernel
theorem dL_law_1462 : decode cL_law 1462 = .ok (.iconst 0, 1) := by decide +kernel
theorem dL_law_1463 : decode cL_law 1463 = .ok (.ireturn, 1) := by decide +kernel
theorem dL_law_1464 : decode cL_law 1464 = .ok (.aload_n 1, 1) := by decide +kernel
theorem dL_law_1465 : decode cL_law 1465 = .ok (.invokevirtual 195, 3) := by decide +kernel
theorem dL_law_1468 : decode cL_law 1468 = .ok (.aload_n 2, 1) := by decide +kernel
theorem dL_law_1469 : decode cL_law 1469 = .ok (.invokevirtual 199, 3) := by decide +kernel
theorem dL_law_1472 : decode cL_law 1472 = .ok (.if_icmp .eq 137, 3) := by decide +kernel
theorem dL_law_1475 : decode cL_law 1475 = .ok (.iconst 0, 1) := by decide +kernel
theorem dL_law_1476 : decode cL_law 1476 = .ok (.ireturn, 1) := by decide +kernel
theorem dL_law_1477 : decode cL_law 1477 = .ok (.aload_n 1, 1) := by decide +kernel
theorem dL_law_1478 : decode cL_law 1478 = .ok (.invokevirtual 200, 3) := by decide +kernel
theorem dL_law_1481 : decode cL_law 1481 = .ok (.aload_n 2, 1) := by decide +kernel
theorem dL_law_1482 : decode cL_law 1482 = .ok (.invokevirtual 203, 3) := by decide +kernel
theorem dL_law_1485 : decode cL_law 1485 = .ok (.if_icmp .eq 124, 3) := by decide +kernel
theorem dL_law_1488 : decode cL_law 1488 = .ok (.iconst 0, 1) := by decide +kernel
theorem dL_law_1489 : decode cL_law 1489 = .ok (.ireturn, 1) := by decide +kernel
theorem dL_law_1490 : decode cL_law 1490 = .ok (.aload_n 1, 1) := by decide +kernel
theorem dL_law_1491 : decode cL_law 1491 = .ok (.aload_n 0, 1) := by decide +kernel
theorem dL_law_1492 : decode cL_law 1492 = .ok (.iload 4, 2) := by decide +kernel
theorem dL_law_1494 : decode cL_law 1494 = .ok (.iconst 1, 1) := by decide +kernel
theorem dL_law_1495 : decode cL_law 1495 = .ok (.iadd, 1) := by decide +kernel
theorem dL_law_1496 : decode cL_law 1496 = .ok (.iaload, 1) := by decide +kernel
theorem dL_law_1497 : decode cL_law 1497 = .ok (.invokevirtual 204, 3) := by decide +kernel
theorem dL_law_1500 : decode cL_law 1500 = .ok (.aload_n 2, 1) := by decide +kernel
theorem dL_law_1501 : decode cL_law 1501 = .ok (.aload_n 0, 1) := by decide +kernel
theorem dL_law_1502 : decode cL_law 1502 = .ok (.iload 4, 2) := by decide +kernel
theorem dL_law_1504 : decode cL_law 1504 = .ok (.iconst 1, 1) := by decide +kernel
theorem dL_law_1505 : decode cL_law 1505 = .ok (.iadd, 1) := by decide +kernel
theorem dL_law_1506 : decode cL_law 1506 = .ok (.iaload, 1) := by decide +kernel
theorem dL_law_1507 : decode cL_law 1507 = .ok (.invokevirtual 207, 3) := by decide +kernel
theorem dL_law_1510 : decode cL_law 1510 = .ok (.if_icmp .eq 99, 3) := by decide +kernel
theorem dL_law_1513 : decode cL_law 1513 = .ok (.iconst 0, 1) := by decide +kernel
theorem dL_law_1514 : decode cL_law 1514 = .ok (.ireturn, 1) := by decide +kernel
theorem dL_law_1515 : decode cL_law 1515 = .ok (.aload_n 1, 1) := by decide +kernel
theorem dL_law_1516 : decode cL_law 1516 = .ok (.aload_n 0, 1) := by decide +kernel
theorem dL_law_1517 : decode cL_law 1517 = .ok (.iload 4, 2) := by decide +kernel
theorem dL_law_1519 : decode cL_law 1519 = .ok (.iconst 1, 1) := by decide +kernel
theorem dL_law_1520 : decode cL_law 1520 = .ok (.iadd, 1) := by decide +kernel
theorem dL_law_1521 : decode cL_law 1521 = .ok (.iaload, 1) := by decide +kernel
theorem dL_law_1522 : decode cL_law 1522 = .ok (.aload_n 3, 1) := by decide +kernel
theorem dL_law_1523 : decode cL_law 1523 = .ok (.invokestatic 208, 3) := by decide +kernel
theorem dL_law_1526 : decode cL_law 1526 = .ok (.istore 5, 2) := by decide +kernel
theorem dL_law_1528 : decode cL_law 1528 = .ok (.aload_n 2, 1) := by decide +kernel
theorem dL_law_1529 : decode cL_law 1529 = .ok (.aload_n 0, 1) := by decide +kernel
theorem dL_law_1530 : decode cL_law 1530 = .ok (.iload 4, 2) := by decide +kernel
theorem dL_law_1532 : decode cL_law 1532 = .ok (.iconst 1, 1) := by decide +kernel
theorem dL_law_1533 : decode cL_law 1533 = .ok (.iadd, 1) := by decide +kernel
theorem dL_law_1534 : decode cL_law 1534 = .ok (.iaload, 1) := by decide +kernel
theorem dL_law_1535 : decode cL_law 1535 = .ok (.invokevirtual 213, 3) := by decide +kernel
theorem dL_law_1538 : decode cL_law 1538 = .ok (.istore 6, 2) := by decide +kernel
theorem dL_law_1540 : decode cL_law 1540 = .ok (.aload_n 2, 1) := by decide +kernel
theorem dL_law_1541 : decode cL_law 1541 = .ok (.invokevirtual 214, 3) := by decide +kernel
theorem dL_law_1544 : decode cL_law 1544 = .ok (.iload 5, 2) := by decide +kernel
theorem dL_law_1546 : decode cL_law 1546 = .ok (.if_icmp .eq 5, 3) := by decide +kernel
theorem dL_law_1549 : decode cL_law 1549 = .ok (.iconst 0, 1) := by decide +kernel
theorem dL_law_1550 : decode cL_law 1550 = .ok (.ireturn, 1) := by decide +kernel
theorem dL_law_1551 : decode cL_law 1551 = .ok (.iload 5, 2) := by decide +kernel
theorem dL_law_1553 : decode cL_law 1553 = .ok (.ifCond .ne 15, 3) := by decide +kernel
theorem dL_law_1556 : decode cL_law 1556 = .ok (.aload_n 3, 1) := by decide +kernel
theorem dL_law_1557 : decode cL_law 1557 = .ok (.iconst 0, 1) := by decide +kernel
theorem dL_law_1558 : decode cL_law 1558 = .ok (.laload, 1) := by decide +kernel
theorem dL_law_1559 : decode cL_law 1559 = .ok (.iload 6, 2) := by decide +kernel
theorem dL_law_1561 : decode cL_law 1561 = .ok (.i2l, 1) := by decide +kernel
theorem dL_law_1562 : decode cL_law 1562 = .ok (.lcmp, 1) := by decide +kernel
theorem dL_law_1563 : decode cL_law 1563 = .ok (.ifCond .eq 5, 3) := by decide +kernel
theorem dL_law_1566 : decode cL_law 1566 = .ok (.iconst 0, 1) := by decide +kernel
theorem dL_law_1567 : decode cL_law 1567 = .ok (.ireturn, 1) := by decide +kernel
theorem dL_law_1568 : decode cL_law 1568 = .ok (.goto 41, 3) := by decide +kernel
theorem dL_law_1571 : decode cL_law 1571 = .ok (.aload_n 1, 1) := by decide +kernel
theorem dL_law_1572 : decode cL_law 1572 = .ok (.aload_n 0, 1) := by decide +kernel
theorem dL_law_1573 : decode cL_law 1573 = .ok (.iload 4, 2) := by decide +kernel
theorem dL_law_1575 : decode cL_law 1575 = .ok (.iconst 1, 1) := by decide +kernel
theorem dL_law_1576 : decode cL_law 1576 = .ok (.iadd, 1) := by decide +kernel
theorem dL_law_1577 : decode cL_law 1577 = .ok (.iaload, 1) := by decide +kernel
theorem dL_law_1578 : decode cL_law 1578 = .ok (.invokevirtual 217, 3) := by decide +kernel
theorem dL_law_1581 : decode cL_law 1581 = .ok (.aload_n 2, 1) := by decide +kernel
theorem dL_law_1582 : decode cL_law 1582 = .ok (.aload_n 0, 1) := by decide +kernel
theorem dL_law_1583 : decode cL_law 1583 = .ok (.iload 4, 2) := by decide +kernel
theorem dL_law_1585 : decode cL_law 1585 = .ok (.iconst 1, 1) := by decide +kernel
theorem dL_law_1586 : decode cL_law 1586 = .ok (.iadd, 1) := by decide +kernel
theorem dL_law_1587 : decode cL_law 1587 = .ok (.iaload, 1) := by decide +kernel
theorem dL_law_1588 : decode cL_law 1588 = .ok (.invokevirtual 220, 3) := by decide +kernel
theorem dL_law_1591 : decode cL_law 1591 = .ok (.if_icmp .eq 18, 3) := by decide +kernel
theorem dL_law_1594 : decode cL_law 1594 = .ok (.iconst 0, 1) := by decide +kernel
theorem dL_law_1595 : decode cL_law 1595 = .ok (.ireturn, 1) := by decide +kernel
theorem dL_law_1596 : decode cL_law 1596 = .ok (.aload_n 1, 1) := by decide +kernel
theorem dL_law_1597 : decode cL_law 1597 = .ok (.invokevirtual 221, 3) := by decide +kernel
theorem dL_law_1600 : decode cL_law 1600 = .ok (.aload_n 2, 1) := by decide +kernel
theorem dL_law_1601 : decode cL_law 1601 = .ok (.invokevirtual 224, 3) := by decide +kernel
theorem dL_law_1604 : decode cL_law 1604 = .ok (.if_icmp .eq 5, 3) := by decide +kernel
theorem dL_law_1607 : decode cL_law 1607 = .ok (.iconst 0, 1) := by decide +kernel
theorem dL_law_1608 : decode cL_law 1608 = .ok (.ireturn, 1) := by decide +kernel
theorem dL_law_1609 : decode cL_law 1609 = .ok (.iinc 4 6, 3) := by decide +kernel
theorem dL_law_1612 : decode cL_law 1612 = .ok (.goto (-1589), 3) := by decide +kernel
theorem dL_law_1615 : decode cL_law 1615 = .ok (.iconst 1, 1) := by decide +kernel
theorem dL_law_1616 : decode cL_law 1616 = .ok (.ireturn, 1) := by decide +kernel
