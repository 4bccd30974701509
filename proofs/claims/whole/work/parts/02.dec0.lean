theorem dX1_init_0 : decode cX1_init 0 = .ok (.aload_n 0, 1) := by decide +kernel
theorem dX1_init_1 : decode cX1_init 1 = .ok (.invokespecial 3, 3) := by decide +kernel
theorem dX1_init_4 : decode cX1_init 4 = .ok (.aload_n 0, 1) := by decide +kernel
theorem dX1_init_5 : decode cX1_init 5 = .ok (.bipush 64, 2) := by decide +kernel
theorem dX1_init_7 : decode cX1_init 7 = .ok (.newarray .int, 2) := by decide +kernel
theorem dX1_init_9 : decode cX1_init 9 = .ok (.putfield 11, 3) := by decide +kernel
theorem dX1_init_12 : decode cX1_init 12 = .ok (.return_, 1) := by decide +kernel
theorem dX1_forget_0 : decode cX1_forget 0 = .ok (.aload_n 0, 1) := by decide +kernel
theorem dX1_forget_1 : decode cX1_forget 1 = .ok (.iconst 0, 1) := by decide +kernel
theorem dX1_forget_2 : decode cX1_forget 2 = .ok (.putfield 15, 3) := by decide +kernel
theorem dX1_forget_5 : decode cX1_forget 5 = .ok (.return_, 1) := by decide +kernel
theorem dX1_note_0 : decode cX1_note 0 = .ok (.aload_n 0, 1) := by decide +kernel
theorem dX1_note_1 : decode cX1_note 1 = .ok (.getfield 15, 3) := by decide +kernel
theorem dX1_note_4 : decode cX1_note 4 = .ok (.bipush 16, 2) := by decide +kernel
theorem dX1_note_6 : decode cX1_note 6 = .ok (.if_icmp .lt 29, 3) := by decide +kernel
theorem dX1_note_9 : decode cX1_note 9 = .ok (.aload_n 0, 1) := by decide +kernel
theorem dX1_note_10 : decode cX1_note 10 = .ok (.getfield 11, 3) := by decide +kernel
theorem dX1_note_13 : decode cX1_note 13 = .ok (.iconst 4, 1) := by decide +kernel
theorem dX1_note_14 : decode cX1_note 14 = .ok (.aload_n 0, 1) := by decide +kernel
theorem dX1_note_15 : decode cX1_note 15 = .ok (.getfield 11, 3) := by decide +kernel
theorem dX1_note_18 : decode cX1_note 18 = .ok (.iconst 0, 1) := by decide +kernel
theorem dX1_note_19 : decode cX1_note 19 = .ok (.aload_n 0, 1) := by decide +kernel
theorem dX1_note_20 : decode cX1_note 20 = .ok (.getfield 11, 3) := by decide +kernel
theorem dX1_note_23 : decode cX1_note 23 = .ok (.arraylength, 1) := by decide +kernel
theorem dX1_note_24 : decode cX1_note 24 = .ok (.iconst 4, 1) := by decide +kernel
theorem dX1_note_25 : decode cX1_note 25 = .ok (.isub, 1) := by decide +kernel
theorem dX1_note_26 : decode cX1_note 26 = .ok (.invokestatic 19, 3) := by decide +kernel
theorem dX1_note_29 : decode cX1_note 29 = .ok (.aload_n 0, 1) := by decide +kernel
theorem dX1_note_30 : decode cX1_note 30 = .ok (.bipush 15, 2) := by decide +kernel
theorem dX1_note_32 : decode cX1_note 32 = .ok (.putfield 15, 3) := by decide +kernel
theorem dX1_note_35 : decode cX1_note 35 = .ok (.aload_n 0, 1) := by decide +kernel
theorem dX1_note_36 : decode cX1_note 36 = .ok (.getfield 15, 3) := by decide +kernel
theorem dX1_note_39 : decode cX1_note 39 = .ok (.iconst 4, 1) := by decide +kernel
theorem dX1_note_40 : decode cX1_note 40 = .ok (.imul, 1) := by decide +kernel
theorem dX1_note_41 : decode cX1_note 41 = .ok (.istore 5, 2) := by decide +kernel
theorem dX1_note_43 : decode cX1_note 43 = .ok (.aload_n 0, 1) := by decide +kernel
theorem dX1_note_44 : decode cX1_note 44 = .ok (.getfield 11, 3) := by decide +kernel
theorem dX1_note_47 : decode cX1_note 47 = .ok (.iload 5, 2) := by decide +kernel
theorem dX1_note_49 : decode cX1_note 49 = .ok (.iload_n 1, 1) := by decide +kernel
theorem dX1_note_50 : decode cX1_note 50 = .ok (.invokestatic 25, 3) := by decide +kernel
theorem dX1_note_53 : decode cX1_note 53 = .ok (.aload_n 0, 1) := by decide +kernel
theorem dX1_note_54 : decode cX1_note 54 = .ok (.getfield 11, 3) := by decide +kernel
theorem dX1_note_57 : decode cX1_note 57 = .ok (.iload 5, 2) := by decide +kernel
theorem dX1_note_59 : decode cX1_note 59 = .ok (.iconst 1, 1) := by decide +kernel
theorem dX1_note_60 : decode cX1_note 60 = .ok (.iadd, 1) := by decide +kernel
theorem dX1_note_61 : decode cX1_note 61 = .ok (.iload_n 2, 1) := by decide +kernel
theorem dX1_note_62 : decode cX1_note 62 = .ok (.invokestatic 25, 3) := by decide +kernel
theorem dX1_note_65 : decode cX1_note 65 = .ok (.aload_n 0, 1) := by decide +kernel
theorem dX1_note_66 : decode cX1_note 66 = .ok (.getfield 11, 3) := by decide +kernel
theorem dX1_note_69 : decode cX1_note 69 = .ok (.iload 5, 2) := by decide +kernel
theorem dX1_note_71 : decode cX1_note 71 = .ok (.iconst 2, 1) := by decide +kernel
theorem dX1_note_72 : decode cX1_note 72 = .ok (.iadd, 1) := by decide +kernel
theorem dX1_note_73 : decode cX1_note 73 = .ok (.iload_n 3, 1) := by decide +kernel
theorem dX1_note_74 : decode cX1_note 74 = .ok (.invokestatic 25, 3) := by decide +kernel
theorem dX1_note_77 : decode cX1_note 77 = .ok (.aload_n 0, 1) := by decide +kernel
theorem dX1_note_78 : decode cX1_note 78 = .ok (.getfield 11, 3) := by decide +kernel
theorem dX1_note_81 : decode cX1_note 81 = .ok (.iload 5, 2) := by decide +kernel
theorem dX1_note_83 : decode cX1_note 83 = .ok (.iconst 3, 1) := by decide +kernel
theorem dX1_note_84 : decode cX1_note 84 = .ok (.iadd, 1) := by decide +kernel
theorem dX1_note_85 : decode cX1_note 85 = .ok (.iload 4, 2) := by decide +kernel
theorem dX1_note_87 : decode cX1_note 87 = .ok (.invokestatic 25, 3) := by decide +kernel
theorem dX1_note_90 : decode cX1_note 90 = .ok (.aload_n 0, 1) := by decide +kernel
theorem dX1_note_91 : decode cX1_note 91 = .ok (.dup, 1) := by decide +kernel
theorem dX1_note_92 : decode cX1_note 92 = .ok (.getfield 15, 3) := by decide +kernel
theorem dX1_note_95 : decode cX1_note 95 = .ok (.iconst 1, 1) := by decide +kernel
theorem dX1_note_96 : decode cX1_note 96 = .ok (.iadd, 1) := by decide +kernel
theorem dX1_note_97 : decode cX1_note 97 = .ok (.putfield 15, 3) := by decide +kernel
theorem dX1_note_100 : decode cX1_note 100 = .ok (.return_, 1) := by decide +kernel
theorem dX1_takeBack_0 : decode cX1_takeBack 0 = .ok (.aload_n 0, 1) := by decide +kernel
theorem dX1_takeBack_1 : decode cX1_takeBack 1 = .ok (.dup, 1) := by decide +kernel
theorem dX1_takeBack_2 : decode cX1_takeBack 2 = .ok (.getfield 15, 3) := by decide +kernel
theorem dX1_takeBack_5 : decode cX1_takeBack 5 = .ok (.iconst 1, 1) := by decide +kernel
theorem dX1_takeBack_6 : decode cX1_takeBack 6 = .ok (.isub, 1) := by decide +kernel
theorem dX1_takeBack_7 : decode cX1_takeBack 7 = .ok (.putfield 15, 3) := by decide +kernel
theorem dX1_takeBack_10 : decode cX1_takeBack 10 = .ok (.aload_n 0, 1) := by decide +kernel
theorem dX1_takeBack_11 : decode cX1_takeBack 11 = .ok (.getfield 15, 3) := by decide +kernel
theorem dX1_takeBack_14 : decode cX1_takeBack 14 = .ok (.iconst 4, 1) := by decide +kernel
theorem dX1_takeBack_15 : decode cX1_takeBack 15 = .ok (.imul, 1) := by decide +kernel
theorem dX1_takeBack_16 : decode cX1_takeBack 16 = .ok (.istore_n 2, 1) := by decide +kernel
theorem dX1_takeBack_17 : decode cX1_takeBack 17 = .ok (.aload_n 0, 1) := by decide +kernel
theorem dX1_takeBack_18 : decode cX1_takeBack 18 = .ok (.getfield 11, 3) := by decide +kernel
theorem dX1_takeBack_21 : decode cX1_takeBack 21 = .ok (.iload_n 2, 1) := by decide +kernel
theorem dX1_takeBack_22 : decode cX1_takeBack 22 = .ok (.iconst 1, 1) := by decide +kernel
theorem dX1_takeBack_23 : decode cX1_takeBack 23 = .ok (.iadd, 1) := by decide +kernel
theorem dX1_takeBack_24 : decode cX1_takeBack 24 = .ok (.invokestatic 29, 3) := by decide +kernel
theorem dX1_takeBack_27 : decode cX1_takeBack 27 = .ok (.istore_n 3, 1) := by decide +kernel
theorem dX1_takeBack_28 : decode cX1_takeBack 28 = .ok (.aload_n 0, 1) := by decide +kernel
theorem dX1_takeBack_29 : decode cX1_takeBack 29 = .ok (.getfield 11, 3) := by decide +kernel
theorem dX1_takeBack_32 : decode cX1_takeBack 32 = .ok (.iload_n 2, 1) := by decide +kernel
theorem dX1_takeBack_33 : decode cX1_takeBack 33 = .ok (.iconst 2, 1) := by decide +kernel
theorem dX1_takeBack_34 : decode cX1_takeBack 34 = .ok (.iadd, 1) := by decide +kernel
theorem dX1_takeBack_35 : decode cX1_takeBack 35 = .ok (.invokestatic 29, 3) := by decide +kernel
theorem dX1_takeBack_38 : decode cX1_takeBack 38 = .ok (.istore 4, 2) := by decide +kernel
theorem dX1_takeBack_40 : decode cX1_takeBack 40 = .ok (.aload_n 0, 1) := by decide +kernel
theorem dX1_takeBack_41 : decode cX1_takeBack 41 = .ok (.getfield 11, 3) := by decide +kernel
theorem dX1_takeBack_44 : decode cX1_takeBack 44 = .ok (.iload_n 2, 1) := by decide +kernel
theorem dX1_takeBack_45 : decode cX1_takeBack 45 = .ok (.invokestatic 29, 3) := by decide +kernel
theorem dX1_takeBack_48 : decode cX1_takeBack 48 = .ok (.tableswitch 87 0 2 #[28, 38, 48], 28) := by decide +kernel
theorem dX1_takeBack_76 : decode cX1_takeBack 76 = .ok (.aload_n 1, 1) := by decide +kernel
theorem dX1_takeBack_77 : decode cX1_takeBack 77 = .ok (.iload_n 3, 1) := by decide +kernel
theorem dX1_takeBack_78 : decode cX1_takeBack 78 = .ok (.bipush (-2), 2) := by decide +kernel
theorem dX1_takeBack_80 : decode cX1_takeBack 80 = .ok (.invokevirtual 33, 3) := by decide +kernel
theorem dX1_takeBack_83 : decode cX1_takeBack 83 = .ok (.goto 62, 3) := by decide +kernel
theorem dX1_takeBack_86 : decode cX1_takeBack 86 = .ok (.aload_n 1, 1) := by decide +kernel
theorem dX1_takeBack_87 : decode cX1_takeBack 87 = .ok (.iload_n 3, 1) := by decide +kernel
theorem dX1_takeBack_88 : decode cX1_takeBack 88 = .ok (.iload 4, 2) := by decide +kernel
theorem dX1_takeBack_90 : decode cX1_takeBack 90 = .ok (.invokevirtual 33, 3) := by decide +kernel
theorem dX1_takeBack_93 : decode cX1_takeBack 93 = .ok (.goto 52, 3) := by decide +kernel
theorem dX1_takeBack_96 : decode cX1_takeBack 96 = .ok (.aload_n 1, 1) := by decide +kernel
theorem dX1_takeBack_97 : decode cX1_takeBack 97 = .ok (.getfield 39, 3) := by decide +kernel
theorem dX1_takeBack_100 : decode cX1_takeBack 100 = .ok (.iload_n 3, 1) := by decide +kernel
theorem dX1_takeBack_101 : decode cX1_takeBack 101 = .ok (.iload 4, 2) := by decide +kernel
theorem dX1_takeBack_103 : decode cX1_takeBack 103 = .ok (.aload_n 1, 1) := by decide +kernel
theorem dX1_takeBack_104 : decode cX1_takeBack 104 = .ok (.getfield 43, 3) := by decide +kernel
theorem dX1_takeBack_107 : decode cX1_takeBack 107 = .ok (.iconst 4, 1) := by decide +kernel
theorem dX1_takeBack_108 : decode cX1_takeBack 108 = .ok (.aload_n 0, 1) := by decide +kernel
theorem dX1_takeBack_109 : decode cX1_takeBack 109 = .ok (.getfield 11, 3) := by decide +kernel
theorem dX1_takeBack_112 : decode cX1_takeBack 112 = .ok (.iload_n 2, 1) := by decide +kernel
theorem dX1_takeBack_113 : decode cX1_takeBack 113 = .ok (.iconst 3, 1) := by decide +kernel
theorem dX1_takeBack_114 : decode cX1_takeBack 114 = .ok (.iadd, 1) := by decide +kernel
theorem dX1_takeBack_115 : decode cX1_takeBack 115 = .ok (.invokestatic 29, 3) := by decide +kernel
theorem dX1_takeBack_118 : decode cX1_takeBack 118 = .ok (.isub, 1) := by decide +kernel
theorem dX1_takeBack_119 : decode cX1_takeBack 119 = .ok (.invokevirtual 46, 3) := by decide +kernel
theorem dX1_takeBack_122 : decode cX1_takeBack 122 = .ok (.aload_n 1, 1) := by decide +kernel
theorem dX1_takeBack_123 : decode cX1_takeBack 123 = .ok (.dup, 1) := by decide +kernel
theorem dX1_takeBack_124 : decode cX1_takeBack 124 = .ok (.getfield 52, 3) := by decide +kernel
theorem dX1_takeBack_127 : decode cX1_takeBack 127 = .ok (.iconst 1, 1) := by decide +kernel
theorem dX1_takeBack_128 : decode cX1_takeBack 128 = .ok (.isub, 1) := by decide +kernel
theorem dX1_takeBack_129 : decode cX1_takeBack 129 = .ok (.putfield 52, 3) := by decide +kernel
theorem dX1_takeBack_132 : decode cX1_takeBack 132 = .ok (.goto 13, 3) := by decide +kernel
theorem dX1_takeBack_135 : decode cX1_takeBack 135 = .ok (.aload_n 1, 1) := by decide +kernel
theorem dX1_takeBack_136 : decode cX1_takeBack 136 = .ok (.dup, 1) := by decide +kernel
theorem dX1_takeBack_137 : decode cX1_takeBack 137 = .ok (.getfield 43, 3) := by decide +kernel
theorem dX1_takeBack_140 : decode cX1_takeBack 140 = .ok (.iload_n 3, 1) := by decide +kernel
theorem dX1_takeBack_141 : decode cX1_takeBack 141 = .ok (.isub, 1) := by decide +kernel
theorem dX1_takeBack_142 : decode cX1_takeBack 142 = .ok (.putfield 43, 3) := by decide +kernel
theorem dX1_takeBack_145 : decode cX1_takeBack 145 = .ok (.return_, 1) := by decide +kernel
theorem dX2_init_0 : decode cX2_init 0 = .ok (.aload_n 0, 1) := by decide +kernel
theorem dX2_init_1 : decode cX2_init 1 = .ok (.invokespecial 3, 3) := by decide +kernel
theorem dX2_init_4 : decode cX2_init 4 = .ok (.aload_n 0, 1) := by decide +kernel
theorem dX2_init_5 : decode cX2_init 5 = .ok (.bipush 6, 2) := by decide +kernel
theorem dX2_init_7 : decode cX2_init 7 = .ok (.newarray .long, 2) := by decide +kernel
theorem dX2_init_9 : decode cX2_init 9 = .ok (.putfield 9, 3) := by decide +kernel
theorem dX2_init_12 : decode cX2_init 12 = .ok (.return_, 1) := by decide +kernel
theorem dX2_bestToAsk_0 : decode cX2_bestToAsk 0 = .ok (.aload_n 1, 1) := by decide +kernel
theorem dX2_bestToAsk_1 : decode cX2_bestToAsk 1 = .ok (.iload_n 2, 1) := by decide +kernel
theorem dX2_bestToAsk_2 : decode cX2_bestToAsk 2 = .ok (.invokestatic 15, 3) := by decide +kernel
theorem dX2_bestToAsk_5 : decode cX2_bestToAsk 5 = .ok (.istore_n 3, 1) := by decide +kernel
theorem dX2_bestToAsk_6 : decode cX2_bestToAsk 6 = .ok (.iconst 0, 1) := by decide +kernel
theorem dX2_bestToAsk_7 : decode cX2_bestToAsk 7 = .ok (.istore 4, 2) := by decide +kernel
theorem dX2_bestToAsk_9 : decode cX2_bestToAsk 9 = .ok (.ldc2_w 19, 3) := by decide +kernel
theorem dX2_bestToAsk_12 : decode cX2_bestToAsk 12 = .ok (.lstore 5, 2) := by decide +kernel
theorem dX2_bestToAsk_14 : decode cX2_bestToAsk 14 = .ok (.iconst 1, 1) := by decide +kernel
theorem dX2_bestToAsk_15 : decode cX2_bestToAsk 15 = .ok (.istore 7, 2) := by decide +kernel
theorem dX2_bestToAsk_17 : decode cX2_bestToAsk 17 = .ok (.iload 7, 2) := by decide +kernel
theorem dX2_bestToAsk_19 : decode cX2_bestToAsk 19 = .ok (.iload_n 3, 1) := by decide +kernel
theorem dX2_bestToAsk_20 : decode cX2_bestToAsk 20 = .ok (.if_icmp .gt 88, 3) := by decide +kernel
theorem dX2_bestToAsk_23 : decode cX2_bestToAsk 23 = .ok (.iload 7, 2) := by decide +kernel
theorem dX2_bestToAsk_25 : decode cX2_bestToAsk 25 = .ok (.iload_n 3, 1) := by decide +kernel
theorem dX2_bestToAsk_26 : decode cX2_bestToAsk 26 = .ok (.iconst (-1), 1) := by decide +kernel
theorem dX2_bestToAsk_27 : decode cX2_bestToAsk 27 = .ok (.ixor, 1) := by decide +kernel
theorem dX2_bestToAsk_28 : decode cX2_bestToAsk 28 = .ok (.iand, 1) := by decide +kernel
theorem dX2_bestToAsk_29 : decode cX2_bestToAsk 29 = .ok (.ifCond .ne 73, 3) := by decide +kernel
theorem dX2_bestToAsk_32 : decode cX2_bestToAsk 32 = .ok (.iload 7, 2) := by decide +kernel
theorem dX2_bestToAsk_34 : decode cX2_bestToAsk 34 = .ok (.invokestatic 21, 3) := by decide +kernel
theorem dX2_bestToAsk_37 : decode cX2_bestToAsk 37 = .ok (.iconst 2, 1) := by decide +kernel
theorem dX2_bestToAsk_38 : decode cX2_bestToAsk 38 = .ok (.irem, 1) := by decide +kernel
theorem dX2_bestToAsk_39 : decode cX2_bestToAsk 39 = .ok (.iconst 1, 1) := by decide +kernel
theorem dX2_bestToAsk_40 : decode cX2_bestToAsk 40 = .ok (.if_icmp .ne 62, 3) := by decide +kernel
theorem dX2_bestToAsk_43 : decode cX2_bestToAsk 43 = .ok (.aload_n 0, 1) := by decide +kernel
theorem dX2_bestToAsk_44 : decode cX2_bestToAsk 44 = .ok (.aload_n 1, 1) := by decide +kernel
theorem dX2_bestToAsk_45 : decode cX2_bestToAsk 45 = .ok (.iload_n 2, 1) := by decide +kernel
theorem dX2_bestToAsk_46 : decode cX2_bestToAsk 46 = .ok (.iload 7, 2) := by decide +kernel
theorem dX2_bestToAsk_48 : decode cX2_bestToAsk 48 = .ok (.invokevirtual 27, 3) := by decide +kernel
theorem dX2_bestToAsk_51 : decode cX2_bestToAsk 51 = .ok (.lstore 8, 2) := by decide +kernel
theorem dX2_bestToAsk_53 : decode cX2_bestToAsk 53 = .ok (.iload 7, 2) := by decide +kernel
theorem dX2_bestToAsk_55 : decode cX2_bestToAsk 55 = .ok (.invokestatic 21, 3) := by decide +kernel
theorem dX2_bestToAsk_58 : decode cX2_bestToAsk 58 = .ok (.iload 4, 2) := by decide +kernel
theorem dX2_bestToAsk_60 : decode cX2_bestToAsk 60 = .ok (.invokestatic 21, 3) := by decide +kernel
theorem dX2_bestToAsk_63 : decode cX2_bestToAsk 63 = .ok (.if_icmp .ge 7, 3) := by decide +kernel
theorem dX2_bestToAsk_66 : decode cX2_bestToAsk 66 = .ok (.iconst 1, 1) := by decide +kernel
theorem dX2_bestToAsk_67 : decode cX2_bestToAsk 67 = .ok (.goto 4, 3) := by decide +kernel
theorem dX2_bestToAsk_70 : decode cX2_bestToAsk 70 = .ok (.iconst 0, 1) := by decide +kernel
theorem dX2_bestToAsk_71 : decode cX2_bestToAsk 71 = .ok (.istore 10, 2) := by decide +kernel
theorem dX2_bestToAsk_73 : decode cX2_bestToAsk 73 = .ok (.lload 8, 2) := by decide +kernel
theorem dX2_bestToAsk_75 : decode cX2_bestToAsk 75 = .ok (.lload 5, 2) := by decide +kernel
theorem dX2_bestToAsk_77 : decode cX2_bestToAsk 77 = .ok (.lcmp, 1) := by decide +kernel
theorem dX2_bestToAsk_78 : decode cX2_bestToAsk 78 = .ok (.ifCond .gt 16, 3) := by decide +kernel
theorem dX2_bestToAsk_81 : decode cX2_bestToAsk 81 = .ok (.lload 8, 2) := by decide +kernel
theorem dX2_bestToAsk_83 : decode cX2_bestToAsk 83 = .ok (.lload 5, 2) := by decide +kernel
theorem dX2_bestToAsk_85 : decode cX2_bestToAsk 85 = .ok (.lcmp, 1) := by decide +kernel
theorem dX2_bestToAsk_86 : decode cX2_bestToAsk 86 = .ok (.ifCond .ne 16, 3) := by decide +kernel
theorem dX2_bestToAsk_89 : decode cX2_bestToAsk 89 = .ok (.iload 10, 2) := by decide +kernel
theorem dX2_bestToAsk_91 : decode cX2_bestToAsk 91 = .ok (.ifCond .eq 11, 3) := by decide +kernel
theorem dX2_bestToAsk_94 : decode cX2_bestToAsk 94 = .ok (.iload 7, 2) := by decide +kernel
theorem dX2_bestToAsk_96 : decode cX2_bestToAsk 96 = .ok (.istore 4, 2) := by decide +kernel
theorem dX2_bestToAsk_98 : decode cX2_bestToAsk 98 = .ok (.lload 8, 2) := by decide +kernel
theorem dX2_bestToAsk_100 : decode cX2_bestToAsk 100 = .ok (.lstore 5, 2) := by decide +kernel
theorem dX2_bestToAsk_102 : decode cX2_bestToAsk 102 = .ok (.iinc 7 1, 3) := by decide +kernel
theorem dX2_bestToAsk_105 : decode cX2_bestToAsk 105 = .ok (.goto (-88), 3) := by decide +kernel
theorem dX2_bestToAsk_108 : decode cX2_bestToAsk 108 = .ok (.iload 4, 2) := by decide +kernel
theorem dX2_bestToAsk_110 : decode cX2_bestToAsk 110 = .ok (.ireturn, 1) := by decide +kernel
theorem dX2_askedBy_0 : decode cX2_askedBy 0 = .ok (.iconst 0, 1) := by decide +kernel
theorem dX2_askedBy_1 : decode cX2_askedBy 1 = .ok (.istore_n 2, 1) := by decide +kernel
theorem dX2_askedBy_2 : decode cX2_askedBy 2 = .ok (.iconst 0, 1) := by decide +kernel
theorem dX2_askedBy_3 : decode cX2_askedBy 3 = .ok (.istore_n 3, 1) := by decide +kernel
theorem dX2_askedBy_4 : decode cX2_askedBy 4 = .ok (.iload_n 3, 1) := by decide +kernel
theorem dX2_askedBy_5 : decode cX2_askedBy 5 = .ok (.aload_n 0, 1) := by decide +kernel
theorem dX2_askedBy_6 : decode cX2_askedBy 6 = .ok (.invokevirtual 31, 3) := by decide +kernel
theorem dX2_askedBy_9 : decode cX2_askedBy 9 = .ok (.if_icmp .ge 28, 3) := by decide +kernel
theorem dX2_askedBy_12 : decode cX2_askedBy 12 = .ok (.iload_n 2, 1) := by decide +kernel
theorem dX2_askedBy_13 : decode cX2_askedBy 13 = .ok (.aload_n 0, 1) := by decide +kernel
theorem dX2_askedBy_14 : decode cX2_askedBy 14 = .ok (.iload_n 1, 1) := by decide +kernel
theorem dX2_askedBy_15 : decode cX2_askedBy 15 = .ok (.iload_n 3, 1) := by decide +kernel
theorem dX2_askedBy_16 : decode cX2_askedBy 16 = .ok (.invokevirtual 37, 3) := by decide +kernel
theorem dX2_askedBy_19 : decode cX2_askedBy 19 = .ok (.ifCond .eq 9, 3) := by decide +kernel
theorem dX2_askedBy_22 : decode cX2_askedBy 22 = .ok (.iconst 1, 1) := by decide +kernel
theorem dX2_askedBy_23 : decode cX2_askedBy 23 = .ok (.iload_n 3, 1) := by decide +kernel
theorem dX2_askedBy_24 : decode cX2_askedBy 24 = .ok (.ishl, 1) := by decide +kernel
theorem dX2_askedBy_25 : decode cX2_askedBy 25 = .ok (.goto 4, 3) := by decide +kernel
theorem dX2_askedBy_28 : decode cX2_askedBy 28 = .ok (.iconst 0, 1) := by decide +kernel
theorem dX2_askedBy_29 : decode cX2_askedBy 29 = .ok (.ior, 1) := by decide +kernel
theorem dX2_askedBy_30 : decode cX2_askedBy 30 = .ok (.istore_n 2, 1) := by decide +kernel
theorem dX2_askedBy_31 : decode cX2_askedBy 31 = .ok (.iinc 3 1, 3) := by decide +kernel
theorem dX2_askedBy_34 : decode cX2_askedBy 34 = .ok (.goto (-30), 3) := by decide +kernel
theorem dX2_askedBy_37 : decode cX2_askedBy 37 = .ok (.iload_n 2, 1) := by decide +kernel
theorem dX2_askedBy_38 : decode cX2_askedBy 38 = .ok (.ireturn, 1) := by decide +kernel
theorem dX2_chanceOfMost_0 : decode cX2_chanceOfMost 0 = .ok (.iconst 0, 1) := by decide +kernel
theorem dX2_chanceOfMost_1 : decode cX2_chanceOfMost 1 = .ok (.istore 4, 2) := by decide +kernel
theorem dX2_chanceOfMost_3 : decode cX2_chanceOfMost 3 = .ok (.iload 4, 2) := by decide +kernel
theorem dX2_chanceOfMost_5 : decode cX2_chanceOfMost 5 = .ok (.aload_n 0, 1) := by decide +kernel
theorem dX2_chanceOfMost_6 : decode cX2_chanceOfMost 6 = .ok (.getfield 9, 3) := by decide +kernel
theorem dX2_chanceOfMost_9 : decode cX2_chanceOfMost 9 = .ok (.arraylength, 1) := by decide +kernel
theorem dX2_chanceOfMost_10 : decode cX2_chanceOfMost 10 = .ok (.if_icmp .ge 28, 3) := by decide +kernel
theorem dX2_chanceOfMost_13 : decode cX2_chanceOfMost 13 = .ok (.aload_n 0, 1) := by decide +kernel
theorem dX2_chanceOfMost_14 : decode cX2_chanceOfMost 14 = .ok (.getfield 9, 3) := by decide +kernel
theorem dX2_chanceOfMost_17 : decode cX2_chanceOfMost 17 = .ok (.iload 4, 2) := by decide +kernel
theorem dX2_chanceOfMost_19 : decode cX2_chanceOfMost 19 = .ok (.iload 4, 2) := by decide +kernel
theorem dX2_chanceOfMost_21 : decode cX2_chanceOfMost 21 = .ok (.ifCond .ne 9, 3) := by decide +kernel
theorem dX2_chanceOfMost_24 : decode cX2_chanceOfMost 24 = .ok (.ldc2_w 41, 3) := by decide +kernel
theorem dX2_chanceOfMost_27 : decode cX2_chanceOfMost 27 = .ok (.goto 4, 3) := by decide +kernel
theorem dX2_chanceOfMost_30 : decode cX2_chanceOfMost 30 = .ok (.lconst 0, 1) := by decide +kernel
theorem dX2_chanceOfMost_31 : decode cX2_chanceOfMost 31 = .ok (.lastore, 1) := by decide +kernel
theorem dX2_chanceOfMost_32 : decode cX2_chanceOfMost 32 = .ok (.iinc 4 1, 3) := by decide +kernel
theorem dX2_chanceOfMost_35 : decode cX2_chanceOfMost 35 = .ok (.goto (-32), 3) := by decide +kernel
theorem dX2_chanceOfMost_38 : decode cX2_chanceOfMost 38 = .ok (.iconst 0, 1) := by decide +kernel
theorem dX2_chanceOfMost_39 : decode cX2_chanceOfMost 39 = .ok (.istore 4, 2) := by decide +kernel
theorem dX2_chanceOfMost_41 : decode cX2_chanceOfMost 41 = .ok (.iload 4, 2) := by decide +kernel
theorem dX2_chanceOfMost_43 : decode cX2_chanceOfMost 43 = .ok (.aload_n 1, 1) := by decide +kernel
theorem dX2_chanceOfMost_44 : decode cX2_chanceOfMost 44 = .ok (.invokevirtual 31, 3) := by decide +kernel
theorem dX2_chanceOfMost_47 : decode cX2_chanceOfMost 47 = .ok (.if_icmp .ge 30, 3) := by decide +kernel
theorem dX2_chanceOfMost_50 : decode cX2_chanceOfMost 50 = .ok (.iload_n 3, 1) := by decide +kernel
theorem dX2_chanceOfMost_51 : decode cX2_chanceOfMost 51 = .ok (.iload 4, 2) := by decide +kernel
theorem dX2_chanceOfMost_53 : decode cX2_chanceOfMost 53 = .ok (.ishr, 1) := by decide +kernel
theorem dX2_chanceOfMost_54 : decode cX2_chanceOfMost 54 = .ok (.iconst 1, 1) := by decide +kernel
theorem dX2_chanceOfMost_55 : decode cX2_chanceOfMost 55 = .ok (.iand, 1) := by decide +kernel
theorem dX2_chanceOfMost_56 : decode cX2_chanceOfMost 56 = .ok (.iconst 1, 1) := by decide +kernel
theorem dX2_chanceOfMost_57 : decode cX2_chanceOfMost 57 = .ok (.if_icmp .ne 14, 3) := by decide +kernel
theorem dX2_chanceOfMost_60 : decode cX2_chanceOfMost 60 = .ok (.aload_n 0, 1) := by decide +kernel
theorem dX2_chanceOfMost_61 : decode cX2_chanceOfMost 61 = .ok (.aload_n 1, 1) := by decide +kernel
theorem dX2_chanceOfMost_62 : decode cX2_chanceOfMost 62 = .ok (.iload_n 2, 1) := by decide +kernel
theorem dX2_chanceOfMost_63 : decode cX2_chanceOfMost 63 = .ok (.iload 4, 2) := by decide +kernel
theorem dX2_chanceOfMost_65 : decode cX2_chanceOfMost 65 = .ok (.invokevirtual 43, 3) := by decide +kernel
theorem dX2_chanceOfMost_68 : decode cX2_chanceOfMost 68 = .ok (.invokevirtual 47, 3) := by decide +kernel
theorem dX2_chanceOfMost_71 : decode cX2_chanceOfMost 71 = .ok (.iinc 4 1, 3) := by decide +kernel
theorem dX2_chanceOfMost_74 : decode cX2_chanceOfMost 74 = .ok (.goto (-33), 3) := by decide +kernel
theorem dX2_chanceOfMost_77 : decode cX2_chanceOfMost 77 = .ok (.lconst 0, 1) := by decide +kernel
theorem dX2_chanceOfMost_78 : decode cX2_chanceOfMost 78 = .ok (.lstore 4, 2) := by decide +kernel
theorem dX2_chanceOfMost_80 : decode cX2_chanceOfMost 80 = .ok (.iconst 1, 1) := by decide +kernel
theorem dX2_chanceOfMost_81 : decode cX2_chanceOfMost 81 = .ok (.istore 6, 2) := by decide +kernel
theorem dX2_chanceOfMost_83 : decode cX2_chanceOfMost 83 = .ok (.iload 6, 2) := by decide +kernel
theorem dX2_chanceOfMost_85 : decode cX2_chanceOfMost 85 = .ok (.aload_n 0, 1) := by decide +kernel
theorem dX2_chanceOfMost_86 : decode cX2_chanceOfMost 86 = .ok (.getfield 9, 3) := by decide +kernel
theorem dX2_chanceOfMost_89 : decode cX2_chanceOfMost 89 = .ok (.arraylength, 1) := by decide +kernel
theorem dX2_chanceOfMost_90 : decode cX2_chanceOfMost 90 = .ok (.if_icmp .ge 36, 3) := by decide +kernel
theorem dX2_chanceOfMost_93 : decode cX2_chanceOfMost 93 = .ok (.lload 4, 2) := by decide +kernel
theorem dX2_chanceOfMost_95 : decode cX2_chanceOfMost 95 = .ok (.iconst 2, 1) := by decide +kernel
theorem dX2_chanceOfMost_96 : decode cX2_chanceOfMost 96 = .ok (.iload 6, 2) := by decide +kernel
theorem dX2_chanceOfMost_98 : decode cX2_chanceOfMost 98 = .ok (.imul, 1) := by decide +kernel
theorem dX2_chanceOfMost_99 : decode cX2_chanceOfMost 99 = .ok (.iload_n 3, 1) := by decide +kernel
theorem dX2_chanceOfMost_100 : decode cX2_chanceOfMost 100 = .ok (.invokestatic 21, 3) := by decide +kernel
theorem dX2_chanceOfMost_103 : decode cX2_chanceOfMost 103 = .ok (.if_icmp .le 13, 3) := by decide +kernel
theorem dX2_chanceOfMost_106 : decode cX2_chanceOfMost 106 = .ok (.aload_n 0, 1) := by decide +kernel
theorem dX2_chanceOfMost_107 : decode cX2_chanceOfMost 107 = .ok (.getfield 9, 3) := by decide +kernel
theorem dX2_chanceOfMost_110 : decode cX2_chanceOfMost 110 = .ok (.iload 6, 2) := by decide +kernel
theorem dX2_chanceOfMost_112 : decode cX2_chanceOfMost 112 = .ok (.laload, 1) := by decide +kernel
theorem dX2_chanceOfMost_113 : decode cX2_chanceOfMost 113 = .ok (.goto 4, 3) := by decide +kernel
theorem dX2_chanceOfMost_116 : decode cX2_chanceOfMost 116 = .ok (.lconst 0, 1) := by decide +kernel
theorem dX2_chanceOfMost_117 : decode cX2_chanceOfMost 117 = .ok (.ladd, 1) := by decide +kernel
theorem dX2_chanceOfMost_118 : decode cX2_chanceOfMost 118 = .ok (.lstore 4, 2) := by decide +kernel
theorem dX2_chanceOfMost_120 : decode cX2_chanceOfMost 120 = .ok (.iinc 6 1, 3) := by decide +kernel
theorem dX2_chanceOfMost_123 : decode cX2_chanceOfMost 123 = .ok (.goto (-40), 3) := by decide +kernel
theorem dX2_chanceOfMost_126 : decode cX2_chanceOfMost 126 = .ok (.lload 4, 2) := by decide +kernel
theorem dX2_chanceOfMost_128 : decode cX2_chanceOfMost 128 = .ok (.lreturn, 1) := by decide +kernel
theorem dX2_tellBy_0 : decode cX2_tellBy 0 = .ok (.aload_n 0, 1) := by decide +kernel
theorem dX2_tellBy_1 : decode cX2_tellBy 1 = .ok (.getfield 9, 3) := by decide +kernel
theorem dX2_tellBy_4 : decode cX2_tellBy 4 = .ok (.arraylength, 1) := by decide +kernel
theorem dX2_tellBy_5 : decode cX2_tellBy 5 = .ok (.iconst 1, 1) := by decide +kernel
theorem dX2_tellBy_6 : decode cX2_tellBy 6 = .ok (.isub, 1) := by decide +kernel
theorem dX2_tellBy_7 : decode cX2_tellBy 7 = .ok (.istore_n 2, 1) := by decide +kernel
theorem dX2_tellBy_8 : decode cX2_tellBy 8 = .ok (.iload_n 2, 1) := by decide +kernel
theorem dX2_tellBy_9 : decode cX2_tellBy 9 = .ok (.ifCond .le 43, 3) := by decide +kernel
theorem dX2_tellBy_12 : decode cX2_tellBy 12 = .ok (.aload_n 0, 1) := by decide +kernel
theorem dX2_tellBy_13 : decode cX2_tellBy 13 = .ok (.getfield 9, 3) := by decide +kernel
theorem dX2_tellBy_16 : decode cX2_tellBy 16 = .ok (.iload_n 2, 1) := by decide +kernel
theorem dX2_tellBy_17 : decode cX2_tellBy 17 = .ok (.aload_n 0, 1) := by decide +kernel
theorem dX2_tellBy_18 : decode cX2_tellBy 18 = .ok (.getfield 9, 3) := by decide +kernel
theorem dX2_tellBy_21 : decode cX2_tellBy 21 = .ok (.iload_n 2, 1) := by decide +kernel
theorem dX2_tellBy_22 : decode cX2_tellBy 22 = .ok (.laload, 1) := by decide +kernel
theorem dX2_tellBy_23 : decode cX2_tellBy 23 = .ok (.bipush 100, 2) := by decide +kernel
theorem dX2_tellBy_25 : decode cX2_tellBy 25 = .ok (.iload_n 1, 1) := by decide +kernel
theorem dX2_tellBy_26 : decode cX2_tellBy 26 = .ok (.isub, 1) := by decide +kernel
theorem dX2_tellBy_27 : decode cX2_tellBy 27 = .ok (.i2l, 1) := by decide +kernel
theorem dX2_tellBy_28 : decode cX2_tellBy 28 = .ok (.lmul, 1) := by decide +kernel
theorem dX2_tellBy_29 : decode cX2_tellBy 29 = .ok (.aload_n 0, 1) := by decide +kernel
theorem dX2_tellBy_30 : decode cX2_tellBy 30 = .ok (.getfield 9, 3) := by decide +kernel
theorem dX2_tellBy_33 : decode cX2_tellBy 33 = .ok (.iload_n 2, 1) := by decide +kernel
theorem dX2_tellBy_34 : decode cX2_tellBy 34 = .ok (.iconst 1, 1) := by decide +kernel
theorem dX2_tellBy_35 : decode cX2_tellBy 35 = .ok (.isub, 1) := by decide +kernel
theorem dX2_tellBy_36 : decode cX2_tellBy 36 = .ok (.laload, 1) := by decide +kernel
theorem dX2_tellBy_37 : decode cX2_tellBy 37 = .ok (.iload_n 1, 1) := by decide +kernel
theorem dX2_tellBy_38 : decode cX2_tellBy 38 = .ok (.i2l, 1) := by decide +kernel
theorem dX2_tellBy_39 : decode cX2_tellBy 39 = .ok (.lmul, 1) := by decide +kernel
theorem dX2_tellBy_40 : decode cX2_tellBy 40 = .ok (.ladd, 1) := by decide +kernel
theorem dX2_tellBy_41 : decode cX2_tellBy 41 = .ok (.ldc2_w 51, 3) := by decide +kernel
theorem dX2_tellBy_44 : decode cX2_tellBy 44 = .ok (.ldiv, 1) := by decide +kernel
theorem dX2_tellBy_45 : decode cX2_tellBy 45 = .ok (.lastore, 1) := by decide +kernel
theorem dX2_tellBy_46 : decode cX2_tellBy 46 = .ok (.iinc 2 (-1), 3) := by decide +kernel
theorem dX2_tellBy_49 : decode cX2_tellBy 49 = .ok (.goto (-41), 3) := by decide +kernel
theorem dX2_tellBy_52 : decode cX2_tellBy 52 = .ok (.aload_n 0, 1) := by decide +kernel
theorem dX2_tellBy_53 : decode cX2_tellBy 53 = .ok (.getfield 9, 3) := by decide +kernel
theorem dX2_tellBy_56 : decode cX2_tellBy 56 = .ok (.arraylength, 1) := by decide +kernel
theorem dX2_tellBy_57 : decode cX2_tellBy 57 = .ok (.ifCond .le 25, 3) := by decide +kernel
theorem dX2_tellBy_60 : decode cX2_tellBy 60 = .ok (.aload_n 0, 1) := by decide +kernel
theorem dX2_tellBy_61 : decode cX2_tellBy 61 = .ok (.getfield 9, 3) := by decide +kernel
theorem dX2_tellBy_64 : decode cX2_tellBy 64 = .ok (.iconst 0, 1) := by decide +kernel
theorem dX2_tellBy_65 : decode cX2_tellBy 65 = .ok (.aload_n 0, 1) := by decide +kernel
theorem dX2_tellBy_66 : decode cX2_tellBy 66 = .ok (.getfield 9, 3) := by decide +kernel
theorem dX2_tellBy_69 : decode cX2_tellBy 69 = .ok (.iconst 0, 1) := by decide +kernel
theorem dX2_tellBy_70 : decode cX2_tellBy 70 = .ok (.laload, 1) := by decide +kernel
theorem dX2_tellBy_71 : decode cX2_tellBy 71 = .ok (.bipush 100, 2) := by decide +kernel
theorem dX2_tellBy_73 : decode cX2_tellBy 73 = .ok (.iload_n 1, 1) := by decide +kernel
theorem dX2_tellBy_74 : decode cX2_tellBy 74 = .ok (.isub, 1) := by decide +kernel
theorem dX2_tellBy_75 : decode cX2_tellBy 75 = .ok (.i2l, 1) := by decide +kernel
theorem dX2_tellBy_76 : decode cX2_tellBy 76 = .ok (.lmul, 1) := by decide +kernel
theorem dX2_tellBy_77 : decode cX2_tellBy 77 = .ok (.ldc2_w 51, 3) := by decide +kernel
theorem dX2_tellBy_80 : decode cX2_tellBy 80 = .ok (.ldiv, 1) := by decide +kernel
theorem dX2_tellBy_81 : decode cX2_tellBy 81 = .ok (.lastore, 1) := by decide +kernel
theorem dX2_tellBy_82 : decode cX2_tellBy 82 = .ok (.return_, 1) := by decide +kernel
theorem dX2_chanceOfAll_0 : decode cX2_chanceOfAll 0 = .ok (.ldc2_w 41, 3) := by decide +kernel
theorem dX2_chanceOfAll_3 : decode cX2_chanceOfAll 3 = .ok (.lstore_n 2, 1) := by decide +kernel
theorem dX2_chanceOfAll_4 : decode cX2_chanceOfAll 4 = .ok (.iconst 0, 1) := by decide +kernel
theorem dX2_chanceOfAll_5 : decode cX2_chanceOfAll 5 = .ok (.istore 4, 2) := by decide +kernel
theorem dX2_chanceOfAll_7 : decode cX2_chanceOfAll 7 = .ok (.iload 4, 2) := by decide +kernel
theorem dX2_chanceOfAll_9 : decode cX2_chanceOfAll 9 = .ok (.aload_n 0, 1) := by decide +kernel
theorem dX2_chanceOfAll_10 : decode cX2_chanceOfAll 10 = .ok (.invokevirtual 31, 3) := by decide +kernel
theorem dX2_chanceOfAll_13 : decode cX2_chanceOfAll 13 = .ok (.if_icmp .ge 34, 3) := by decide +kernel
theorem dX2_chanceOfAll_16 : decode cX2_chanceOfAll 16 = .ok (.aload_n 0, 1) := by decide +kernel
theorem dX2_chanceOfAll_17 : decode cX2_chanceOfAll 17 = .ok (.iload_n 1, 1) := by decide +kernel
theorem dX2_chanceOfAll_18 : decode cX2_chanceOfAll 18 = .ok (.iload 4, 2) := by decide +kernel
theorem dX2_chanceOfAll_20 : decode cX2_chanceOfAll 20 = .ok (.invokevirtual 37, 3) := by decide +kernel
theorem dX2_chanceOfAll_23 : decode cX2_chanceOfAll 23 = .ok (.ifCond .eq 18, 3) := by decide +kernel
theorem dX2_chanceOfAll_26 : decode cX2_chanceOfAll 26 = .ok (.lload_n 2, 1) := by decide +kernel
theorem dX2_chanceOfAll_27 : decode cX2_chanceOfAll 27 = .ok (.aload_n 0, 1) := by decide +kernel
theorem dX2_chanceOfAll_28 : decode cX2_chanceOfAll 28 = .ok (.iload_n 1, 1) := by decide +kernel
theorem dX2_chanceOfAll_29 : decode cX2_chanceOfAll 29 = .ok (.iload 4, 2) := by decide +kernel
theorem dX2_chanceOfAll_31 : decode cX2_chanceOfAll 31 = .ok (.invokevirtual 43, 3) := by decide +kernel
theorem dX2_chanceOfAll_34 : decode cX2_chanceOfAll 34 = .ok (.i2l, 1) := by decide +kernel
theorem dX2_chanceOfAll_35 : decode cX2_chanceOfAll 35 = .ok (.lmul, 1) := by decide +kernel
theorem dX2_chanceOfAll_36 : decode cX2_chanceOfAll 36 = .ok (.ldc2_w 51, 3) := by decide +kernel
theorem dX2_chanceOfAll_39 : decode cX2_chanceOfAll 39 = .ok (.ldiv, 1) := by decide +kernel
theorem dX2_chanceOfAll_40 : decode cX2_chanceOfAll 40 = .ok (.lstore_n 2, 1) := by decide +kernel
theorem dX2_chanceOfAll_41 : decode cX2_chanceOfAll 41 = .ok (.iinc 4 1, 3) := by decide +kernel
theorem dX2_chanceOfAll_44 : decode cX2_chanceOfAll 44 = .ok (.goto (-37), 3) := by decide +kernel
theorem dX2_chanceOfAll_47 : decode cX2_chanceOfAll 47 = .ok (.lload_n 2, 1) := by decide +kernel
theorem dX2_chanceOfAll_48 : decode cX2_chanceOfAll 48 = .ok (.lreturn, 1) := by decide +kernel
theorem dX2_lowestTerm_0 : decode cX2_lowestTerm 0 = .ok (.lload_n 0, 1) := by decide +kernel
theorem dX2_lowestTerm_1 : decode cX2_lowestTerm 1 = .ok (.lstore_n 3, 1) := by decide +kernel
theorem dX2_lowestTerm_2 : decode cX2_lowestTerm 2 = .ok (.ldc2_w 41, 3) := by decide +kernel
theorem dX2_lowestTerm_5 : decode cX2_lowestTerm 5 = .ok (.lstore 5, 2) := by decide +kernel
theorem dX2_lowestTerm_7 : decode cX2_lowestTerm 7 = .ok (.iconst 0, 1) := by decide +kernel
theorem dX2_lowestTerm_8 : decode cX2_lowestTerm 8 = .ok (.istore 7, 2) := by decide +kernel
theorem dX2_lowestTerm_10 : decode cX2_lowestTerm 10 = .ok (.iload 7, 2) := by decide +kernel
theorem dX2_lowestTerm_12 : decode cX2_lowestTerm 12 = .ok (.bipush 100, 2) := by decide +kernel
theorem dX2_lowestTerm_14 : decode cX2_lowestTerm 14 = .ok (.if_icmp .ge 29, 3) := by decide +kernel
theorem dX2_lowestTerm_17 : decode cX2_lowestTerm 17 = .ok (.lload 5, 2) := by decide +kernel
theorem dX2_lowestTerm_19 : decode cX2_lowestTerm 19 = .ok (.lconst 0, 1) := by decide +kernel
theorem dX2_lowestTerm_20 : decode cX2_lowestTerm 20 = .ok (.lcmp, 1) := by decide +kernel
theorem dX2_lowestTerm_21 : decode cX2_lowestTerm 21 = .ok (.ifCond .eq 22, 3) := by decide +kernel
theorem dX2_lowestTerm_24 : decode cX2_lowestTerm 24 = .ok (.lload_n 3, 1) := by decide +kernel
theorem dX2_lowestTerm_25 : decode cX2_lowestTerm 25 = .ok (.lload 5, 2) := by decide +kernel
theorem dX2_lowestTerm_27 : decode cX2_lowestTerm 27 = .ok (.lrem, 1) := by decide +kernel
theorem dX2_lowestTerm_28 : decode cX2_lowestTerm 28 = .ok (.lstore 8, 2) := by decide +kernel
theorem dX2_lowestTerm_30 : decode cX2_lowestTerm 30 = .ok (.lload 5, 2) := by decide +kernel
theorem dX2_lowestTerm_32 : decode cX2_lowestTerm 32 = .ok (.lstore_n 3, 1) := by decide +kernel
theorem dX2_lowestTerm_33 : decode cX2_lowestTerm 33 = .ok (.lload 8, 2) := by decide +kernel
theorem dX2_lowestTerm_35 : decode cX2_lowestTerm 35 = .ok (.lstore 5, 2) := by decide +kernel
theorem dX2_lowestTerm_37 : decode cX2_lowestTerm 37 = .ok (.iinc 7 1, 3) := by decide +kernel
theorem dX2_lowestTerm_40 : decode cX2_lowestTerm 40 = .ok (.goto (-30), 3) := by decide +kernel
theorem dX2_lowestTerm_43 : decode cX2_lowestTerm 43 = .ok (.lload_n 3, 1) := by decide +kernel
theorem dX2_lowestTerm_44 : decode cX2_lowestTerm 44 = .ok (.lconst 0, 1) := by decide +kernel
theorem dX2_lowestTerm_45 : decode cX2_lowestTerm 45 = .ok (.lcmp, 1) := by decide +kernel
theorem dX2_lowestTerm_46 : decode cX2_lowestTerm 46 = .ok (.ifCond .le 19, 3) := by decide +kernel
theorem dX2_lowestTerm_49 : decode cX2_lowestTerm 49 = .ok (.iload_n 2, 1) := by decide +kernel
theorem dX2_lowestTerm_50 : decode cX2_lowestTerm 50 = .ok (.ifCond .eq 9, 3) := by decide +kernel
theorem dX2_lowestTerm_53 : decode cX2_lowestTerm 53 = .ok (.ldc2_w 41, 3) := by decide +kernel
theorem dX2_lowestTerm_56 : decode cX2_lowestTerm 56 = .ok (.goto 4, 3) := by decide +kernel
theorem dX2_lowestTerm_59 : decode cX2_lowestTerm 59 = .ok (.lload_n 0, 1) := by decide +kernel
theorem dX2_lowestTerm_60 : decode cX2_lowestTerm 60 = .ok (.lload_n 3, 1) := by decide +kernel
theorem dX2_lowestTerm_61 : decode cX2_lowestTerm 61 = .ok (.ldiv, 1) := by decide +kernel
theorem dX2_lowestTerm_62 : decode cX2_lowestTerm 62 = .ok (.goto 4, 3) := by decide +kernel
theorem dX2_lowestTerm_65 : decode cX2_lowestTerm 65 = .ok (.lconst 0, 1) := by decide +kernel
theorem dX2_lowestTerm_66 : decode cX2_lowestTerm 66 = .ok (.lreturn, 1) := by decide +kernel
theorem dX3_init_0 : decode cX3_init 0 = .ok (.aload_n 0, 1) := by decide +kernel
theorem dX3_init_1 : decode cX3_init 1 = .ok (.invokespecial 3, 3) := by decide +kernel
theorem dX3_init_4 : decode cX3_init 4 = .ok (.aload_n 0, 1) := by decide +kernel
theorem dX3_init_5 : decode cX3_init 5 = .ok (.sipush 150, 3) := by decide +kernel
theorem dX3_init_8 : decode cX3_init 8 = .ok (.newarray .int, 2) := by decide +kernel
theorem dX3_init_10 : decode cX3_init 10 = .ok (.putfield 9, 3) := by decide +kernel
theorem dX3_init_13 : decode cX3_init 13 = .ok (.aload_n 0, 1) := by decide +kernel
theorem dX3_init_14 : decode cX3_init 14 = .ok (.iconst 5, 1) := by decide +kernel
theorem dX3_init_15 : decode cX3_init 15 = .ok (.newarray .int, 2) := by decide +kernel
theorem dX3_init_17 : decode cX3_init 17 = .ok (.putfield 15, 3) := by decide +kernel
theorem dX3_init_20 : decode cX3_init 20 = .ok (.aload_n 0, 1) := by decide +kernel
theorem dX3_init_21 : decode cX3_init 21 = .ok (.iconst 3, 1) := by decide +kernel
theorem dX3_init_22 : decode cX3_init 22 = .ok (.newarray .int, 2) := by decide +kernel
theorem dX3_init_24 : decode cX3_init 24 = .ok (.putfield 18, 3) := by decide +kernel
theorem dX3_init_27 : decode cX3_init 27 = .ok (.return_, 1) := by decide +kernel
theorem dX3_search_0 : decode cX3_search 0 = .ok (.iconst 0, 1) := by decide +kernel
theorem dX3_search_1 : decode cX3_search 1 = .ok (.istore_n 2, 1) := by decide +kernel
theorem dX3_search_2 : decode cX3_search 2 = .ok (.iload_n 2, 1) := by decide +kernel
theorem dX3_search_3 : decode cX3_search 3 = .ok (.aload_n 1, 1) := by decide +kernel
theorem dX3_search_4 : decode cX3_search 4 = .ok (.getfield 21, 3) := by decide +kernel
theorem dX3_search_7 : decode cX3_search 7 = .ok (.invokevirtual 27, 3) := by decide +kernel
theorem dX3_search_10 : decode cX3_search 10 = .ok (.if_icmp .ge 43, 3) := by decide +kernel
theorem dX3_search_13 : decode cX3_search 13 = .ok (.aload_n 0, 1) := by decide +kernel
theorem dX3_search_14 : decode cX3_search 14 = .ok (.getfield 15, 3) := by decide +kernel
theorem dX3_search_17 : decode cX3_search 17 = .ok (.iload_n 2, 1) := by decide +kernel
theorem dX3_search_18 : decode cX3_search 18 = .ok (.aload_n 1, 1) := by decide +kernel
theorem dX3_search_19 : decode cX3_search 19 = .ok (.aload_n 1, 1) := by decide +kernel
theorem dX3_search_20 : decode cX3_search 20 = .ok (.getfield 21, 3) := by decide +kernel
theorem dX3_search_23 : decode cX3_search 23 = .ok (.getfield 33, 3) := by decide +kernel
theorem dX3_search_26 : decode cX3_search 26 = .ok (.iload_n 2, 1) := by decide +kernel
theorem dX3_search_27 : decode cX3_search 27 = .ok (.invokestatic 36, 3) := by decide +kernel
theorem dX3_search_30 : decode cX3_search 30 = .ok (.aload_n 1, 1) := by decide +kernel
theorem dX3_search_31 : decode cX3_search 31 = .ok (.getfield 21, 3) := by decide +kernel
theorem dX3_search_34 : decode cX3_search 34 = .ok (.getfield 40, 3) := by decide +kernel
theorem dX3_search_37 : decode cX3_search 37 = .ok (.iload_n 2, 1) := by decide +kernel
theorem dX3_search_38 : decode cX3_search 38 = .ok (.invokestatic 36, 3) := by decide +kernel
theorem dX3_search_41 : decode cX3_search 41 = .ok (.invokevirtual 43, 3) := by decide +kernel
theorem dX3_search_44 : decode cX3_search 44 = .ok (.invokestatic 47, 3) := by decide +kernel
theorem dX3_search_47 : decode cX3_search 47 = .ok (.iinc 2 1, 3) := by decide +kernel
theorem dX3_search_50 : decode cX3_search 50 = .ok (.goto (-48), 3) := by decide +kernel
theorem dX3_search_53 : decode cX3_search 53 = .ok (.aload_n 0, 1) := by decide +kernel
theorem dX3_search_54 : decode cX3_search 54 = .ok (.aload_n 1, 1) := by decide +kernel
theorem dX3_search_55 : decode cX3_search 55 = .ok (.invokevirtual 51, 3) := by decide +kernel
theorem dX3_search_58 : decode cX3_search 58 = .ok (.aload_n 1, 1) := by decide +kernel
theorem dX3_search_59 : decode cX3_search 59 = .ok (.invokevirtual 55, 3) := by decide +kernel
theorem dX3_search_62 : decode cX3_search 62 = .ok (.ior, 1) := by decide +kernel
theorem dX3_search_63 : decode cX3_search 63 = .ok (.istore_n 2, 1) := by decide +kernel
theorem dX3_search_64 : decode cX3_search 64 = .ok (.iload_n 2, 1) := by decide +kernel
theorem dX3_search_65 : decode cX3_search 65 = .ok (.iconst 1, 1) := by decide +kernel
theorem dX3_search_66 : decode cX3_search 66 = .ok (.aload_n 1, 1) := by decide +kernel
theorem dX3_search_67 : decode cX3_search 67 = .ok (.getfield 21, 3) := by decide +kernel
theorem dX3_search_70 : decode cX3_search 70 = .ok (.invokevirtual 27, 3) := by decide +kernel
theorem dX3_search_73 : decode cX3_search 73 = .ok (.ishl, 1) := by decide +kernel
theorem dX3_search_74 : decode cX3_search 74 = .ok (.iconst 1, 1) := by decide +kernel
theorem dX3_search_75 : decode cX3_search 75 = .ok (.isub, 1) := by decide +kernel
theorem dX3_search_76 : decode cX3_search 76 = .ok (.if_icmp .ne 7, 3) := by decide +kernel
theorem dX3_search_79 : decode cX3_search 79 = .ok (.iconst 1, 1) := by decide +kernel
theorem dX3_search_80 : decode cX3_search 80 = .ok (.goto 4, 3) := by decide +kernel
theorem dX3_search_83 : decode cX3_search 83 = .ok (.iconst 0, 1) := by decide +kernel
theorem dX3_search_84 : decode cX3_search 84 = .ok (.istore_n 3, 1) := by decide +kernel
theorem dX3_search_85 : decode cX3_search 85 = .ok (.iconst 0, 1) := by decide +kernel
theorem dX3_search_86 : decode cX3_search 86 = .ok (.istore 4, 2) := by decide +kernel
theorem dX3_search_88 : decode cX3_search 88 = .ok (.iload 4, 2) := by decide +kernel
theorem dX3_search_90 : decode cX3_search 90 = .ok (.iconst 3, 1) := by decide +kernel
theorem dX3_search_91 : decode cX3_search 91 = .ok (.if_icmp .gt 30, 3) := by decide +kernel
theorem dX3_search_94 : decode cX3_search 94 = .ok (.iload_n 3, 1) := by decide +kernel
theorem dX3_search_95 : decode cX3_search 95 = .ok (.ifCond .eq 26, 3) := by decide +kernel
theorem dX3_search_98 : decode cX3_search 98 = .ok (.aload_n 0, 1) := by decide +kernel
theorem dX3_search_99 : decode cX3_search 99 = .ok (.iload 4, 2) := by decide +kernel
theorem dX3_search_101 : decode cX3_search 101 = .ok (.putfield 58, 3) := by decide +kernel
theorem dX3_search_104 : decode cX3_search 104 = .ok (.aload_n 0, 1) := by decide +kernel
theorem dX3_search_105 : decode cX3_search 105 = .ok (.aload_n 1, 1) := by decide +kernel
theorem dX3_search_106 : decode cX3_search 106 = .ok (.iconst 0, 1) := by decide +kernel
theorem dX3_search_107 : decode cX3_search 107 = .ok (.iconst 0, 1) := by decide +kernel
theorem dX3_search_108 : decode cX3_search 108 = .ok (.invokevirtual 62, 3) := by decide +kernel
theorem dX3_search_111 : decode cX3_search 111 = .ok (.ifCond .eq 4, 3) := by decide +kernel
theorem dX3_search_114 : decode cX3_search 114 = .ok (.return_, 1) := by decide +kernel
theorem dX3_search_115 : decode cX3_search 115 = .ok (.iinc 4 1, 3) := by decide +kernel
theorem dX3_search_118 : decode cX3_search 118 = .ok (.goto (-30), 3) := by decide +kernel
theorem dX3_search_121 : decode cX3_search 121 = .ok (.aload_n 0, 1) := by decide +kernel
theorem dX3_search_122 : decode cX3_search 122 = .ok (.bipush (-2), 2) := by decide +kernel
theorem dX3_search_124 : decode cX3_search 124 = .ok (.putfield 58, 3) := by decide +kernel
theorem dX3_search_127 : decode cX3_search 127 = .ok (.return_, 1) := by decide +kernel
theorem dX3_listCandidates_0 : decode cX3_listCandidates 0 = .ok (.iconst 0, 1) := by decide +kernel
theorem dX3_listCandidates_1 : decode cX3_listCandidates 1 = .ok (.istore_n 2, 1) := by decide +kernel
theorem dX3_listCandidates_2 : decode cX3_listCandidates 2 = .ok (.aload_n 0, 1) := by decide +kernel
theorem dX3_listCandidates_3 : decode cX3_listCandidates 3 = .ok (.iconst 0, 1) := by decide +kernel
theorem dX3_listCandidates_4 : decode cX3_listCandidates 4 = .ok (.putfield 66, 3) := by decide +kernel
theorem dX3_listCandidates_7 : decode cX3_listCandidates 7 = .ok (.iconst 0, 1) := by decide +kernel
theorem dX3_listCandidates_8 : decode cX3_listCandidates 8 = .ok (.istore_n 3, 1) := by decide +kernel
theorem dX3_listCandidates_9 : decode cX3_listCandidates 9 = .ok (.iload_n 3, 1) := by decide +kernel
theorem dX3_listCandidates_10 : decode cX3_listCandidates 10 = .ok (.bipush 30, 2) := by decide +kernel
theorem dX3_listCandidates_12 : decode cX3_listCandidates 12 = .ok (.if_icmp .ge 90, 3) := by decide +kernel
theorem dX3_listCandidates_15 : decode cX3_listCandidates 15 = .ok (.iconst 0, 1) := by decide +kernel
theorem dX3_listCandidates_16 : decode cX3_listCandidates 16 = .ok (.istore 4, 2) := by decide +kernel
theorem dX3_listCandidates_18 : decode cX3_listCandidates 18 = .ok (.iload 4, 2) := by decide +kernel
theorem dX3_listCandidates_20 : decode cX3_listCandidates 20 = .ok (.aload_n 1, 1) := by decide +kernel
theorem dX3_listCandidates_21 : decode cX3_listCandidates 21 = .ok (.getfield 21, 3) := by decide +kernel
theorem dX3_listCandidates_24 : decode cX3_listCandidates 24 = .ok (.invokevirtual 69, 3) := by decide +kernel
theorem dX3_listCandidates_27 : decode cX3_listCandidates 27 = .ok (.if_icmp .ge 69, 3) := by decide +kernel
theorem dX3_listCandidates_30 : decode cX3_listCandidates 30 = .ok (.aload_n 1, 1) := by decide +kernel
theorem dX3_listCandidates_31 : decode cX3_listCandidates 31 = .ok (.iload_n 3, 1) := by decide +kernel
theorem dX3_listCandidates_32 : decode cX3_listCandidates 32 = .ok (.invokevirtual 72, 3) := by decide +kernel
theorem dX3_listCandidates_35 : decode cX3_listCandidates 35 = .ok (.ifCond .eq 14, 3) := by decide +kernel
theorem dX3_listCandidates_38 : decode cX3_listCandidates 38 = .ok (.aload_n 0, 1) := by decide +kernel
theorem dX3_listCandidates_39 : decode cX3_listCandidates 39 = .ok (.aload_n 1, 1) := by decide +kernel
theorem dX3_listCandidates_40 : decode cX3_listCandidates 40 = .ok (.iload 4, 2) := by decide +kernel
theorem dX3_listCandidates_42 : decode cX3_listCandidates 42 = .ok (.iload_n 3, 1) := by decide +kernel
theorem dX3_listCandidates_43 : decode cX3_listCandidates 43 = .ok (.invokevirtual 76, 3) := by decide +kernel
theorem dX3_listCandidates_46 : decode cX3_listCandidates 46 = .ok (.goto 4, 3) := by decide +kernel
theorem dX3_listCandidates_49 : decode cX3_listCandidates 49 = .ok (.iconst 0, 1) := by decide +kernel
theorem dX3_listCandidates_50 : decode cX3_listCandidates 50 = .ok (.istore 5, 2) := by decide +kernel
theorem dX3_listCandidates_52 : decode cX3_listCandidates 52 = .ok (.iload 5, 2) := by decide +kernel
theorem dX3_listCandidates_54 : decode cX3_listCandidates 54 = .ok (.ifCond .eq 31, 3) := by decide +kernel
theorem dX3_listCandidates_57 : decode cX3_listCandidates 57 = .ok (.aload_n 0, 1) := by decide +kernel
theorem dX3_listCandidates_58 : decode cX3_listCandidates 58 = .ok (.getfield 9, 3) := by decide +kernel
theorem dX3_listCandidates_61 : decode cX3_listCandidates 61 = .ok (.aload_n 0, 1) := by decide +kernel
theorem dX3_listCandidates_62 : decode cX3_listCandidates 62 = .ok (.getfield 66, 3) := by decide +kernel
theorem dX3_listCandidates_65 : decode cX3_listCandidates 65 = .ok (.bipush 10, 2) := by decide +kernel
theorem dX3_listCandidates_67 : decode cX3_listCandidates 67 = .ok (.iload_n 3, 1) := by decide +kernel
theorem dX3_listCandidates_68 : decode cX3_listCandidates 68 = .ok (.imul, 1) := by decide +kernel
theorem dX3_listCandidates_69 : decode cX3_listCandidates 69 = .ok (.iload 4, 2) := by decide +kernel
theorem dX3_listCandidates_71 : decode cX3_listCandidates 71 = .ok (.iadd, 1) := by decide +kernel
theorem dX3_listCandidates_72 : decode cX3_listCandidates 72 = .ok (.invokestatic 47, 3) := by decide +kernel
theorem dX3_listCandidates_75 : decode cX3_listCandidates 75 = .ok (.aload_n 0, 1) := by decide +kernel
theorem dX3_listCandidates_76 : decode cX3_listCandidates 76 = .ok (.dup, 1) := by decide +kernel
theorem dX3_listCandidates_77 : decode cX3_listCandidates 77 = .ok (.getfield 66, 3) := by decide +kernel
theorem dX3_listCandidates_80 : decode cX3_listCandidates 80 = .ok (.iconst 1, 1) := by decide +kernel
theorem dX3_listCandidates_81 : decode cX3_listCandidates 81 = .ok (.iadd, 1) := by decide +kernel
theorem dX3_listCandidates_82 : decode cX3_listCandidates 82 = .ok (.putfield 66, 3) := by decide +kernel
theorem dX3_listCandidates_85 : decode cX3_listCandidates 85 = .ok (.iload_n 2, 1) := by decide +kernel
theorem dX3_listCandidates_86 : decode cX3_listCandidates 86 = .ok (.iload 5, 2) := by decide +kernel
theorem dX3_listCandidates_88 : decode cX3_listCandidates 88 = .ok (.ior, 1) := by decide +kernel
theorem dX3_listCandidates_89 : decode cX3_listCandidates 89 = .ok (.istore_n 2, 1) := by decide +kernel
theorem dX3_listCandidates_90 : decode cX3_listCandidates 90 = .ok (.iinc 4 1, 3) := by decide +kernel
theorem dX3_listCandidates_93 : decode cX3_listCandidates 93 = .ok (.goto (-75), 3) := by decide +kernel
theorem dX3_listCandidates_96 : decode cX3_listCandidates 96 = .ok (.iinc 3 1, 3) := by decide +kernel
theorem dX3_listCandidates_99 : decode cX3_listCandidates 99 = .ok (.goto (-90), 3) := by decide +kernel
theorem dX3_listCandidates_102 : decode cX3_listCandidates 102 = .ok (.iload_n 2, 1) := by decide +kernel
theorem dX3_listCandidates_103 : decode cX3_listCandidates 103 = .ok (.ireturn, 1) := by decide +kernel
theorem dX3_helpedBy_0 : decode cX3_helpedBy 0 = .ok (.iconst 0, 1) := by decide +kernel
theorem dX3_helpedBy_1 : decode cX3_helpedBy 1 = .ok (.istore 4, 2) := by decide +kernel
theorem dX3_helpedBy_3 : decode cX3_helpedBy 3 = .ok (.iconst 0, 1) := by decide +kernel
theorem dX3_helpedBy_4 : decode cX3_helpedBy 4 = .ok (.istore 5, 2) := by decide +kernel
theorem dX3_helpedBy_6 : decode cX3_helpedBy 6 = .ok (.iload 5, 2) := by decide +kernel
theorem dX3_helpedBy_8 : decode cX3_helpedBy 8 = .ok (.aload_n 1, 1) := by decide +kernel
theorem dX3_helpedBy_9 : decode cX3_helpedBy 9 = .ok (.getfield 21, 3) := by decide +kernel
theorem dX3_helpedBy_12 : decode cX3_helpedBy 12 = .ok (.invokevirtual 27, 3) := by decide +kernel
theorem dX3_helpedBy_15 : decode cX3_helpedBy 15 = .ok (.if_icmp .ge 78, 3) := by decide +kernel
theorem dX3_helpedBy_18 : decode cX3_helpedBy 18 = .ok (.aload_n 1, 1) := by decide +kernel
theorem dX3_helpedBy_19 : decode cX3_helpedBy 19 = .ok (.getfield 21, 3) := by decide +kernel
theorem dX3_helpedBy_22 : decode cX3_helpedBy 22 = .ok (.getfield 40, 3) := by decide +kernel
theorem dX3_helpedBy_25 : decode cX3_helpedBy 25 = .ok (.iload 5, 2) := by decide +kernel
theorem dX3_helpedBy_27 : decode cX3_helpedBy 27 = .ok (.invokestatic 36, 3) := by decide +kernel
theorem dX3_helpedBy_30 : decode cX3_helpedBy 30 = .ok (.istore 6, 2) := by decide +kernel
theorem dX3_helpedBy_32 : decode cX3_helpedBy 32 = .ok (.aload_n 1, 1) := by decide +kernel
theorem dX3_helpedBy_33 : decode cX3_helpedBy 33 = .ok (.getfield 21, 3) := by decide +kernel
theorem dX3_helpedBy_36 : decode cX3_helpedBy 36 = .ok (.getfield 33, 3) := by decide +kernel
theorem dX3_helpedBy_39 : decode cX3_helpedBy 39 = .ok (.iload 5, 2) := by decide +kernel
theorem dX3_helpedBy_41 : decode cX3_helpedBy 41 = .ok (.invokestatic 36, 3) := by decide +kernel
theorem dX3_helpedBy_44 : decode cX3_helpedBy 44 = .ok (.iload_n 2, 1) := by decide +kernel
theorem dX3_helpedBy_45 : decode cX3_helpedBy 45 = .ok (.if_icmp .ne 42, 3) := by decide +kernel
theorem dX3_helpedBy_48 : decode cX3_helpedBy 48 = .ok (.iload 6, 2) := by decide +kernel
theorem dX3_helpedBy_50 : decode cX3_helpedBy 50 = .ok (.iload_n 3, 1) := by decide +kernel
theorem dX3_helpedBy_51 : decode cX3_helpedBy 51 = .ok (.if_icmp .lt 36, 3) := by decide +kernel
theorem dX3_helpedBy_54 : decode cX3_helpedBy 54 = .ok (.aload_n 0, 1) := by decide +kernel
theorem dX3_helpedBy_55 : decode cX3_helpedBy 55 = .ok (.getfield 15, 3) := by decide +kernel
theorem dX3_helpedBy_58 : decode cX3_helpedBy 58 = .ok (.iload 5, 2) := by decide +kernel
theorem dX3_helpedBy_60 : decode cX3_helpedBy 60 = .ok (.invokestatic 36, 3) := by decide +kernel
theorem dX3_helpedBy_63 : decode cX3_helpedBy 63 = .ok (.iload_n 3, 1) := by decide +kernel
theorem dX3_helpedBy_64 : decode cX3_helpedBy 64 = .ok (.if_icmp .ge 23, 3) := by decide +kernel
theorem dX3_helpedBy_67 : decode cX3_helpedBy 67 = .ok (.aload_n 1, 1) := by decide +kernel
theorem dX3_helpedBy_68 : decode cX3_helpedBy 68 = .ok (.iload_n 2, 1) := by decide +kernel
theorem dX3_helpedBy_69 : decode cX3_helpedBy 69 = .ok (.iload 6, 2) := by decide +kernel
theorem dX3_helpedBy_71 : decode cX3_helpedBy 71 = .ok (.iload_n 3, 1) := by decide +kernel
theorem dX3_helpedBy_72 : decode cX3_helpedBy 72 = .ok (.invokevirtual 80, 3) := by decide +kernel
theorem dX3_helpedBy_75 : decode cX3_helpedBy 75 = .ok (.ifCond .eq 12, 3) := by decide +kernel
theorem dX3_helpedBy_78 : decode cX3_helpedBy 78 = .ok (.iload 4, 2) := by decide +kernel
theorem dX3_helpedBy_80 : decode cX3_helpedBy 80 = .ok (.iconst 1, 1) := by decide +kernel
theorem dX3_helpedBy_81 : decode cX3_helpedBy 81 = .ok (.iload 5, 2) := by decide +kernel
theorem dX3_helpedBy_83 : decode cX3_helpedBy 83 = .ok (.ishl, 1) := by decide +kernel
theorem dX3_helpedBy_84 : decode cX3_helpedBy 84 = .ok (.ior, 1) := by decide +kernel
theorem dX3_helpedBy_85 : decode cX3_helpedBy 85 = .ok (.istore 4, 2) := by decide +kernel
theorem dX3_helpedBy_87 : decode cX3_helpedBy 87 = .ok (.iinc 5 1, 3) := by decide +kernel
theorem dX3_helpedBy_90 : decode cX3_helpedBy 90 = .ok (.goto (-84), 3) := by decide +kernel
theorem dX3_helpedBy_93 : decode cX3_helpedBy 93 = .ok (.iload 4, 2) := by decide +kernel
theorem dX3_helpedBy_95 : decode cX3_helpedBy 95 = .ok (.ireturn, 1) := by decide +kernel
theorem dX3_completes_0 : decode cX3_completes 0 = .ok (.aload_n 0, 1) := by decide +kernel
theorem dX3_completes_1 : decode cX3_completes 1 = .ok (.aload_n 1, 1) := by decide +kernel
theorem dX3_completes_2 : decode cX3_completes 2 = .ok (.iload_n 2, 1) := by decide +kernel
theorem dX3_completes_3 : decode cX3_completes 3 = .ok (.invokevirtual 84, 3) := by decide +kernel
theorem dX3_completes_6 : decode cX3_completes 6 = .ok (.aload_n 0, 1) := by decide +kernel
theorem dX3_completes_7 : decode cX3_completes 7 = .ok (.getfield 88, 3) := by decide +kernel
theorem dX3_completes_10 : decode cX3_completes 10 = .ok (.istore 4, 2) := by decide +kernel
theorem dX3_completes_12 : decode cX3_completes 12 = .ok (.iload_n 2, 1) := by decide +kernel
theorem dX3_completes_13 : decode cX3_completes 13 = .ok (.aload_n 0, 1) := by decide +kernel
theorem dX3_completes_14 : decode cX3_completes 14 = .ok (.getfield 58, 3) := by decide +kernel
theorem dX3_completes_17 : decode cX3_completes 17 = .ok (.if_icmp .ge 26, 3) := by decide +kernel
theorem dX3_completes_20 : decode cX3_completes 20 = .ok (.aload_n 0, 1) := by decide +kernel
theorem dX3_completes_21 : decode cX3_completes 21 = .ok (.getfield 91, 3) := by decide +kernel
theorem dX3_completes_24 : decode cX3_completes 24 = .ok (.ifCond .eq 19, 3) := by decide +kernel
theorem dX3_completes_27 : decode cX3_completes 27 = .ok (.aload_n 0, 1) := by decide +kernel
theorem dX3_completes_28 : decode cX3_completes 28 = .ok (.getfield 91, 3) := by decide +kernel
theorem dX3_completes_31 : decode cX3_completes 31 = .ok (.invokestatic 94, 3) := by decide +kernel
theorem dX3_completes_34 : decode cX3_completes 34 = .ok (.aload_n 0, 1) := by decide +kernel
theorem dX3_completes_35 : decode cX3_completes 35 = .ok (.getfield 58, 3) := by decide +kernel
theorem dX3_completes_38 : decode cX3_completes 38 = .ok (.iload_n 2, 1) := by decide +kernel
theorem dX3_completes_39 : decode cX3_completes 39 = .ok (.isub, 1) := by decide +kernel
theorem dX3_completes_40 : decode cX3_completes 40 = .ok (.if_icmp .le 24, 3) := by decide +kernel
theorem dX3_completes_43 : decode cX3_completes 43 = .ok (.iload_n 2, 1) := by decide +kernel
theorem dX3_completes_44 : decode cX3_completes 44 = .ok (.aload_n 0, 1) := by decide +kernel
theorem dX3_completes_45 : decode cX3_completes 45 = .ok (.getfield 58, 3) := by decide +kernel
theorem dX3_completes_48 : decode cX3_completes 48 = .ok (.if_icmp .ne 14, 3) := by decide +kernel
theorem dX3_completes_51 : decode cX3_completes 51 = .ok (.aload_n 0, 1) := by decide +kernel
theorem dX3_completes_52 : decode cX3_completes 52 = .ok (.getfield 91, 3) := by decide +kernel
theorem dX3_completes_55 : decode cX3_completes 55 = .ok (.ifCond .ne 7, 3) := by decide +kernel
theorem dX3_completes_58 : decode cX3_completes 58 = .ok (.iconst 1, 1) := by decide +kernel
theorem dX3_completes_59 : decode cX3_completes 59 = .ok (.goto 4, 3) := by decide +kernel
theorem dX3_completes_62 : decode cX3_completes 62 = .ok (.iconst 0, 1) := by decide +kernel
theorem dX3_completes_63 : decode cX3_completes 63 = .ok (.ireturn, 1) := by decide +kernel
theorem dX3_completes_64 : decode cX3_completes 64 = .ok (.iload_n 3, 1) := by decide +kernel
theorem dX3_completes_65 : decode cX3_completes 65 = .ok (.istore 5, 2) := by decide +kernel
theorem dX3_completes_67 : decode cX3_completes 67 = .ok (.iload 5, 2) := by decide +kernel
theorem dX3_completes_69 : decode cX3_completes 69 = .ok (.aload_n 0, 1) := by decide +kernel
theorem dX3_completes_70 : decode cX3_completes 70 = .ok (.getfield 66, 3) := by decide +kernel
theorem dX3_completes_73 : decode cX3_completes 73 = .ok (.if_icmp .ge 41, 3) := by decide +kernel
theorem dX3_completes_76 : decode cX3_completes 76 = .ok (.aload_n 0, 1) := by decide +kernel
theorem dX3_completes_77 : decode cX3_completes 77 = .ok (.getfield 9, 3) := by decide +kernel
theorem dX3_completes_80 : decode cX3_completes 80 = .ok (.iload 5, 2) := by decide +kernel
theorem dX3_completes_82 : decode cX3_completes 82 = .ok (.invokestatic 36, 3) := by decide +kernel
theorem dX3_completes_85 : decode cX3_completes 85 = .ok (.bipush 10, 2) := by decide +kernel
theorem dX3_completes_87 : decode cX3_completes 87 = .ok (.idiv, 1) := by decide +kernel
theorem dX3_completes_88 : decode cX3_completes 88 = .ok (.iload 4, 2) := by decide +kernel
theorem dX3_completes_90 : decode cX3_completes 90 = .ok (.if_icmp .le 5, 3) := by decide +kernel
theorem dX3_completes_93 : decode cX3_completes 93 = .ok (.iconst 0, 1) := by decide +kernel
theorem dX3_completes_94 : decode cX3_completes 94 = .ok (.ireturn, 1) := by decide +kernel
theorem dX3_completes_95 : decode cX3_completes 95 = .ok (.aload_n 0, 1) := by decide +kernel
theorem dX3_completes_96 : decode cX3_completes 96 = .ok (.aload_n 1, 1) := by decide +kernel
theorem dX3_completes_97 : decode cX3_completes 97 = .ok (.iload_n 2, 1) := by decide +kernel
theorem dX3_completes_98 : decode cX3_completes 98 = .ok (.iload 5, 2) := by decide +kernel
theorem dX3_completes_100 : decode cX3_completes 100 = .ok (.invokevirtual 100, 3) := by decide +kernel
theorem dX3_completes_103 : decode cX3_completes 103 = .ok (.ifCond .eq 5, 3) := by decide +kernel
theorem dX3_completes_106 : decode cX3_completes 106 = .ok (.iconst 1, 1) := by decide +kernel
theorem dX3_completes_107 : decode cX3_completes 107 = .ok (.ireturn, 1) := by decide +kernel
theorem dX3_completes_108 : decode cX3_completes 108 = .ok (.iinc 5 1, 3) := by decide +kernel
theorem dX3_completes_111 : decode cX3_completes 111 = .ok (.goto (-44), 3) := by decide +kernel
theorem dX3_completes_114 : decode cX3_completes 114 = .ok (.iconst 0, 1) := by decide +kernel
theorem dX3_completes_115 : decode cX3_completes 115 = .ok (.ireturn, 1) := by decide +kernel
theorem dX3_completesBy_0 : decode cX3_completesBy 0 = .ok (.aload_n 0, 1) := by decide +kernel
theorem dX3_completesBy_1 : decode cX3_completesBy 1 = .ok (.getfield 9, 3) := by decide +kernel
theorem dX3_completesBy_4 : decode cX3_completesBy 4 = .ok (.iload_n 3, 1) := by decide +kernel
theorem dX3_completesBy_5 : decode cX3_completesBy 5 = .ok (.invokestatic 36, 3) := by decide +kernel
theorem dX3_completesBy_8 : decode cX3_completesBy 8 = .ok (.istore 4, 2) := by decide +kernel
theorem dX3_completesBy_10 : decode cX3_completesBy 10 = .ok (.iload_n 2, 1) := by decide +kernel
theorem dX3_completesBy_11 : decode cX3_completesBy 11 = .ok (.iconst 3, 1) := by decide +kernel
theorem dX3_completesBy_12 : decode cX3_completesBy 12 = .ok (.if_icmp .ge 28, 3) := by decide +kernel
theorem dX3_completesBy_15 : decode cX3_completesBy 15 = .ok (.iload_n 2, 1) := by decide +kernel
theorem dX3_completesBy_16 : decode cX3_completesBy 16 = .ok (.ifCond .le 26, 3) := by decide +kernel
theorem dX3_completesBy_19 : decode cX3_completesBy 19 = .ok (.aload_n 0, 1) := by decide +kernel
theorem dX3_completesBy_20 : decode cX3_completesBy 20 = .ok (.getfield 18, 3) := by decide +kernel
theorem dX3_completesBy_23 : decode cX3_completesBy 23 = .ok (.iload_n 2, 1) := by decide +kernel
theorem dX3_completesBy_24 : decode cX3_completesBy 24 = .ok (.iconst 1, 1) := by decide +kernel
theorem dX3_completesBy_25 : decode cX3_completesBy 25 = .ok (.isub, 1) := by decide +kernel
theorem dX3_completesBy_26 : decode cX3_completesBy 26 = .ok (.invokestatic 36, 3) := by decide +kernel
theorem dX3_completesBy_29 : decode cX3_completesBy 29 = .ok (.bipush 10, 2) := by decide +kernel
theorem dX3_completesBy_31 : decode cX3_completesBy 31 = .ok (.idiv, 1) := by decide +kernel
theorem dX3_completesBy_32 : decode cX3_completesBy 32 = .ok (.iload 4, 2) := by decide +kernel
theorem dX3_completesBy_34 : decode cX3_completesBy 34 = .ok (.bipush 10, 2) := by decide +kernel
theorem dX3_completesBy_36 : decode cX3_completesBy 36 = .ok (.idiv, 1) := by decide +kernel
theorem dX3_completesBy_37 : decode cX3_completesBy 37 = .ok (.if_icmp .ne 5, 3) := by decide +kernel
theorem dX3_completesBy_40 : decode cX3_completesBy 40 = .ok (.iconst 0, 1) := by decide +kernel
theorem dX3_completesBy_41 : decode cX3_completesBy 41 = .ok (.ireturn, 1) := by decide +kernel
theorem dX3_completesBy_42 : decode cX3_completesBy 42 = .ok (.aload_n 0, 1) := by decide +kernel
theorem dX3_completesBy_43 : decode cX3_completesBy 43 = .ok (.getfield 18, 3) := by decide +kernel
theorem dX3_completesBy_46 : decode cX3_completesBy 46 = .ok (.iload_n 2, 1) := by decide +kernel
theorem dX3_completesBy_47 : decode cX3_completesBy 47 = .ok (.iload 4, 2) := by decide +kernel
theorem dX3_completesBy_49 : decode cX3_completesBy 49 = .ok (.invokestatic 47, 3) := by decide +kernel
theorem dX3_completesBy_52 : decode cX3_completesBy 52 = .ok (.aload_n 0, 1) := by decide +kernel
theorem dX3_completesBy_53 : decode cX3_completesBy 53 = .ok (.aload_n 1, 1) := by decide +kernel
theorem dX3_completesBy_54 : decode cX3_completesBy 54 = .ok (.iload_n 2, 1) := by decide +kernel
theorem dX3_completesBy_55 : decode cX3_completesBy 55 = .ok (.iconst 1, 1) := by decide +kernel
theorem dX3_completesBy_56 : decode cX3_completesBy 56 = .ok (.iadd, 1) := by decide +kernel
theorem dX3_completesBy_57 : decode cX3_completesBy 57 = .ok (.iload_n 3, 1) := by decide +kernel
theorem dX3_completesBy_58 : decode cX3_completesBy 58 = .ok (.iconst 1, 1) := by decide +kernel
theorem dX3_completesBy_59 : decode cX3_completesBy 59 = .ok (.iadd, 1) := by decide +kernel
theorem dX3_completesBy_60 : decode cX3_completesBy 60 = .ok (.invokevirtual 62, 3) := by decide +kernel
theorem dX3_completesBy_63 : decode cX3_completesBy 63 = .ok (.ireturn, 1) := by decide +kernel
theorem dX3_lookAtWishes_0 : decode cX3_lookAtWishes 0 = .ok (.aload_n 0, 1) := by decide +kernel
theorem dX3_lookAtWishes_1 : decode cX3_lookAtWishes 1 = .ok (.bipush 30, 2) := by decide +kernel
theorem dX3_lookAtWishes_3 : decode cX3_lookAtWishes 3 = .ok (.putfield 88, 3) := by decide +kernel
theorem dX3_lookAtWishes_6 : decode cX3_lookAtWishes 6 = .ok (.aload_n 0, 1) := by decide +kernel
theorem dX3_lookAtWishes_7 : decode cX3_lookAtWishes 7 = .ok (.iconst 0, 1) := by decide +kernel
theorem dX3_lookAtWishes_8 : decode cX3_lookAtWishes 8 = .ok (.putfield 91, 3) := by decide +kernel
theorem dX3_lookAtWishes_11 : decode cX3_lookAtWishes 11 = .ok (.iconst 0, 1) := by decide +kernel
theorem dX3_lookAtWishes_12 : decode cX3_lookAtWishes 12 = .ok (.istore_n 3, 1) := by decide +kernel
theorem dX3_lookAtWishes_13 : decode cX3_lookAtWishes 13 = .ok (.iload_n 3, 1) := by decide +kernel
theorem dX3_lookAtWishes_14 : decode cX3_lookAtWishes 14 = .ok (.aload_n 1, 1) := by decide +kernel
theorem dX3_lookAtWishes_15 : decode cX3_lookAtWishes 15 = .ok (.getfield 21, 3) := by decide +kernel
theorem dX3_lookAtWishes_18 : decode cX3_lookAtWishes 18 = .ok (.invokevirtual 27, 3) := by decide +kernel
theorem dX3_lookAtWishes_21 : decode cX3_lookAtWishes 21 = .ok (.if_icmp .ge 82, 3) := by decide +kernel
theorem dX3_lookAtWishes_24 : decode cX3_lookAtWishes 24 = .ok (.aload_n 1, 1) := by decide +kernel
theorem dX3_lookAtWishes_25 : decode cX3_lookAtWishes 25 = .ok (.getfield 21, 3) := by decide +kernel
theorem dX3_lookAtWishes_28 : decode cX3_lookAtWishes 28 = .ok (.getfield 33, 3) := by decide +kernel
theorem dX3_lookAtWishes_31 : decode cX3_lookAtWishes 31 = .ok (.iload_n 3, 1) := by decide +kernel
theorem dX3_lookAtWishes_32 : decode cX3_lookAtWishes 32 = .ok (.invokestatic 36, 3) := by decide +kernel
theorem dX3_lookAtWishes_35 : decode cX3_lookAtWishes 35 = .ok (.istore 4, 2) := by decide +kernel
theorem dX3_lookAtWishes_37 : decode cX3_lookAtWishes 37 = .ok (.aload_n 1, 1) := by decide +kernel
theorem dX3_lookAtWishes_38 : decode cX3_lookAtWishes 38 = .ok (.getfield 21, 3) := by decide +kernel
theorem dX3_lookAtWishes_41 : decode cX3_lookAtWishes 41 = .ok (.getfield 40, 3) := by decide +kernel
theorem dX3_lookAtWishes_44 : decode cX3_lookAtWishes 44 = .ok (.iload_n 3, 1) := by decide +kernel
theorem dX3_lookAtWishes_45 : decode cX3_lookAtWishes 45 = .ok (.invokestatic 36, 3) := by decide +kernel
theorem dX3_lookAtWishes_48 : decode cX3_lookAtWishes 48 = .ok (.istore 5, 2) := by decide +kernel
theorem dX3_lookAtWishes_50 : decode cX3_lookAtWishes 50 = .ok (.aload_n 1, 1) := by decide +kernel
theorem dX3_lookAtWishes_51 : decode cX3_lookAtWishes 51 = .ok (.iload 4, 2) := by decide +kernel
theorem dX3_lookAtWishes_53 : decode cX3_lookAtWishes 53 = .ok (.iload 5, 2) := by decide +kernel
theorem dX3_lookAtWishes_55 : decode cX3_lookAtWishes 55 = .ok (.aload_n 0, 1) := by decide +kernel
theorem dX3_lookAtWishes_56 : decode cX3_lookAtWishes 56 = .ok (.iload_n 3, 1) := by decide +kernel
theorem dX3_lookAtWishes_57 : decode cX3_lookAtWishes 57 = .ok (.iload 4, 2) := by decide +kernel
theorem dX3_lookAtWishes_59 : decode cX3_lookAtWishes 59 = .ok (.iload 5, 2) := by decide +kernel
theorem dX3_lookAtWishes_61 : decode cX3_lookAtWishes 61 = .ok (.iload_n 2, 1) := by decide +kernel
theorem dX3_lookAtWishes_62 : decode cX3_lookAtWishes 62 = .ok (.invokevirtual 103, 3) := by decide +kernel
theorem dX3_lookAtWishes_65 : decode cX3_lookAtWishes 65 = .ok (.invokevirtual 80, 3) := by decide +kernel
theorem dX3_lookAtWishes_68 : decode cX3_lookAtWishes 68 = .ok (.ifCond .ne 29, 3) := by decide +kernel
theorem dX3_lookAtWishes_71 : decode cX3_lookAtWishes 71 = .ok (.aload_n 0, 1) := by decide +kernel
theorem dX3_lookAtWishes_72 : decode cX3_lookAtWishes 72 = .ok (.aload_n 0, 1) := by decide +kernel
theorem dX3_lookAtWishes_73 : decode cX3_lookAtWishes 73 = .ok (.getfield 88, 3) := by decide +kernel
theorem dX3_lookAtWishes_76 : decode cX3_lookAtWishes 76 = .ok (.iload 5, 2) := by decide +kernel
theorem dX3_lookAtWishes_78 : decode cX3_lookAtWishes 78 = .ok (.invokestatic 107, 3) := by decide +kernel
theorem dX3_lookAtWishes_81 : decode cX3_lookAtWishes 81 = .ok (.putfield 88, 3) := by decide +kernel
theorem dX3_lookAtWishes_84 : decode cX3_lookAtWishes 84 = .ok (.aload_n 0, 1) := by decide +kernel
theorem dX3_lookAtWishes_85 : decode cX3_lookAtWishes 85 = .ok (.dup, 1) := by decide +kernel
theorem dX3_lookAtWishes_86 : decode cX3_lookAtWishes 86 = .ok (.getfield 91, 3) := by decide +kernel
theorem dX3_lookAtWishes_89 : decode cX3_lookAtWishes 89 = .ok (.iconst 1, 1) := by decide +kernel
theorem dX3_lookAtWishes_90 : decode cX3_lookAtWishes 90 = .ok (.iload 4, 2) := by decide +kernel
theorem dX3_lookAtWishes_92 : decode cX3_lookAtWishes 92 = .ok (.ishl, 1) := by decide +kernel
theorem dX3_lookAtWishes_93 : decode cX3_lookAtWishes 93 = .ok (.ior, 1) := by decide +kernel
theorem dX3_lookAtWishes_94 : decode cX3_lookAtWishes 94 = .ok (.putfield 91, 3) := by decide +kernel
theorem dX3_lookAtWishes_97 : decode cX3_lookAtWishes 97 = .ok (.iinc 3 1, 3) := by decide +kernel
theorem dX3_lookAtWishes_100 : decode cX3_lookAtWishes 100 = .ok (.goto (-87), 3) := by decide +kernel
theorem dX3_lookAtWishes_103 : decode cX3_lookAtWishes 103 = .ok (.return_, 1) := by decide +kernel
theorem dX3_visitWith_0 : decode cX3_visitWith 0 = .ok (.aload_n 0, 1) := by decide +kernel
theorem dX3_visitWith_1 : decode cX3_visitWith 1 = .ok (.getfield 15, 3) := by decide +kernel
theorem dX3_visitWith_4 : decode cX3_visitWith 4 = .ok (.iload_n 1, 1) := by decide +kernel
theorem dX3_visitWith_5 : decode cX3_visitWith 5 = .ok (.invokestatic 36, 3) := by decide +kernel
theorem dX3_visitWith_8 : decode cX3_visitWith 8 = .ok (.istore 5, 2) := by decide +kernel
theorem dX3_visitWith_10 : decode cX3_visitWith 10 = .ok (.iconst 0, 1) := by decide +kernel
theorem dX3_visitWith_11 : decode cX3_visitWith 11 = .ok (.istore 6, 2) := by decide +kernel
theorem dX3_visitWith_13 : decode cX3_visitWith 13 = .ok (.iload 6, 2) := by decide +kernel
theorem dX3_visitWith_15 : decode cX3_visitWith 15 = .ok (.iload 4, 2) := by decide +kernel
theorem dX3_visitWith_17 : decode cX3_visitWith 17 = .ok (.if_icmp .ge 54, 3) := by decide +kernel
theorem dX3_visitWith_20 : decode cX3_visitWith 20 = .ok (.aload_n 0, 1) := by decide +kernel
theorem dX3_visitWith_21 : decode cX3_visitWith 21 = .ok (.getfield 18, 3) := by decide +kernel
theorem dX3_visitWith_24 : decode cX3_visitWith 24 = .ok (.iload 6, 2) := by decide +kernel
theorem dX3_visitWith_26 : decode cX3_visitWith 26 = .ok (.invokestatic 36, 3) := by decide +kernel
theorem dX3_visitWith_29 : decode cX3_visitWith 29 = .ok (.bipush 10, 2) := by decide +kernel
theorem dX3_visitWith_31 : decode cX3_visitWith 31 = .ok (.idiv, 1) := by decide +kernel
theorem dX3_visitWith_32 : decode cX3_visitWith 32 = .ok (.istore 7, 2) := by decide +kernel
theorem dX3_visitWith_34 : decode cX3_visitWith 34 = .ok (.aload_n 0, 1) := by decide +kernel
theorem dX3_visitWith_35 : decode cX3_visitWith 35 = .ok (.getfield 18, 3) := by decide +kernel
theorem dX3_visitWith_38 : decode cX3_visitWith 38 = .ok (.iload 6, 2) := by decide +kernel
theorem dX3_visitWith_40 : decode cX3_visitWith 40 = .ok (.invokestatic 36, 3) := by decide +kernel
theorem dX3_visitWith_43 : decode cX3_visitWith 43 = .ok (.bipush 10, 2) := by decide +kernel
theorem dX3_visitWith_45 : decode cX3_visitWith 45 = .ok (.irem, 1) := by decide +kernel
theorem dX3_visitWith_46 : decode cX3_visitWith 46 = .ok (.iload_n 2, 1) := by decide +kernel
theorem dX3_visitWith_47 : decode cX3_visitWith 47 = .ok (.if_icmp .ne 18, 3) := by decide +kernel
theorem dX3_visitWith_50 : decode cX3_visitWith 50 = .ok (.iload 7, 2) := by decide +kernel
theorem dX3_visitWith_52 : decode cX3_visitWith 52 = .ok (.iload_n 3, 1) := by decide +kernel
theorem dX3_visitWith_53 : decode cX3_visitWith 53 = .ok (.if_icmp .gt 12, 3) := by decide +kernel
theorem dX3_visitWith_56 : decode cX3_visitWith 56 = .ok (.iload 5, 2) := by decide +kernel
theorem dX3_visitWith_58 : decode cX3_visitWith 58 = .ok (.iload 7, 2) := by decide +kernel
theorem dX3_visitWith_60 : decode cX3_visitWith 60 = .ok (.invokestatic 112, 3) := by decide +kernel
theorem dX3_visitWith_63 : decode cX3_visitWith 63 = .ok (.istore 5, 2) := by decide +kernel
theorem dX3_visitWith_65 : decode cX3_visitWith 65 = .ok (.iinc 6 1, 3) := by decide +kernel
theorem dX3_visitWith_68 : decode cX3_visitWith 68 = .ok (.goto (-55), 3) := by decide +kernel
theorem dX3_visitWith_71 : decode cX3_visitWith 71 = .ok (.iload 5, 2) := by decide +kernel
theorem dX3_visitWith_73 : decode cX3_visitWith 73 = .ok (.ireturn, 1) := by decide +kernel
theorem dX5_init_0 : decode cX5_init 0 = .ok (.aload_n 0, 1) := by decide +kernel
theorem dX5_init_1 : decode cX5_init 1 = .ok (.invokespecial 3, 3) := by decide +kernel
theorem dX5_init_4 : decode cX5_init 4 = .ok (.aload_n 0, 1) := by decide +kernel
theorem dX5_init_5 : decode cX5_init 5 = .ok (.sipush 150, 3) := by decide +kernel
theorem dX5_init_8 : decode cX5_init 8 = .ok (.newarray .int, 2) := by decide +kernel
theorem dX5_init_10 : decode cX5_init 10 = .ok (.putfield 9, 3) := by decide +kernel
theorem dX5_init_13 : decode cX5_init 13 = .ok (.return_, 1) := by decide +kernel
theorem dX5_at_0 : decode cX5_at 0 = .ok (.iload_n 1, 1) := by decide +kernel
theorem dX5_at_1 : decode cX5_at 1 = .ok (.bipush 30, 2) := by decide +kernel
theorem dX5_at_3 : decode cX5_at 3 = .ok (.imul, 1) := by decide +kernel
theorem dX5_at_4 : decode cX5_at 4 = .ok (.iload_n 2, 1) := by decide +kernel
theorem dX5_at_5 : decode cX5_at 5 = .ok (.iadd, 1) := by decide +kernel
theorem dX5_at_6 : decode cX5_at 6 = .ok (.istore_n 3, 1) := by decide +kernel
theorem dX5_at_7 : decode cX5_at 7 = .ok (.iload_n 2, 1) := by decide +kernel
theorem dX5_at_8 : decode cX5_at 8 = .ok (.ifCond .lt 31, 3) := by decide +kernel
theorem dX5_at_11 : decode cX5_at 11 = .ok (.iload_n 2, 1) := by decide +kernel
theorem dX5_at_12 : decode cX5_at 12 = .ok (.bipush 30, 2) := by decide +kernel
theorem dX5_at_14 : decode cX5_at 14 = .ok (.if_icmp .ge 25, 3) := by decide +kernel
theorem dX5_at_17 : decode cX5_at 17 = .ok (.iload_n 3, 1) := by decide +kernel
theorem dX5_at_18 : decode cX5_at 18 = .ok (.ifCond .lt 21, 3) := by decide +kernel
theorem dX5_at_21 : decode cX5_at 21 = .ok (.iload_n 3, 1) := by decide +kernel
theorem dX5_at_22 : decode cX5_at 22 = .ok (.aload_n 0, 1) := by decide +kernel
theorem dX5_at_23 : decode cX5_at 23 = .ok (.getfield 9, 3) := by decide +kernel
theorem dX5_at_26 : decode cX5_at 26 = .ok (.arraylength, 1) := by decide +kernel
theorem dX5_at_27 : decode cX5_at 27 = .ok (.if_icmp .ge 12, 3) := by decide +kernel
theorem dX5_at_30 : decode cX5_at 30 = .ok (.aload_n 0, 1) := by decide +kernel
theorem dX5_at_31 : decode cX5_at 31 = .ok (.getfield 9, 3) := by decide +kernel
theorem dX5_at_34 : decode cX5_at 34 = .ok (.iload_n 3, 1) := by decide +kernel
theorem dX5_at_35 : decode cX5_at 35 = .ok (.iaload, 1) := by decide +kernel
theorem dX5_at_36 : decode cX5_at 36 = .ok (.goto 4, 3) := by decide +kernel
theorem dX5_at_39 : decode cX5_at 39 = .ok (.iconst 0, 1) := by decide +kernel
theorem dX5_at_40 : decode cX5_at 40 = .ok (.ireturn, 1) := by decide +kernel
theorem dX5_begin_0 : decode cX5_begin 0 = .ok (.iconst 0, 1) := by decide +kernel
theorem dX5_begin_1 : decode cX5_begin 1 = .ok (.istore_n 3, 1) := by decide +kernel
theorem dX5_begin_2 : decode cX5_begin 2 = .ok (.iload_n 3, 1) := by decide +kernel
theorem dX5_begin_3 : decode cX5_begin 3 = .ok (.bipush 30, 2) := by decide +kernel
theorem dX5_begin_5 : decode cX5_begin 5 = .ok (.if_icmp .ge 31, 3) := by decide +kernel
theorem dX5_begin_8 : decode cX5_begin 8 = .ok (.iload_n 1, 1) := by decide +kernel
theorem dX5_begin_9 : decode cX5_begin 9 = .ok (.iconst 5, 1) := by decide +kernel
theorem dX5_begin_10 : decode cX5_begin 10 = .ok (.invokestatic 15, 3) := by decide +kernel
theorem dX5_begin_13 : decode cX5_begin 13 = .ok (.ifCond .eq 23, 3) := by decide +kernel
theorem dX5_begin_16 : decode cX5_begin 16 = .ok (.aload_n 0, 1) := by decide +kernel
theorem dX5_begin_17 : decode cX5_begin 17 = .ok (.getfield 9, 3) := by decide +kernel
theorem dX5_begin_20 : decode cX5_begin 20 = .ok (.iload_n 1, 1) := by decide +kernel
theorem dX5_begin_21 : decode cX5_begin 21 = .ok (.bipush 30, 2) := by decide +kernel
theorem dX5_begin_23 : decode cX5_begin 23 = .ok (.imul, 1) := by decide +kernel
theorem dX5_begin_24 : decode cX5_begin 24 = .ok (.iload_n 3, 1) := by decide +kernel
theorem dX5_begin_25 : decode cX5_begin 25 = .ok (.iadd, 1) := by decide +kernel
theorem dX5_begin_26 : decode cX5_begin 26 = .ok (.iload_n 2, 1) := by decide +kernel
theorem dX5_begin_27 : decode cX5_begin 27 = .ok (.invokestatic 19, 3) := by decide +kernel
theorem dX5_begin_30 : decode cX5_begin 30 = .ok (.iinc 3 1, 3) := by decide +kernel
theorem dX5_begin_33 : decode cX5_begin 33 = .ok (.goto (-31), 3) := by decide +kernel
theorem dX5_begin_36 : decode cX5_begin 36 = .ok (.return_, 1) := by decide +kernel
theorem dX5_goOn_0 : decode cX5_goOn 0 = .ok (.iload_n 3, 1) := by decide +kernel
theorem dX5_goOn_1 : decode cX5_goOn 1 = .ok (.iconst 0, 1) := by decide +kernel
theorem dX5_goOn_2 : decode cX5_goOn 2 = .ok (.invokestatic 23, 3) := by decide +kernel
theorem dX5_goOn_5 : decode cX5_goOn 5 = .ok (.istore 5, 2) := by decide +kernel
theorem dX5_goOn_7 : decode cX5_goOn 7 = .ok (.iload 5, 2) := by decide +kernel
theorem dX5_goOn_9 : decode cX5_goOn 9 = .ok (.bipush 30, 2) := by decide +kernel
theorem dX5_goOn_11 : decode cX5_goOn 11 = .ok (.if_icmp .ge 44, 3) := by decide +kernel
theorem dX5_goOn_14 : decode cX5_goOn 14 = .ok (.iload_n 1, 1) := by decide +kernel
theorem dX5_goOn_15 : decode cX5_goOn 15 = .ok (.iconst 5, 1) := by decide +kernel
theorem dX5_goOn_16 : decode cX5_goOn 16 = .ok (.invokestatic 15, 3) := by decide +kernel
theorem dX5_goOn_19 : decode cX5_goOn 19 = .ok (.ifCond .eq 36, 3) := by decide +kernel
theorem dX5_goOn_22 : decode cX5_goOn 22 = .ok (.aload_n 0, 1) := by decide +kernel
theorem dX5_goOn_23 : decode cX5_goOn 23 = .ok (.getfield 9, 3) := by decide +kernel
theorem dX5_goOn_26 : decode cX5_goOn 26 = .ok (.iload_n 1, 1) := by decide +kernel
theorem dX5_goOn_27 : decode cX5_goOn 27 = .ok (.bipush 30, 2) := by decide +kernel
theorem dX5_goOn_29 : decode cX5_goOn 29 = .ok (.imul, 1) := by decide +kernel
theorem dX5_goOn_30 : decode cX5_goOn 30 = .ok (.iload 5, 2) := by decide +kernel
theorem dX5_goOn_32 : decode cX5_goOn 32 = .ok (.iadd, 1) := by decide +kernel
theorem dX5_goOn_33 : decode cX5_goOn 33 = .ok (.aload_n 0, 1) := by decide +kernel
theorem dX5_goOn_34 : decode cX5_goOn 34 = .ok (.iload_n 1, 1) := by decide +kernel
theorem dX5_goOn_35 : decode cX5_goOn 35 = .ok (.iload 5, 2) := by decide +kernel
theorem dX5_goOn_37 : decode cX5_goOn 37 = .ok (.invokevirtual 29, 3) := by decide +kernel
theorem dX5_goOn_40 : decode cX5_goOn 40 = .ok (.iload_n 2, 1) := by decide +kernel
theorem dX5_goOn_41 : decode cX5_goOn 41 = .ok (.iload 4, 2) := by decide +kernel
theorem dX5_goOn_43 : decode cX5_goOn 43 = .ok (.invokestatic 32, 3) := by decide +kernel
theorem dX5_goOn_46 : decode cX5_goOn 46 = .ok (.invokestatic 19, 3) := by decide +kernel
theorem dX5_goOn_49 : decode cX5_goOn 49 = .ok (.iinc 5 1, 3) := by decide +kernel
theorem dX5_goOn_52 : decode cX5_goOn 52 = .ok (.goto (-45), 3) := by decide +kernel
theorem dX5_goOn_55 : decode cX5_goOn 55 = .ok (.return_, 1) := by decide +kernel
theorem dX5_copy_0 : decode cX5_copy 0 = .ok (.aload_n 1, 1) := by decide +kernel
theorem dX5_copy_1 : decode cX5_copy 1 = .ok (.getfield 9, 3) := by decide +kernel
theorem dX5_copy_4 : decode cX5_copy 4 = .ok (.aload_n 0, 1) := by decide +kernel
theorem dX5_copy_5 : decode cX5_copy 5 = .ok (.getfield 9, 3) := by decide +kernel
theorem dX5_copy_8 : decode cX5_copy 8 = .ok (.invokestatic 36, 3) := by decide +kernel
theorem dX5_copy_11 : decode cX5_copy 11 = .ok (.return_, 1) := by decide +kernel
theorem dX5_letter_0 : decode cX5_letter 0 = .ok (.iload_n 0, 1) := by decide +kernel
theorem dX5_letter_1 : decode cX5_letter 1 = .ok (.iconst 2, 1) := by decide +kernel
theorem dX5_letter_2 : decode cX5_letter 2 = .ok (.iconst 5, 1) := by decide +kernel
theorem dX5_letter_3 : decode cX5_letter 3 = .ok (.iload_n 1, 1) := by decide +kernel
theorem dX5_letter_4 : decode cX5_letter 4 = .ok (.isub, 1) := by decide +kernel
theorem dX5_letter_5 : decode cX5_letter 5 = .ok (.imul, 1) := by decide +kernel
theorem dX5_letter_6 : decode cX5_letter 6 = .ok (.ishr, 1) := by decide +kernel
theorem dX5_letter_7 : decode cX5_letter 7 = .ok (.iconst 3, 1) := by decide +kernel
theorem dX5_letter_8 : decode cX5_letter 8 = .ok (.iand, 1) := by decide +kernel
theorem dX5_letter_9 : decode cX5_letter 9 = .ok (.ireturn, 1) := by decide +kernel
theorem dX5_goneOn_0 : decode cX5_goneOn 0 = .ok (.iconst 2, 1) := by decide +kernel
theorem dX5_goneOn_1 : decode cX5_goneOn 1 = .ok (.iconst 5, 1) := by decide +kernel
theorem dX5_goneOn_2 : decode cX5_goneOn 2 = .ok (.iload_n 1, 1) := by decide +kernel
theorem dX5_goneOn_3 : decode cX5_goneOn 3 = .ok (.isub, 1) := by decide +kernel
theorem dX5_goneOn_4 : decode cX5_goneOn 4 = .ok (.imul, 1) := by decide +kernel
theorem dX5_goneOn_5 : decode cX5_goneOn 5 = .ok (.istore_n 3, 1) := by decide +kernel
theorem dX5_goneOn_6 : decode cX5_goneOn 6 = .ok (.iload_n 0, 1) := by decide +kernel
theorem dX5_goneOn_7 : decode cX5_goneOn 7 = .ok (.iload_n 3, 1) := by decide +kernel
theorem dX5_goneOn_8 : decode cX5_goneOn 8 = .ok (.ishr, 1) := by decide +kernel
theorem dX5_goneOn_9 : decode cX5_goneOn 9 = .ok (.iload_n 2, 1) := by decide +kernel
theorem dX5_goneOn_10 : decode cX5_goneOn 10 = .ok (.iadd, 1) := by decide +kernel
theorem dX5_goneOn_11 : decode cX5_goneOn 11 = .ok (.iconst 3, 1) := by decide +kernel
theorem dX5_goneOn_12 : decode cX5_goneOn 12 = .ok (.iand, 1) := by decide +kernel
theorem dX5_goneOn_13 : decode cX5_goneOn 13 = .ok (.istore 4, 2) := by decide +kernel
theorem dX5_goneOn_15 : decode cX5_goneOn 15 = .ok (.iload_n 0, 1) := by decide +kernel
theorem dX5_goneOn_16 : decode cX5_goneOn 16 = .ok (.iconst 3, 1) := by decide +kernel
theorem dX5_goneOn_17 : decode cX5_goneOn 17 = .ok (.iload_n 3, 1) := by decide +kernel
theorem dX5_goneOn_18 : decode cX5_goneOn 18 = .ok (.ishl, 1) := by decide +kernel
theorem dX5_goneOn_19 : decode cX5_goneOn 19 = .ok (.iconst (-1), 1) := by decide +kernel
theorem dX5_goneOn_20 : decode cX5_goneOn 20 = .ok (.ixor, 1) := by decide +kernel
theorem dX5_goneOn_21 : decode cX5_goneOn 21 = .ok (.iand, 1) := by decide +kernel
theorem dX5_goneOn_22 : decode cX5_goneOn 22 = .ok (.iload 4, 2) := by decide +kernel
theorem dX5_goneOn_24 : decode cX5_goneOn 24 = .ok (.iload_n 3, 1) := by decide +kernel
theorem dX5_goneOn_25 : decode cX5_goneOn 25 = .ok (.ishl, 1) := by decide +kernel
theorem dX5_goneOn_26 : decode cX5_goneOn 26 = .ok (.ior, 1) := by decide +kernel
theorem dX5_goneOn_27 : decode cX5_goneOn 27 = .ok (.ireturn, 1) := by decide +kernel
theorem dX5_unlike_0 : decode cX5_unlike 0 = .ok (.iload_n 0, 1) := by decide +kernel
theorem dX5_unlike_1 : decode cX5_unlike 1 = .ok (.iload_n 1, 1) := by decide +kernel
theorem dX5_unlike_2 : decode cX5_unlike 2 = .ok (.ixor, 1) := by decide +kernel
theorem dX5_unlike_3 : decode cX5_unlike 3 = .ok (.istore_n 2, 1) := by decide +kernel
theorem dX5_unlike_4 : decode cX5_unlike 4 = .ok (.iload_n 2, 1) := by decide +kernel
theorem dX5_unlike_5 : decode cX5_unlike 5 = .ok (.iload_n 2, 1) := by decide +kernel
theorem dX5_unlike_6 : decode cX5_unlike 6 = .ok (.iconst 1, 1) := by decide +kernel
theorem dX5_unlike_7 : decode cX5_unlike 7 = .ok (.ishr, 1) := by decide +kernel
theorem dX5_unlike_8 : decode cX5_unlike 8 = .ok (.ior, 1) := by decide +kernel
theorem dX5_unlike_9 : decode cX5_unlike 9 = .ok (.sipush 1365, 3) := by decide +kernel
theorem dX5_unlike_12 : decode cX5_unlike 12 = .ok (.iand, 1) := by decide +kernel
theorem dX5_unlike_13 : decode cX5_unlike 13 = .ok (.invokestatic 40, 3) := by decide +kernel
theorem dX5_unlike_16 : decode cX5_unlike 16 = .ok (.ireturn, 1) := by decide +kernel
theorem dX5_unlikeMarks_0 : decode cX5_unlikeMarks 0 = .ok (.iconst 0, 1) := by decide +kernel
theorem dX5_unlikeMarks_1 : decode cX5_unlikeMarks 1 = .ok (.istore_n 2, 1) := by decide +kernel
theorem dX5_unlikeMarks_2 : decode cX5_unlikeMarks 2 = .ok (.iconst 0, 1) := by decide +kernel
theorem dX5_unlikeMarks_3 : decode cX5_unlikeMarks 3 = .ok (.istore_n 3, 1) := by decide +kernel
theorem dX5_unlikeMarks_4 : decode cX5_unlikeMarks 4 = .ok (.iload_n 3, 1) := by decide +kernel
theorem dX5_unlikeMarks_5 : decode cX5_unlikeMarks 5 = .ok (.bipush 6, 2) := by decide +kernel
theorem dX5_unlikeMarks_7 : decode cX5_unlikeMarks 7 = .ok (.if_icmp .ge 32, 3) := by decide +kernel
theorem dX5_unlikeMarks_10 : decode cX5_unlikeMarks 10 = .ok (.iload_n 2, 1) := by decide +kernel
theorem dX5_unlikeMarks_11 : decode cX5_unlikeMarks 11 = .ok (.iload_n 0, 1) := by decide +kernel
theorem dX5_unlikeMarks_12 : decode cX5_unlikeMarks 12 = .ok (.iload_n 3, 1) := by decide +kernel
theorem dX5_unlikeMarks_13 : decode cX5_unlikeMarks 13 = .ok (.invokestatic 46, 3) := by decide +kernel
theorem dX5_unlikeMarks_16 : decode cX5_unlikeMarks 16 = .ok (.iload_n 1, 1) := by decide +kernel
theorem dX5_unlikeMarks_17 : decode cX5_unlikeMarks 17 = .ok (.iload_n 3, 1) := by decide +kernel
theorem dX5_unlikeMarks_18 : decode cX5_unlikeMarks 18 = .ok (.invokestatic 46, 3) := by decide +kernel
theorem dX5_unlikeMarks_21 : decode cX5_unlikeMarks 21 = .ok (.if_icmp .eq 9, 3) := by decide +kernel
theorem dX5_unlikeMarks_24 : decode cX5_unlikeMarks 24 = .ok (.iconst 1, 1) := by decide +kernel
theorem dX5_unlikeMarks_25 : decode cX5_unlikeMarks 25 = .ok (.iload_n 3, 1) := by decide +kernel
theorem dX5_unlikeMarks_26 : decode cX5_unlikeMarks 26 = .ok (.ishl, 1) := by decide +kernel
theorem dX5_unlikeMarks_27 : decode cX5_unlikeMarks 27 = .ok (.goto 4, 3) := by decide +kernel
theorem dX5_unlikeMarks_30 : decode cX5_unlikeMarks 30 = .ok (.iconst 0, 1) := by decide +kernel
theorem dX5_unlikeMarks_31 : decode cX5_unlikeMarks 31 = .ok (.ior, 1) := by decide +kernel
theorem dX5_unlikeMarks_32 : decode cX5_unlikeMarks 32 = .ok (.istore_n 2, 1) := by decide +kernel
theorem dX5_unlikeMarks_33 : decode cX5_unlikeMarks 33 = .ok (.iinc 3 1, 3) := by decide +kernel
theorem dX5_unlikeMarks_36 : decode cX5_unlikeMarks 36 = .ok (.goto (-32), 3) := by decide +kernel
theorem dX5_unlikeMarks_39 : decode cX5_unlikeMarks 39 = .ok (.iload_n 2, 1) := by decide +kernel
theorem dX5_unlikeMarks_40 : decode cX5_unlikeMarks 40 = .ok (.ireturn, 1) := by decide +kernel
theorem dX5_digits_0 : decode cX5_digits 0 = .ok (.iconst 0, 1) := by decide +kernel
theorem dX5_digits_1 : decode cX5_digits 1 = .ok (.istore_n 2, 1) := by decide +kernel
theorem dX5_digits_2 : decode cX5_digits 2 = .ok (.iconst 0, 1) := by decide +kernel
theorem dX5_digits_3 : decode cX5_digits 3 = .ok (.istore_n 3, 1) := by decide +kernel
theorem dX5_digits_4 : decode cX5_digits 4 = .ok (.iload_n 3, 1) := by decide +kernel
theorem dX5_digits_5 : decode cX5_digits 5 = .ok (.iload_n 1, 1) := by decide +kernel
theorem dX5_digits_6 : decode cX5_digits 6 = .ok (.if_icmp .ge 22, 3) := by decide +kernel
theorem dX5_digits_9 : decode cX5_digits 9 = .ok (.bipush 10, 2) := by decide +kernel
theorem dX5_digits_11 : decode cX5_digits 11 = .ok (.iload_n 2, 1) := by decide +kernel
theorem dX5_digits_12 : decode cX5_digits 12 = .ok (.imul, 1) := by decide +kernel
theorem dX5_digits_13 : decode cX5_digits 13 = .ok (.iload_n 0, 1) := by decide +kernel
theorem dX5_digits_14 : decode cX5_digits 14 = .ok (.iload_n 3, 1) := by decide +kernel
theorem dX5_digits_15 : decode cX5_digits 15 = .ok (.invokestatic 46, 3) := by decide +kernel
theorem dX5_digits_18 : decode cX5_digits 18 = .ok (.iadd, 1) := by decide +kernel
theorem dX5_digits_19 : decode cX5_digits 19 = .ok (.iconst 1, 1) := by decide +kernel
theorem dX5_digits_20 : decode cX5_digits 20 = .ok (.iadd, 1) := by decide +kernel
theorem dX5_digits_21 : decode cX5_digits 21 = .ok (.istore_n 2, 1) := by decide +kernel
theorem dX5_digits_22 : decode cX5_digits 22 = .ok (.iinc 3 1, 3) := by decide +kernel
theorem dX5_digits_25 : decode cX5_digits 25 = .ok (.goto (-21), 3) := by decide +kernel
theorem dX5_digits_28 : decode cX5_digits 28 = .ok (.iload_n 2, 1) := by decide +kernel
theorem dX5_digits_29 : decode cX5_digits 29 = .ok (.ireturn, 1) := by decide +kernel
theorem dX6_init_0 : decode cX6_init 0 = .ok (.aload_n 0, 1) := by decide +kernel
theorem dX6_init_1 : decode cX6_init 1 = .ok (.invokespecial 3, 3) := by decide +kernel
theorem dX6_init_4 : decode cX6_init 4 = .ok (.aload_n 0, 1) := by decide +kernel
theorem dX6_init_5 : decode cX6_init 5 = .ok (.aload_n 1, 1) := by decide +kernel
theorem dX6_init_6 : decode cX6_init 6 = .ok (.putfield 9, 3) := by decide +kernel
theorem dX6_init_9 : decode cX6_init 9 = .ok (.aload_n 0, 1) := by decide +kernel
theorem dX6_init_10 : decode cX6_init 10 = .ok (.aload_n 2, 1) := by decide +kernel
theorem dX6_init_11 : decode cX6_init 11 = .ok (.putfield 15, 3) := by decide +kernel
theorem dX6_init_14 : decode cX6_init 14 = .ok (.return_, 1) := by decide +kernel
theorem dX6_read_0 : decode cX6_read 0 = .ok (.aload_n 0, 1) := by decide +kernel
theorem dX6_read_1 : decode cX6_read 1 = .ok (.aload_n 1, 1) := by decide +kernel
theorem dX6_read_2 : decode cX6_read 2 = .ok (.putfield 15, 3) := by decide +kernel
theorem dX6_read_5 : decode cX6_read 5 = .ok (.aload_n 0, 1) := by decide +kernel
theorem dX6_read_6 : decode cX6_read 6 = .ok (.getfield 15, 3) := by decide +kernel
theorem dX6_read_9 : decode cX6_read 9 = .ok (.invokevirtual 19, 3) := by decide +kernel
theorem dX6_read_12 : decode cX6_read 12 = .ok (.aload_n 0, 1) := by decide +kernel
theorem dX6_read_13 : decode cX6_read 13 = .ok (.iconst 0, 1) := by decide +kernel
theorem dX6_read_14 : decode cX6_read 14 = .ok (.putfield 24, 3) := by decide +kernel
theorem dX6_read_17 : decode cX6_read 17 = .ok (.aload_n 0, 1) := by decide +kernel
theorem dX6_read_18 : decode cX6_read 18 = .ok (.getfield 9, 3) := by decide +kernel
theorem dX6_read_21 : decode cX6_read 21 = .ok (.iload_n 2, 1) := by decide +kernel
theorem dX6_read_22 : decode cX6_read 22 = .ok (.invokevirtual 28, 3) := by decide +kernel
theorem dX6_read_25 : decode cX6_read 25 = .ok (.iconst 1, 1) := by decide +kernel
theorem dX6_read_26 : decode cX6_read 26 = .ok (.istore_n 3, 1) := by decide +kernel
theorem dX6_read_27 : decode cX6_read 27 = .ok (.iconst 0, 1) := by decide +kernel
theorem dX6_read_28 : decode cX6_read 28 = .ok (.istore 4, 2) := by decide +kernel
theorem dX6_read_30 : decode cX6_read 30 = .ok (.iload 4, 2) := by decide +kernel
theorem dX6_read_32 : decode cX6_read 32 = .ok (.sipush 800, 3) := by decide +kernel
theorem dX6_read_35 : decode cX6_read 35 = .ok (.if_icmp .gt 48, 3) := by decide +kernel
theorem dX6_read_38 : decode cX6_read 38 = .ok (.iload_n 3, 1) := by decide +kernel
theorem dX6_read_39 : decode cX6_read 39 = .ok (.ifCond .eq 44, 3) := by decide +kernel
theorem dX6_read_42 : decode cX6_read 42 = .ok (.aload_n 0, 1) := by decide +kernel
theorem dX6_read_43 : decode cX6_read 43 = .ok (.invokevirtual 34, 3) := by decide +kernel
theorem dX6_read_46 : decode cX6_read 46 = .ok (.ifCond .eq 18, 3) := by decide +kernel
theorem dX6_read_49 : decode cX6_read 49 = .ok (.aload_n 0, 1) := by decide +kernel
theorem dX6_read_50 : decode cX6_read 50 = .ok (.getfield 9, 3) := by decide +kernel
theorem dX6_read_53 : decode cX6_read 53 = .ok (.getfield 38, 3) := by decide +kernel
theorem dX6_read_56 : decode cX6_read 56 = .ok (.iconst 4, 1) := by decide +kernel
theorem dX6_read_57 : decode cX6_read 57 = .ok (.if_icmp .ne 7, 3) := by decide +kernel
theorem dX6_read_60 : decode cX6_read 60 = .ok (.iconst 1, 1) := by decide +kernel
theorem dX6_read_61 : decode cX6_read 61 = .ok (.goto 4, 3) := by decide +kernel
theorem dX6_read_64 : decode cX6_read 64 = .ok (.iconst 0, 1) := by decide +kernel
theorem dX6_read_65 : decode cX6_read 65 = .ok (.istore_n 3, 1) := by decide +kernel
theorem dX6_read_66 : decode cX6_read 66 = .ok (.iload_n 3, 1) := by decide +kernel
theorem dX6_read_67 : decode cX6_read 67 = .ok (.ifCond .eq 10, 3) := by decide +kernel
theorem dX6_read_70 : decode cX6_read 70 = .ok (.aload_n 0, 1) := by decide +kernel
theorem dX6_read_71 : decode cX6_read 71 = .ok (.getfield 9, 3) := by decide +kernel
theorem dX6_read_74 : decode cX6_read 74 = .ok (.invokevirtual 41, 3) := by decide +kernel
theorem dX6_read_77 : decode cX6_read 77 = .ok (.iinc 4 1, 3) := by decide +kernel
theorem dX6_read_80 : decode cX6_read 80 = .ok (.goto (-50), 3) := by decide +kernel
theorem dX6_read_83 : decode cX6_read 83 = .ok (.aload_n 0, 1) := by decide +kernel
theorem dX6_read_84 : decode cX6_read 84 = .ok (.getfield 24, 3) := by decide +kernel
theorem dX6_read_87 : decode cX6_read 87 = .ok (.ifCond .ne 48, 3) := by decide +kernel
theorem dX6_read_90 : decode cX6_read 90 = .ok (.aload_n 0, 1) := by decide +kernel
theorem dX6_read_91 : decode cX6_read 91 = .ok (.aload_n 0, 1) := by decide +kernel
theorem dX6_read_92 : decode cX6_read 92 = .ok (.getfield 9, 3) := by decide +kernel
theorem dX6_read_95 : decode cX6_read 95 = .ok (.getfield 44, 3) := by decide +kernel
theorem dX6_read_98 : decode cX6_read 98 = .ok (.putfield 47, 3) := by decide +kernel
theorem dX6_read_101 : decode cX6_read 101 = .ok (.aload_n 0, 1) := by decide +kernel
theorem dX6_read_102 : decode cX6_read 102 = .ok (.aload_n 0, 1) := by decide +kernel
theorem dX6_read_103 : decode cX6_read 103 = .ok (.getfield 9, 3) := by decide +kernel
theorem dX6_read_106 : decode cX6_read 106 = .ok (.getfield 38, 3) := by decide +kernel
theorem dX6_read_109 : decode cX6_read 109 = .ok (.ifCond .eq 7, 3) := by decide +kernel
theorem dX6_read_112 : decode cX6_read 112 = .ok (.iconst 1, 1) := by decide +kernel
theorem dX6_read_113 : decode cX6_read 113 = .ok (.goto 19, 3) := by decide +kernel
theorem dX6_read_116 : decode cX6_read 116 = .ok (.aload_n 0, 1) := by decide +kernel
theorem dX6_read_117 : decode cX6_read 117 = .ok (.getfield 15, 3) := by decide +kernel
theorem dX6_read_120 : decode cX6_read 120 = .ok (.invokevirtual 50, 3) := by decide +kernel
theorem dX6_read_123 : decode cX6_read 123 = .ok (.ifCond .ne 8, 3) := by decide +kernel
theorem dX6_read_126 : decode cX6_read 126 = .ok (.bipush 6, 2) := by decide +kernel
theorem dX6_read_128 : decode cX6_read 128 = .ok (.goto 4, 3) := by decide +kernel
theorem dX6_read_131 : decode cX6_read 131 = .ok (.iconst 0, 1) := by decide +kernel
theorem dX6_read_132 : decode cX6_read 132 = .ok (.putfield 24, 3) := by decide +kernel
theorem dX6_read_135 : decode cX6_read 135 = .ok (.aload_n 0, 1) := by decide +kernel
theorem dX6_read_136 : decode cX6_read 136 = .ok (.getfield 24, 3) := by decide +kernel
theorem dX6_read_139 : decode cX6_read 139 = .ok (.ireturn, 1) := by decide +kernel
theorem dX6_fail_0 : decode cX6_fail 0 = .ok (.aload_n 0, 1) := by decide +kernel
theorem dX6_fail_1 : decode cX6_fail 1 = .ok (.iload_n 1, 1) := by decide +kernel
theorem dX6_fail_2 : decode cX6_fail 2 = .ok (.putfield 24, 3) := by decide +kernel
theorem dX6_fail_5 : decode cX6_fail 5 = .ok (.iconst 0, 1) := by decide +kernel
theorem dX6_fail_6 : decode cX6_fail 6 = .ok (.ireturn, 1) := by decide +kernel
theorem dX6_line_0 : decode cX6_line 0 = .ok (.aload_n 0, 1) := by decide +kernel
theorem dX6_line_1 : decode cX6_line 1 = .ok (.aload_n 0, 1) := by decide +kernel
theorem dX6_line_2 : decode cX6_line 2 = .ok (.getfield 9, 3) := by decide +kernel
theorem dX6_line_5 : decode cX6_line 5 = .ok (.getfield 44, 3) := by decide +kernel
theorem dX6_line_8 : decode cX6_line 8 = .ok (.putfield 47, 3) := by decide +kernel
theorem dX6_line_11 : decode cX6_line 11 = .ok (.aload_n 0, 1) := by decide +kernel
theorem dX6_line_12 : decode cX6_line 12 = .ok (.invokevirtual 54, 3) := by decide +kernel
theorem dX6_line_15 : decode cX6_line 15 = .ok (.astore_n 1, 1) := by decide +kernel
theorem dX6_line_16 : decode cX6_line 16 = .ok (.aload_n 1, 1) := by decide +kernel
theorem dX6_line_17 : decode cX6_line 17 = .ok (.ifnonnull 9, 3) := by decide +kernel
theorem dX6_line_20 : decode cX6_line 20 = .ok (.aload_n 0, 1) := by decide +kernel
theorem dX6_line_21 : decode cX6_line 21 = .ok (.iconst 1, 1) := by decide +kernel
theorem dX6_line_22 : decode cX6_line 22 = .ok (.invokevirtual 58, 3) := by decide +kernel
theorem dX6_line_25 : decode cX6_line 25 = .ok (.ireturn, 1) := by decide +kernel
theorem dX6_line_26 : decode cX6_line 26 = .ok (.aload_n 1, 1) := by decide +kernel
theorem dX6_line_27 : decode cX6_line 27 = .ok (.getstatic 62, 3) := by decide +kernel
theorem dX6_line_30 : decode cX6_line 30 = .ok (.if_acmp .eq 23, 3) := by decide +kernel
theorem dX6_line_33 : decode cX6_line 33 = .ok (.aload_n 0, 1) := by decide +kernel
theorem dX6_line_34 : decode cX6_line 34 = .ok (.getfield 15, 3) := by decide +kernel
theorem dX6_line_37 : decode cX6_line 37 = .ok (.getstatic 62, 3) := by decide +kernel
theorem dX6_line_40 : decode cX6_line 40 = .ok (.invokevirtual 68, 3) := by decide +kernel
theorem dX6_line_43 : decode cX6_line 43 = .ok (.ifCond .ne 10, 3) := by decide +kernel
theorem dX6_line_46 : decode cX6_line 46 = .ok (.aload_n 0, 1) := by decide +kernel
theorem dX6_line_47 : decode cX6_line 47 = .ok (.bipush 6, 2) := by decide +kernel
theorem dX6_line_49 : decode cX6_line 49 = .ok (.invokevirtual 58, 3) := by decide +kernel
theorem dX6_line_52 : decode cX6_line 52 = .ok (.ireturn, 1) := by decide +kernel
theorem dX6_line_53 : decode cX6_line 53 = .ok (.aload_n 0, 1) := by decide +kernel
theorem dX6_line_54 : decode cX6_line 54 = .ok (.getfield 15, 3) := by decide +kernel
theorem dX6_line_57 : decode cX6_line 57 = .ok (.aload_n 1, 1) := by decide +kernel
theorem dX6_line_58 : decode cX6_line 58 = .ok (.invokevirtual 68, 3) := by decide +kernel
theorem dX6_line_61 : decode cX6_line 61 = .ok (.aload_n 1, 1) := by decide +kernel
theorem dX6_line_62 : decode cX6_line 62 = .ok (.getfield 72, 3) := by decide +kernel
theorem dX6_line_65 : decode cX6_line 65 = .ok (.if_icmp .lt 20, 3) := by decide +kernel
theorem dX6_line_68 : decode cX6_line 68 = .ok (.aload_n 0, 1) := by decide +kernel
theorem dX6_line_69 : decode cX6_line 69 = .ok (.aload_n 1, 1) := by decide +kernel
theorem dX6_line_70 : decode cX6_line 70 = .ok (.getstatic 62, 3) := by decide +kernel
theorem dX6_line_73 : decode cX6_line 73 = .ok (.if_acmp .ne 7, 3) := by decide +kernel
theorem dX6_line_76 : decode cX6_line 76 = .ok (.iconst 3, 1) := by decide +kernel
theorem dX6_line_77 : decode cX6_line 77 = .ok (.goto 4, 3) := by decide +kernel
theorem dX6_line_80 : decode cX6_line 80 = .ok (.iconst 5, 1) := by decide +kernel
theorem dX6_line_81 : decode cX6_line 81 = .ok (.invokevirtual 58, 3) := by decide +kernel
theorem dX6_line_84 : decode cX6_line 84 = .ok (.ireturn, 1) := by decide +kernel
theorem dX6_line_85 : decode cX6_line 85 = .ok (.aload_n 0, 1) := by decide +kernel
theorem dX6_line_86 : decode cX6_line 86 = .ok (.getfield 9, 3) := by decide +kernel
theorem dX6_line_89 : decode cX6_line 89 = .ok (.invokevirtual 41, 3) := by decide +kernel
theorem dX6_line_92 : decode cX6_line 92 = .ok (.getstatic 75, 3) := by decide +kernel
theorem dX6_line_95 : decode cX6_line 95 = .ok (.aload_n 1, 1) := by decide +kernel
theorem dX6_line_96 : decode cX6_line 96 = .ok (.invokevirtual 81, 3) := by decide +kernel
theorem dX6_line_99 : decode cX6_line 99 = .ok (.iaload, 1) := by decide +kernel
theorem dX6_line_100 : decode cX6_line 100 = .ok (.tableswitch 88 1 6 #[40, 48, 56, 64, 72, 80], 40) := by decide +kernel
theorem dX6_line_140 : decode cX6_line 140 = .ok (.aload_n 0, 1) := by decide +kernel
theorem dX6_line_141 : decode cX6_line 141 = .ok (.invokevirtual 84, 3) := by decide +kernel
theorem dX6_line_144 : decode cX6_line 144 = .ok (.istore_n 2, 1) := by decide +kernel
theorem dX6_line_145 : decode cX6_line 145 = .ok (.goto 48, 3) := by decide +kernel
theorem dX6_line_148 : decode cX6_line 148 = .ok (.aload_n 0, 1) := by decide +kernel
theorem dX6_line_149 : decode cX6_line 149 = .ok (.invokevirtual 87, 3) := by decide +kernel
theorem dX6_line_152 : decode cX6_line 152 = .ok (.istore_n 2, 1) := by decide +kernel
theorem dX6_line_153 : decode cX6_line 153 = .ok (.goto 40, 3) := by decide +kernel
theorem dX6_line_156 : decode cX6_line 156 = .ok (.aload_n 0, 1) := by decide +kernel
theorem dX6_line_157 : decode cX6_line 157 = .ok (.invokevirtual 90, 3) := by decide +kernel
theorem dX6_line_160 : decode cX6_line 160 = .ok (.istore_n 2, 1) := by decide +kernel
theorem dX6_line_161 : decode cX6_line 161 = .ok (.goto 32, 3) := by decide +kernel
theorem dX6_line_164 : decode cX6_line 164 = .ok (.aload_n 0, 1) := by decide +kernel
theorem dX6_line_165 : decode cX6_line 165 = .ok (.invokevirtual 93, 3) := by decide +kernel
theorem dX6_line_168 : decode cX6_line 168 = .ok (.istore_n 2, 1) := by decide +kernel
theorem dX6_line_169 : decode cX6_line 169 = .ok (.goto 24, 3) := by decide +kernel
theorem dX6_line_172 : decode cX6_line 172 = .ok (.aload_n 0, 1) := by decide +kernel
theorem dX6_line_173 : decode cX6_line 173 = .ok (.invokevirtual 96, 3) := by decide +kernel
theorem dX6_line_176 : decode cX6_line 176 = .ok (.istore_n 2, 1) := by decide +kernel
theorem dX6_line_177 : decode cX6_line 177 = .ok (.goto 16, 3) := by decide +kernel
theorem dX6_line_180 : decode cX6_line 180 = .ok (.aload_n 0, 1) := by decide +kernel
theorem dX6_line_181 : decode cX6_line 181 = .ok (.invokevirtual 99, 3) := by decide +kernel
theorem dX6_line_184 : decode cX6_line 184 = .ok (.istore_n 2, 1) := by decide +kernel
theorem dX6_line_185 : decode cX6_line 185 = .ok (.goto 8, 3) := by decide +kernel
theorem dX6_line_188 : decode cX6_line 188 = .ok (.aload_n 0, 1) := by decide +kernel
theorem dX6_line_189 : decode cX6_line 189 = .ok (.invokevirtual 102, 3) := by decide +kernel
theorem dX6_line_192 : decode cX6_line 192 = .ok (.istore_n 2, 1) := by decide +kernel
theorem dX6_line_193 : decode cX6_line 193 = .ok (.iload_n 2, 1) := by decide +kernel
theorem dX6_line_194 : decode cX6_line 194 = .ok (.ifCond .eq 11, 3) := by decide +kernel
theorem dX6_line_197 : decode cX6_line 197 = .ok (.aload_n 0, 1) := by decide +kernel
theorem dX6_line_198 : decode cX6_line 198 = .ok (.getfield 15, 3) := by decide +kernel
theorem dX6_line_201 : decode cX6_line 201 = .ok (.aload_n 1, 1) := by decide +kernel
theorem dX6_line_202 : decode cX6_line 202 = .ok (.invokevirtual 105, 3) := by decide +kernel
theorem dX6_line_205 : decode cX6_line 205 = .ok (.iload_n 2, 1) := by decide +kernel
theorem dX6_line_206 : decode cX6_line 206 = .ok (.ireturn, 1) := by decide +kernel
theorem dX6_lineNamed_0 : decode cX6_lineNamed 0 = .ok (.getstatic 109, 3) := by decide +kernel
theorem dX6_lineNamed_3 : decode cX6_lineNamed 3 = .ok (.astore_n 1, 1) := by decide +kernel
theorem dX6_lineNamed_4 : decode cX6_lineNamed 4 = .ok (.aload_n 1, 1) := by decide +kernel
theorem dX6_lineNamed_5 : decode cX6_lineNamed 5 = .ok (.arraylength, 1) := by decide +kernel
theorem dX6_lineNamed_6 : decode cX6_lineNamed 6 = .ok (.istore_n 2, 1) := by decide +kernel
theorem dX6_lineNamed_7 : decode cX6_lineNamed 7 = .ok (.iconst 0, 1) := by decide +kernel
theorem dX6_lineNamed_8 : decode cX6_lineNamed 8 = .ok (.istore_n 3, 1) := by decide +kernel
theorem dX6_lineNamed_9 : decode cX6_lineNamed 9 = .ok (.iload_n 3, 1) := by decide +kernel
theorem dX6_lineNamed_10 : decode cX6_lineNamed 10 = .ok (.iload_n 2, 1) := by decide +kernel
theorem dX6_lineNamed_11 : decode cX6_lineNamed 11 = .ok (.if_icmp .ge 32, 3) := by decide +kernel
theorem dX6_lineNamed_14 : decode cX6_lineNamed 14 = .ok (.aload_n 1, 1) := by decide +kernel
theorem dX6_lineNamed_15 : decode cX6_lineNamed 15 = .ok (.iload_n 3, 1) := by decide +kernel
theorem dX6_lineNamed_16 : decode cX6_lineNamed 16 = .ok (.aaload, 1) := by decide +kernel
theorem dX6_lineNamed_17 : decode cX6_lineNamed 17 = .ok (.astore 4, 2) := by decide +kernel
theorem dX6_lineNamed_19 : decode cX6_lineNamed 19 = .ok (.aload_n 0, 1) := by decide +kernel
theorem dX6_lineNamed_20 : decode cX6_lineNamed 20 = .ok (.getfield 9, 3) := by decide +kernel
theorem dX6_lineNamed_23 : decode cX6_lineNamed 23 = .ok (.aload 4, 2) := by decide +kernel
theorem dX6_lineNamed_25 : decode cX6_lineNamed 25 = .ok (.getfield 113, 3) := by decide +kernel
theorem dX6_lineNamed_28 : decode cX6_lineNamed 28 = .ok (.invokevirtual 117, 3) := by decide +kernel
theorem dX6_lineNamed_31 : decode cX6_lineNamed 31 = .ok (.ifCond .eq 6, 3) := by decide +kernel
theorem dX6_lineNamed_34 : decode cX6_lineNamed 34 = .ok (.aload 4, 2) := by decide +kernel
theorem dX6_lineNamed_36 : decode cX6_lineNamed 36 = .ok (.areturn, 1) := by decide +kernel
theorem dX6_lineNamed_37 : decode cX6_lineNamed 37 = .ok (.iinc 3 1, 3) := by decide +kernel
theorem dX6_lineNamed_40 : decode cX6_lineNamed 40 = .ok (.goto (-31), 3) := by decide +kernel
theorem dX6_lineNamed_43 : decode cX6_lineNamed 43 = .ok (.aconst_null, 1) := by decide +kernel
theorem dX6_lineNamed_44 : decode cX6_lineNamed 44 = .ok (.areturn, 1) := by decide +kernel
theorem dX6_townLine_0 : decode cX6_townLine 0 = .ok (.aload_n 0, 1) := by decide +kernel
theorem dX6_townLine_1 : decode cX6_townLine 1 = .ok (.ldc 121, 2) := by decide +kernel
theorem dX6_townLine_3 : decode cX6_townLine 3 = .ok (.iconst 3, 1) := by decide +kernel
theorem dX6_townLine_4 : decode cX6_townLine 4 = .ok (.bipush 6, 2) := by decide +kernel
theorem dX6_townLine_6 : decode cX6_townLine 6 = .ok (.invokevirtual 123, 3) := by decide +kernel
theorem dX6_townLine_9 : decode cX6_townLine 9 = .ok (.ifCond .ne 5, 3) := by decide +kernel
theorem dX6_townLine_12 : decode cX6_townLine 12 = .ok (.iconst 0, 1) := by decide +kernel
theorem dX6_townLine_13 : decode cX6_townLine 13 = .ok (.ireturn, 1) := by decide +kernel
theorem dX6_townLine_14 : decode cX6_townLine 14 = .ok (.aload_n 0, 1) := by decide +kernel
theorem dX6_townLine_15 : decode cX6_townLine 15 = .ok (.getfield 15, 3) := by decide +kernel
theorem dX6_townLine_18 : decode cX6_townLine 18 = .ok (.aload_n 0, 1) := by decide +kernel
theorem dX6_townLine_19 : decode cX6_townLine 19 = .ok (.getfield 127, 3) := by decide +kernel
theorem dX6_townLine_22 : decode cX6_townLine 22 = .ok (.putfield 130, 3) := by decide +kernel
theorem dX6_townLine_25 : decode cX6_townLine 25 = .ok (.aload_n 0, 1) := by decide +kernel
theorem dX6_townLine_26 : decode cX6_townLine 26 = .ok (.ldc 132, 2) := by decide +kernel
theorem dX6_townLine_28 : decode cX6_townLine 28 = .ok (.iconst 0, 1) := by decide +kernel
theorem dX6_townLine_29 : decode cX6_townLine 29 = .ok (.iconst 2, 1) := by decide +kernel
theorem dX6_townLine_30 : decode cX6_townLine 30 = .ok (.invokevirtual 123, 3) := by decide +kernel
theorem dX6_townLine_33 : decode cX6_townLine 33 = .ok (.ifCond .ne 5, 3) := by decide +kernel
theorem dX6_townLine_36 : decode cX6_townLine 36 = .ok (.iconst 0, 1) := by decide +kernel
theorem dX6_townLine_37 : decode cX6_townLine 37 = .ok (.ireturn, 1) := by decide +kernel
theorem dX6_townLine_38 : decode cX6_townLine 38 = .ok (.aload_n 0, 1) := by decide +kernel
theorem dX6_townLine_39 : decode cX6_townLine 39 = .ok (.getfield 15, 3) := by decide +kernel
theorem dX6_townLine_42 : decode cX6_townLine 42 = .ok (.aload_n 0, 1) := by decide +kernel
theorem dX6_townLine_43 : decode cX6_townLine 43 = .ok (.getfield 127, 3) := by decide +kernel
theorem dX6_townLine_46 : decode cX6_townLine 46 = .ok (.putfield 134, 3) := by decide +kernel
theorem dX6_townLine_49 : decode cX6_townLine 49 = .ok (.aload_n 0, 1) := by decide +kernel
theorem dX6_townLine_50 : decode cX6_townLine 50 = .ok (.ldc 136, 2) := by decide +kernel
theorem dX6_townLine_52 : decode cX6_townLine 52 = .ok (.iconst 0, 1) := by decide +kernel
theorem dX6_townLine_53 : decode cX6_townLine 53 = .ok (.iconst 3, 1) := by decide +kernel
theorem dX6_townLine_54 : decode cX6_townLine 54 = .ok (.invokevirtual 123, 3) := by decide +kernel
theorem dX6_townLine_57 : decode cX6_townLine 57 = .ok (.ifCond .ne 5, 3) := by decide +kernel
theorem dX6_townLine_60 : decode cX6_townLine 60 = .ok (.iconst 0, 1) := by decide +kernel
theorem dX6_townLine_61 : decode cX6_townLine 61 = .ok (.ireturn, 1) := by decide +kernel
theorem dX6_townLine_62 : decode cX6_townLine 62 = .ok (.aload_n 0, 1) := by decide +kernel
theorem dX6_townLine_63 : decode cX6_townLine 63 = .ok (.getfield 15, 3) := by decide +kernel
theorem dX6_townLine_66 : decode cX6_townLine 66 = .ok (.aload_n 0, 1) := by decide +kernel
theorem dX6_townLine_67 : decode cX6_townLine 67 = .ok (.getfield 127, 3) := by decide +kernel
theorem dX6_townLine_70 : decode cX6_townLine 70 = .ok (.putfield 138, 3) := by decide +kernel
theorem dX6_townLine_73 : decode cX6_townLine 73 = .ok (.aload_n 0, 1) := by decide +kernel
theorem dX6_townLine_74 : decode cX6_townLine 74 = .ok (.ldc 140, 2) := by decide +kernel
theorem dX6_townLine_76 : decode cX6_townLine 76 = .ok (.iconst 0, 1) := by decide +kernel
theorem dX6_townLine_77 : decode cX6_townLine 77 = .ok (.bipush 6, 2) := by decide +kernel
theorem dX6_townLine_79 : decode cX6_townLine 79 = .ok (.invokevirtual 123, 3) := by decide +kernel
theorem dX6_townLine_82 : decode cX6_townLine 82 = .ok (.ifCond .ne 5, 3) := by decide +kernel
theorem dX6_townLine_85 : decode cX6_townLine 85 = .ok (.iconst 0, 1) := by decide +kernel
theorem dX6_townLine_86 : decode cX6_townLine 86 = .ok (.ireturn, 1) := by decide +kernel
theorem dX6_townLine_87 : decode cX6_townLine 87 = .ok (.aload_n 0, 1) := by decide +kernel
theorem dX6_townLine_88 : decode cX6_townLine 88 = .ok (.getfield 15, 3) := by decide +kernel
theorem dX6_townLine_91 : decode cX6_townLine 91 = .ok (.aload_n 0, 1) := by decide +kernel
theorem dX6_townLine_92 : decode cX6_townLine 92 = .ok (.getfield 127, 3) := by decide +kernel
theorem dX6_townLine_95 : decode cX6_townLine 95 = .ok (.putfield 142, 3) := by decide +kernel
theorem dX6_townLine_98 : decode cX6_townLine 98 = .ok (.iconst 1, 1) := by decide +kernel
theorem dX6_townLine_99 : decode cX6_townLine 99 = .ok (.ireturn, 1) := by decide +kernel
theorem dX6_personLine_0 : decode cX6_personLine 0 = .ok (.aload_n 0, 1) := by decide +kernel
theorem dX6_personLine_1 : decode cX6_personLine 1 = .ok (.aload_n 0, 1) := by decide +kernel
theorem dX6_personLine_2 : decode cX6_personLine 2 = .ok (.getfield 9, 3) := by decide +kernel
theorem dX6_personLine_5 : decode cX6_personLine 5 = .ok (.getfield 44, 3) := by decide +kernel
theorem dX6_personLine_8 : decode cX6_personLine 8 = .ok (.putfield 47, 3) := by decide +kernel
theorem dX6_personLine_11 : decode cX6_personLine 11 = .ok (.aload_n 0, 1) := by decide +kernel
theorem dX6_personLine_12 : decode cX6_personLine 12 = .ok (.getfield 9, 3) := by decide +kernel
theorem dX6_personLine_15 : decode cX6_personLine 15 = .ok (.getfield 38, 3) := by decide +kernel
theorem dX6_personLine_18 : decode cX6_personLine 18 = .ok (.iconst 2, 1) := by decide +kernel
theorem dX6_personLine_19 : decode cX6_personLine 19 = .ok (.if_icmp .ne 10, 3) := by decide +kernel
theorem dX6_personLine_22 : decode cX6_personLine 22 = .ok (.aload_n 0, 1) := by decide +kernel
theorem dX6_personLine_23 : decode cX6_personLine 23 = .ok (.invokevirtual 54, 3) := by decide +kernel
theorem dX6_personLine_26 : decode cX6_personLine 26 = .ok (.ifnull 9, 3) := by decide +kernel
theorem dX6_personLine_29 : decode cX6_personLine 29 = .ok (.aload_n 0, 1) := by decide +kernel
theorem dX6_personLine_30 : decode cX6_personLine 30 = .ok (.iconst 1, 1) := by decide +kernel
theorem dX6_personLine_31 : decode cX6_personLine 31 = .ok (.invokevirtual 58, 3) := by decide +kernel
theorem dX6_personLine_34 : decode cX6_personLine 34 = .ok (.ireturn, 1) := by decide +kernel
theorem dX6_personLine_35 : decode cX6_personLine 35 = .ok (.aload_n 0, 1) := by decide +kernel
theorem dX6_personLine_36 : decode cX6_personLine 36 = .ok (.getfield 9, 3) := by decide +kernel
theorem dX6_personLine_39 : decode cX6_personLine 39 = .ok (.invokevirtual 144, 3) := by decide +kernel
theorem dX6_personLine_42 : decode cX6_personLine 42 = .ok (.lstore_n 1, 1) := by decide +kernel
theorem dX6_personLine_43 : decode cX6_personLine 43 = .ok (.aload_n 0, 1) := by decide +kernel
theorem dX6_personLine_44 : decode cX6_personLine 44 = .ok (.getfield 15, 3) := by decide +kernel
theorem dX6_personLine_47 : decode cX6_personLine 47 = .ok (.lload_n 1, 1) := by decide +kernel
theorem dX6_personLine_48 : decode cX6_personLine 48 = .ok (.invokevirtual 148, 3) := by decide +kernel
theorem dX6_personLine_51 : decode cX6_personLine 51 = .ok (.ifCond .lt 9, 3) := by decide +kernel
theorem dX6_personLine_54 : decode cX6_personLine 54 = .ok (.aload_n 0, 1) := by decide +kernel
theorem dX6_personLine_55 : decode cX6_personLine 55 = .ok (.iconst 3, 1) := by decide +kernel
theorem dX6_personLine_56 : decode cX6_personLine 56 = .ok (.invokevirtual 58, 3) := by decide +kernel
theorem dX6_personLine_59 : decode cX6_personLine 59 = .ok (.ireturn, 1) := by decide +kernel
theorem dX6_personLine_60 : decode cX6_personLine 60 = .ok (.aload_n 0, 1) := by decide +kernel
theorem dX6_personLine_61 : decode cX6_personLine 61 = .ok (.getfield 9, 3) := by decide +kernel
theorem dX6_personLine_64 : decode cX6_personLine 64 = .ok (.invokevirtual 41, 3) := by decide +kernel
theorem dX6_personLine_67 : decode cX6_personLine 67 = .ok (.aload_n 0, 1) := by decide +kernel
theorem dX6_personLine_68 : decode cX6_personLine 68 = .ok (.invokevirtual 152, 3) := by decide +kernel
theorem dX6_personLine_71 : decode cX6_personLine 71 = .ok (.ifCond .ne 5, 3) := by decide +kernel
theorem dX6_personLine_74 : decode cX6_personLine 74 = .ok (.iconst 0, 1) := by decide +kernel
theorem dX6_personLine_75 : decode cX6_personLine 75 = .ok (.ireturn, 1) := by decide +kernel
theorem dX6_personLine_76 : decode cX6_personLine 76 = .ok (.aload_n 0, 1) := by decide +kernel
theorem dX6_personLine_77 : decode cX6_personLine 77 = .ok (.getfield 127, 3) := by decide +kernel
theorem dX6_personLine_80 : decode cX6_personLine 80 = .ok (.istore_n 3, 1) := by decide +kernel
theorem dX6_personLine_81 : decode cX6_personLine 81 = .ok (.aload_n 0, 1) := by decide +kernel
theorem dX6_personLine_82 : decode cX6_personLine 82 = .ok (.invokevirtual 155, 3) := by decide +kernel
theorem dX6_personLine_85 : decode cX6_personLine 85 = .ok (.ifCond .ne 5, 3) := by decide +kernel
theorem dX6_personLine_88 : decode cX6_personLine 88 = .ok (.iconst 0, 1) := by decide +kernel
theorem dX6_personLine_89 : decode cX6_personLine 89 = .ok (.ireturn, 1) := by decide +kernel
theorem dX6_personLine_90 : decode cX6_personLine 90 = .ok (.aload_n 0, 1) := by decide +kernel
theorem dX6_personLine_91 : decode cX6_personLine 91 = .ok (.getfield 15, 3) := by decide +kernel
theorem dX6_personLine_94 : decode cX6_personLine 94 = .ok (.lload_n 1, 1) := by decide +kernel
theorem dX6_personLine_95 : decode cX6_personLine 95 = .ok (.iload_n 3, 1) := by decide +kernel
theorem dX6_personLine_96 : decode cX6_personLine 96 = .ok (.aload_n 0, 1) := by decide +kernel
theorem dX6_personLine_97 : decode cX6_personLine 97 = .ok (.getfield 127, 3) := by decide +kernel
theorem dX6_personLine_100 : decode cX6_personLine 100 = .ok (.invokevirtual 158, 3) := by decide +kernel
theorem dX6_personLine_103 : decode cX6_personLine 103 = .ok (.iconst 1, 1) := by decide +kernel
theorem dX6_personLine_104 : decode cX6_personLine 104 = .ok (.ireturn, 1) := by decide +kernel
theorem dX6_changeLine_0 : decode cX6_changeLine 0 = .ok (.aload_n 0, 1) := by decide +kernel
theorem dX6_changeLine_1 : decode cX6_changeLine 1 = .ok (.invokevirtual 162, 3) := by decide +kernel
theorem dX6_changeLine_4 : decode cX6_changeLine 4 = .ok (.ifCond .ne 5, 3) := by decide +kernel
theorem dX6_changeLine_7 : decode cX6_changeLine 7 = .ok (.iconst 0, 1) := by decide +kernel
theorem dX6_changeLine_8 : decode cX6_changeLine 8 = .ok (.ireturn, 1) := by decide +kernel
theorem dX6_changeLine_9 : decode cX6_changeLine 9 = .ok (.aload_n 0, 1) := by decide +kernel
theorem dX6_changeLine_10 : decode cX6_changeLine 10 = .ok (.getfield 127, 3) := by decide +kernel
theorem dX6_changeLine_13 : decode cX6_changeLine 13 = .ok (.istore_n 1, 1) := by decide +kernel
theorem dX6_changeLine_14 : decode cX6_changeLine 14 = .ok (.aload_n 0, 1) := by decide +kernel
theorem dX6_changeLine_15 : decode cX6_changeLine 15 = .ok (.ldc 165, 2) := by decide +kernel
theorem dX6_changeLine_17 : decode cX6_changeLine 17 = .ok (.iconst 0, 1) := by decide +kernel
theorem dX6_changeLine_18 : decode cX6_changeLine 18 = .ok (.bipush 29, 2) := by decide +kernel
theorem dX6_changeLine_20 : decode cX6_changeLine 20 = .ok (.invokevirtual 123, 3) := by decide +kernel
theorem dX6_changeLine_23 : decode cX6_changeLine 23 = .ok (.ifCond .ne 5, 3) := by decide +kernel
theorem dX6_changeLine_26 : decode cX6_changeLine 26 = .ok (.iconst 0, 1) := by decide +kernel
theorem dX6_changeLine_27 : decode cX6_changeLine 27 = .ok (.ireturn, 1) := by decide +kernel
theorem dX6_changeLine_28 : decode cX6_changeLine 28 = .ok (.aload_n 0, 1) := by decide +kernel
theorem dX6_changeLine_29 : decode cX6_changeLine 29 = .ok (.getfield 127, 3) := by decide +kernel
theorem dX6_changeLine_32 : decode cX6_changeLine 32 = .ok (.istore_n 2, 1) := by decide +kernel
theorem dX6_changeLine_33 : decode cX6_changeLine 33 = .ok (.aload_n 0, 1) := by decide +kernel
theorem dX6_changeLine_34 : decode cX6_changeLine 34 = .ok (.ldc 167, 2) := by decide +kernel
theorem dX6_changeLine_36 : decode cX6_changeLine 36 = .ok (.iconst 0, 1) := by decide +kernel
theorem dX6_changeLine_37 : decode cX6_changeLine 37 = .ok (.aload_n 0, 1) := by decide +kernel
theorem dX6_changeLine_38 : decode cX6_changeLine 38 = .ok (.getfield 15, 3) := by decide +kernel
theorem dX6_changeLine_41 : decode cX6_changeLine 41 = .ok (.getfield 130, 3) := by decide +kernel
theorem dX6_changeLine_44 : decode cX6_changeLine 44 = .ok (.iconst 1, 1) := by decide +kernel
theorem dX6_changeLine_45 : decode cX6_changeLine 45 = .ok (.isub, 1) := by decide +kernel
theorem dX6_changeLine_46 : decode cX6_changeLine 46 = .ok (.invokevirtual 123, 3) := by decide +kernel
theorem dX6_changeLine_49 : decode cX6_changeLine 49 = .ok (.ifCond .ne 5, 3) := by decide +kernel
theorem dX6_changeLine_52 : decode cX6_changeLine 52 = .ok (.iconst 0, 1) := by decide +kernel
theorem dX6_changeLine_53 : decode cX6_changeLine 53 = .ok (.ireturn, 1) := by decide +kernel
theorem dX6_changeLine_54 : decode cX6_changeLine 54 = .ok (.aload_n 0, 1) := by decide +kernel
theorem dX6_changeLine_55 : decode cX6_changeLine 55 = .ok (.getfield 127, 3) := by decide +kernel
theorem dX6_changeLine_58 : decode cX6_changeLine 58 = .ok (.istore_n 3, 1) := by decide +kernel
theorem dX6_changeLine_59 : decode cX6_changeLine 59 = .ok (.aload_n 0, 1) := by decide +kernel
theorem dX6_changeLine_60 : decode cX6_changeLine 60 = .ok (.ldc 169, 2) := by decide +kernel
theorem dX6_changeLine_62 : decode cX6_changeLine 62 = .ok (.iconst 1, 1) := by decide +kernel
theorem dX6_changeLine_63 : decode cX6_changeLine 63 = .ok (.iconst 3, 1) := by decide +kernel
theorem dX6_changeLine_64 : decode cX6_changeLine 64 = .ok (.invokevirtual 123, 3) := by decide +kernel
theorem dX6_changeLine_67 : decode cX6_changeLine 67 = .ok (.ifCond .ne 5, 3) := by decide +kernel
theorem dX6_changeLine_70 : decode cX6_changeLine 70 = .ok (.iconst 0, 1) := by decide +kernel
theorem dX6_changeLine_71 : decode cX6_changeLine 71 = .ok (.ireturn, 1) := by decide +kernel
theorem dX6_changeLine_72 : decode cX6_changeLine 72 = .ok (.aload_n 0, 1) := by decide +kernel
theorem dX6_changeLine_73 : decode cX6_changeLine 73 = .ok (.getfield 15, 3) := by decide +kernel
theorem dX6_changeLine_76 : decode cX6_changeLine 76 = .ok (.getfield 171, 3) := by decide +kernel
theorem dX6_changeLine_79 : decode cX6_changeLine 79 = .ok (.iload_n 1, 1) := by decide +kernel
theorem dX6_changeLine_80 : decode cX6_changeLine 80 = .ok (.iload_n 3, 1) := by decide +kernel
theorem dX6_changeLine_81 : decode cX6_changeLine 81 = .ok (.iload_n 2, 1) := by decide +kernel
theorem dX6_changeLine_82 : decode cX6_changeLine 82 = .ok (.aload_n 0, 1) := by decide +kernel
theorem dX6_changeLine_83 : decode cX6_changeLine 83 = .ok (.getfield 127, 3) := by decide +kernel
theorem dX6_changeLine_86 : decode cX6_changeLine 86 = .ok (.invokevirtual 175, 3) := by decide +kernel
theorem dX6_changeLine_89 : decode cX6_changeLine 89 = .ok (.iconst 1, 1) := by decide +kernel
theorem dX6_changeLine_90 : decode cX6_changeLine 90 = .ok (.ireturn, 1) := by decide +kernel
theorem dX6_visitLine_0 : decode cX6_visitLine 0 = .ok (.aload_n 0, 1) := by decide +kernel
theorem dX6_visitLine_1 : decode cX6_visitLine 1 = .ok (.invokevirtual 162, 3) := by decide +kernel
theorem dX6_visitLine_4 : decode cX6_visitLine 4 = .ok (.ifCond .ne 5, 3) := by decide +kernel
theorem dX6_visitLine_7 : decode cX6_visitLine 7 = .ok (.iconst 0, 1) := by decide +kernel
theorem dX6_visitLine_8 : decode cX6_visitLine 8 = .ok (.ireturn, 1) := by decide +kernel
theorem dX6_visitLine_9 : decode cX6_visitLine 9 = .ok (.aload_n 0, 1) := by decide +kernel
theorem dX6_visitLine_10 : decode cX6_visitLine 10 = .ok (.getfield 127, 3) := by decide +kernel
theorem dX6_visitLine_13 : decode cX6_visitLine 13 = .ok (.istore_n 1, 1) := by decide +kernel
theorem dX6_visitLine_14 : decode cX6_visitLine 14 = .ok (.aload_n 0, 1) := by decide +kernel
theorem dX6_visitLine_15 : decode cX6_visitLine 15 = .ok (.ldc 165, 2) := by decide +kernel
theorem dX6_visitLine_17 : decode cX6_visitLine 17 = .ok (.iconst 0, 1) := by decide +kernel
theorem dX6_visitLine_18 : decode cX6_visitLine 18 = .ok (.bipush 29, 2) := by decide +kernel
theorem dX6_visitLine_20 : decode cX6_visitLine 20 = .ok (.invokevirtual 123, 3) := by decide +kernel
theorem dX6_visitLine_23 : decode cX6_visitLine 23 = .ok (.ifCond .ne 5, 3) := by decide +kernel
theorem dX6_visitLine_26 : decode cX6_visitLine 26 = .ok (.iconst 0, 1) := by decide +kernel
theorem dX6_visitLine_27 : decode cX6_visitLine 27 = .ok (.ireturn, 1) := by decide +kernel
theorem dX6_visitLine_28 : decode cX6_visitLine 28 = .ok (.aload_n 0, 1) := by decide +kernel
theorem dX6_visitLine_29 : decode cX6_visitLine 29 = .ok (.getfield 15, 3) := by decide +kernel
theorem dX6_visitLine_32 : decode cX6_visitLine 32 = .ok (.getfield 181, 3) := by decide +kernel
theorem dX6_visitLine_35 : decode cX6_visitLine 35 = .ok (.aload_n 0, 1) := by decide +kernel
theorem dX6_visitLine_36 : decode cX6_visitLine 36 = .ok (.getfield 127, 3) := by decide +kernel
theorem dX6_visitLine_39 : decode cX6_visitLine 39 = .ok (.invokestatic 184, 3) := by decide +kernel
theorem dX6_visitLine_42 : decode cX6_visitLine 42 = .ok (.bipush (-2), 2) := by decide +kernel
theorem dX6_visitLine_44 : decode cX6_visitLine 44 = .ok (.if_icmp .eq 9, 3) := by decide +kernel
theorem dX6_visitLine_47 : decode cX6_visitLine 47 = .ok (.aload_n 0, 1) := by decide +kernel
theorem dX6_visitLine_48 : decode cX6_visitLine 48 = .ok (.iconst 3, 1) := by decide +kernel
theorem dX6_visitLine_49 : decode cX6_visitLine 49 = .ok (.invokevirtual 58, 3) := by decide +kernel
theorem dX6_visitLine_52 : decode cX6_visitLine 52 = .ok (.ireturn, 1) := by decide +kernel
theorem dX6_visitLine_53 : decode cX6_visitLine 53 = .ok (.aload_n 0, 1) := by decide +kernel
theorem dX6_visitLine_54 : decode cX6_visitLine 54 = .ok (.getfield 15, 3) := by decide +kernel
theorem dX6_visitLine_57 : decode cX6_visitLine 57 = .ok (.aload_n 0, 1) := by decide +kernel
theorem dX6_visitLine_58 : decode cX6_visitLine 58 = .ok (.getfield 127, 3) := by decide +kernel
theorem dX6_visitLine_61 : decode cX6_visitLine 61 = .ok (.invokevirtual 188, 3) := by decide +kernel
theorem dX6_visitLine_64 : decode cX6_visitLine 64 = .ok (.ifCond .eq 10, 3) := by decide +kernel
theorem dX6_visitLine_67 : decode cX6_visitLine 67 = .ok (.aload_n 0, 1) := by decide +kernel
theorem dX6_visitLine_68 : decode cX6_visitLine 68 = .ok (.bipush 8, 2) := by decide +kernel
theorem dX6_visitLine_70 : decode cX6_visitLine 70 = .ok (.invokevirtual 58, 3) := by decide +kernel
theorem dX6_visitLine_73 : decode cX6_visitLine 73 = .ok (.ireturn, 1) := by decide +kernel
theorem dX6_visitLine_74 : decode cX6_visitLine 74 = .ok (.aload_n 0, 1) := by decide +kernel
theorem dX6_visitLine_75 : decode cX6_visitLine 75 = .ok (.getfield 15, 3) := by decide +kernel
theorem dX6_visitLine_78 : decode cX6_visitLine 78 = .ok (.getfield 181, 3) := by decide +kernel
theorem dX6_visitLine_81 : decode cX6_visitLine 81 = .ok (.aload_n 0, 1) := by decide +kernel
theorem dX6_visitLine_82 : decode cX6_visitLine 82 = .ok (.getfield 127, 3) := by decide +kernel
theorem dX6_visitLine_85 : decode cX6_visitLine 85 = .ok (.iload_n 1, 1) := by decide +kernel
theorem dX6_visitLine_86 : decode cX6_visitLine 86 = .ok (.invokestatic 191, 3) := by decide +kernel
theorem dX6_visitLine_89 : decode cX6_visitLine 89 = .ok (.iconst 1, 1) := by decide +kernel
theorem dX6_visitLine_90 : decode cX6_visitLine 90 = .ok (.ireturn, 1) := by decide +kernel
theorem dX6_wishLine_0 : decode cX6_wishLine 0 = .ok (.aload_n 0, 1) := by decide +kernel
theorem dX6_wishLine_1 : decode cX6_wishLine 1 = .ok (.invokevirtual 162, 3) := by decide +kernel
theorem dX6_wishLine_4 : decode cX6_wishLine 4 = .ok (.ifCond .ne 5, 3) := by decide +kernel
theorem dX6_wishLine_7 : decode cX6_wishLine 7 = .ok (.iconst 0, 1) := by decide +kernel
theorem dX6_wishLine_8 : decode cX6_wishLine 8 = .ok (.ireturn, 1) := by decide +kernel
theorem dX6_wishLine_9 : decode cX6_wishLine 9 = .ok (.aload_n 0, 1) := by decide +kernel
theorem dX6_wishLine_10 : decode cX6_wishLine 10 = .ok (.getfield 127, 3) := by decide +kernel
theorem dX6_wishLine_13 : decode cX6_wishLine 13 = .ok (.istore_n 1, 1) := by decide +kernel
theorem dX6_wishLine_14 : decode cX6_wishLine 14 = .ok (.aload_n 0, 1) := by decide +kernel
theorem dX6_wishLine_15 : decode cX6_wishLine 15 = .ok (.ldc 165, 2) := by decide +kernel
theorem dX6_wishLine_17 : decode cX6_wishLine 17 = .ok (.iconst 0, 1) := by decide +kernel
theorem dX6_wishLine_18 : decode cX6_wishLine 18 = .ok (.bipush 29, 2) := by decide +kernel
theorem dX6_wishLine_20 : decode cX6_wishLine 20 = .ok (.invokevirtual 123, 3) := by decide +kernel
theorem dX6_wishLine_23 : decode cX6_wishLine 23 = .ok (.ifCond .ne 5, 3) := by decide +kernel
theorem dX6_wishLine_26 : decode cX6_wishLine 26 = .ok (.iconst 0, 1) := by decide +kernel
theorem dX6_wishLine_27 : decode cX6_wishLine 27 = .ok (.ireturn, 1) := by decide +kernel
theorem dX6_wishLine_28 : decode cX6_wishLine 28 = .ok (.aload_n 0, 1) := by decide +kernel
theorem dX6_wishLine_29 : decode cX6_wishLine 29 = .ok (.getfield 15, 3) := by decide +kernel
theorem dX6_wishLine_32 : decode cX6_wishLine 32 = .ok (.iload_n 1, 1) := by decide +kernel
theorem dX6_wishLine_33 : decode cX6_wishLine 33 = .ok (.aload_n 0, 1) := by decide +kernel
theorem dX6_wishLine_34 : decode cX6_wishLine 34 = .ok (.getfield 127, 3) := by decide +kernel
theorem dX6_wishLine_37 : decode cX6_wishLine 37 = .ok (.invokevirtual 195, 3) := by decide +kernel
theorem dX6_wishLine_40 : decode cX6_wishLine 40 = .ok (.ifCond .eq 9, 3) := by decide +kernel
theorem dX6_wishLine_43 : decode cX6_wishLine 43 = .ok (.aload_n 0, 1) := by decide +kernel
theorem dX6_wishLine_44 : decode cX6_wishLine 44 = .ok (.iconst 3, 1) := by decide +kernel
theorem dX6_wishLine_45 : decode cX6_wishLine 45 = .ok (.invokevirtual 58, 3) := by decide +kernel
theorem dX6_wishLine_48 : decode cX6_wishLine 48 = .ok (.ireturn, 1) := by decide +kernel
theorem dX6_wishLine_49 : decode cX6_wishLine 49 = .ok (.aload_n 0, 1) := by decide +kernel
theorem dX6_wishLine_50 : decode cX6_wishLine 50 = .ok (.getfield 15, 3) := by decide +kernel
theorem dX6_wishLine_53 : decode cX6_wishLine 53 = .ok (.getstatic 199, 3) := by decide +kernel
theorem dX6_wishLine_56 : decode cX6_wishLine 56 = .ok (.invokevirtual 68, 3) := by decide +kernel
theorem dX6_wishLine_59 : decode cX6_wishLine 59 = .ok (.istore_n 2, 1) := by decide +kernel
theorem dX6_wishLine_60 : decode cX6_wishLine 60 = .ok (.aload_n 0, 1) := by decide +kernel
theorem dX6_wishLine_61 : decode cX6_wishLine 61 = .ok (.getfield 15, 3) := by decide +kernel
theorem dX6_wishLine_64 : decode cX6_wishLine 64 = .ok (.getfield 202, 3) := by decide +kernel
theorem dX6_wishLine_67 : decode cX6_wishLine 67 = .ok (.iload_n 2, 1) := by decide +kernel
theorem dX6_wishLine_68 : decode cX6_wishLine 68 = .ok (.iload_n 1, 1) := by decide +kernel
theorem dX6_wishLine_69 : decode cX6_wishLine 69 = .ok (.invokestatic 191, 3) := by decide +kernel
theorem dX6_wishLine_72 : decode cX6_wishLine 72 = .ok (.aload_n 0, 1) := by decide +kernel
theorem dX6_wishLine_73 : decode cX6_wishLine 73 = .ok (.getfield 15, 3) := by decide +kernel
theorem dX6_wishLine_76 : decode cX6_wishLine 76 = .ok (.getfield 205, 3) := by decide +kernel
theorem dX6_wishLine_79 : decode cX6_wishLine 79 = .ok (.iload_n 2, 1) := by decide +kernel
theorem dX6_wishLine_80 : decode cX6_wishLine 80 = .ok (.aload_n 0, 1) := by decide +kernel
theorem dX6_wishLine_81 : decode cX6_wishLine 81 = .ok (.getfield 127, 3) := by decide +kernel
theorem dX6_wishLine_84 : decode cX6_wishLine 84 = .ok (.invokestatic 191, 3) := by decide +kernel
theorem dX6_wishLine_87 : decode cX6_wishLine 87 = .ok (.iconst 1, 1) := by decide +kernel
theorem dX6_wishLine_88 : decode cX6_wishLine 88 = .ok (.ireturn, 1) := by decide +kernel
theorem dX6_asksLine_0 : decode cX6_asksLine 0 = .ok (.aload_n 0, 1) := by decide +kernel
theorem dX6_asksLine_1 : decode cX6_asksLine 1 = .ok (.invokevirtual 162, 3) := by decide +kernel
theorem dX6_asksLine_4 : decode cX6_asksLine 4 = .ok (.ifCond .ne 5, 3) := by decide +kernel
theorem dX6_asksLine_7 : decode cX6_asksLine 7 = .ok (.iconst 0, 1) := by decide +kernel
theorem dX6_asksLine_8 : decode cX6_asksLine 8 = .ok (.ireturn, 1) := by decide +kernel
theorem dX6_asksLine_9 : decode cX6_asksLine 9 = .ok (.aload_n 0, 1) := by decide +kernel
theorem dX6_asksLine_10 : decode cX6_asksLine 10 = .ok (.getfield 127, 3) := by decide +kernel
theorem dX6_asksLine_13 : decode cX6_asksLine 13 = .ok (.istore_n 1, 1) := by decide +kernel
theorem dX6_asksLine_14 : decode cX6_asksLine 14 = .ok (.aload_n 0, 1) := by decide +kernel
theorem dX6_asksLine_15 : decode cX6_asksLine 15 = .ok (.invokevirtual 162, 3) := by decide +kernel
theorem dX6_asksLine_18 : decode cX6_asksLine 18 = .ok (.ifCond .ne 5, 3) := by decide +kernel
theorem dX6_asksLine_21 : decode cX6_asksLine 21 = .ok (.iconst 0, 1) := by decide +kernel
theorem dX6_asksLine_22 : decode cX6_asksLine 22 = .ok (.ireturn, 1) := by decide +kernel
theorem dX6_asksLine_23 : decode cX6_asksLine 23 = .ok (.aload_n 0, 1) := by decide +kernel
theorem dX6_asksLine_24 : decode cX6_asksLine 24 = .ok (.getfield 127, 3) := by decide +kernel
theorem dX6_asksLine_27 : decode cX6_asksLine 27 = .ok (.istore_n 2, 1) := by decide +kernel
theorem dX6_asksLine_28 : decode cX6_asksLine 28 = .ok (.iload_n 2, 1) := by decide +kernel
theorem dX6_asksLine_29 : decode cX6_asksLine 29 = .ok (.iload_n 1, 1) := by decide +kernel
theorem dX6_asksLine_30 : decode cX6_asksLine 30 = .ok (.if_icmp .eq 15, 3) := by decide +kernel
theorem dX6_asksLine_33 : decode cX6_asksLine 33 = .ok (.aload_n 0, 1) := by decide +kernel
theorem dX6_asksLine_34 : decode cX6_asksLine 34 = .ok (.getfield 15, 3) := by decide +kernel
theorem dX6_asksLine_37 : decode cX6_asksLine 37 = .ok (.iload_n 1, 1) := by decide +kernel
theorem dX6_asksLine_38 : decode cX6_asksLine 38 = .ok (.iload_n 2, 1) := by decide +kernel
theorem dX6_asksLine_39 : decode cX6_asksLine 39 = .ok (.invokevirtual 208, 3) := by decide +kernel
theorem dX6_asksLine_42 : decode cX6_asksLine 42 = .ok (.ifCond .eq 9, 3) := by decide +kernel
theorem dX6_asksLine_45 : decode cX6_asksLine 45 = .ok (.aload_n 0, 1) := by decide +kernel
theorem dX6_asksLine_46 : decode cX6_asksLine 46 = .ok (.iconst 3, 1) := by decide +kernel
theorem dX6_asksLine_47 : decode cX6_asksLine 47 = .ok (.invokevirtual 58, 3) := by decide +kernel
theorem dX6_asksLine_50 : decode cX6_asksLine 50 = .ok (.ireturn, 1) := by decide +kernel
theorem dX6_asksLine_51 : decode cX6_asksLine 51 = .ok (.aload_n 0, 1) := by decide +kernel
theorem dX6_asksLine_52 : decode cX6_asksLine 52 = .ok (.ldc 211, 2) := by decide +kernel
theorem dX6_asksLine_54 : decode cX6_asksLine 54 = .ok (.iconst 0, 1) := by decide +kernel
theorem dX6_asksLine_55 : decode cX6_asksLine 55 = .ok (.bipush 100, 2) := by decide +kernel
theorem dX6_asksLine_57 : decode cX6_asksLine 57 = .ok (.invokevirtual 123, 3) := by decide +kernel
theorem dX6_asksLine_60 : decode cX6_asksLine 60 = .ok (.ifCond .ne 5, 3) := by decide +kernel
theorem dX6_asksLine_63 : decode cX6_asksLine 63 = .ok (.iconst 0, 1) := by decide +kernel
theorem dX6_asksLine_64 : decode cX6_asksLine 64 = .ok (.ireturn, 1) := by decide +kernel
theorem dX6_asksLine_65 : decode cX6_asksLine 65 = .ok (.aload_n 0, 1) := by decide +kernel
theorem dX6_asksLine_66 : decode cX6_asksLine 66 = .ok (.getfield 15, 3) := by decide +kernel
theorem dX6_asksLine_69 : decode cX6_asksLine 69 = .ok (.getfield 213, 3) := by decide +kernel
theorem dX6_asksLine_72 : decode cX6_asksLine 72 = .ok (.iload_n 1, 1) := by decide +kernel
theorem dX6_asksLine_73 : decode cX6_asksLine 73 = .ok (.iconst 5, 1) := by decide +kernel
theorem dX6_asksLine_74 : decode cX6_asksLine 74 = .ok (.imul, 1) := by decide +kernel
theorem dX6_asksLine_75 : decode cX6_asksLine 75 = .ok (.iload_n 2, 1) := by decide +kernel
theorem dX6_asksLine_76 : decode cX6_asksLine 76 = .ok (.iadd, 1) := by decide +kernel
theorem dX6_asksLine_77 : decode cX6_asksLine 77 = .ok (.aload_n 0, 1) := by decide +kernel
theorem dX6_asksLine_78 : decode cX6_asksLine 78 = .ok (.getfield 127, 3) := by decide +kernel
theorem dX6_asksLine_81 : decode cX6_asksLine 81 = .ok (.invokestatic 191, 3) := by decide +kernel
theorem dX6_asksLine_84 : decode cX6_asksLine 84 = .ok (.iconst 1, 1) := by decide +kernel
theorem dX6_asksLine_85 : decode cX6_asksLine 85 = .ok (.ireturn, 1) := by decide +kernel
theorem dX6_stareLine_0 : decode cX6_stareLine 0 = .ok (.aload_n 0, 1) := by decide +kernel
theorem dX6_stareLine_1 : decode cX6_stareLine 1 = .ok (.invokevirtual 162, 3) := by decide +kernel
theorem dX6_stareLine_4 : decode cX6_stareLine 4 = .ok (.ifCond .ne 5, 3) := by decide +kernel
theorem dX6_stareLine_7 : decode cX6_stareLine 7 = .ok (.iconst 0, 1) := by decide +kernel
theorem dX6_stareLine_8 : decode cX6_stareLine 8 = .ok (.ireturn, 1) := by decide +kernel
theorem dX6_stareLine_9 : decode cX6_stareLine 9 = .ok (.aload_n 0, 1) := by decide +kernel
theorem dX6_stareLine_10 : decode cX6_stareLine 10 = .ok (.getfield 127, 3) := by decide +kernel
theorem dX6_stareLine_13 : decode cX6_stareLine 13 = .ok (.istore_n 1, 1) := by decide +kernel
theorem dX6_stareLine_14 : decode cX6_stareLine 14 = .ok (.aload_n 0, 1) := by decide +kernel
theorem dX6_stareLine_15 : decode cX6_stareLine 15 = .ok (.getfield 15, 3) := by decide +kernel
theorem dX6_stareLine_18 : decode cX6_stareLine 18 = .ok (.iload_n 1, 1) := by decide +kernel
theorem dX6_stareLine_19 : decode cX6_stareLine 19 = .ok (.invokevirtual 215, 3) := by decide +kernel
theorem dX6_stareLine_22 : decode cX6_stareLine 22 = .ok (.ifCond .eq 9, 3) := by decide +kernel
theorem dX6_stareLine_25 : decode cX6_stareLine 25 = .ok (.aload_n 0, 1) := by decide +kernel
theorem dX6_stareLine_26 : decode cX6_stareLine 26 = .ok (.iconst 3, 1) := by decide +kernel
theorem dX6_stareLine_27 : decode cX6_stareLine 27 = .ok (.invokevirtual 58, 3) := by decide +kernel
theorem dX6_stareLine_30 : decode cX6_stareLine 30 = .ok (.ireturn, 1) := by decide +kernel
theorem dX6_stareLine_31 : decode cX6_stareLine 31 = .ok (.aload_n 0, 1) := by decide +kernel
theorem dX6_stareLine_32 : decode cX6_stareLine 32 = .ok (.iconst 0, 1) := by decide +kernel
theorem dX6_stareLine_33 : decode cX6_stareLine 33 = .ok (.aload_n 0, 1) := by decide +kernel
theorem dX6_stareLine_34 : decode cX6_stareLine 34 = .ok (.getfield 15, 3) := by decide +kernel
theorem dX6_stareLine_37 : decode cX6_stareLine 37 = .ok (.getfield 130, 3) := by decide +kernel
theorem dX6_stareLine_40 : decode cX6_stareLine 40 = .ok (.invokevirtual 218, 3) := by decide +kernel
theorem dX6_stareLine_43 : decode cX6_stareLine 43 = .ok (.ifCond .ne 5, 3) := by decide +kernel
theorem dX6_stareLine_46 : decode cX6_stareLine 46 = .ok (.iconst 0, 1) := by decide +kernel
theorem dX6_stareLine_47 : decode cX6_stareLine 47 = .ok (.ireturn, 1) := by decide +kernel
theorem dX6_stareLine_48 : decode cX6_stareLine 48 = .ok (.aload_n 0, 1) := by decide +kernel
theorem dX6_stareLine_49 : decode cX6_stareLine 49 = .ok (.getfield 15, 3) := by decide +kernel
theorem dX6_stareLine_52 : decode cX6_stareLine 52 = .ok (.getfield 221, 3) := by decide +kernel
theorem dX6_stareLine_55 : decode cX6_stareLine 55 = .ok (.iload_n 1, 1) := by decide +kernel
theorem dX6_stareLine_56 : decode cX6_stareLine 56 = .ok (.aload_n 0, 1) := by decide +kernel
theorem dX6_stareLine_57 : decode cX6_stareLine 57 = .ok (.getfield 127, 3) := by decide +kernel
theorem dX6_stareLine_60 : decode cX6_stareLine 60 = .ok (.invokestatic 191, 3) := by decide +kernel
theorem dX6_stareLine_63 : decode cX6_stareLine 63 = .ok (.iconst 1, 1) := by decide +kernel
theorem dX6_stareLine_64 : decode cX6_stareLine 64 = .ok (.ireturn, 1) := by decide +kernel
theorem dX6_person_0 : decode cX6_person 0 = .ok (.aload_n 0, 1) := by decide +kernel
theorem dX6_person_1 : decode cX6_person 1 = .ok (.aload_n 0, 1) := by decide +kernel
theorem dX6_person_2 : decode cX6_person 2 = .ok (.getfield 9, 3) := by decide +kernel
theorem dX6_person_5 : decode cX6_person 5 = .ok (.getfield 44, 3) := by decide +kernel
theorem dX6_person_8 : decode cX6_person 8 = .ok (.putfield 47, 3) := by decide +kernel
theorem dX6_person_11 : decode cX6_person 11 = .ok (.aload_n 0, 1) := by decide +kernel
theorem dX6_person_12 : decode cX6_person 12 = .ok (.getfield 9, 3) := by decide +kernel
theorem dX6_person_15 : decode cX6_person 15 = .ok (.getfield 38, 3) := by decide +kernel
theorem dX6_person_18 : decode cX6_person 18 = .ok (.iconst 2, 1) := by decide +kernel
theorem dX6_person_19 : decode cX6_person 19 = .ok (.if_icmp .ne 10, 3) := by decide +kernel
theorem dX6_person_22 : decode cX6_person 22 = .ok (.aload_n 0, 1) := by decide +kernel
theorem dX6_person_23 : decode cX6_person 23 = .ok (.invokevirtual 54, 3) := by decide +kernel
theorem dX6_person_26 : decode cX6_person 26 = .ok (.ifnull 9, 3) := by decide +kernel
theorem dX6_person_29 : decode cX6_person 29 = .ok (.aload_n 0, 1) := by decide +kernel
theorem dX6_person_30 : decode cX6_person 30 = .ok (.iconst 1, 1) := by decide +kernel
theorem dX6_person_31 : decode cX6_person 31 = .ok (.invokevirtual 58, 3) := by decide +kernel
theorem dX6_person_34 : decode cX6_person 34 = .ok (.ireturn, 1) := by decide +kernel
theorem dX6_person_35 : decode cX6_person 35 = .ok (.aload_n 0, 1) := by decide +kernel
theorem dX6_person_36 : decode cX6_person 36 = .ok (.aload_n 0, 1) := by decide +kernel
theorem dX6_person_37 : decode cX6_person 37 = .ok (.getfield 15, 3) := by decide +kernel
theorem dX6_person_40 : decode cX6_person 40 = .ok (.aload_n 0, 1) := by decide +kernel
theorem dX6_person_41 : decode cX6_person 41 = .ok (.getfield 9, 3) := by decide +kernel
theorem dX6_person_44 : decode cX6_person 44 = .ok (.invokevirtual 144, 3) := by decide +kernel
theorem dX6_person_47 : decode cX6_person 47 = .ok (.invokevirtual 148, 3) := by decide +kernel
theorem dX6_person_50 : decode cX6_person 50 = .ok (.putfield 127, 3) := by decide +kernel
theorem dX6_person_53 : decode cX6_person 53 = .ok (.aload_n 0, 1) := by decide +kernel
theorem dX6_person_54 : decode cX6_person 54 = .ok (.getfield 127, 3) := by decide +kernel
theorem dX6_person_57 : decode cX6_person 57 = .ok (.ifCond .ge 9, 3) := by decide +kernel
theorem dX6_person_60 : decode cX6_person 60 = .ok (.aload_n 0, 1) := by decide +kernel
theorem dX6_person_61 : decode cX6_person 61 = .ok (.iconst 2, 1) := by decide +kernel
theorem dX6_person_62 : decode cX6_person 62 = .ok (.invokevirtual 58, 3) := by decide +kernel
theorem dX6_person_65 : decode cX6_person 65 = .ok (.ireturn, 1) := by decide +kernel
theorem dX6_person_66 : decode cX6_person 66 = .ok (.aload_n 0, 1) := by decide +kernel
theorem dX6_person_67 : decode cX6_person 67 = .ok (.getfield 9, 3) := by decide +kernel
theorem dX6_person_70 : decode cX6_person 70 = .ok (.invokevirtual 41, 3) := by decide +kernel
theorem dX6_person_73 : decode cX6_person 73 = .ok (.iconst 1, 1) := by decide +kernel
theorem dX6_person_74 : decode cX6_person 74 = .ok (.ireturn, 1) := by decide +kernel
theorem dX6_wholeBehind_0 : decode cX6_wholeBehind 0 = .ok (.aload_n 0, 1) := by decide +kernel
theorem dX6_wholeBehind_1 : decode cX6_wholeBehind 1 = .ok (.aload_n 0, 1) := by decide +kernel
theorem dX6_wholeBehind_2 : decode cX6_wholeBehind 2 = .ok (.getfield 9, 3) := by decide +kernel
theorem dX6_wholeBehind_5 : decode cX6_wholeBehind 5 = .ok (.getfield 44, 3) := by decide +kernel
theorem dX6_wholeBehind_8 : decode cX6_wholeBehind 8 = .ok (.putfield 47, 3) := by decide +kernel
theorem dX6_wholeBehind_11 : decode cX6_wholeBehind 11 = .ok (.aload_n 0, 1) := by decide +kernel
theorem dX6_wholeBehind_12 : decode cX6_wholeBehind 12 = .ok (.getfield 9, 3) := by decide +kernel
theorem dX6_wholeBehind_15 : decode cX6_wholeBehind 15 = .ok (.aload_n 1, 1) := by decide +kernel
theorem dX6_wholeBehind_16 : decode cX6_wholeBehind 16 = .ok (.invokevirtual 117, 3) := by decide +kernel
theorem dX6_wholeBehind_19 : decode cX6_wholeBehind 19 = .ok (.ifCond .ne 9, 3) := by decide +kernel
theorem dX6_wholeBehind_22 : decode cX6_wholeBehind 22 = .ok (.aload_n 0, 1) := by decide +kernel
theorem dX6_wholeBehind_23 : decode cX6_wholeBehind 23 = .ok (.iconst 1, 1) := by decide +kernel
theorem dX6_wholeBehind_24 : decode cX6_wholeBehind 24 = .ok (.invokevirtual 58, 3) := by decide +kernel
theorem dX6_wholeBehind_27 : decode cX6_wholeBehind 27 = .ok (.ireturn, 1) := by decide +kernel
theorem dX6_wholeBehind_28 : decode cX6_wholeBehind 28 = .ok (.aload_n 0, 1) := by decide +kernel
theorem dX6_wholeBehind_29 : decode cX6_wholeBehind 29 = .ok (.getfield 9, 3) := by decide +kernel
theorem dX6_wholeBehind_32 : decode cX6_wholeBehind 32 = .ok (.invokevirtual 41, 3) := by decide +kernel
theorem dX6_wholeBehind_35 : decode cX6_wholeBehind 35 = .ok (.aload_n 0, 1) := by decide +kernel
theorem dX6_wholeBehind_36 : decode cX6_wholeBehind 36 = .ok (.iload_n 2, 1) := by decide +kernel
theorem dX6_wholeBehind_37 : decode cX6_wholeBehind 37 = .ok (.iload_n 3, 1) := by decide +kernel
theorem dX6_wholeBehind_38 : decode cX6_wholeBehind 38 = .ok (.invokevirtual 218, 3) := by decide +kernel
theorem dX6_wholeBehind_41 : decode cX6_wholeBehind 41 = .ok (.ireturn, 1) := by decide +kernel
theorem dX6_whole_0 : decode cX6_whole 0 = .ok (.aload_n 0, 1) := by decide +kernel
theorem dX6_whole_1 : decode cX6_whole 1 = .ok (.aload_n 0, 1) := by decide +kernel
theorem dX6_whole_2 : decode cX6_whole 2 = .ok (.getfield 9, 3) := by decide +kernel
theorem dX6_whole_5 : decode cX6_whole 5 = .ok (.getfield 44, 3) := by decide +kernel
theorem dX6_whole_8 : decode cX6_whole 8 = .ok (.putfield 47, 3) := by decide +kernel
theorem dX6_whole_11 : decode cX6_whole 11 = .ok (.aload_n 0, 1) := by decide +kernel
theorem dX6_whole_12 : decode cX6_whole 12 = .ok (.getfield 9, 3) := by decide +kernel
theorem dX6_whole_15 : decode cX6_whole 15 = .ok (.getfield 38, 3) := by decide +kernel
theorem dX6_whole_18 : decode cX6_whole 18 = .ok (.iconst 3, 1) := by decide +kernel
theorem dX6_whole_19 : decode cX6_whole 19 = .ok (.if_icmp .eq 9, 3) := by decide +kernel
theorem dX6_whole_22 : decode cX6_whole 22 = .ok (.aload_n 0, 1) := by decide +kernel
theorem dX6_whole_23 : decode cX6_whole 23 = .ok (.iconst 1, 1) := by decide +kernel
theorem dX6_whole_24 : decode cX6_whole 24 = .ok (.invokevirtual 58, 3) := by decide +kernel
theorem dX6_whole_27 : decode cX6_whole 27 = .ok (.ireturn, 1) := by decide +kernel
theorem dX6_whole_28 : decode cX6_whole 28 = .ok (.aload_n 0, 1) := by decide +kernel
theorem dX6_whole_29 : decode cX6_whole 29 = .ok (.aload_n 0, 1) := by decide +kernel
theorem dX6_whole_30 : decode cX6_whole 30 = .ok (.getfield 9, 3) := by decide +kernel
theorem dX6_whole_33 : decode cX6_whole 33 = .ok (.invokevirtual 224, 3) := by decide +kernel
theorem dX6_whole_36 : decode cX6_whole 36 = .ok (.putfield 127, 3) := by decide +kernel
theorem dX6_whole_39 : decode cX6_whole 39 = .ok (.aload_n 0, 1) := by decide +kernel
theorem dX6_whole_40 : decode cX6_whole 40 = .ok (.getfield 127, 3) := by decide +kernel
theorem dX6_whole_43 : decode cX6_whole 43 = .ok (.iload_n 1, 1) := by decide +kernel
theorem dX6_whole_44 : decode cX6_whole 44 = .ok (.if_icmp .lt 11, 3) := by decide +kernel
theorem dX6_whole_47 : decode cX6_whole 47 = .ok (.aload_n 0, 1) := by decide +kernel
theorem dX6_whole_48 : decode cX6_whole 48 = .ok (.getfield 127, 3) := by decide +kernel
theorem dX6_whole_51 : decode cX6_whole 51 = .ok (.iload_n 2, 1) := by decide +kernel
theorem dX6_whole_52 : decode cX6_whole 52 = .ok (.if_icmp .le 9, 3) := by decide +kernel
theorem dX6_whole_55 : decode cX6_whole 55 = .ok (.aload_n 0, 1) := by decide +kernel
theorem dX6_whole_56 : decode cX6_whole 56 = .ok (.iconst 4, 1) := by decide +kernel
theorem dX6_whole_57 : decode cX6_whole 57 = .ok (.invokevirtual 58, 3) := by decide +kernel
theorem dX6_whole_60 : decode cX6_whole 60 = .ok (.ireturn, 1) := by decide +kernel
theorem dX6_whole_61 : decode cX6_whole 61 = .ok (.aload_n 0, 1) := by decide +kernel
theorem dX6_whole_62 : decode cX6_whole 62 = .ok (.getfield 9, 3) := by decide +kernel
theorem dX6_whole_65 : decode cX6_whole 65 = .ok (.invokevirtual 41, 3) := by decide +kernel
theorem dX6_whole_68 : decode cX6_whole 68 = .ok (.iconst 1, 1) := by decide +kernel
theorem dX6_whole_69 : decode cX6_whole 69 = .ok (.ireturn, 1) := by decide +kernel
theorem dX6_kindWord_0 : decode cX6_kindWord 0 = .ok (.aload_n 0, 1) := by decide +kernel
theorem dX6_kindWord_1 : decode cX6_kindWord 1 = .ok (.aload_n 0, 1) := by decide +kernel
theorem dX6_kindWord_2 : decode cX6_kindWord 2 = .ok (.getfield 9, 3) := by decide +kernel
theorem dX6_kindWord_5 : decode cX6_kindWord 5 = .ok (.getfield 44, 3) := by decide +kernel
theorem dX6_kindWord_8 : decode cX6_kindWord 8 = .ok (.putfield 47, 3) := by decide +kernel
theorem dX6_kindWord_11 : decode cX6_kindWord 11 = .ok (.aload_n 0, 1) := by decide +kernel
theorem dX6_kindWord_12 : decode cX6_kindWord 12 = .ok (.aload_n 0, 1) := by decide +kernel
theorem dX6_kindWord_13 : decode cX6_kindWord 13 = .ok (.getfield 9, 3) := by decide +kernel
theorem dX6_kindWord_16 : decode cX6_kindWord 16 = .ok (.ldc 226, 2) := by decide +kernel
theorem dX6_kindWord_18 : decode cX6_kindWord 18 = .ok (.invokevirtual 117, 3) := by decide +kernel
theorem dX6_kindWord_21 : decode cX6_kindWord 21 = .ok (.ifCond .eq 7, 3) := by decide +kernel
theorem dX6_kindWord_24 : decode cX6_kindWord 24 = .ok (.iconst 0, 1) := by decide +kernel
theorem dX6_kindWord_25 : decode cX6_kindWord 25 = .ok (.goto 53, 3) := by decide +kernel
theorem dX6_kindWord_28 : decode cX6_kindWord 28 = .ok (.aload_n 0, 1) := by decide +kernel
theorem dX6_kindWord_29 : decode cX6_kindWord 29 = .ok (.getfield 9, 3) := by decide +kernel
theorem dX6_kindWord_32 : decode cX6_kindWord 32 = .ok (.ldc 228, 2) := by decide +kernel
theorem dX6_kindWord_34 : decode cX6_kindWord 34 = .ok (.invokevirtual 117, 3) := by decide +kernel
theorem dX6_kindWord_37 : decode cX6_kindWord 37 = .ok (.ifCond .eq 7, 3) := by decide +kernel
theorem dX6_kindWord_40 : decode cX6_kindWord 40 = .ok (.iconst 1, 1) := by decide +kernel
theorem dX6_kindWord_41 : decode cX6_kindWord 41 = .ok (.goto 37, 3) := by decide +kernel
theorem dX6_kindWord_44 : decode cX6_kindWord 44 = .ok (.aload_n 0, 1) := by decide +kernel
theorem dX6_kindWord_45 : decode cX6_kindWord 45 = .ok (.getfield 9, 3) := by decide +kernel
theorem dX6_kindWord_48 : decode cX6_kindWord 48 = .ok (.ldc 230, 2) := by decide +kernel
theorem dX6_kindWord_50 : decode cX6_kindWord 50 = .ok (.invokevirtual 117, 3) := by decide +kernel
theorem dX6_kindWord_53 : decode cX6_kindWord 53 = .ok (.ifCond .eq 7, 3) := by decide +kernel
theorem dX6_kindWord_56 : decode cX6_kindWord 56 = .ok (.iconst 2, 1) := by decide +kernel
theorem dX6_kindWord_57 : decode cX6_kindWord 57 = .ok (.goto 21, 3) := by decide +kernel
theorem dX6_kindWord_60 : decode cX6_kindWord 60 = .ok (.aload_n 0, 1) := by decide +kernel
theorem dX6_kindWord_61 : decode cX6_kindWord 61 = .ok (.getfield 9, 3) := by decide +kernel
theorem dX6_kindWord_64 : decode cX6_kindWord 64 = .ok (.ldc 232, 2) := by decide +kernel
theorem dX6_kindWord_66 : decode cX6_kindWord 66 = .ok (.invokevirtual 117, 3) := by decide +kernel
theorem dX6_kindWord_69 : decode cX6_kindWord 69 = .ok (.ifCond .eq 7, 3) := by decide +kernel
theorem dX6_kindWord_72 : decode cX6_kindWord 72 = .ok (.iconst 3, 1) := by decide +kernel
theorem dX6_kindWord_73 : decode cX6_kindWord 73 = .ok (.goto 5, 3) := by decide +kernel
theorem dX6_kindWord_76 : decode cX6_kindWord 76 = .ok (.bipush (-2), 2) := by decide +kernel
theorem dX6_kindWord_78 : decode cX6_kindWord 78 = .ok (.putfield 127, 3) := by decide +kernel
theorem dX6_kindWord_81 : decode cX6_kindWord 81 = .ok (.aload_n 0, 1) := by decide +kernel
theorem dX6_kindWord_82 : decode cX6_kindWord 82 = .ok (.getfield 127, 3) := by decide +kernel
theorem dX6_kindWord_85 : decode cX6_kindWord 85 = .ok (.ifCond .ge 9, 3) := by decide +kernel
theorem dX6_kindWord_88 : decode cX6_kindWord 88 = .ok (.aload_n 0, 1) := by decide +kernel
theorem dX6_kindWord_89 : decode cX6_kindWord 89 = .ok (.iconst 1, 1) := by decide +kernel
theorem dX6_kindWord_90 : decode cX6_kindWord 90 = .ok (.invokevirtual 58, 3) := by decide +kernel
theorem dX6_kindWord_93 : decode cX6_kindWord 93 = .ok (.ireturn, 1) := by decide +kernel
theorem dX6_kindWord_94 : decode cX6_kindWord 94 = .ok (.aload_n 0, 1) := by decide +kernel
theorem dX6_kindWord_95 : decode cX6_kindWord 95 = .ok (.getfield 9, 3) := by decide +kernel
theorem dX6_kindWord_98 : decode cX6_kindWord 98 = .ok (.invokevirtual 41, 3) := by decide +kernel
theorem dX6_kindWord_101 : decode cX6_kindWord 101 = .ok (.iconst 1, 1) := by decide +kernel
theorem dX6_kindWord_102 : decode cX6_kindWord 102 = .ok (.ireturn, 1) := by decide +kernel
theorem dX6_lookWord_0 : decode cX6_lookWord 0 = .ok (.aload_n 0, 1) := by decide +kernel
theorem dX6_lookWord_1 : decode cX6_lookWord 1 = .ok (.aload_n 0, 1) := by decide +kernel
theorem dX6_lookWord_2 : decode cX6_lookWord 2 = .ok (.getfield 9, 3) := by decide +kernel
theorem dX6_lookWord_5 : decode cX6_lookWord 5 = .ok (.getfield 44, 3) := by decide +kernel
theorem dX6_lookWord_8 : decode cX6_lookWord 8 = .ok (.putfield 47, 3) := by decide +kernel
theorem dX6_lookWord_11 : decode cX6_lookWord 11 = .ok (.aload_n 0, 1) := by decide +kernel
theorem dX6_lookWord_12 : decode cX6_lookWord 12 = .ok (.getfield 9, 3) := by decide +kernel
theorem dX6_lookWord_15 : decode cX6_lookWord 15 = .ok (.getfield 38, 3) := by decide +kernel
theorem dX6_lookWord_18 : decode cX6_lookWord 18 = .ok (.iconst 2, 1) := by decide +kernel
theorem dX6_lookWord_19 : decode cX6_lookWord 19 = .ok (.if_icmp .eq 9, 3) := by decide +kernel
theorem dX6_lookWord_22 : decode cX6_lookWord 22 = .ok (.aload_n 0, 1) := by decide +kernel
theorem dX6_lookWord_23 : decode cX6_lookWord 23 = .ok (.iconst 1, 1) := by decide +kernel
theorem dX6_lookWord_24 : decode cX6_lookWord 24 = .ok (.invokevirtual 58, 3) := by decide +kernel
theorem dX6_lookWord_27 : decode cX6_lookWord 27 = .ok (.ireturn, 1) := by decide +kernel
theorem dX6_lookWord_28 : decode cX6_lookWord 28 = .ok (.aload_n 0, 1) := by decide +kernel
theorem dX6_lookWord_29 : decode cX6_lookWord 29 = .ok (.aload_n 0, 1) := by decide +kernel
theorem dX6_lookWord_30 : decode cX6_lookWord 30 = .ok (.getfield 9, 3) := by decide +kernel
theorem dX6_lookWord_33 : decode cX6_lookWord 33 = .ok (.aload_n 0, 1) := by decide +kernel
theorem dX6_lookWord_34 : decode cX6_lookWord 34 = .ok (.getfield 15, 3) := by decide +kernel
theorem dX6_lookWord_37 : decode cX6_lookWord 37 = .ok (.getfield 130, 3) := by decide +kernel
theorem dX6_lookWord_40 : decode cX6_lookWord 40 = .ok (.invokevirtual 234, 3) := by decide +kernel
theorem dX6_lookWord_43 : decode cX6_lookWord 43 = .ok (.putfield 127, 3) := by decide +kernel
theorem dX6_lookWord_46 : decode cX6_lookWord 46 = .ok (.aload_n 0, 1) := by decide +kernel
theorem dX6_lookWord_47 : decode cX6_lookWord 47 = .ok (.getfield 127, 3) := by decide +kernel
theorem dX6_lookWord_50 : decode cX6_lookWord 50 = .ok (.ifCond .ge 10, 3) := by decide +kernel
theorem dX6_lookWord_53 : decode cX6_lookWord 53 = .ok (.aload_n 0, 1) := by decide +kernel
theorem dX6_lookWord_54 : decode cX6_lookWord 54 = .ok (.bipush 7, 2) := by decide +kernel
theorem dX6_lookWord_56 : decode cX6_lookWord 56 = .ok (.invokevirtual 58, 3) := by decide +kernel
theorem dX6_lookWord_59 : decode cX6_lookWord 59 = .ok (.ireturn, 1) := by decide +kernel
theorem dX6_lookWord_60 : decode cX6_lookWord 60 = .ok (.aload_n 0, 1) := by decide +kernel
theorem dX6_lookWord_61 : decode cX6_lookWord 61 = .ok (.getfield 9, 3) := by decide +kernel
theorem dX6_lookWord_64 : decode cX6_lookWord 64 = .ok (.invokevirtual 41, 3) := by decide +kernel
theorem dX6_lookWord_67 : decode cX6_lookWord 67 = .ok (.iconst 1, 1) := by decide +kernel
theorem dX6_lookWord_68 : decode cX6_lookWord 68 = .ok (.ireturn, 1) := by decide +kernel
theorem dX7_init_0 : decode cX7_init 0 = .ok (.aload_n 0, 1) := by decide +kernel
theorem dX7_init_1 : decode cX7_init 1 = .ok (.invokespecial 3, 3) := by decide +kernel
theorem dX7_init_4 : decode cX7_init 4 = .ok (.aload_n 0, 1) := by decide +kernel
theorem dX7_init_5 : decode cX7_init 5 = .ok (.bipush 25, 2) := by decide +kernel
theorem dX7_init_7 : decode cX7_init 7 = .ok (.newarray .int, 2) := by decide +kernel
theorem dX7_init_9 : decode cX7_init 9 = .ok (.putfield 9, 3) := by decide +kernel
theorem dX7_init_12 : decode cX7_init 12 = .ok (.aload_n 0, 1) := by decide +kernel
theorem dX7_init_13 : decode cX7_init 13 = .ok (.bipush 35, 2) := by decide +kernel
theorem dX7_init_15 : decode cX7_init 15 = .ok (.newarray .int, 2) := by decide +kernel
theorem dX7_init_17 : decode cX7_init 17 = .ok (.putfield 15, 3) := by decide +kernel
theorem dX7_init_20 : decode cX7_init 20 = .ok (.return_, 1) := by decide +kernel
theorem dX7_marksToGuard_0 : decode cX7_marksToGuard 0 = .ok (.aload_n 0, 1) := by decide +kernel
theorem dX7_marksToGuard_1 : decode cX7_marksToGuard 1 = .ok (.aload_n 1, 1) := by decide +kernel
theorem dX7_marksToGuard_2 : decode cX7_marksToGuard 2 = .ok (.iload_n 2, 1) := by decide +kernel
theorem dX7_marksToGuard_3 : decode cX7_marksToGuard 3 = .ok (.invokevirtual 18, 3) := by decide +kernel
theorem dX7_marksToGuard_6 : decode cX7_marksToGuard 6 = .ok (.bipush (-2), 2) := by decide +kernel
theorem dX7_marksToGuard_8 : decode cX7_marksToGuard 8 = .ok (.istore_n 3, 1) := by decide +kernel
theorem dX7_marksToGuard_9 : decode cX7_marksToGuard 9 = .ok (.bipush 7, 2) := by decide +kernel
theorem dX7_marksToGuard_11 : decode cX7_marksToGuard 11 = .ok (.istore 4, 2) := by decide +kernel
theorem dX7_marksToGuard_13 : decode cX7_marksToGuard 13 = .ok (.iconst 0, 1) := by decide +kernel
theorem dX7_marksToGuard_14 : decode cX7_marksToGuard 14 = .ok (.istore 5, 2) := by decide +kernel
theorem dX7_marksToGuard_16 : decode cX7_marksToGuard 16 = .ok (.iload 5, 2) := by decide +kernel
theorem dX7_marksToGuard_18 : decode cX7_marksToGuard 18 = .ok (.iconst 1, 1) := by decide +kernel
theorem dX7_marksToGuard_19 : decode cX7_marksToGuard 19 = .ok (.aload_n 1, 1) := by decide +kernel
theorem dX7_marksToGuard_20 : decode cX7_marksToGuard 20 = .ok (.getfield 22, 3) := by decide +kernel
theorem dX7_marksToGuard_23 : decode cX7_marksToGuard 23 = .ok (.getfield 28, 3) := by decide +kernel
theorem dX7_marksToGuard_26 : decode cX7_marksToGuard 26 = .ok (.ishl, 1) := by decide +kernel
theorem dX7_marksToGuard_27 : decode cX7_marksToGuard 27 = .ok (.if_icmp .ge 38, 3) := by decide +kernel
theorem dX7_marksToGuard_30 : decode cX7_marksToGuard 30 = .ok (.iload 5, 2) := by decide +kernel
theorem dX7_marksToGuard_32 : decode cX7_marksToGuard 32 = .ok (.invokestatic 34, 3) := by decide +kernel
theorem dX7_marksToGuard_35 : decode cX7_marksToGuard 35 = .ok (.iload 4, 2) := by decide +kernel
theorem dX7_marksToGuard_37 : decode cX7_marksToGuard 37 = .ok (.if_icmp .ge 22, 3) := by decide +kernel
theorem dX7_marksToGuard_40 : decode cX7_marksToGuard 40 = .ok (.aload_n 0, 1) := by decide +kernel
theorem dX7_marksToGuard_41 : decode cX7_marksToGuard 41 = .ok (.iload 5, 2) := by decide +kernel
theorem dX7_marksToGuard_43 : decode cX7_marksToGuard 43 = .ok (.invokevirtual 40, 3) := by decide +kernel
theorem dX7_marksToGuard_46 : decode cX7_marksToGuard 46 = .ok (.ifCond .eq 13, 3) := by decide +kernel
theorem dX7_marksToGuard_49 : decode cX7_marksToGuard 49 = .ok (.iload 5, 2) := by decide +kernel
theorem dX7_marksToGuard_51 : decode cX7_marksToGuard 51 = .ok (.istore_n 3, 1) := by decide +kernel
theorem dX7_marksToGuard_52 : decode cX7_marksToGuard 52 = .ok (.iload 5, 2) := by decide +kernel
theorem dX7_marksToGuard_54 : decode cX7_marksToGuard 54 = .ok (.invokestatic 34, 3) := by decide +kernel
theorem dX7_marksToGuard_57 : decode cX7_marksToGuard 57 = .ok (.istore 4, 2) := by decide +kernel
theorem dX7_marksToGuard_59 : decode cX7_marksToGuard 59 = .ok (.iinc 5 1, 3) := by decide +kernel
theorem dX7_marksToGuard_62 : decode cX7_marksToGuard 62 = .ok (.goto (-46), 3) := by decide +kernel
theorem dX7_marksToGuard_65 : decode cX7_marksToGuard 65 = .ok (.iload_n 3, 1) := by decide +kernel
theorem dX7_marksToGuard_66 : decode cX7_marksToGuard 66 = .ok (.ireturn, 1) := by decide +kernel
theorem dX7_listDifferences_0 : decode cX7_listDifferences 0 = .ok (.aload_n 0, 1) := by decide +kernel
theorem dX7_listDifferences_1 : decode cX7_listDifferences 1 = .ok (.iconst 0, 1) := by decide +kernel
theorem dX7_listDifferences_2 : decode cX7_listDifferences 2 = .ok (.putfield 44, 3) := by decide +kernel
theorem dX7_listDifferences_5 : decode cX7_listDifferences 5 = .ok (.iconst 0, 1) := by decide +kernel
theorem dX7_listDifferences_6 : decode cX7_listDifferences 6 = .ok (.istore_n 3, 1) := by decide +kernel
theorem dX7_listDifferences_7 : decode cX7_listDifferences 7 = .ok (.iload_n 3, 1) := by decide +kernel
theorem dX7_listDifferences_8 : decode cX7_listDifferences 8 = .ok (.aload_n 1, 1) := by decide +kernel
theorem dX7_listDifferences_9 : decode cX7_listDifferences 9 = .ok (.getfield 22, 3) := by decide +kernel
theorem dX7_listDifferences_12 : decode cX7_listDifferences 12 = .ok (.invokevirtual 47, 3) := by decide +kernel
theorem dX7_listDifferences_15 : decode cX7_listDifferences 15 = .ok (.if_icmp .ge 80, 3) := by decide +kernel
theorem dX7_listDifferences_18 : decode cX7_listDifferences 18 = .ok (.aload_n 1, 1) := by decide +kernel
theorem dX7_listDifferences_19 : decode cX7_listDifferences 19 = .ok (.iload_n 3, 1) := by decide +kernel
theorem dX7_listDifferences_20 : decode cX7_listDifferences 20 = .ok (.iload_n 2, 1) := by decide +kernel
theorem dX7_listDifferences_21 : decode cX7_listDifferences 21 = .ok (.invokevirtual 51, 3) := by decide +kernel
theorem dX7_listDifferences_24 : decode cX7_listDifferences 24 = .ok (.istore 4, 2) := by decide +kernel
theorem dX7_listDifferences_26 : decode cX7_listDifferences 26 = .ok (.iconst 0, 1) := by decide +kernel
theorem dX7_listDifferences_27 : decode cX7_listDifferences 27 = .ok (.istore 5, 2) := by decide +kernel
theorem dX7_listDifferences_29 : decode cX7_listDifferences 29 = .ok (.iload 5, 2) := by decide +kernel
theorem dX7_listDifferences_31 : decode cX7_listDifferences 31 = .ok (.aload_n 1, 1) := by decide +kernel
theorem dX7_listDifferences_32 : decode cX7_listDifferences 32 = .ok (.getfield 22, 3) := by decide +kernel
theorem dX7_listDifferences_35 : decode cX7_listDifferences 35 = .ok (.invokevirtual 47, 3) := by decide +kernel
theorem dX7_listDifferences_38 : decode cX7_listDifferences 38 = .ok (.if_icmp .ge 51, 3) := by decide +kernel
theorem dX7_listDifferences_41 : decode cX7_listDifferences 41 = .ok (.iload 5, 2) := by decide +kernel
theorem dX7_listDifferences_43 : decode cX7_listDifferences 43 = .ok (.iload_n 3, 1) := by decide +kernel
theorem dX7_listDifferences_44 : decode cX7_listDifferences 44 = .ok (.if_icmp .eq 39, 3) := by decide +kernel
theorem dX7_listDifferences_47 : decode cX7_listDifferences 47 = .ok (.aload_n 0, 1) := by decide +kernel
theorem dX7_listDifferences_48 : decode cX7_listDifferences 48 = .ok (.getfield 9, 3) := by decide +kernel
theorem dX7_listDifferences_51 : decode cX7_listDifferences 51 = .ok (.aload_n 0, 1) := by decide +kernel
theorem dX7_listDifferences_52 : decode cX7_listDifferences 52 = .ok (.getfield 44, 3) := by decide +kernel
theorem dX7_listDifferences_55 : decode cX7_listDifferences 55 = .ok (.aload_n 1, 1) := by decide +kernel
theorem dX7_listDifferences_56 : decode cX7_listDifferences 56 = .ok (.getfield 55, 3) := by decide +kernel
theorem dX7_listDifferences_59 : decode cX7_listDifferences 59 = .ok (.iload 5, 2) := by decide +kernel
theorem dX7_listDifferences_61 : decode cX7_listDifferences 61 = .ok (.iload_n 2, 1) := by decide +kernel
theorem dX7_listDifferences_62 : decode cX7_listDifferences 62 = .ok (.invokevirtual 59, 3) := by decide +kernel
theorem dX7_listDifferences_65 : decode cX7_listDifferences 65 = .ok (.iload 4, 2) := by decide +kernel
theorem dX7_listDifferences_67 : decode cX7_listDifferences 67 = .ok (.invokestatic 64, 3) := by decide +kernel
theorem dX7_listDifferences_70 : decode cX7_listDifferences 70 = .ok (.invokestatic 67, 3) := by decide +kernel
theorem dX7_listDifferences_73 : decode cX7_listDifferences 73 = .ok (.aload_n 0, 1) := by decide +kernel
theorem dX7_listDifferences_74 : decode cX7_listDifferences 74 = .ok (.dup, 1) := by decide +kernel
theorem dX7_listDifferences_75 : decode cX7_listDifferences 75 = .ok (.getfield 44, 3) := by decide +kernel
theorem dX7_listDifferences_78 : decode cX7_listDifferences 78 = .ok (.iconst 1, 1) := by decide +kernel
theorem dX7_listDifferences_79 : decode cX7_listDifferences 79 = .ok (.iadd, 1) := by decide +kernel
theorem dX7_listDifferences_80 : decode cX7_listDifferences 80 = .ok (.putfield 44, 3) := by decide +kernel
theorem dX7_listDifferences_83 : decode cX7_listDifferences 83 = .ok (.iinc 5 1, 3) := by decide +kernel
theorem dX7_listDifferences_86 : decode cX7_listDifferences 86 = .ok (.goto (-57), 3) := by decide +kernel
theorem dX7_listDifferences_89 : decode cX7_listDifferences 89 = .ok (.iinc 3 1, 3) := by decide +kernel
theorem dX7_listDifferences_92 : decode cX7_listDifferences 92 = .ok (.goto (-85), 3) := by decide +kernel
theorem dX7_listDifferences_95 : decode cX7_listDifferences 95 = .ok (.return_, 1) := by decide +kernel
theorem dX7_tellsAllApart_0 : decode cX7_tellsAllApart 0 = .ok (.iconst 0, 1) := by decide +kernel
theorem dX7_tellsAllApart_1 : decode cX7_tellsAllApart 1 = .ok (.istore_n 2, 1) := by decide +kernel
theorem dX7_tellsAllApart_2 : decode cX7_tellsAllApart 2 = .ok (.iload_n 2, 1) := by decide +kernel
theorem dX7_tellsAllApart_3 : decode cX7_tellsAllApart 3 = .ok (.aload_n 0, 1) := by decide +kernel
theorem dX7_tellsAllApart_4 : decode cX7_tellsAllApart 4 = .ok (.getfield 44, 3) := by decide +kernel
theorem dX7_tellsAllApart_7 : decode cX7_tellsAllApart 7 = .ok (.if_icmp .ge 24, 3) := by decide +kernel
theorem dX7_tellsAllApart_10 : decode cX7_tellsAllApart 10 = .ok (.aload_n 0, 1) := by decide +kernel
theorem dX7_tellsAllApart_11 : decode cX7_tellsAllApart 11 = .ok (.getfield 9, 3) := by decide +kernel
theorem dX7_tellsAllApart_14 : decode cX7_tellsAllApart 14 = .ok (.iload_n 2, 1) := by decide +kernel
theorem dX7_tellsAllApart_15 : decode cX7_tellsAllApart 15 = .ok (.invokestatic 71, 3) := by decide +kernel
theorem dX7_tellsAllApart_18 : decode cX7_tellsAllApart 18 = .ok (.iload_n 1, 1) := by decide +kernel
theorem dX7_tellsAllApart_19 : decode cX7_tellsAllApart 19 = .ok (.iand, 1) := by decide +kernel
theorem dX7_tellsAllApart_20 : decode cX7_tellsAllApart 20 = .ok (.ifCond .ne 5, 3) := by decide +kernel
theorem dX7_tellsAllApart_23 : decode cX7_tellsAllApart 23 = .ok (.iconst 0, 1) := by decide +kernel
theorem dX7_tellsAllApart_24 : decode cX7_tellsAllApart 24 = .ok (.ireturn, 1) := by decide +kernel
theorem dX7_tellsAllApart_25 : decode cX7_tellsAllApart 25 = .ok (.iinc 2 1, 3) := by decide +kernel
theorem dX7_tellsAllApart_28 : decode cX7_tellsAllApart 28 = .ok (.goto (-26), 3) := by decide +kernel
theorem dX7_tellsAllApart_31 : decode cX7_tellsAllApart 31 = .ok (.iconst 1, 1) := by decide +kernel
theorem dX7_tellsAllApart_32 : decode cX7_tellsAllApart 32 = .ok (.ireturn, 1) := by decide +kernel
theorem dX7_countLooks_0 : decode cX7_countLooks 0 = .ok (.iconst 1, 1) := by decide +kernel
theorem dX7_countLooks_1 : decode cX7_countLooks 1 = .ok (.iconst 2, 1) := by decide +kernel
theorem dX7_countLooks_2 : decode cX7_countLooks 2 = .ok (.aload_n 0, 1) := by decide +kernel
theorem dX7_countLooks_3 : decode cX7_countLooks 3 = .ok (.getfield 28, 3) := by decide +kernel
theorem dX7_countLooks_6 : decode cX7_countLooks 6 = .ok (.imul, 1) := by decide +kernel
theorem dX7_countLooks_7 : decode cX7_countLooks 7 = .ok (.ishl, 1) := by decide +kernel
theorem dX7_countLooks_8 : decode cX7_countLooks 8 = .ok (.ireturn, 1) := by decide +kernel
theorem dX7_nthLook_0 : decode cX7_nthLook 0 = .ok (.iload_n 1, 1) := by decide +kernel
theorem dX7_nthLook_1 : decode cX7_nthLook 1 = .ok (.iconst 2, 1) := by decide +kernel
theorem dX7_nthLook_2 : decode cX7_nthLook 2 = .ok (.bipush 6, 2) := by decide +kernel
theorem dX7_nthLook_4 : decode cX7_nthLook 4 = .ok (.aload_n 0, 1) := by decide +kernel
theorem dX7_nthLook_5 : decode cX7_nthLook 5 = .ok (.getfield 28, 3) := by decide +kernel
theorem dX7_nthLook_8 : decode cX7_nthLook 8 = .ok (.isub, 1) := by decide +kernel
theorem dX7_nthLook_9 : decode cX7_nthLook 9 = .ok (.imul, 1) := by decide +kernel
theorem dX7_nthLook_10 : decode cX7_nthLook 10 = .ok (.ishl, 1) := by decide +kernel
theorem dX7_nthLook_11 : decode cX7_nthLook 11 = .ok (.ireturn, 1) := by decide +kernel
theorem dX7_alike_0 : decode cX7_alike 0 = .ok (.aload_n 0, 1) := by decide +kernel
theorem dX7_alike_1 : decode cX7_alike 1 = .ok (.getfield 28, 3) := by decide +kernel
theorem dX7_alike_4 : decode cX7_alike 4 = .ok (.iload_n 1, 1) := by decide +kernel
theorem dX7_alike_5 : decode cX7_alike 5 = .ok (.aload_n 0, 1) := by decide +kernel
theorem dX7_alike_6 : decode cX7_alike 6 = .ok (.getfield 75, 3) := by decide +kernel
theorem dX7_alike_9 : decode cX7_alike 9 = .ok (.iload_n 2, 1) := by decide +kernel
theorem dX7_alike_10 : decode cX7_alike 10 = .ok (.invokestatic 71, 3) := by decide +kernel
theorem dX7_alike_13 : decode cX7_alike 13 = .ok (.invokestatic 78, 3) := by decide +kernel
theorem dX7_alike_16 : decode cX7_alike 16 = .ok (.isub, 1) := by decide +kernel
theorem dX7_alike_17 : decode cX7_alike 17 = .ok (.ireturn, 1) := by decide +kernel
theorem dX7_fits_0 : decode cX7_fits 0 = .ok (.iconst 0, 1) := by decide +kernel
theorem dX7_fits_1 : decode cX7_fits 1 = .ok (.istore_n 2, 1) := by decide +kernel
theorem dX7_fits_2 : decode cX7_fits 2 = .ok (.iload_n 2, 1) := by decide +kernel
theorem dX7_fits_3 : decode cX7_fits 3 = .ok (.aload_n 0, 1) := by decide +kernel
theorem dX7_fits_4 : decode cX7_fits 4 = .ok (.invokevirtual 47, 3) := by decide +kernel
theorem dX7_fits_7 : decode cX7_fits 7 = .ok (.if_icmp .ge 36, 3) := by decide +kernel
theorem dX7_fits_10 : decode cX7_fits 10 = .ok (.aload_n 0, 1) := by decide +kernel
theorem dX7_fits_11 : decode cX7_fits 11 = .ok (.iload_n 2, 1) := by decide +kernel
theorem dX7_fits_12 : decode cX7_fits 12 = .ok (.invokevirtual 81, 3) := by decide +kernel
theorem dX7_fits_15 : decode cX7_fits 15 = .ok (.ifCond .eq 22, 3) := by decide +kernel
theorem dX7_fits_18 : decode cX7_fits 18 = .ok (.aload_n 0, 1) := by decide +kernel
theorem dX7_fits_19 : decode cX7_fits 19 = .ok (.iload_n 1, 1) := by decide +kernel
theorem dX7_fits_20 : decode cX7_fits 20 = .ok (.iload_n 2, 1) := by decide +kernel
theorem dX7_fits_21 : decode cX7_fits 21 = .ok (.invokestatic 84, 3) := by decide +kernel
theorem dX7_fits_24 : decode cX7_fits 24 = .ok (.aload_n 0, 1) := by decide +kernel
theorem dX7_fits_25 : decode cX7_fits 25 = .ok (.getfield 88, 3) := by decide +kernel
theorem dX7_fits_28 : decode cX7_fits 28 = .ok (.iload_n 2, 1) := by decide +kernel
theorem dX7_fits_29 : decode cX7_fits 29 = .ok (.invokestatic 71, 3) := by decide +kernel
theorem dX7_fits_32 : decode cX7_fits 32 = .ok (.if_icmp .eq 5, 3) := by decide +kernel
theorem dX7_fits_35 : decode cX7_fits 35 = .ok (.iconst 0, 1) := by decide +kernel
theorem dX7_fits_36 : decode cX7_fits 36 = .ok (.ireturn, 1) := by decide +kernel
theorem dX7_fits_37 : decode cX7_fits 37 = .ok (.iinc 2 1, 3) := by decide +kernel
theorem dX7_fits_40 : decode cX7_fits 40 = .ok (.goto (-38), 3) := by decide +kernel
theorem dX7_fits_43 : decode cX7_fits 43 = .ok (.iconst 1, 1) := by decide +kernel
theorem dX7_fits_44 : decode cX7_fits 44 = .ok (.ireturn, 1) := by decide +kernel
theorem dX7_countFitting_0 : decode cX7_countFitting 0 = .ok (.iconst 0, 1) := by decide +kernel
theorem dX7_countFitting_1 : decode cX7_countFitting 1 = .ok (.istore_n 1, 1) := by decide +kernel
theorem dX7_countFitting_2 : decode cX7_countFitting 2 = .ok (.iconst 0, 1) := by decide +kernel
theorem dX7_countFitting_3 : decode cX7_countFitting 3 = .ok (.istore_n 2, 1) := by decide +kernel
theorem dX7_countFitting_4 : decode cX7_countFitting 4 = .ok (.iload_n 2, 1) := by decide +kernel
theorem dX7_countFitting_5 : decode cX7_countFitting 5 = .ok (.aload_n 0, 1) := by decide +kernel
theorem dX7_countFitting_6 : decode cX7_countFitting 6 = .ok (.invokestatic 91, 3) := by decide +kernel
theorem dX7_countFitting_9 : decode cX7_countFitting 9 = .ok (.if_icmp .ge 29, 3) := by decide +kernel
theorem dX7_countFitting_12 : decode cX7_countFitting 12 = .ok (.iload_n 1, 1) := by decide +kernel
theorem dX7_countFitting_13 : decode cX7_countFitting 13 = .ok (.aload_n 0, 1) := by decide +kernel
theorem dX7_countFitting_14 : decode cX7_countFitting 14 = .ok (.aload_n 0, 1) := by decide +kernel
theorem dX7_countFitting_15 : decode cX7_countFitting 15 = .ok (.iload_n 2, 1) := by decide +kernel
theorem dX7_countFitting_16 : decode cX7_countFitting 16 = .ok (.invokestatic 95, 3) := by decide +kernel
theorem dX7_countFitting_19 : decode cX7_countFitting 19 = .ok (.invokestatic 99, 3) := by decide +kernel
theorem dX7_countFitting_22 : decode cX7_countFitting 22 = .ok (.ifCond .eq 7, 3) := by decide +kernel
theorem dX7_countFitting_25 : decode cX7_countFitting 25 = .ok (.iconst 1, 1) := by decide +kernel
theorem dX7_countFitting_26 : decode cX7_countFitting 26 = .ok (.goto 4, 3) := by decide +kernel
theorem dX7_countFitting_29 : decode cX7_countFitting 29 = .ok (.iconst 0, 1) := by decide +kernel
theorem dX7_countFitting_30 : decode cX7_countFitting 30 = .ok (.iadd, 1) := by decide +kernel
theorem dX7_countFitting_31 : decode cX7_countFitting 31 = .ok (.istore_n 1, 1) := by decide +kernel
theorem dX7_countFitting_32 : decode cX7_countFitting 32 = .ok (.iinc 2 1, 3) := by decide +kernel
theorem dX7_countFitting_35 : decode cX7_countFitting 35 = .ok (.goto (-31), 3) := by decide +kernel
theorem dX7_countFitting_38 : decode cX7_countFitting 38 = .ok (.iload_n 1, 1) := by decide +kernel
theorem dX7_countFitting_39 : decode cX7_countFitting 39 = .ok (.ireturn, 1) := by decide +kernel
theorem dX7_fittingAt_0 : decode cX7_fittingAt 0 = .ok (.iconst 0, 1) := by decide +kernel
theorem dX7_fittingAt_1 : decode cX7_fittingAt 1 = .ok (.istore_n 2, 1) := by decide +kernel
theorem dX7_fittingAt_2 : decode cX7_fittingAt 2 = .ok (.iconst 0, 1) := by decide +kernel
theorem dX7_fittingAt_3 : decode cX7_fittingAt 3 = .ok (.istore_n 3, 1) := by decide +kernel
theorem dX7_fittingAt_4 : decode cX7_fittingAt 4 = .ok (.iload_n 3, 1) := by decide +kernel
theorem dX7_fittingAt_5 : decode cX7_fittingAt 5 = .ok (.aload_n 0, 1) := by decide +kernel
theorem dX7_fittingAt_6 : decode cX7_fittingAt 6 = .ok (.invokestatic 91, 3) := by decide +kernel
theorem dX7_fittingAt_9 : decode cX7_fittingAt 9 = .ok (.if_icmp .ge 35, 3) := by decide +kernel
theorem dX7_fittingAt_12 : decode cX7_fittingAt 12 = .ok (.aload_n 0, 1) := by decide +kernel
theorem dX7_fittingAt_13 : decode cX7_fittingAt 13 = .ok (.aload_n 0, 1) := by decide +kernel
theorem dX7_fittingAt_14 : decode cX7_fittingAt 14 = .ok (.iload_n 3, 1) := by decide +kernel
theorem dX7_fittingAt_15 : decode cX7_fittingAt 15 = .ok (.invokestatic 95, 3) := by decide +kernel
theorem dX7_fittingAt_18 : decode cX7_fittingAt 18 = .ok (.invokestatic 99, 3) := by decide +kernel
theorem dX7_fittingAt_21 : decode cX7_fittingAt 21 = .ok (.ifCond .eq 17, 3) := by decide +kernel
theorem dX7_fittingAt_24 : decode cX7_fittingAt 24 = .ok (.iload_n 2, 1) := by decide +kernel
theorem dX7_fittingAt_25 : decode cX7_fittingAt 25 = .ok (.iload_n 1, 1) := by decide +kernel
theorem dX7_fittingAt_26 : decode cX7_fittingAt 26 = .ok (.if_icmp .ne 9, 3) := by decide +kernel
theorem dX7_fittingAt_29 : decode cX7_fittingAt 29 = .ok (.aload_n 0, 1) := by decide +kernel
theorem dX7_fittingAt_30 : decode cX7_fittingAt 30 = .ok (.iload_n 3, 1) := by decide +kernel
theorem dX7_fittingAt_31 : decode cX7_fittingAt 31 = .ok (.invokestatic 95, 3) := by decide +kernel
theorem dX7_fittingAt_34 : decode cX7_fittingAt 34 = .ok (.ireturn, 1) := by decide +kernel
theorem dX7_fittingAt_35 : decode cX7_fittingAt 35 = .ok (.iinc 2 1, 3) := by decide +kernel
theorem dX7_fittingAt_38 : decode cX7_fittingAt 38 = .ok (.iinc 3 1, 3) := by decide +kernel
theorem dX7_fittingAt_41 : decode cX7_fittingAt 41 = .ok (.goto (-37), 3) := by decide +kernel
theorem dX7_fittingAt_44 : decode cX7_fittingAt 44 = .ok (.bipush (-2), 2) := by decide +kernel
theorem dX7_fittingAt_46 : decode cX7_fittingAt 46 = .ok (.ireturn, 1) := by decide +kernel
theorem dX7_choosePass_0 : decode cX7_choosePass 0 = .ok (.aload_n 0, 1) := by decide +kernel
theorem dX7_choosePass_1 : decode cX7_choosePass 1 = .ok (.aload_n 1, 1) := by decide +kernel
theorem dX7_choosePass_2 : decode cX7_choosePass 2 = .ok (.invokevirtual 103, 3) := by decide +kernel
theorem dX7_choosePass_5 : decode cX7_choosePass 5 = .ok (.istore_n 2, 1) := by decide +kernel
theorem dX7_choosePass_6 : decode cX7_choosePass 6 = .ok (.aload_n 0, 1) := by decide +kernel
theorem dX7_choosePass_7 : decode cX7_choosePass 7 = .ok (.bipush (-2), 2) := by decide +kernel
theorem dX7_choosePass_9 : decode cX7_choosePass 9 = .ok (.putfield 107, 3) := by decide +kernel
theorem dX7_choosePass_12 : decode cX7_choosePass 12 = .ok (.aload_n 0, 1) := by decide +kernel
theorem dX7_choosePass_13 : decode cX7_choosePass 13 = .ok (.bipush (-2), 2) := by decide +kernel
theorem dX7_choosePass_15 : decode cX7_choosePass 15 = .ok (.putfield 110, 3) := by decide +kernel
theorem dX7_choosePass_18 : decode cX7_choosePass 18 = .ok (.iconst 0, 1) := by decide +kernel
theorem dX7_choosePass_19 : decode cX7_choosePass 19 = .ok (.istore_n 3, 1) := by decide +kernel
theorem dX7_choosePass_20 : decode cX7_choosePass 20 = .ok (.iload_n 3, 1) := by decide +kernel
theorem dX7_choosePass_21 : decode cX7_choosePass 21 = .ok (.aload_n 1, 1) := by decide +kernel
theorem dX7_choosePass_22 : decode cX7_choosePass 22 = .ok (.invokevirtual 47, 3) := by decide +kernel
theorem dX7_choosePass_25 : decode cX7_choosePass 25 = .ok (.if_icmp .ge 47, 3) := by decide +kernel
theorem dX7_choosePass_28 : decode cX7_choosePass 28 = .ok (.iload_n 2, 1) := by decide +kernel
theorem dX7_choosePass_29 : decode cX7_choosePass 29 = .ok (.ifCond .eq 43, 3) := by decide +kernel
theorem dX7_choosePass_32 : decode cX7_choosePass 32 = .ok (.aload_n 0, 1) := by decide +kernel
theorem dX7_choosePass_33 : decode cX7_choosePass 33 = .ok (.iload_n 3, 1) := by decide +kernel
theorem dX7_choosePass_34 : decode cX7_choosePass 34 = .ok (.invokevirtual 113, 3) := by decide +kernel
theorem dX7_choosePass_37 : decode cX7_choosePass 37 = .ok (.istore 4, 2) := by decide +kernel
theorem dX7_choosePass_39 : decode cX7_choosePass 39 = .ok (.aload_n 0, 1) := by decide +kernel
theorem dX7_choosePass_40 : decode cX7_choosePass 40 = .ok (.getfield 107, 3) := by decide +kernel
theorem dX7_choosePass_43 : decode cX7_choosePass 43 = .ok (.ifCond .lt 12, 3) := by decide +kernel
theorem dX7_choosePass_46 : decode cX7_choosePass 46 = .ok (.iload 4, 2) := by decide +kernel
theorem dX7_choosePass_48 : decode cX7_choosePass 48 = .ok (.aload_n 0, 1) := by decide +kernel
theorem dX7_choosePass_49 : decode cX7_choosePass 49 = .ok (.getfield 110, 3) := by decide +kernel
theorem dX7_choosePass_52 : decode cX7_choosePass 52 = .ok (.if_icmp .ge 14, 3) := by decide +kernel
theorem dX7_choosePass_55 : decode cX7_choosePass 55 = .ok (.aload_n 0, 1) := by decide +kernel
theorem dX7_choosePass_56 : decode cX7_choosePass 56 = .ok (.iload_n 3, 1) := by decide +kernel
theorem dX7_choosePass_57 : decode cX7_choosePass 57 = .ok (.putfield 107, 3) := by decide +kernel
theorem dX7_choosePass_60 : decode cX7_choosePass 60 = .ok (.aload_n 0, 1) := by decide +kernel
theorem dX7_choosePass_61 : decode cX7_choosePass 61 = .ok (.iload 4, 2) := by decide +kernel
theorem dX7_choosePass_63 : decode cX7_choosePass 63 = .ok (.putfield 110, 3) := by decide +kernel
theorem dX7_choosePass_66 : decode cX7_choosePass 66 = .ok (.iinc 3 1, 3) := by decide +kernel
theorem dX7_choosePass_69 : decode cX7_choosePass 69 = .ok (.goto (-49), 3) := by decide +kernel
theorem dX7_choosePass_72 : decode cX7_choosePass 72 = .ok (.return_, 1) := by decide +kernel
theorem dX7_tallyFitting_0 : decode cX7_tallyFitting 0 = .ok (.iconst 0, 1) := by decide +kernel
theorem dX7_tallyFitting_1 : decode cX7_tallyFitting 1 = .ok (.istore_n 2, 1) := by decide +kernel
theorem dX7_tallyFitting_2 : decode cX7_tallyFitting 2 = .ok (.aload_n 0, 1) := by decide +kernel
theorem dX7_tallyFitting_3 : decode cX7_tallyFitting 3 = .ok (.getfield 15, 3) := by decide +kernel
theorem dX7_tallyFitting_6 : decode cX7_tallyFitting 6 = .ok (.iconst 0, 1) := by decide +kernel
theorem dX7_tallyFitting_7 : decode cX7_tallyFitting 7 = .ok (.invokestatic 116, 3) := by decide +kernel
theorem dX7_tallyFitting_10 : decode cX7_tallyFitting 10 = .ok (.iconst 0, 1) := by decide +kernel
theorem dX7_tallyFitting_11 : decode cX7_tallyFitting 11 = .ok (.istore_n 3, 1) := by decide +kernel
theorem dX7_tallyFitting_12 : decode cX7_tallyFitting 12 = .ok (.iload_n 3, 1) := by decide +kernel
theorem dX7_tallyFitting_13 : decode cX7_tallyFitting 13 = .ok (.aload_n 1, 1) := by decide +kernel
theorem dX7_tallyFitting_14 : decode cX7_tallyFitting 14 = .ok (.invokestatic 91, 3) := by decide +kernel
theorem dX7_tallyFitting_17 : decode cX7_tallyFitting 17 = .ok (.if_icmp .ge 81, 3) := by decide +kernel
theorem dX7_tallyFitting_20 : decode cX7_tallyFitting 20 = .ok (.aload_n 1, 1) := by decide +kernel
theorem dX7_tallyFitting_21 : decode cX7_tallyFitting 21 = .ok (.iload_n 3, 1) := by decide +kernel
theorem dX7_tallyFitting_22 : decode cX7_tallyFitting 22 = .ok (.invokestatic 95, 3) := by decide +kernel
theorem dX7_tallyFitting_25 : decode cX7_tallyFitting 25 = .ok (.istore 4, 2) := by decide +kernel
theorem dX7_tallyFitting_27 : decode cX7_tallyFitting 27 = .ok (.aload_n 1, 1) := by decide +kernel
theorem dX7_tallyFitting_28 : decode cX7_tallyFitting 28 = .ok (.iload 4, 2) := by decide +kernel
theorem dX7_tallyFitting_30 : decode cX7_tallyFitting 30 = .ok (.invokestatic 99, 3) := by decide +kernel
theorem dX7_tallyFitting_33 : decode cX7_tallyFitting 33 = .ok (.ifCond .eq 59, 3) := by decide +kernel
theorem dX7_tallyFitting_36 : decode cX7_tallyFitting 36 = .ok (.iconst 1, 1) := by decide +kernel
theorem dX7_tallyFitting_37 : decode cX7_tallyFitting 37 = .ok (.istore_n 2, 1) := by decide +kernel
theorem dX7_tallyFitting_38 : decode cX7_tallyFitting 38 = .ok (.iconst 0, 1) := by decide +kernel
theorem dX7_tallyFitting_39 : decode cX7_tallyFitting 39 = .ok (.istore 5, 2) := by decide +kernel
theorem dX7_tallyFitting_41 : decode cX7_tallyFitting 41 = .ok (.iload 5, 2) := by decide +kernel
theorem dX7_tallyFitting_43 : decode cX7_tallyFitting 43 = .ok (.aload_n 1, 1) := by decide +kernel
theorem dX7_tallyFitting_44 : decode cX7_tallyFitting 44 = .ok (.invokevirtual 47, 3) := by decide +kernel
theorem dX7_tallyFitting_47 : decode cX7_tallyFitting 47 = .ok (.if_icmp .ge 45, 3) := by decide +kernel
theorem dX7_tallyFitting_50 : decode cX7_tallyFitting 50 = .ok (.iload 5, 2) := by decide +kernel
theorem dX7_tallyFitting_52 : decode cX7_tallyFitting 52 = .ok (.bipush 7, 2) := by decide +kernel
theorem dX7_tallyFitting_54 : decode cX7_tallyFitting 54 = .ok (.imul, 1) := by decide +kernel
theorem dX7_tallyFitting_55 : decode cX7_tallyFitting 55 = .ok (.aload_n 1, 1) := by decide +kernel
theorem dX7_tallyFitting_56 : decode cX7_tallyFitting 56 = .ok (.iload 4, 2) := by decide +kernel
theorem dX7_tallyFitting_58 : decode cX7_tallyFitting 58 = .ok (.iload 5, 2) := by decide +kernel
theorem dX7_tallyFitting_60 : decode cX7_tallyFitting 60 = .ok (.invokestatic 84, 3) := by decide +kernel
theorem dX7_tallyFitting_63 : decode cX7_tallyFitting 63 = .ok (.iadd, 1) := by decide +kernel
theorem dX7_tallyFitting_64 : decode cX7_tallyFitting 64 = .ok (.istore 6, 2) := by decide +kernel
theorem dX7_tallyFitting_66 : decode cX7_tallyFitting 66 = .ok (.aload_n 0, 1) := by decide +kernel
theorem dX7_tallyFitting_67 : decode cX7_tallyFitting 67 = .ok (.getfield 15, 3) := by decide +kernel
theorem dX7_tallyFitting_70 : decode cX7_tallyFitting 70 = .ok (.iload 6, 2) := by decide +kernel
theorem dX7_tallyFitting_72 : decode cX7_tallyFitting 72 = .ok (.aload_n 0, 1) := by decide +kernel
theorem dX7_tallyFitting_73 : decode cX7_tallyFitting 73 = .ok (.getfield 15, 3) := by decide +kernel
theorem dX7_tallyFitting_76 : decode cX7_tallyFitting 76 = .ok (.iload 6, 2) := by decide +kernel
theorem dX7_tallyFitting_78 : decode cX7_tallyFitting 78 = .ok (.invokestatic 71, 3) := by decide +kernel
theorem dX7_tallyFitting_81 : decode cX7_tallyFitting 81 = .ok (.iconst 1, 1) := by decide +kernel
theorem dX7_tallyFitting_82 : decode cX7_tallyFitting 82 = .ok (.iadd, 1) := by decide +kernel
theorem dX7_tallyFitting_83 : decode cX7_tallyFitting 83 = .ok (.invokestatic 67, 3) := by decide +kernel
theorem dX7_tallyFitting_86 : decode cX7_tallyFitting 86 = .ok (.iinc 5 1, 3) := by decide +kernel
theorem dX7_tallyFitting_89 : decode cX7_tallyFitting 89 = .ok (.goto (-48), 3) := by decide +kernel
theorem dX7_tallyFitting_92 : decode cX7_tallyFitting 92 = .ok (.iinc 3 1, 3) := by decide +kernel
theorem dX7_tallyFitting_95 : decode cX7_tallyFitting 95 = .ok (.goto (-83), 3) := by decide +kernel
theorem dX7_tallyFitting_98 : decode cX7_tallyFitting 98 = .ok (.iload_n 2, 1) := by decide +kernel
theorem dX7_tallyFitting_99 : decode cX7_tallyFitting 99 = .ok (.ireturn, 1) := by decide +kernel
theorem dX7_mostLeft_0 : decode cX7_mostLeft 0 = .ok (.iconst 0, 1) := by decide +kernel
theorem dX7_mostLeft_1 : decode cX7_mostLeft 1 = .ok (.istore_n 2, 1) := by decide +kernel
theorem dX7_mostLeft_2 : decode cX7_mostLeft 2 = .ok (.iconst 0, 1) := by decide +kernel
theorem dX7_mostLeft_3 : decode cX7_mostLeft 3 = .ok (.istore_n 3, 1) := by decide +kernel
theorem dX7_mostLeft_4 : decode cX7_mostLeft 4 = .ok (.iload_n 3, 1) := by decide +kernel
theorem dX7_mostLeft_5 : decode cX7_mostLeft 5 = .ok (.bipush 6, 2) := by decide +kernel
theorem dX7_mostLeft_7 : decode cX7_mostLeft 7 = .ok (.if_icmp .gt 27, 3) := by decide +kernel
theorem dX7_mostLeft_10 : decode cX7_mostLeft 10 = .ok (.iload_n 2, 1) := by decide +kernel
theorem dX7_mostLeft_11 : decode cX7_mostLeft 11 = .ok (.aload_n 0, 1) := by decide +kernel
theorem dX7_mostLeft_12 : decode cX7_mostLeft 12 = .ok (.getfield 15, 3) := by decide +kernel
theorem dX7_mostLeft_15 : decode cX7_mostLeft 15 = .ok (.iload_n 1, 1) := by decide +kernel
theorem dX7_mostLeft_16 : decode cX7_mostLeft 16 = .ok (.bipush 7, 2) := by decide +kernel
theorem dX7_mostLeft_18 : decode cX7_mostLeft 18 = .ok (.imul, 1) := by decide +kernel
theorem dX7_mostLeft_19 : decode cX7_mostLeft 19 = .ok (.iload_n 3, 1) := by decide +kernel
theorem dX7_mostLeft_20 : decode cX7_mostLeft 20 = .ok (.iadd, 1) := by decide +kernel
theorem dX7_mostLeft_21 : decode cX7_mostLeft 21 = .ok (.invokestatic 71, 3) := by decide +kernel
theorem dX7_mostLeft_24 : decode cX7_mostLeft 24 = .ok (.invokestatic 120, 3) := by decide +kernel
theorem dX7_mostLeft_27 : decode cX7_mostLeft 27 = .ok (.istore_n 2, 1) := by decide +kernel
theorem dX7_mostLeft_28 : decode cX7_mostLeft 28 = .ok (.iinc 3 1, 3) := by decide +kernel
theorem dX7_mostLeft_31 : decode cX7_mostLeft 31 = .ok (.goto (-27), 3) := by decide +kernel
theorem dX7_mostLeft_34 : decode cX7_mostLeft 34 = .ok (.iload_n 2, 1) := by decide +kernel
theorem dX7_mostLeft_35 : decode cX7_mostLeft 35 = .ok (.ireturn, 1) := by decide +kernel
theorem dX8_init_0 : decode cX8_init 0 = .ok (.aload_n 0, 1) := by decide +kernel
theorem dX8_init_1 : decode cX8_init 1 = .ok (.invokespecial 3, 3) := by decide +kernel
theorem dX8_init_4 : decode cX8_init 4 = .ok (.aload_n 0, 1) := by decide +kernel
theorem dX8_init_5 : decode cX8_init 5 = .ok (.iconst 5, 1) := by decide +kernel
theorem dX8_init_6 : decode cX8_init 6 = .ok (.newarray .int, 2) := by decide +kernel
theorem dX8_init_8 : decode cX8_init 8 = .ok (.putfield 9, 3) := by decide +kernel
theorem dX8_init_11 : decode cX8_init 11 = .ok (.aload_n 0, 1) := by decide +kernel
theorem dX8_init_12 : decode cX8_init 12 = .ok (.iconst 5, 1) := by decide +kernel
theorem dX8_init_13 : decode cX8_init 13 = .ok (.newarray .int, 2) := by decide +kernel
theorem dX8_init_15 : decode cX8_init 15 = .ok (.putfield 15, 3) := by decide +kernel
theorem dX8_init_18 : decode cX8_init 18 = .ok (.aload_n 0, 1) := by decide +kernel
theorem dX8_init_19 : decode cX8_init 19 = .ok (.iconst 5, 1) := by decide +kernel
theorem dX8_init_20 : decode cX8_init 20 = .ok (.newarray .int, 2) := by decide +kernel
theorem dX8_init_22 : decode cX8_init 22 = .ok (.putfield 18, 3) := by decide +kernel
theorem dX8_init_25 : decode cX8_init 25 = .ok (.return_, 1) := by decide +kernel
theorem dX8_trade_0 : decode cX8_trade 0 = .ok (.iconst 0, 1) := by decide +kernel
theorem dX8_trade_1 : decode cX8_trade 1 = .ok (.istore_n 2, 1) := by decide +kernel
theorem dX8_trade_2 : decode cX8_trade 2 = .ok (.iload_n 2, 1) := by decide +kernel
theorem dX8_trade_3 : decode cX8_trade 3 = .ok (.iconst 5, 1) := by decide +kernel
theorem dX8_trade_4 : decode cX8_trade 4 = .ok (.if_icmp .ge 69, 3) := by decide +kernel
theorem dX8_trade_7 : decode cX8_trade 7 = .ok (.iload_n 2, 1) := by decide +kernel
theorem dX8_trade_8 : decode cX8_trade 8 = .ok (.aload_n 1, 1) := by decide +kernel
theorem dX8_trade_9 : decode cX8_trade 9 = .ok (.getfield 21, 3) := by decide +kernel
theorem dX8_trade_12 : decode cX8_trade 12 = .ok (.invokevirtual 27, 3) := by decide +kernel
theorem dX8_trade_15 : decode cX8_trade 15 = .ok (.if_icmp .ge 18, 3) := by decide +kernel
theorem dX8_trade_18 : decode cX8_trade 18 = .ok (.aload_n 1, 1) := by decide +kernel
theorem dX8_trade_19 : decode cX8_trade 19 = .ok (.getfield 21, 3) := by decide +kernel
theorem dX8_trade_22 : decode cX8_trade 22 = .ok (.iload_n 2, 1) := by decide +kernel
theorem dX8_trade_23 : decode cX8_trade 23 = .ok (.invokevirtual 33, 3) := by decide +kernel
theorem dX8_trade_26 : decode cX8_trade 26 = .ok (.ifCond .lt 7, 3) := by decide +kernel
theorem dX8_trade_29 : decode cX8_trade 29 = .ok (.iconst 1, 1) := by decide +kernel
theorem dX8_trade_30 : decode cX8_trade 30 = .ok (.goto 4, 3) := by decide +kernel
theorem dX8_trade_33 : decode cX8_trade 33 = .ok (.iconst 0, 1) := by decide +kernel
theorem dX8_trade_34 : decode cX8_trade 34 = .ok (.istore_n 3, 1) := by decide +kernel
theorem dX8_trade_35 : decode cX8_trade 35 = .ok (.aload_n 0, 1) := by decide +kernel
theorem dX8_trade_36 : decode cX8_trade 36 = .ok (.getfield 9, 3) := by decide +kernel
theorem dX8_trade_39 : decode cX8_trade 39 = .ok (.iload_n 2, 1) := by decide +kernel
theorem dX8_trade_40 : decode cX8_trade 40 = .ok (.iload_n 3, 1) := by decide +kernel
theorem dX8_trade_41 : decode cX8_trade 41 = .ok (.ifCond .eq 11, 3) := by decide +kernel
theorem dX8_trade_44 : decode cX8_trade 44 = .ok (.aload_n 1, 1) := by decide +kernel
theorem dX8_trade_45 : decode cX8_trade 45 = .ok (.iload_n 2, 1) := by decide +kernel
theorem dX8_trade_46 : decode cX8_trade 46 = .ok (.invokestatic 37, 3) := by decide +kernel
theorem dX8_trade_49 : decode cX8_trade 49 = .ok (.goto 5, 3) := by decide +kernel
theorem dX8_trade_52 : decode cX8_trade 52 = .ok (.bipush (-2), 2) := by decide +kernel
theorem dX8_trade_54 : decode cX8_trade 54 = .ok (.invokestatic 41, 3) := by decide +kernel
theorem dX8_trade_57 : decode cX8_trade 57 = .ok (.aload_n 0, 1) := by decide +kernel
theorem dX8_trade_58 : decode cX8_trade 58 = .ok (.getfield 15, 3) := by decide +kernel
theorem dX8_trade_61 : decode cX8_trade 61 = .ok (.iload_n 2, 1) := by decide +kernel
theorem dX8_trade_62 : decode cX8_trade 62 = .ok (.bipush (-2), 2) := by decide +kernel
theorem dX8_trade_64 : decode cX8_trade 64 = .ok (.invokestatic 41, 3) := by decide +kernel
theorem dX8_trade_67 : decode cX8_trade 67 = .ok (.iinc 2 1, 3) := by decide +kernel
theorem dX8_trade_70 : decode cX8_trade 70 = .ok (.goto (-68), 3) := by decide +kernel
theorem dX8_trade_73 : decode cX8_trade 73 = .ok (.iconst 0, 1) := by decide +kernel
theorem dX8_trade_74 : decode cX8_trade 74 = .ok (.istore_n 2, 1) := by decide +kernel
theorem dX8_trade_75 : decode cX8_trade 75 = .ok (.iload_n 2, 1) := by decide +kernel
theorem dX8_trade_76 : decode cX8_trade 76 = .ok (.iconst 5, 1) := by decide +kernel
theorem dX8_trade_77 : decode cX8_trade 77 = .ok (.if_icmp .ge 18, 3) := by decide +kernel
theorem dX8_trade_80 : decode cX8_trade 80 = .ok (.aload_n 0, 1) := by decide +kernel
theorem dX8_trade_81 : decode cX8_trade 81 = .ok (.aload_n 1, 1) := by decide +kernel
theorem dX8_trade_82 : decode cX8_trade 82 = .ok (.invokevirtual 45, 3) := by decide +kernel
theorem dX8_trade_85 : decode cX8_trade 85 = .ok (.aload_n 0, 1) := by decide +kernel
theorem dX8_trade_86 : decode cX8_trade 86 = .ok (.invokevirtual 49, 3) := by decide +kernel
theorem dX8_trade_89 : decode cX8_trade 89 = .ok (.iinc 2 1, 3) := by decide +kernel
theorem dX8_trade_92 : decode cX8_trade 92 = .ok (.goto (-17), 3) := by decide +kernel
theorem dX8_trade_95 : decode cX8_trade 95 = .ok (.return_, 1) := by decide +kernel
theorem dX8_onlyVisit_0 : decode cX8_onlyVisit 0 = .ok (.bipush (-2), 2) := by decide +kernel
theorem dX8_onlyVisit_2 : decode cX8_onlyVisit 2 = .ok (.istore_n 2, 1) := by decide +kernel
theorem dX8_onlyVisit_3 : decode cX8_onlyVisit 3 = .ok (.aload_n 0, 1) := by decide +kernel
theorem dX8_onlyVisit_4 : decode cX8_onlyVisit 4 = .ok (.getfield 52, 3) := by decide +kernel
theorem dX8_onlyVisit_7 : decode cX8_onlyVisit 7 = .ok (.istore_n 3, 1) := by decide +kernel
theorem dX8_onlyVisit_8 : decode cX8_onlyVisit 8 = .ok (.iload_n 3, 1) := by decide +kernel
theorem dX8_onlyVisit_9 : decode cX8_onlyVisit 9 = .ok (.bipush 30, 2) := by decide +kernel
theorem dX8_onlyVisit_11 : decode cX8_onlyVisit 11 = .ok (.if_icmp .ge 27, 3) := by decide +kernel
theorem dX8_onlyVisit_14 : decode cX8_onlyVisit 14 = .ok (.aload_n 0, 1) := by decide +kernel
theorem dX8_onlyVisit_15 : decode cX8_onlyVisit 15 = .ok (.iload_n 3, 1) := by decide +kernel
theorem dX8_onlyVisit_16 : decode cX8_onlyVisit 16 = .ok (.invokevirtual 56, 3) := by decide +kernel
theorem dX8_onlyVisit_19 : decode cX8_onlyVisit 19 = .ok (.iload_n 1, 1) := by decide +kernel
theorem dX8_onlyVisit_20 : decode cX8_onlyVisit 20 = .ok (.if_icmp .ne 12, 3) := by decide +kernel
theorem dX8_onlyVisit_23 : decode cX8_onlyVisit 23 = .ok (.iload_n 2, 1) := by decide +kernel
theorem dX8_onlyVisit_24 : decode cX8_onlyVisit 24 = .ok (.ifCond .lt 6, 3) := by decide +kernel
theorem dX8_onlyVisit_27 : decode cX8_onlyVisit 27 = .ok (.bipush (-2), 2) := by decide +kernel
theorem dX8_onlyVisit_29 : decode cX8_onlyVisit 29 = .ok (.ireturn, 1) := by decide +kernel
theorem dX8_onlyVisit_30 : decode cX8_onlyVisit 30 = .ok (.iload_n 3, 1) := by decide +kernel
theorem dX8_onlyVisit_31 : decode cX8_onlyVisit 31 = .ok (.istore_n 2, 1) := by decide +kernel
theorem dX8_onlyVisit_32 : decode cX8_onlyVisit 32 = .ok (.iinc 3 1, 3) := by decide +kernel
theorem dX8_onlyVisit_35 : decode cX8_onlyVisit 35 = .ok (.goto (-27), 3) := by decide +kernel
theorem dX8_onlyVisit_38 : decode cX8_onlyVisit 38 = .ok (.iload_n 2, 1) := by decide +kernel
theorem dX8_onlyVisit_39 : decode cX8_onlyVisit 39 = .ok (.ireturn, 1) := by decide +kernel
theorem dX8_waits_0 : decode cX8_waits 0 = .ok (.aload_n 0, 1) := by decide +kernel
theorem dX8_waits_1 : decode cX8_waits 1 = .ok (.getfield 9, 3) := by decide +kernel
theorem dX8_waits_4 : decode cX8_waits 4 = .ok (.iload_n 1, 1) := by decide +kernel
theorem dX8_waits_5 : decode cX8_waits 5 = .ok (.invokestatic 59, 3) := by decide +kernel
theorem dX8_waits_8 : decode cX8_waits 8 = .ok (.ifCond .lt 18, 3) := by decide +kernel
theorem dX8_waits_11 : decode cX8_waits 11 = .ok (.aload_n 0, 1) := by decide +kernel
theorem dX8_waits_12 : decode cX8_waits 12 = .ok (.getfield 15, 3) := by decide +kernel
theorem dX8_waits_15 : decode cX8_waits 15 = .ok (.iload_n 1, 1) := by decide +kernel
theorem dX8_waits_16 : decode cX8_waits 16 = .ok (.invokestatic 59, 3) := by decide +kernel
theorem dX8_waits_19 : decode cX8_waits 19 = .ok (.ifCond .ge 7, 3) := by decide +kernel
theorem dX8_waits_22 : decode cX8_waits 22 = .ok (.iconst 1, 1) := by decide +kernel
theorem dX8_waits_23 : decode cX8_waits 23 = .ok (.goto 4, 3) := by decide +kernel
theorem dX8_waits_26 : decode cX8_waits 26 = .ok (.iconst 0, 1) := by decide +kernel
theorem dX8_waits_27 : decode cX8_waits 27 = .ok (.ireturn, 1) := by decide +kernel
theorem dX8_point_0 : decode cX8_point 0 = .ok (.iconst 0, 1) := by decide +kernel
theorem dX8_point_1 : decode cX8_point 1 = .ok (.istore_n 2, 1) := by decide +kernel
theorem dX8_point_2 : decode cX8_point 2 = .ok (.iload_n 2, 1) := by decide +kernel
theorem dX8_point_3 : decode cX8_point 3 = .ok (.iconst 5, 1) := by decide +kernel
theorem dX8_point_4 : decode cX8_point 4 = .ok (.if_icmp .ge 37, 3) := by decide +kernel
theorem dX8_point_7 : decode cX8_point 7 = .ok (.aload_n 0, 1) := by decide +kernel
theorem dX8_point_8 : decode cX8_point 8 = .ok (.iload_n 2, 1) := by decide +kernel
theorem dX8_point_9 : decode cX8_point 9 = .ok (.invokevirtual 63, 3) := by decide +kernel
theorem dX8_point_12 : decode cX8_point 12 = .ok (.ifCond .eq 23, 3) := by decide +kernel
theorem dX8_point_15 : decode cX8_point 15 = .ok (.aload_n 0, 1) := by decide +kernel
theorem dX8_point_16 : decode cX8_point 16 = .ok (.getfield 18, 3) := by decide +kernel
theorem dX8_point_19 : decode cX8_point 19 = .ok (.iload_n 2, 1) := by decide +kernel
theorem dX8_point_20 : decode cX8_point 20 = .ok (.aload_n 0, 1) := by decide +kernel
theorem dX8_point_21 : decode cX8_point 21 = .ok (.aload_n 1, 1) := by decide +kernel
theorem dX8_point_22 : decode cX8_point 22 = .ok (.getfield 21, 3) := by decide +kernel
theorem dX8_point_25 : decode cX8_point 25 = .ok (.iload_n 2, 1) := by decide +kernel
theorem dX8_point_26 : decode cX8_point 26 = .ok (.invokevirtual 33, 3) := by decide +kernel
theorem dX8_point_29 : decode cX8_point 29 = .ok (.invokevirtual 67, 3) := by decide +kernel
theorem dX8_point_32 : decode cX8_point 32 = .ok (.invokestatic 41, 3) := by decide +kernel
theorem dX8_point_35 : decode cX8_point 35 = .ok (.iinc 2 1, 3) := by decide +kernel
theorem dX8_point_38 : decode cX8_point 38 = .ok (.goto (-36), 3) := by decide +kernel
theorem dX8_point_41 : decode cX8_point 41 = .ok (.return_, 1) := by decide +kernel
theorem dX8_liked_0 : decode cX8_liked 0 = .ok (.bipush (-2), 2) := by decide +kernel
theorem dX8_liked_2 : decode cX8_liked 2 = .ok (.istore_n 2, 1) := by decide +kernel
theorem dX8_liked_3 : decode cX8_liked 3 = .ok (.iconst 0, 1) := by decide +kernel
theorem dX8_liked_4 : decode cX8_liked 4 = .ok (.istore_n 3, 1) := by decide +kernel
theorem dX8_liked_5 : decode cX8_liked 5 = .ok (.iload_n 3, 1) := by decide +kernel
theorem dX8_liked_6 : decode cX8_liked 6 = .ok (.iconst 5, 1) := by decide +kernel
theorem dX8_liked_7 : decode cX8_liked 7 = .ok (.if_icmp .ge 46, 3) := by decide +kernel
theorem dX8_liked_10 : decode cX8_liked 10 = .ok (.aload_n 0, 1) := by decide +kernel
theorem dX8_liked_11 : decode cX8_liked 11 = .ok (.iload_n 3, 1) := by decide +kernel
theorem dX8_liked_12 : decode cX8_liked 12 = .ok (.invokevirtual 63, 3) := by decide +kernel
theorem dX8_liked_15 : decode cX8_liked 15 = .ok (.ifCond .eq 32, 3) := by decide +kernel
theorem dX8_liked_18 : decode cX8_liked 18 = .ok (.iload_n 2, 1) := by decide +kernel
theorem dX8_liked_19 : decode cX8_liked 19 = .ok (.ifCond .lt 26, 3) := by decide +kernel
theorem dX8_liked_22 : decode cX8_liked 22 = .ok (.aload_n 0, 1) := by decide +kernel
theorem dX8_liked_23 : decode cX8_liked 23 = .ok (.getfield 9, 3) := by decide +kernel
theorem dX8_liked_26 : decode cX8_liked 26 = .ok (.iload_n 3, 1) := by decide +kernel
theorem dX8_liked_27 : decode cX8_liked 27 = .ok (.invokestatic 59, 3) := by decide +kernel
theorem dX8_liked_30 : decode cX8_liked 30 = .ok (.aload_n 0, 1) := by decide +kernel
theorem dX8_liked_31 : decode cX8_liked 31 = .ok (.getfield 9, 3) := by decide +kernel
theorem dX8_liked_34 : decode cX8_liked 34 = .ok (.iload_n 2, 1) := by decide +kernel
theorem dX8_liked_35 : decode cX8_liked 35 = .ok (.invokestatic 59, 3) := by decide +kernel
theorem dX8_liked_38 : decode cX8_liked 38 = .ok (.iload_n 1, 1) := by decide +kernel
theorem dX8_liked_39 : decode cX8_liked 39 = .ok (.invokestatic 70, 3) := by decide +kernel
theorem dX8_liked_42 : decode cX8_liked 42 = .ok (.ifCond .eq 5, 3) := by decide +kernel
theorem dX8_liked_45 : decode cX8_liked 45 = .ok (.iload_n 3, 1) := by decide +kernel
theorem dX8_liked_46 : decode cX8_liked 46 = .ok (.istore_n 2, 1) := by decide +kernel
theorem dX8_liked_47 : decode cX8_liked 47 = .ok (.iinc 3 1, 3) := by decide +kernel
theorem dX8_liked_50 : decode cX8_liked 50 = .ok (.goto (-45), 3) := by decide +kernel
theorem dX8_liked_53 : decode cX8_liked 53 = .ok (.iload_n 2, 1) := by decide +kernel
theorem dX8_liked_54 : decode cX8_liked 54 = .ok (.ireturn, 1) := by decide +kernel
theorem dX8_isNearer_0 : decode cX8_isNearer 0 = .ok (.iload_n 0, 1) := by decide +kernel
theorem dX8_isNearer_1 : decode cX8_isNearer 1 = .ok (.iload_n 2, 1) := by decide +kernel
theorem dX8_isNearer_2 : decode cX8_isNearer 2 = .ok (.isub, 1) := by decide +kernel
theorem dX8_isNearer_3 : decode cX8_isNearer 3 = .ok (.invokestatic 74, 3) := by decide +kernel
theorem dX8_isNearer_6 : decode cX8_isNearer 6 = .ok (.istore_n 3, 1) := by decide +kernel
theorem dX8_isNearer_7 : decode cX8_isNearer 7 = .ok (.iload_n 1, 1) := by decide +kernel
theorem dX8_isNearer_8 : decode cX8_isNearer 8 = .ok (.iload_n 2, 1) := by decide +kernel
theorem dX8_isNearer_9 : decode cX8_isNearer 9 = .ok (.isub, 1) := by decide +kernel
theorem dX8_isNearer_10 : decode cX8_isNearer 10 = .ok (.invokestatic 74, 3) := by decide +kernel
theorem dX8_isNearer_13 : decode cX8_isNearer 13 = .ok (.istore 4, 2) := by decide +kernel
theorem dX8_isNearer_15 : decode cX8_isNearer 15 = .ok (.iload_n 3, 1) := by decide +kernel
theorem dX8_isNearer_16 : decode cX8_isNearer 16 = .ok (.iload 4, 2) := by decide +kernel
theorem dX8_isNearer_18 : decode cX8_isNearer 18 = .ok (.if_icmp .lt 14, 3) := by decide +kernel
theorem dX8_isNearer_21 : decode cX8_isNearer 21 = .ok (.iload_n 3, 1) := by decide +kernel
theorem dX8_isNearer_22 : decode cX8_isNearer 22 = .ok (.iload 4, 2) := by decide +kernel
theorem dX8_isNearer_24 : decode cX8_isNearer 24 = .ok (.if_icmp .ne 12, 3) := by decide +kernel
theorem dX8_isNearer_27 : decode cX8_isNearer 27 = .ok (.iload_n 0, 1) := by decide +kernel
theorem dX8_isNearer_28 : decode cX8_isNearer 28 = .ok (.iload_n 1, 1) := by decide +kernel
theorem dX8_isNearer_29 : decode cX8_isNearer 29 = .ok (.if_icmp .ge 7, 3) := by decide +kernel
theorem dX8_isNearer_32 : decode cX8_isNearer 32 = .ok (.iconst 1, 1) := by decide +kernel
theorem dX8_isNearer_33 : decode cX8_isNearer 33 = .ok (.goto 4, 3) := by decide +kernel
theorem dX8_isNearer_36 : decode cX8_isNearer 36 = .ok (.iconst 0, 1) := by decide +kernel
theorem dX8_isNearer_37 : decode cX8_isNearer 37 = .ok (.ireturn, 1) := by decide +kernel
theorem dX8_closeRing_0 : decode cX8_closeRing 0 = .ok (.bipush (-2), 2) := by decide +kernel
theorem dX8_closeRing_2 : decode cX8_closeRing 2 = .ok (.istore_n 1, 1) := by decide +kernel
theorem dX8_closeRing_3 : decode cX8_closeRing 3 = .ok (.iconst 4, 1) := by decide +kernel
theorem dX8_closeRing_4 : decode cX8_closeRing 4 = .ok (.istore_n 2, 1) := by decide +kernel
theorem dX8_closeRing_5 : decode cX8_closeRing 5 = .ok (.iload_n 2, 1) := by decide +kernel
theorem dX8_closeRing_6 : decode cX8_closeRing 6 = .ok (.ifCond .lt 23, 3) := by decide +kernel
theorem dX8_closeRing_9 : decode cX8_closeRing 9 = .ok (.aload_n 0, 1) := by decide +kernel
theorem dX8_closeRing_10 : decode cX8_closeRing 10 = .ok (.iload_n 2, 1) := by decide +kernel
theorem dX8_closeRing_11 : decode cX8_closeRing 11 = .ok (.invokevirtual 63, 3) := by decide +kernel
theorem dX8_closeRing_14 : decode cX8_closeRing 14 = .ok (.ifCond .eq 7, 3) := by decide +kernel
theorem dX8_closeRing_17 : decode cX8_closeRing 17 = .ok (.iload_n 2, 1) := by decide +kernel
theorem dX8_closeRing_18 : decode cX8_closeRing 18 = .ok (.goto 4, 3) := by decide +kernel
theorem dX8_closeRing_21 : decode cX8_closeRing 21 = .ok (.iload_n 1, 1) := by decide +kernel
theorem dX8_closeRing_22 : decode cX8_closeRing 22 = .ok (.istore_n 1, 1) := by decide +kernel
theorem dX8_closeRing_23 : decode cX8_closeRing 23 = .ok (.iinc 2 (-1), 3) := by decide +kernel
theorem dX8_closeRing_26 : decode cX8_closeRing 26 = .ok (.goto (-21), 3) := by decide +kernel
theorem dX8_closeRing_29 : decode cX8_closeRing 29 = .ok (.iload_n 1, 1) := by decide +kernel
theorem dX8_closeRing_30 : decode cX8_closeRing 30 = .ok (.ifCond .ge 4, 3) := by decide +kernel
theorem dX8_closeRing_33 : decode cX8_closeRing 33 = .ok (.return_, 1) := by decide +kernel
theorem dX8_closeRing_34 : decode cX8_closeRing 34 = .ok (.iconst 0, 1) := by decide +kernel
theorem dX8_closeRing_35 : decode cX8_closeRing 35 = .ok (.istore_n 2, 1) := by decide +kernel
theorem dX8_closeRing_36 : decode cX8_closeRing 36 = .ok (.iload_n 2, 1) := by decide +kernel
theorem dX8_closeRing_37 : decode cX8_closeRing 37 = .ok (.iconst 5, 1) := by decide +kernel
theorem dX8_closeRing_38 : decode cX8_closeRing 38 = .ok (.if_icmp .ge 18, 3) := by decide +kernel
theorem dX8_closeRing_41 : decode cX8_closeRing 41 = .ok (.aload_n 0, 1) := by decide +kernel
theorem dX8_closeRing_42 : decode cX8_closeRing 42 = .ok (.getfield 18, 3) := by decide +kernel
theorem dX8_closeRing_45 : decode cX8_closeRing 45 = .ok (.iload_n 1, 1) := by decide +kernel
theorem dX8_closeRing_46 : decode cX8_closeRing 46 = .ok (.invokestatic 59, 3) := by decide +kernel
theorem dX8_closeRing_49 : decode cX8_closeRing 49 = .ok (.istore_n 1, 1) := by decide +kernel
theorem dX8_closeRing_50 : decode cX8_closeRing 50 = .ok (.iinc 2 1, 3) := by decide +kernel
theorem dX8_closeRing_53 : decode cX8_closeRing 53 = .ok (.goto (-17), 3) := by decide +kernel
theorem dX8_closeRing_56 : decode cX8_closeRing 56 = .ok (.iload_n 1, 1) := by decide +kernel
theorem dX8_closeRing_57 : decode cX8_closeRing 57 = .ok (.istore_n 2, 1) := by decide +kernel
theorem dX8_closeRing_58 : decode cX8_closeRing 58 = .ok (.iconst 0, 1) := by decide +kernel
theorem dX8_closeRing_59 : decode cX8_closeRing 59 = .ok (.istore_n 3, 1) := by decide +kernel
theorem dX8_closeRing_60 : decode cX8_closeRing 60 = .ok (.iload_n 3, 1) := by decide +kernel
theorem dX8_closeRing_61 : decode cX8_closeRing 61 = .ok (.iconst 5, 1) := by decide +kernel
theorem dX8_closeRing_62 : decode cX8_closeRing 62 = .ok (.if_icmp .ge 49, 3) := by decide +kernel
theorem dX8_closeRing_65 : decode cX8_closeRing 65 = .ok (.aload_n 0, 1) := by decide +kernel
theorem dX8_closeRing_66 : decode cX8_closeRing 66 = .ok (.iload_n 2, 1) := by decide +kernel
theorem dX8_closeRing_67 : decode cX8_closeRing 67 = .ok (.invokevirtual 63, 3) := by decide +kernel
theorem dX8_closeRing_70 : decode cX8_closeRing 70 = .ok (.ifCond .eq 41, 3) := by decide +kernel
theorem dX8_closeRing_73 : decode cX8_closeRing 73 = .ok (.aload_n 0, 1) := by decide +kernel
theorem dX8_closeRing_74 : decode cX8_closeRing 74 = .ok (.getfield 15, 3) := by decide +kernel
theorem dX8_closeRing_77 : decode cX8_closeRing 77 = .ok (.iload_n 2, 1) := by decide +kernel
theorem dX8_closeRing_78 : decode cX8_closeRing 78 = .ok (.aload_n 0, 1) := by decide +kernel
theorem dX8_closeRing_79 : decode cX8_closeRing 79 = .ok (.getfield 9, 3) := by decide +kernel
theorem dX8_closeRing_82 : decode cX8_closeRing 82 = .ok (.aload_n 0, 1) := by decide +kernel
theorem dX8_closeRing_83 : decode cX8_closeRing 83 = .ok (.getfield 18, 3) := by decide +kernel
theorem dX8_closeRing_86 : decode cX8_closeRing 86 = .ok (.iload_n 2, 1) := by decide +kernel
theorem dX8_closeRing_87 : decode cX8_closeRing 87 = .ok (.invokestatic 59, 3) := by decide +kernel
theorem dX8_closeRing_90 : decode cX8_closeRing 90 = .ok (.invokestatic 59, 3) := by decide +kernel
theorem dX8_closeRing_93 : decode cX8_closeRing 93 = .ok (.invokestatic 41, 3) := by decide +kernel
theorem dX8_closeRing_96 : decode cX8_closeRing 96 = .ok (.aload_n 0, 1) := by decide +kernel
theorem dX8_closeRing_97 : decode cX8_closeRing 97 = .ok (.getfield 18, 3) := by decide +kernel
theorem dX8_closeRing_100 : decode cX8_closeRing 100 = .ok (.iload_n 2, 1) := by decide +kernel
theorem dX8_closeRing_101 : decode cX8_closeRing 101 = .ok (.invokestatic 59, 3) := by decide +kernel
theorem dX8_closeRing_104 : decode cX8_closeRing 104 = .ok (.istore_n 2, 1) := by decide +kernel
theorem dX8_closeRing_105 : decode cX8_closeRing 105 = .ok (.iinc 3 1, 3) := by decide +kernel
theorem dX8_closeRing_108 : decode cX8_closeRing 108 = .ok (.goto (-48), 3) := by decide +kernel
theorem dX8_closeRing_111 : decode cX8_closeRing 111 = .ok (.return_, 1) := by decide +kernel
theorem dX9_init_0 : decode cX9_init 0 = .ok (.aload_n 0, 1) := by decide +kernel
theorem dX9_init_1 : decode cX9_init 1 = .ok (.invokespecial 3, 3) := by decide +kernel
theorem dX9_init_4 : decode cX9_init 4 = .ok (.aload_n 0, 1) := by decide +kernel
theorem dX9_init_5 : decode cX9_init 5 = .ok (.bipush 30, 2) := by decide +kernel
theorem dX9_init_7 : decode cX9_init 7 = .ok (.newarray .int, 2) := by decide +kernel
theorem dX9_init_9 : decode cX9_init 9 = .ok (.putfield 9, 3) := by decide +kernel
theorem dX9_init_12 : decode cX9_init 12 = .ok (.aload_n 0, 1) := by decide +kernel
theorem dX9_init_13 : decode cX9_init 13 = .ok (.new 15, 3) := by decide +kernel
theorem dX9_init_16 : decode cX9_init 16 = .ok (.dup, 1) := by decide +kernel
theorem dX9_init_17 : decode cX9_init 17 = .ok (.invokespecial 17, 3) := by decide +kernel
theorem dX9_init_20 : decode cX9_init 20 = .ok (.putfield 18, 3) := by decide +kernel
theorem dX9_init_23 : decode cX9_init 23 = .ok (.aload_n 0, 1) := by decide +kernel
theorem dX9_init_24 : decode cX9_init 24 = .ok (.aload_n 1, 1) := by decide +kernel
theorem dX9_init_25 : decode cX9_init 25 = .ok (.invokevirtual 22, 3) := by decide +kernel
theorem dX9_init_28 : decode cX9_init 28 = .ok (.return_, 1) := by decide +kernel
theorem dX9_begin_0 : decode cX9_begin 0 = .ok (.aload_n 0, 1) := by decide +kernel
theorem dX9_begin_1 : decode cX9_begin 1 = .ok (.aload_n 1, 1) := by decide +kernel
theorem dX9_begin_2 : decode cX9_begin 2 = .ok (.putfield 26, 3) := by decide +kernel
theorem dX9_begin_5 : decode cX9_begin 5 = .ok (.aload_n 0, 1) := by decide +kernel
theorem dX9_begin_6 : decode cX9_begin 6 = .ok (.iconst 0, 1) := by decide +kernel
theorem dX9_begin_7 : decode cX9_begin 7 = .ok (.putfield 30, 3) := by decide +kernel
theorem dX9_begin_10 : decode cX9_begin 10 = .ok (.aload_n 0, 1) := by decide +kernel
theorem dX9_begin_11 : decode cX9_begin 11 = .ok (.iconst 0, 1) := by decide +kernel
theorem dX9_begin_12 : decode cX9_begin 12 = .ok (.putfield 34, 3) := by decide +kernel
theorem dX9_begin_15 : decode cX9_begin 15 = .ok (.aload_n 1, 1) := by decide +kernel
theorem dX9_begin_16 : decode cX9_begin 16 = .ok (.getfield 37, 3) := by decide +kernel
theorem dX9_begin_19 : decode cX9_begin 19 = .ok (.aload_n 0, 1) := by decide +kernel
theorem dX9_begin_20 : decode cX9_begin 20 = .ok (.getfield 9, 3) := by decide +kernel
theorem dX9_begin_23 : decode cX9_begin 23 = .ok (.invokestatic 40, 3) := by decide +kernel
theorem dX9_begin_26 : decode cX9_begin 26 = .ok (.aload_n 0, 1) := by decide +kernel
theorem dX9_begin_27 : decode cX9_begin 27 = .ok (.getfield 18, 3) := by decide +kernel
theorem dX9_begin_30 : decode cX9_begin 30 = .ok (.aload_n 1, 1) := by decide +kernel
theorem dX9_begin_31 : decode cX9_begin 31 = .ok (.getfield 44, 3) := by decide +kernel
theorem dX9_begin_34 : decode cX9_begin 34 = .ok (.invokevirtual 45, 3) := by decide +kernel
theorem dX9_begin_37 : decode cX9_begin 37 = .ok (.return_, 1) := by decide +kernel
theorem dX9_copy_0 : decode cX9_copy 0 = .ok (.aload_n 0, 1) := by decide +kernel
theorem dX9_copy_1 : decode cX9_copy 1 = .ok (.aload_n 1, 1) := by decide +kernel
theorem dX9_copy_2 : decode cX9_copy 2 = .ok (.getfield 26, 3) := by decide +kernel
theorem dX9_copy_5 : decode cX9_copy 5 = .ok (.putfield 26, 3) := by decide +kernel
theorem dX9_copy_8 : decode cX9_copy 8 = .ok (.aload_n 0, 1) := by decide +kernel
theorem dX9_copy_9 : decode cX9_copy 9 = .ok (.aload_n 1, 1) := by decide +kernel
theorem dX9_copy_10 : decode cX9_copy 10 = .ok (.getfield 30, 3) := by decide +kernel
theorem dX9_copy_13 : decode cX9_copy 13 = .ok (.putfield 30, 3) := by decide +kernel
theorem dX9_copy_16 : decode cX9_copy 16 = .ok (.aload_n 0, 1) := by decide +kernel
theorem dX9_copy_17 : decode cX9_copy 17 = .ok (.aload_n 1, 1) := by decide +kernel
theorem dX9_copy_18 : decode cX9_copy 18 = .ok (.getfield 34, 3) := by decide +kernel
theorem dX9_copy_21 : decode cX9_copy 21 = .ok (.putfield 34, 3) := by decide +kernel
theorem dX9_copy_24 : decode cX9_copy 24 = .ok (.aload_n 1, 1) := by decide +kernel
theorem dX9_copy_25 : decode cX9_copy 25 = .ok (.getfield 9, 3) := by decide +kernel
theorem dX9_copy_28 : decode cX9_copy 28 = .ok (.aload_n 0, 1) := by decide +kernel
theorem dX9_copy_29 : decode cX9_copy 29 = .ok (.getfield 9, 3) := by decide +kernel
theorem dX9_copy_32 : decode cX9_copy 32 = .ok (.invokestatic 40, 3) := by decide +kernel
theorem dX9_copy_35 : decode cX9_copy 35 = .ok (.aload_n 0, 1) := by decide +kernel
theorem dX9_copy_36 : decode cX9_copy 36 = .ok (.getfield 18, 3) := by decide +kernel
theorem dX9_copy_39 : decode cX9_copy 39 = .ok (.aload_n 1, 1) := by decide +kernel
theorem dX9_copy_40 : decode cX9_copy 40 = .ok (.getfield 18, 3) := by decide +kernel
theorem dX9_copy_43 : decode cX9_copy 43 = .ok (.invokevirtual 45, 3) := by decide +kernel
theorem dX9_copy_46 : decode cX9_copy 46 = .ok (.return_, 1) := by decide +kernel
theorem dX9_visitor_0 : decode cX9_visitor 0 = .ok (.iload_n 1, 1) := by decide +kernel
theorem dX9_visitor_1 : decode cX9_visitor 1 = .ok (.bipush 30, 2) := by decide +kernel
theorem dX9_visitor_3 : decode cX9_visitor 3 = .ok (.invokestatic 49, 3) := by decide +kernel
theorem dX9_visitor_6 : decode cX9_visitor 6 = .ok (.ifCond .eq 14, 3) := by decide +kernel
theorem dX9_visitor_9 : decode cX9_visitor 9 = .ok (.aload_n 0, 1) := by decide +kernel
theorem dX9_visitor_10 : decode cX9_visitor 10 = .ok (.getfield 9, 3) := by decide +kernel
theorem dX9_visitor_13 : decode cX9_visitor 13 = .ok (.iload_n 1, 1) := by decide +kernel
theorem dX9_visitor_14 : decode cX9_visitor 14 = .ok (.invokestatic 53, 3) := by decide +kernel
theorem dX9_visitor_17 : decode cX9_visitor 17 = .ok (.goto 5, 3) := by decide +kernel
theorem dX9_visitor_20 : decode cX9_visitor 20 = .ok (.bipush (-2), 2) := by decide +kernel
theorem dX9_visitor_22 : decode cX9_visitor 22 = .ok (.ireturn, 1) := by decide +kernel
theorem dX9_setVisitor_0 : decode cX9_setVisitor 0 = .ok (.aload_n 0, 1) := by decide +kernel
theorem dX9_setVisitor_1 : decode cX9_setVisitor 1 = .ok (.getfield 9, 3) := by decide +kernel
theorem dX9_setVisitor_4 : decode cX9_setVisitor 4 = .ok (.iload_n 1, 1) := by decide +kernel
theorem dX9_setVisitor_5 : decode cX9_setVisitor 5 = .ok (.iload_n 2, 1) := by decide +kernel
theorem dX9_setVisitor_6 : decode cX9_setVisitor 6 = .ok (.invokestatic 57, 3) := by decide +kernel
theorem dX9_setVisitor_9 : decode cX9_setVisitor 9 = .ok (.return_, 1) := by decide +kernel
theorem dX9_countVisits_0 : decode cX9_countVisits 0 = .ok (.iconst 0, 1) := by decide +kernel
theorem dX9_countVisits_1 : decode cX9_countVisits 1 = .ok (.istore_n 1, 1) := by decide +kernel
theorem dX9_countVisits_2 : decode cX9_countVisits 2 = .ok (.iconst 0, 1) := by decide +kernel
theorem dX9_countVisits_3 : decode cX9_countVisits 3 = .ok (.istore_n 2, 1) := by decide +kernel
theorem dX9_countVisits_4 : decode cX9_countVisits 4 = .ok (.iload_n 2, 1) := by decide +kernel
theorem dX9_countVisits_5 : decode cX9_countVisits 5 = .ok (.bipush 30, 2) := by decide +kernel
theorem dX9_countVisits_7 : decode cX9_countVisits 7 = .ok (.if_icmp .ge 25, 3) := by decide +kernel
theorem dX9_countVisits_10 : decode cX9_countVisits 10 = .ok (.iload_n 1, 1) := by decide +kernel
theorem dX9_countVisits_11 : decode cX9_countVisits 11 = .ok (.aload_n 0, 1) := by decide +kernel
theorem dX9_countVisits_12 : decode cX9_countVisits 12 = .ok (.iload_n 2, 1) := by decide +kernel
theorem dX9_countVisits_13 : decode cX9_countVisits 13 = .ok (.invokevirtual 61, 3) := by decide +kernel
theorem dX9_countVisits_16 : decode cX9_countVisits 16 = .ok (.ifCond .lt 7, 3) := by decide +kernel
theorem dX9_countVisits_19 : decode cX9_countVisits 19 = .ok (.iconst 1, 1) := by decide +kernel
theorem dX9_countVisits_20 : decode cX9_countVisits 20 = .ok (.goto 4, 3) := by decide +kernel
theorem dX9_countVisits_23 : decode cX9_countVisits 23 = .ok (.iconst 0, 1) := by decide +kernel
theorem dX9_countVisits_24 : decode cX9_countVisits 24 = .ok (.iadd, 1) := by decide +kernel
theorem dX9_countVisits_25 : decode cX9_countVisits 25 = .ok (.istore_n 1, 1) := by decide +kernel
theorem dX9_countVisits_26 : decode cX9_countVisits 26 = .ok (.iinc 2 1, 3) := by decide +kernel
theorem dX9_countVisits_29 : decode cX9_countVisits 29 = .ok (.goto (-25), 3) := by decide +kernel
theorem dX9_countVisits_32 : decode cX9_countVisits 32 = .ok (.iload_n 1, 1) := by decide +kernel
theorem dX9_countVisits_33 : decode cX9_countVisits 33 = .ok (.ireturn, 1) := by decide +kernel
theorem dX9_isFree_0 : decode cX9_isFree 0 = .ok (.iload_n 1, 1) := by decide +kernel
theorem dX9_isFree_1 : decode cX9_isFree 1 = .ok (.aload_n 0, 1) := by decide +kernel
theorem dX9_isFree_2 : decode cX9_isFree 2 = .ok (.getfield 30, 3) := by decide +kernel
theorem dX9_isFree_5 : decode cX9_isFree 5 = .ok (.if_icmp .lt 28, 3) := by decide +kernel
theorem dX9_isFree_8 : decode cX9_isFree 8 = .ok (.aload_n 0, 1) := by decide +kernel
theorem dX9_isFree_9 : decode cX9_isFree 9 = .ok (.getfield 26, 3) := by decide +kernel
theorem dX9_isFree_12 : decode cX9_isFree 12 = .ok (.iload_n 1, 1) := by decide +kernel
theorem dX9_isFree_13 : decode cX9_isFree 13 = .ok (.invokevirtual 65, 3) := by decide +kernel
theorem dX9_isFree_16 : decode cX9_isFree 16 = .ok (.ifCond .ne 17, 3) := by decide +kernel
theorem dX9_isFree_19 : decode cX9_isFree 19 = .ok (.aload_n 0, 1) := by decide +kernel
theorem dX9_isFree_20 : decode cX9_isFree 20 = .ok (.iload_n 1, 1) := by decide +kernel
theorem dX9_isFree_21 : decode cX9_isFree 21 = .ok (.invokevirtual 61, 3) := by decide +kernel
theorem dX9_isFree_24 : decode cX9_isFree 24 = .ok (.bipush (-2), 2) := by decide +kernel
theorem dX9_isFree_26 : decode cX9_isFree 26 = .ok (.if_icmp .ne 7, 3) := by decide +kernel
theorem dX9_isFree_29 : decode cX9_isFree 29 = .ok (.iconst 1, 1) := by decide +kernel
theorem dX9_isFree_30 : decode cX9_isFree 30 = .ok (.goto 4, 3) := by decide +kernel
theorem dX9_isFree_33 : decode cX9_isFree 33 = .ok (.iconst 0, 1) := by decide +kernel
theorem dX9_isFree_34 : decode cX9_isFree 34 = .ok (.ireturn, 1) := by decide +kernel
theorem dX9_isAwaited_0 : decode cX9_isAwaited 0 = .ok (.iload_n 1, 1) := by decide +kernel
theorem dX9_isAwaited_1 : decode cX9_isAwaited 1 = .ok (.aload_n 0, 1) := by decide +kernel
theorem dX9_isAwaited_2 : decode cX9_isAwaited 2 = .ok (.getfield 30, 3) := by decide +kernel
theorem dX9_isAwaited_5 : decode cX9_isAwaited 5 = .ok (.if_icmp .lt 15, 3) := by decide +kernel
theorem dX9_isAwaited_8 : decode cX9_isAwaited 8 = .ok (.aload_n 0, 1) := by decide +kernel
theorem dX9_isAwaited_9 : decode cX9_isAwaited 9 = .ok (.iload_n 1, 1) := by decide +kernel
theorem dX9_isAwaited_10 : decode cX9_isAwaited 10 = .ok (.invokevirtual 61, 3) := by decide +kernel
theorem dX9_isAwaited_13 : decode cX9_isAwaited 13 = .ok (.ifCond .lt 7, 3) := by decide +kernel
theorem dX9_isAwaited_16 : decode cX9_isAwaited 16 = .ok (.iconst 1, 1) := by decide +kernel
theorem dX9_isAwaited_17 : decode cX9_isAwaited 17 = .ok (.goto 4, 3) := by decide +kernel
theorem dX9_isAwaited_20 : decode cX9_isAwaited 20 = .ok (.iconst 0, 1) := by decide +kernel
theorem dX9_isAwaited_21 : decode cX9_isAwaited 21 = .ok (.ireturn, 1) := by decide +kernel
theorem dX9_latestVisit_0 : decode cX9_latestVisit 0 = .ok (.iload_n 2, 1) := by decide +kernel
theorem dX9_latestVisit_1 : decode cX9_latestVisit 1 = .ok (.bipush 29, 2) := by decide +kernel
theorem dX9_latestVisit_3 : decode cX9_latestVisit 3 = .ok (.invokestatic 69, 3) := by decide +kernel
theorem dX9_latestVisit_6 : decode cX9_latestVisit 6 = .ok (.istore_n 3, 1) := by decide +kernel
theorem dX9_latestVisit_7 : decode cX9_latestVisit 7 = .ok (.iload_n 3, 1) := by decide +kernel
theorem dX9_latestVisit_8 : decode cX9_latestVisit 8 = .ok (.ifCond .lt 20, 3) := by decide +kernel
theorem dX9_latestVisit_11 : decode cX9_latestVisit 11 = .ok (.aload_n 0, 1) := by decide +kernel
theorem dX9_latestVisit_12 : decode cX9_latestVisit 12 = .ok (.iload_n 3, 1) := by decide +kernel
theorem dX9_latestVisit_13 : decode cX9_latestVisit 13 = .ok (.invokevirtual 61, 3) := by decide +kernel
theorem dX9_latestVisit_16 : decode cX9_latestVisit 16 = .ok (.iload_n 1, 1) := by decide +kernel
theorem dX9_latestVisit_17 : decode cX9_latestVisit 17 = .ok (.if_icmp .ne 5, 3) := by decide +kernel
theorem dX9_latestVisit_20 : decode cX9_latestVisit 20 = .ok (.iload_n 3, 1) := by decide +kernel
theorem dX9_latestVisit_21 : decode cX9_latestVisit 21 = .ok (.ireturn, 1) := by decide +kernel
theorem dX9_latestVisit_22 : decode cX9_latestVisit 22 = .ok (.iinc 3 (-1), 3) := by decide +kernel
theorem dX9_latestVisit_25 : decode cX9_latestVisit 25 = .ok (.goto (-18), 3) := by decide +kernel
theorem dX9_latestVisit_28 : decode cX9_latestVisit 28 = .ok (.bipush (-2), 2) := by decide +kernel
theorem dX9_latestVisit_30 : decode cX9_latestVisit 30 = .ok (.ireturn, 1) := by decide +kernel
theorem dX9_beliefOn_0 : decode cX9_beliefOn 0 = .ok (.aload_n 0, 1) := by decide +kernel
theorem dX9_beliefOn_1 : decode cX9_beliefOn 1 = .ok (.iload_n 1, 1) := by decide +kernel
theorem dX9_beliefOn_2 : decode cX9_beliefOn 2 = .ok (.aload_n 0, 1) := by decide +kernel
theorem dX9_beliefOn_3 : decode cX9_beliefOn 3 = .ok (.iload_n 1, 1) := by decide +kernel
theorem dX9_beliefOn_4 : decode cX9_beliefOn 4 = .ok (.iload_n 2, 1) := by decide +kernel
theorem dX9_beliefOn_5 : decode cX9_beliefOn 5 = .ok (.invokevirtual 75, 3) := by decide +kernel
theorem dX9_beliefOn_8 : decode cX9_beliefOn 8 = .ok (.invokevirtual 78, 3) := by decide +kernel
theorem dX9_beliefOn_11 : decode cX9_beliefOn 11 = .ok (.ireturn, 1) := by decide +kernel
theorem dX9_beliefBy_0 : decode cX9_beliefBy 0 = .ok (.iload_n 2, 1) := by decide +kernel
theorem dX9_beliefBy_1 : decode cX9_beliefBy 1 = .ok (.ifCond .ge 17, 3) := by decide +kernel
theorem dX9_beliefBy_4 : decode cX9_beliefBy 4 = .ok (.aload_n 0, 1) := by decide +kernel
theorem dX9_beliefBy_5 : decode cX9_beliefBy 5 = .ok (.getfield 26, 3) := by decide +kernel
theorem dX9_beliefBy_8 : decode cX9_beliefBy 8 = .ok (.getfield 81, 3) := by decide +kernel
theorem dX9_beliefBy_11 : decode cX9_beliefBy 11 = .ok (.iload_n 1, 1) := by decide +kernel
theorem dX9_beliefBy_12 : decode cX9_beliefBy 12 = .ok (.invokestatic 53, 3) := by decide +kernel
theorem dX9_beliefBy_15 : decode cX9_beliefBy 15 = .ok (.goto 24, 3) := by decide +kernel
theorem dX9_beliefBy_18 : decode cX9_beliefBy 18 = .ok (.aload_n 0, 1) := by decide +kernel
theorem dX9_beliefBy_19 : decode cX9_beliefBy 19 = .ok (.getfield 18, 3) := by decide +kernel
theorem dX9_beliefBy_22 : decode cX9_beliefBy 22 = .ok (.iload_n 1, 1) := by decide +kernel
theorem dX9_beliefBy_23 : decode cX9_beliefBy 23 = .ok (.iload_n 2, 1) := by decide +kernel
theorem dX9_beliefBy_24 : decode cX9_beliefBy 24 = .ok (.aload_n 0, 1) := by decide +kernel
theorem dX9_beliefBy_25 : decode cX9_beliefBy 25 = .ok (.getfield 26, 3) := by decide +kernel
theorem dX9_beliefBy_28 : decode cX9_beliefBy 28 = .ok (.getfield 84, 3) := by decide +kernel
theorem dX9_beliefBy_31 : decode cX9_beliefBy 31 = .ok (.isub, 1) := by decide +kernel
theorem dX9_beliefBy_32 : decode cX9_beliefBy 32 = .ok (.iconst 0, 1) := by decide +kernel
theorem dX9_beliefBy_33 : decode cX9_beliefBy 33 = .ok (.invokestatic 87, 3) := by decide +kernel
theorem dX9_beliefBy_36 : decode cX9_beliefBy 36 = .ok (.invokevirtual 90, 3) := by decide +kernel
theorem dX9_beliefBy_39 : decode cX9_beliefBy 39 = .ok (.istore_n 3, 1) := by decide +kernel
theorem dX9_beliefBy_40 : decode cX9_beliefBy 40 = .ok (.aload_n 0, 1) := by decide +kernel
theorem dX9_beliefBy_41 : decode cX9_beliefBy 41 = .ok (.getfield 26, 3) := by decide +kernel
theorem dX9_beliefBy_44 : decode cX9_beliefBy 44 = .ok (.getfield 93, 3) := by decide +kernel
theorem dX9_beliefBy_47 : decode cX9_beliefBy 47 = .ok (.iload_n 1, 1) := by decide +kernel
theorem dX9_beliefBy_48 : decode cX9_beliefBy 48 = .ok (.invokestatic 53, 3) := by decide +kernel
theorem dX9_beliefBy_51 : decode cX9_beliefBy 51 = .ok (.iconst 3, 1) := by decide +kernel
theorem dX9_beliefBy_52 : decode cX9_beliefBy 52 = .ok (.if_icmp .ne 11, 3) := by decide +kernel
theorem dX9_beliefBy_55 : decode cX9_beliefBy 55 = .ok (.iload_n 3, 1) := by decide +kernel
theorem dX9_beliefBy_56 : decode cX9_beliefBy 56 = .ok (.sipush (-3073), 3) := by decide +kernel
theorem dX9_beliefBy_59 : decode cX9_beliefBy 59 = .ok (.iand, 1) := by decide +kernel
theorem dX9_beliefBy_60 : decode cX9_beliefBy 60 = .ok (.goto 4, 3) := by decide +kernel
theorem dX9_beliefBy_63 : decode cX9_beliefBy 63 = .ok (.iload_n 3, 1) := by decide +kernel
theorem dX9_beliefBy_64 : decode cX9_beliefBy 64 = .ok (.ireturn, 1) := by decide +kernel
theorem dX9_papersOn_0 : decode cX9_papersOn 0 = .ok (.aload_n 0, 1) := by decide +kernel
theorem dX9_papersOn_1 : decode cX9_papersOn 1 = .ok (.iload_n 1, 1) := by decide +kernel
theorem dX9_papersOn_2 : decode cX9_papersOn 2 = .ok (.iload_n 2, 1) := by decide +kernel
theorem dX9_papersOn_3 : decode cX9_papersOn 3 = .ok (.invokevirtual 75, 3) := by decide +kernel
theorem dX9_papersOn_6 : decode cX9_papersOn 6 = .ok (.istore_n 3, 1) := by decide +kernel
theorem dX9_papersOn_7 : decode cX9_papersOn 7 = .ok (.iload_n 3, 1) := by decide +kernel
theorem dX9_papersOn_8 : decode cX9_papersOn 8 = .ok (.ifCond .ge 17, 3) := by decide +kernel
theorem dX9_papersOn_11 : decode cX9_papersOn 11 = .ok (.aload_n 0, 1) := by decide +kernel
theorem dX9_papersOn_12 : decode cX9_papersOn 12 = .ok (.getfield 26, 3) := by decide +kernel
theorem dX9_papersOn_15 : decode cX9_papersOn 15 = .ok (.getfield 81, 3) := by decide +kernel
theorem dX9_papersOn_18 : decode cX9_papersOn 18 = .ok (.iload_n 1, 1) := by decide +kernel
theorem dX9_papersOn_19 : decode cX9_papersOn 19 = .ok (.invokestatic 53, 3) := by decide +kernel
theorem dX9_papersOn_22 : decode cX9_papersOn 22 = .ok (.goto 12, 3) := by decide +kernel
theorem dX9_papersOn_25 : decode cX9_papersOn 25 = .ok (.aload_n 0, 1) := by decide +kernel
theorem dX9_papersOn_26 : decode cX9_papersOn 26 = .ok (.getfield 18, 3) := by decide +kernel
theorem dX9_papersOn_29 : decode cX9_papersOn 29 = .ok (.iload_n 1, 1) := by decide +kernel
theorem dX9_papersOn_30 : decode cX9_papersOn 30 = .ok (.iload_n 3, 1) := by decide +kernel
theorem dX9_papersOn_31 : decode cX9_papersOn 31 = .ok (.invokevirtual 90, 3) := by decide +kernel
theorem dX9_papersOn_34 : decode cX9_papersOn 34 = .ok (.ireturn, 1) := by decide +kernel
theorem dX9_mistakes_0 : decode cX9_mistakes 0 = .ok (.aload_n 0, 1) := by decide +kernel
theorem dX9_mistakes_1 : decode cX9_mistakes 1 = .ok (.getfield 18, 3) := by decide +kernel
theorem dX9_mistakes_4 : decode cX9_mistakes 4 = .ok (.iload_n 1, 1) := by decide +kernel
theorem dX9_mistakes_5 : decode cX9_mistakes 5 = .ok (.iload_n 2, 1) := by decide +kernel
theorem dX9_mistakes_6 : decode cX9_mistakes 6 = .ok (.invokevirtual 90, 3) := by decide +kernel
theorem dX9_mistakes_9 : decode cX9_mistakes 9 = .ok (.aload_n 0, 1) := by decide +kernel
theorem dX9_mistakes_10 : decode cX9_mistakes 10 = .ok (.iload_n 1, 1) := by decide +kernel
theorem dX9_mistakes_11 : decode cX9_mistakes 11 = .ok (.iload_n 2, 1) := by decide +kernel
theorem dX9_mistakes_12 : decode cX9_mistakes 12 = .ok (.invokevirtual 96, 3) := by decide +kernel
theorem dX9_mistakes_15 : decode cX9_mistakes 15 = .ok (.invokestatic 99, 3) := by decide +kernel
theorem dX9_mistakes_18 : decode cX9_mistakes 18 = .ok (.ireturn, 1) := by decide +kernel
theorem dX9_knowsSelf_0 : decode cX9_knowsSelf 0 = .ok (.aload_n 0, 1) := by decide +kernel
theorem dX9_knowsSelf_1 : decode cX9_knowsSelf 1 = .ok (.iload_n 1, 1) := by decide +kernel
theorem dX9_knowsSelf_2 : decode cX9_knowsSelf 2 = .ok (.iload_n 2, 1) := by decide +kernel
theorem dX9_knowsSelf_3 : decode cX9_knowsSelf 3 = .ok (.aload_n 0, 1) := by decide +kernel
theorem dX9_knowsSelf_4 : decode cX9_knowsSelf 4 = .ok (.iload_n 1, 1) := by decide +kernel
theorem dX9_knowsSelf_5 : decode cX9_knowsSelf 5 = .ok (.iload_n 2, 1) := by decide +kernel
theorem dX9_knowsSelf_6 : decode cX9_knowsSelf 6 = .ok (.invokevirtual 75, 3) := by decide +kernel
theorem dX9_knowsSelf_9 : decode cX9_knowsSelf 9 = .ok (.invokevirtual 102, 3) := by decide +kernel
theorem dX9_knowsSelf_12 : decode cX9_knowsSelf 12 = .ok (.ireturn, 1) := by decide +kernel
theorem dX9_knowsBy_0 : decode cX9_knowsBy 0 = .ok (.aload_n 0, 1) := by decide +kernel
theorem dX9_knowsBy_1 : decode cX9_knowsBy 1 = .ok (.getfield 18, 3) := by decide +kernel
theorem dX9_knowsBy_4 : decode cX9_knowsBy 4 = .ok (.iload_n 1, 1) := by decide +kernel
theorem dX9_knowsBy_5 : decode cX9_knowsBy 5 = .ok (.iload_n 2, 1) := by decide +kernel
theorem dX9_knowsBy_6 : decode cX9_knowsBy 6 = .ok (.invokevirtual 90, 3) := by decide +kernel
theorem dX9_knowsBy_9 : decode cX9_knowsBy 9 = .ok (.aload_n 0, 1) := by decide +kernel
theorem dX9_knowsBy_10 : decode cX9_knowsBy 10 = .ok (.iload_n 1, 1) := by decide +kernel
theorem dX9_knowsBy_11 : decode cX9_knowsBy 11 = .ok (.iload_n 3, 1) := by decide +kernel
theorem dX9_knowsBy_12 : decode cX9_knowsBy 12 = .ok (.invokevirtual 78, 3) := by decide +kernel
theorem dX9_knowsBy_15 : decode cX9_knowsBy 15 = .ok (.invokestatic 99, 3) := by decide +kernel
theorem dX9_knowsBy_18 : decode cX9_knowsBy 18 = .ok (.aload_n 0, 1) := by decide +kernel
theorem dX9_knowsBy_19 : decode cX9_knowsBy 19 = .ok (.getfield 26, 3) := by decide +kernel
theorem dX9_knowsBy_22 : decode cX9_knowsBy 22 = .ok (.getfield 106, 3) := by decide +kernel
theorem dX9_knowsBy_25 : decode cX9_knowsBy 25 = .ok (.if_icmp .gt 7, 3) := by decide +kernel
theorem dX9_knowsBy_28 : decode cX9_knowsBy 28 = .ok (.iconst 1, 1) := by decide +kernel
theorem dX9_knowsBy_29 : decode cX9_knowsBy 29 = .ok (.goto 4, 3) := by decide +kernel
theorem dX9_knowsBy_32 : decode cX9_knowsBy 32 = .ok (.iconst 0, 1) := by decide +kernel
theorem dX9_knowsBy_33 : decode cX9_knowsBy 33 = .ok (.ireturn, 1) := by decide +kernel
theorem dX9_knowing_0 : decode cX9_knowing 0 = .ok (.iconst 0, 1) := by decide +kernel
theorem dX9_knowing_1 : decode cX9_knowing 1 = .ok (.istore_n 2, 1) := by decide +kernel
theorem dX9_knowing_2 : decode cX9_knowing 2 = .ok (.iconst 0, 1) := by decide +kernel
theorem dX9_knowing_3 : decode cX9_knowing 3 = .ok (.istore_n 3, 1) := by decide +kernel
theorem dX9_knowing_4 : decode cX9_knowing 4 = .ok (.iload_n 3, 1) := by decide +kernel
theorem dX9_knowing_5 : decode cX9_knowing 5 = .ok (.aload_n 0, 1) := by decide +kernel
theorem dX9_knowing_6 : decode cX9_knowing 6 = .ok (.getfield 26, 3) := by decide +kernel
theorem dX9_knowing_9 : decode cX9_knowing 9 = .ok (.invokevirtual 109, 3) := by decide +kernel
theorem dX9_knowing_12 : decode cX9_knowing 12 = .ok (.if_icmp .ge 28, 3) := by decide +kernel
theorem dX9_knowing_15 : decode cX9_knowing 15 = .ok (.iload_n 2, 1) := by decide +kernel
theorem dX9_knowing_16 : decode cX9_knowing 16 = .ok (.aload_n 0, 1) := by decide +kernel
theorem dX9_knowing_17 : decode cX9_knowing 17 = .ok (.iload_n 3, 1) := by decide +kernel
theorem dX9_knowing_18 : decode cX9_knowing 18 = .ok (.iload_n 1, 1) := by decide +kernel
theorem dX9_knowing_19 : decode cX9_knowing 19 = .ok (.invokevirtual 113, 3) := by decide +kernel
theorem dX9_knowing_22 : decode cX9_knowing 22 = .ok (.ifCond .eq 9, 3) := by decide +kernel
theorem dX9_knowing_25 : decode cX9_knowing 25 = .ok (.iconst 1, 1) := by decide +kernel
theorem dX9_knowing_26 : decode cX9_knowing 26 = .ok (.iload_n 3, 1) := by decide +kernel
theorem dX9_knowing_27 : decode cX9_knowing 27 = .ok (.ishl, 1) := by decide +kernel
theorem dX9_knowing_28 : decode cX9_knowing 28 = .ok (.goto 4, 3) := by decide +kernel
theorem dX9_knowing_31 : decode cX9_knowing 31 = .ok (.iconst 0, 1) := by decide +kernel
theorem dX9_knowing_32 : decode cX9_knowing 32 = .ok (.ior, 1) := by decide +kernel
theorem dX9_knowing_33 : decode cX9_knowing 33 = .ok (.istore_n 2, 1) := by decide +kernel
theorem dX9_knowing_34 : decode cX9_knowing 34 = .ok (.iinc 3 1, 3) := by decide +kernel
theorem dX9_knowing_37 : decode cX9_knowing 37 = .ok (.goto (-33), 3) := by decide +kernel
theorem dX9_knowing_40 : decode cX9_knowing 40 = .ok (.iload_n 2, 1) := by decide +kernel
theorem dX9_knowing_41 : decode cX9_knowing 41 = .ok (.ireturn, 1) := by decide +kernel
theorem dX9_daysLost_0 : decode cX9_daysLost 0 = .ok (.iconst 0, 1) := by decide +kernel
theorem dX9_daysLost_1 : decode cX9_daysLost 1 = .ok (.istore_n 2, 1) := by decide +kernel
theorem dX9_daysLost_2 : decode cX9_daysLost 2 = .ok (.iconst 0, 1) := by decide +kernel
theorem dX9_daysLost_3 : decode cX9_daysLost 3 = .ok (.istore_n 3, 1) := by decide +kernel
theorem dX9_daysLost_4 : decode cX9_daysLost 4 = .ok (.iload_n 3, 1) := by decide +kernel
theorem dX9_daysLost_5 : decode cX9_daysLost 5 = .ok (.bipush 30, 2) := by decide +kernel
theorem dX9_daysLost_7 : decode cX9_daysLost 7 = .ok (.if_icmp .ge 26, 3) := by decide +kernel
theorem dX9_daysLost_10 : decode cX9_daysLost 10 = .ok (.iload_n 2, 1) := by decide +kernel
theorem dX9_daysLost_11 : decode cX9_daysLost 11 = .ok (.aload_n 0, 1) := by decide +kernel
theorem dX9_daysLost_12 : decode cX9_daysLost 12 = .ok (.iload_n 1, 1) := by decide +kernel
theorem dX9_daysLost_13 : decode cX9_daysLost 13 = .ok (.iload_n 3, 1) := by decide +kernel
theorem dX9_daysLost_14 : decode cX9_daysLost 14 = .ok (.invokevirtual 113, 3) := by decide +kernel
theorem dX9_daysLost_17 : decode cX9_daysLost 17 = .ok (.ifCond .eq 7, 3) := by decide +kernel
theorem dX9_daysLost_20 : decode cX9_daysLost 20 = .ok (.iconst 0, 1) := by decide +kernel
theorem dX9_daysLost_21 : decode cX9_daysLost 21 = .ok (.goto 4, 3) := by decide +kernel
theorem dX9_daysLost_24 : decode cX9_daysLost 24 = .ok (.iconst 1, 1) := by decide +kernel
theorem dX9_daysLost_25 : decode cX9_daysLost 25 = .ok (.iadd, 1) := by decide +kernel
theorem dX9_daysLost_26 : decode cX9_daysLost 26 = .ok (.istore_n 2, 1) := by decide +kernel
theorem dX9_daysLost_27 : decode cX9_daysLost 27 = .ok (.iinc 3 1, 3) := by decide +kernel
theorem dX9_daysLost_30 : decode cX9_daysLost 30 = .ok (.goto (-26), 3) := by decide +kernel
theorem dX9_daysLost_33 : decode cX9_daysLost 33 = .ok (.iload_n 2, 1) := by decide +kernel
theorem dX9_daysLost_34 : decode cX9_daysLost 34 = .ok (.ireturn, 1) := by decide +kernel
theorem dX9_passesFor_0 : decode cX9_passesFor 0 = .ok (.iload_n 1, 1) := by decide +kernel
theorem dX9_passesFor_1 : decode cX9_passesFor 1 = .ok (.iload_n 2, 1) := by decide +kernel
theorem dX9_passesFor_2 : decode cX9_passesFor 2 = .ok (.if_icmp .eq 35, 3) := by decide +kernel
theorem dX9_passesFor_5 : decode cX9_passesFor 5 = .ok (.aload_n 0, 1) := by decide +kernel
theorem dX9_passesFor_6 : decode cX9_passesFor 6 = .ok (.getfield 18, 3) := by decide +kernel
theorem dX9_passesFor_9 : decode cX9_passesFor 9 = .ok (.iload_n 1, 1) := by decide +kernel
theorem dX9_passesFor_10 : decode cX9_passesFor 10 = .ok (.iload_n 3, 1) := by decide +kernel
theorem dX9_passesFor_11 : decode cX9_passesFor 11 = .ok (.invokevirtual 90, 3) := by decide +kernel
theorem dX9_passesFor_14 : decode cX9_passesFor 14 = .ok (.aload_n 0, 1) := by decide +kernel
theorem dX9_passesFor_15 : decode cX9_passesFor 15 = .ok (.iload_n 2, 1) := by decide +kernel
theorem dX9_passesFor_16 : decode cX9_passesFor 16 = .ok (.iload_n 3, 1) := by decide +kernel
theorem dX9_passesFor_17 : decode cX9_passesFor 17 = .ok (.invokevirtual 116, 3) := by decide +kernel
theorem dX9_passesFor_20 : decode cX9_passesFor 20 = .ok (.invokestatic 99, 3) := by decide +kernel
theorem dX9_passesFor_23 : decode cX9_passesFor 23 = .ok (.aload_n 0, 1) := by decide +kernel
theorem dX9_passesFor_24 : decode cX9_passesFor 24 = .ok (.getfield 26, 3) := by decide +kernel
theorem dX9_passesFor_27 : decode cX9_passesFor 27 = .ok (.getfield 106, 3) := by decide +kernel
theorem dX9_passesFor_30 : decode cX9_passesFor 30 = .ok (.if_icmp .gt 7, 3) := by decide +kernel
theorem dX9_passesFor_33 : decode cX9_passesFor 33 = .ok (.iconst 1, 1) := by decide +kernel
theorem dX9_passesFor_34 : decode cX9_passesFor 34 = .ok (.goto 4, 3) := by decide +kernel
theorem dX9_passesFor_37 : decode cX9_passesFor 37 = .ok (.iconst 0, 1) := by decide +kernel
theorem dX9_passesFor_38 : decode cX9_passesFor 38 = .ok (.ireturn, 1) := by decide +kernel
theorem dX9_hasTwins_0 : decode cX9_hasTwins 0 = .ok (.iconst 0, 1) := by decide +kernel
theorem dX9_hasTwins_1 : decode cX9_hasTwins 1 = .ok (.istore_n 2, 1) := by decide +kernel
theorem dX9_hasTwins_2 : decode cX9_hasTwins 2 = .ok (.iload_n 2, 1) := by decide +kernel
theorem dX9_hasTwins_3 : decode cX9_hasTwins 3 = .ok (.aload_n 0, 1) := by decide +kernel
theorem dX9_hasTwins_4 : decode cX9_hasTwins 4 = .ok (.getfield 26, 3) := by decide +kernel
theorem dX9_hasTwins_7 : decode cX9_hasTwins 7 = .ok (.invokevirtual 109, 3) := by decide +kernel
theorem dX9_hasTwins_10 : decode cX9_hasTwins 10 = .ok (.if_icmp .ge 53, 3) := by decide +kernel
theorem dX9_hasTwins_13 : decode cX9_hasTwins 13 = .ok (.iload_n 2, 1) := by decide +kernel
theorem dX9_hasTwins_14 : decode cX9_hasTwins 14 = .ok (.iconst 1, 1) := by decide +kernel
theorem dX9_hasTwins_15 : decode cX9_hasTwins 15 = .ok (.iadd, 1) := by decide +kernel
theorem dX9_hasTwins_16 : decode cX9_hasTwins 16 = .ok (.istore_n 3, 1) := by decide +kernel
theorem dX9_hasTwins_17 : decode cX9_hasTwins 17 = .ok (.iload_n 3, 1) := by decide +kernel
theorem dX9_hasTwins_18 : decode cX9_hasTwins 18 = .ok (.aload_n 0, 1) := by decide +kernel
theorem dX9_hasTwins_19 : decode cX9_hasTwins 19 = .ok (.getfield 26, 3) := by decide +kernel
theorem dX9_hasTwins_22 : decode cX9_hasTwins 22 = .ok (.invokevirtual 109, 3) := by decide +kernel
theorem dX9_hasTwins_25 : decode cX9_hasTwins 25 = .ok (.if_icmp .ge 32, 3) := by decide +kernel
theorem dX9_hasTwins_28 : decode cX9_hasTwins 28 = .ok (.aload_n 0, 1) := by decide +kernel
theorem dX9_hasTwins_29 : decode cX9_hasTwins 29 = .ok (.getfield 18, 3) := by decide +kernel
theorem dX9_hasTwins_32 : decode cX9_hasTwins 32 = .ok (.iload_n 2, 1) := by decide +kernel
theorem dX9_hasTwins_33 : decode cX9_hasTwins 33 = .ok (.iload_n 1, 1) := by decide +kernel
theorem dX9_hasTwins_34 : decode cX9_hasTwins 34 = .ok (.invokevirtual 90, 3) := by decide +kernel
theorem dX9_hasTwins_37 : decode cX9_hasTwins 37 = .ok (.aload_n 0, 1) := by decide +kernel
theorem dX9_hasTwins_38 : decode cX9_hasTwins 38 = .ok (.getfield 18, 3) := by decide +kernel
theorem dX9_hasTwins_41 : decode cX9_hasTwins 41 = .ok (.iload_n 3, 1) := by decide +kernel
theorem dX9_hasTwins_42 : decode cX9_hasTwins 42 = .ok (.iload_n 1, 1) := by decide +kernel
theorem dX9_hasTwins_43 : decode cX9_hasTwins 43 = .ok (.invokevirtual 90, 3) := by decide +kernel
theorem dX9_hasTwins_46 : decode cX9_hasTwins 46 = .ok (.if_icmp .ne 5, 3) := by decide +kernel
theorem dX9_hasTwins_49 : decode cX9_hasTwins 49 = .ok (.iconst 1, 1) := by decide +kernel
theorem dX9_hasTwins_50 : decode cX9_hasTwins 50 = .ok (.ireturn, 1) := by decide +kernel
theorem dX9_hasTwins_51 : decode cX9_hasTwins 51 = .ok (.iinc 3 1, 3) := by decide +kernel
theorem dX9_hasTwins_54 : decode cX9_hasTwins 54 = .ok (.goto (-37), 3) := by decide +kernel
theorem dX9_hasTwins_57 : decode cX9_hasTwins 57 = .ok (.iinc 2 1, 3) := by decide +kernel
theorem dX9_hasTwins_60 : decode cX9_hasTwins 60 = .ok (.goto (-58), 3) := by decide +kernel
theorem dX9_hasTwins_63 : decode cX9_hasTwins 63 = .ok (.iconst 0, 1) := by decide +kernel
theorem dX9_hasTwins_64 : decode cX9_hasTwins 64 = .ok (.ireturn, 1) := by decide +kernel
theorem dX9_wishesHeld_0 : decode cX9_wishesHeld 0 = .ok (.iconst 0, 1) := by decide +kernel
theorem dX9_wishesHeld_1 : decode cX9_wishesHeld 1 = .ok (.istore_n 1, 1) := by decide +kernel
theorem dX9_wishesHeld_2 : decode cX9_wishesHeld 2 = .ok (.iconst 0, 1) := by decide +kernel
theorem dX9_wishesHeld_3 : decode cX9_wishesHeld 3 = .ok (.istore_n 2, 1) := by decide +kernel
theorem dX9_wishesHeld_4 : decode cX9_wishesHeld 4 = .ok (.iload_n 2, 1) := by decide +kernel
theorem dX9_wishesHeld_5 : decode cX9_wishesHeld 5 = .ok (.aload_n 0, 1) := by decide +kernel
theorem dX9_wishesHeld_6 : decode cX9_wishesHeld 6 = .ok (.getfield 26, 3) := by decide +kernel
theorem dX9_wishesHeld_9 : decode cX9_wishesHeld 9 = .ok (.invokevirtual 119, 3) := by decide +kernel
theorem dX9_wishesHeld_12 : decode cX9_wishesHeld 12 = .ok (.if_icmp .ge 48, 3) := by decide +kernel
theorem dX9_wishesHeld_15 : decode cX9_wishesHeld 15 = .ok (.iload_n 1, 1) := by decide +kernel
theorem dX9_wishesHeld_16 : decode cX9_wishesHeld 16 = .ok (.aload_n 0, 1) := by decide +kernel
theorem dX9_wishesHeld_17 : decode cX9_wishesHeld 17 = .ok (.aload_n 0, 1) := by decide +kernel
theorem dX9_wishesHeld_18 : decode cX9_wishesHeld 18 = .ok (.getfield 26, 3) := by decide +kernel
theorem dX9_wishesHeld_21 : decode cX9_wishesHeld 21 = .ok (.getfield 122, 3) := by decide +kernel
theorem dX9_wishesHeld_24 : decode cX9_wishesHeld 24 = .ok (.iload_n 2, 1) := by decide +kernel
theorem dX9_wishesHeld_25 : decode cX9_wishesHeld 25 = .ok (.invokestatic 53, 3) := by decide +kernel
theorem dX9_wishesHeld_28 : decode cX9_wishesHeld 28 = .ok (.aload_n 0, 1) := by decide +kernel
theorem dX9_wishesHeld_29 : decode cX9_wishesHeld 29 = .ok (.getfield 26, 3) := by decide +kernel
theorem dX9_wishesHeld_32 : decode cX9_wishesHeld 32 = .ok (.getfield 125, 3) := by decide +kernel
theorem dX9_wishesHeld_35 : decode cX9_wishesHeld 35 = .ok (.iload_n 2, 1) := by decide +kernel
theorem dX9_wishesHeld_36 : decode cX9_wishesHeld 36 = .ok (.invokestatic 53, 3) := by decide +kernel
theorem dX9_wishesHeld_39 : decode cX9_wishesHeld 39 = .ok (.invokevirtual 113, 3) := by decide +kernel
theorem dX9_wishesHeld_42 : decode cX9_wishesHeld 42 = .ok (.ifCond .eq 9, 3) := by decide +kernel
theorem dX9_wishesHeld_45 : decode cX9_wishesHeld 45 = .ok (.iconst 1, 1) := by decide +kernel
theorem dX9_wishesHeld_46 : decode cX9_wishesHeld 46 = .ok (.iload_n 2, 1) := by decide +kernel
theorem dX9_wishesHeld_47 : decode cX9_wishesHeld 47 = .ok (.ishl, 1) := by decide +kernel
theorem dX9_wishesHeld_48 : decode cX9_wishesHeld 48 = .ok (.goto 4, 3) := by decide +kernel
theorem dX9_wishesHeld_51 : decode cX9_wishesHeld 51 = .ok (.iconst 0, 1) := by decide +kernel
theorem dX9_wishesHeld_52 : decode cX9_wishesHeld 52 = .ok (.ior, 1) := by decide +kernel
theorem dX9_wishesHeld_53 : decode cX9_wishesHeld 53 = .ok (.istore_n 1, 1) := by decide +kernel
theorem dX9_wishesHeld_54 : decode cX9_wishesHeld 54 = .ok (.iinc 2 1, 3) := by decide +kernel
theorem dX9_wishesHeld_57 : decode cX9_wishesHeld 57 = .ok (.goto (-53), 3) := by decide +kernel
theorem dX9_wishesHeld_60 : decode cX9_wishesHeld 60 = .ok (.iload_n 1, 1) := by decide +kernel
theorem dX9_wishesHeld_61 : decode cX9_wishesHeld 61 = .ok (.ireturn, 1) := by decide +kernel
theorem dX9_countHeld_0 : decode cX9_countHeld 0 = .ok (.aload_n 0, 1) := by decide +kernel
theorem dX9_countHeld_1 : decode cX9_countHeld 1 = .ok (.invokevirtual 128, 3) := by decide +kernel
theorem dX9_countHeld_4 : decode cX9_countHeld 4 = .ok (.invokestatic 131, 3) := by decide +kernel
theorem dX9_countHeld_7 : decode cX9_countHeld 7 = .ok (.ireturn, 1) := by decide +kernel
theorem dX9_drift_0 : decode cX9_drift 0 = .ok (.iload_n 1, 1) := by decide +kernel
theorem dX9_drift_1 : decode cX9_drift 1 = .ok (.istore_n 2, 1) := by decide +kernel
theorem dX9_drift_2 : decode cX9_drift 2 = .ok (.iconst 0, 1) := by decide +kernel
theorem dX9_drift_3 : decode cX9_drift 3 = .ok (.istore_n 3, 1) := by decide +kernel
theorem dX9_drift_4 : decode cX9_drift 4 = .ok (.iload_n 3, 1) := by decide +kernel
theorem dX9_drift_5 : decode cX9_drift 5 = .ok (.bipush 30, 2) := by decide +kernel
theorem dX9_drift_7 : decode cX9_drift 7 = .ok (.if_icmp .ge 54, 3) := by decide +kernel
theorem dX9_drift_10 : decode cX9_drift 10 = .ok (.iload_n 2, 1) := by decide +kernel
theorem dX9_drift_11 : decode cX9_drift 11 = .ok (.invokestatic 136, 3) := by decide +kernel
theorem dX9_drift_14 : decode cX9_drift 14 = .ok (.istore_n 2, 1) := by decide +kernel
theorem dX9_drift_15 : decode cX9_drift 15 = .ok (.iload_n 2, 1) := by decide +kernel
theorem dX9_drift_16 : decode cX9_drift 16 = .ok (.aload_n 0, 1) := by decide +kernel
theorem dX9_drift_17 : decode cX9_drift 17 = .ok (.getfield 26, 3) := by decide +kernel
theorem dX9_drift_20 : decode cX9_drift 20 = .ok (.invokevirtual 109, 3) := by decide +kernel
theorem dX9_drift_23 : decode cX9_drift 23 = .ok (.invokestatic 139, 3) := by decide +kernel
theorem dX9_drift_26 : decode cX9_drift 26 = .ok (.istore 4, 2) := by decide +kernel
theorem dX9_drift_28 : decode cX9_drift 28 = .ok (.iload_n 2, 1) := by decide +kernel
theorem dX9_drift_29 : decode cX9_drift 29 = .ok (.invokestatic 136, 3) := by decide +kernel
theorem dX9_drift_32 : decode cX9_drift 32 = .ok (.istore_n 2, 1) := by decide +kernel
theorem dX9_drift_33 : decode cX9_drift 33 = .ok (.aload_n 0, 1) := by decide +kernel
theorem dX9_drift_34 : decode cX9_drift 34 = .ok (.getfield 18, 3) := by decide +kernel
theorem dX9_drift_37 : decode cX9_drift 37 = .ok (.iload 4, 2) := by decide +kernel
theorem dX9_drift_39 : decode cX9_drift 39 = .ok (.iload_n 2, 1) := by decide +kernel
theorem dX9_drift_40 : decode cX9_drift 40 = .ok (.aload_n 0, 1) := by decide +kernel
theorem dX9_drift_41 : decode cX9_drift 41 = .ok (.getfield 26, 3) := by decide +kernel
theorem dX9_drift_44 : decode cX9_drift 44 = .ok (.getfield 142, 3) := by decide +kernel
theorem dX9_drift_47 : decode cX9_drift 47 = .ok (.invokestatic 139, 3) := by decide +kernel
theorem dX9_drift_50 : decode cX9_drift 50 = .ok (.iload_n 3, 1) := by decide +kernel
theorem dX9_drift_51 : decode cX9_drift 51 = .ok (.iconst 1, 1) := by decide +kernel
theorem dX9_drift_52 : decode cX9_drift 52 = .ok (.invokevirtual 145, 3) := by decide +kernel
theorem dX9_drift_55 : decode cX9_drift 55 = .ok (.iinc 3 1, 3) := by decide +kernel
theorem dX9_drift_58 : decode cX9_drift 58 = .ok (.goto (-54), 3) := by decide +kernel
theorem dX9_drift_61 : decode cX9_drift 61 = .ok (.iload_n 2, 1) := by decide +kernel
theorem dX9_drift_62 : decode cX9_drift 62 = .ok (.ireturn, 1) := by decide +kernel
theorem dX9_drawn_0 : decode cX9_drawn 0 = .ok (.bipush 75, 2) := by decide +kernel
theorem dX9_drawn_2 : decode cX9_drawn 2 = .ok (.iload_n 0, 1) := by decide +kernel
theorem dX9_drawn_3 : decode cX9_drawn 3 = .ok (.imul, 1) := by decide +kernel
theorem dX9_drawn_4 : decode cX9_drawn 4 = .ok (.bipush 74, 2) := by decide +kernel
theorem dX9_drawn_6 : decode cX9_drawn 6 = .ok (.iadd, 1) := by decide +kernel
theorem dX9_drawn_7 : decode cX9_drawn 7 = .ok (.ldc 149, 2) := by decide +kernel
theorem dX9_drawn_9 : decode cX9_drawn 9 = .ok (.irem, 1) := by decide +kernel
theorem dX9_drawn_10 : decode cX9_drawn 10 = .ok (.ireturn, 1) := by decide +kernel
theorem dX9_rest_0 : decode cX9_rest 0 = .ok (.iload_n 1, 1) := by decide +kernel
theorem dX9_rest_1 : decode cX9_rest 1 = .ok (.ifCond .le 9, 3) := by decide +kernel
theorem dX9_rest_4 : decode cX9_rest 4 = .ok (.iload_n 0, 1) := by decide +kernel
theorem dX9_rest_5 : decode cX9_rest 5 = .ok (.iload_n 1, 1) := by decide +kernel
theorem dX9_rest_6 : decode cX9_rest 6 = .ok (.irem, 1) := by decide +kernel
theorem dX9_rest_7 : decode cX9_rest 7 = .ok (.goto 4, 3) := by decide +kernel
theorem dX9_rest_10 : decode cX9_rest 10 = .ok (.iconst 0, 1) := by decide +kernel
theorem dX9_rest_11 : decode cX9_rest 11 = .ok (.ireturn, 1) := by decide +kernel
theorem dX10_init_0 : decode cX10_init 0 = .ok (.aload_n 0, 1) := by decide +kernel
theorem dX10_init_1 : decode cX10_init 1 = .ok (.invokespecial 3, 3) := by decide +kernel
theorem dX10_init_4 : decode cX10_init 4 = .ok (.aload_n 0, 1) := by decide +kernel
theorem dX10_init_5 : decode cX10_init 5 = .ok (.sipush 800, 3) := by decide +kernel
theorem dX10_init_8 : decode cX10_init 8 = .ok (.newarray .byte, 2) := by decide +kernel
theorem dX10_init_10 : decode cX10_init 10 = .ok (.putfield 11, 3) := by decide +kernel
theorem dX10_init_13 : decode cX10_init 13 = .ok (.return_, 1) := by decide +kernel
theorem dX10_hasRoom_0 : decode cX10_hasRoom 0 = .ok (.aload_n 0, 1) := by decide +kernel
theorem dX10_hasRoom_1 : decode cX10_hasRoom 1 = .ok (.getfield 15, 3) := by decide +kernel
theorem dX10_hasRoom_4 : decode cX10_hasRoom 4 = .ok (.bipush 20, 2) := by decide +kernel
theorem dX10_hasRoom_6 : decode cX10_hasRoom 6 = .ok (.iadd, 1) := by decide +kernel
theorem dX10_hasRoom_7 : decode cX10_hasRoom 7 = .ok (.sipush 800, 3) := by decide +kernel
theorem dX10_hasRoom_10 : decode cX10_hasRoom 10 = .ok (.if_icmp .gt 7, 3) := by decide +kernel
theorem dX10_hasRoom_13 : decode cX10_hasRoom 13 = .ok (.iconst 1, 1) := by decide +kernel
theorem dX10_hasRoom_14 : decode cX10_hasRoom 14 = .ok (.goto 4, 3) := by decide +kernel
theorem dX10_hasRoom_17 : decode cX10_hasRoom 17 = .ok (.iconst 0, 1) := by decide +kernel
theorem dX10_hasRoom_18 : decode cX10_hasRoom 18 = .ok (.ireturn, 1) := by decide +kernel
theorem dX10_add_0 : decode cX10_add 0 = .ok (.bipush 24, 2) := by decide +kernel
theorem dX10_add_2 : decode cX10_add 2 = .ok (.istore_n 2, 1) := by decide +kernel
theorem dX10_add_3 : decode cX10_add 3 = .ok (.iload_n 2, 1) := by decide +kernel
theorem dX10_add_4 : decode cX10_add 4 = .ok (.ifCond .lt 47, 3) := by decide +kernel
theorem dX10_add_7 : decode cX10_add 7 = .ok (.aload_n 0, 1) := by decide +kernel
theorem dX10_add_8 : decode cX10_add 8 = .ok (.getfield 15, 3) := by decide +kernel
theorem dX10_add_11 : decode cX10_add 11 = .ok (.aload_n 0, 1) := by decide +kernel
theorem dX10_add_12 : decode cX10_add 12 = .ok (.getfield 11, 3) := by decide +kernel
theorem dX10_add_15 : decode cX10_add 15 = .ok (.arraylength, 1) := by decide +kernel
theorem dX10_add_16 : decode cX10_add 16 = .ok (.invokestatic 19, 3) := by decide +kernel
theorem dX10_add_19 : decode cX10_add 19 = .ok (.ifCond .eq 26, 3) := by decide +kernel
theorem dX10_add_22 : decode cX10_add 22 = .ok (.aload_n 0, 1) := by decide +kernel
theorem dX10_add_23 : decode cX10_add 23 = .ok (.getfield 11, 3) := by decide +kernel
theorem dX10_add_26 : decode cX10_add 26 = .ok (.aload_n 0, 1) := by decide +kernel
theorem dX10_add_27 : decode cX10_add 27 = .ok (.getfield 15, 3) := by decide +kernel
theorem dX10_add_30 : decode cX10_add 30 = .ok (.iload_n 1, 1) := by decide +kernel
theorem dX10_add_31 : decode cX10_add 31 = .ok (.iload_n 2, 1) := by decide +kernel
theorem dX10_add_32 : decode cX10_add 32 = .ok (.iushr, 1) := by decide +kernel
theorem dX10_add_33 : decode cX10_add 33 = .ok (.i2b, 1) := by decide +kernel
theorem dX10_add_34 : decode cX10_add 34 = .ok (.bastore, 1) := by decide +kernel
