/-! DECODE rows, by program -/
theorem d_M_before_101 : decode b_M_before 101 = .ok (.ireturn, 1) := by decide +kernel
theorem d_M_block_0 : decode b_M_block 0 = .ok (.aload_n 0, 1) := by decide +kernel
theorem d_M_block_1 : decode b_M_block 1 = .ok (.iconst 0, 1) := by decide +kernel
theorem d_M_block_2 : decode b_M_block 2 = .ok (.putfield 42, 3) := by decide +kernel
theorem d_M_block_5 : decode b_M_block 5 = .ok (.aload_n 0, 1) := by decide +kernel
theorem d_M_block_6 : decode b_M_block 6 = .ok (.iload_n 1, 1) := by decide +kernel
theorem d_M_block_7 : decode b_M_block 7 = .ok (.iload_n 2, 1) := by decide +kernel
theorem d_M_block_8 : decode b_M_block 8 = .ok (.invokevirtual 91, 3) := by decide +kernel
theorem d_M_block_11 : decode b_M_block 11 = .ok (.ifCond .ne 5, 3) := by decide +kernel
theorem d_M_block_14 : decode b_M_block 14 = .ok (.iconst (-1), 1) := by decide +kernel
theorem d_M_block_15 : decode b_M_block 15 = .ok (.ireturn, 1) := by decide +kernel
theorem d_M_block_16 : decode b_M_block 16 = .ok (.aload_n 0, 1) := by decide +kernel
theorem d_M_block_17 : decode b_M_block 17 = .ok (.invokevirtual 94, 3) := by decide +kernel
theorem d_M_block_20 : decode b_M_block 20 = .ok (.aload_n 0, 1) := by decide +kernel
theorem d_M_block_21 : decode b_M_block 21 = .ok (.bipush 6, 2) := by decide +kernel
theorem d_M_block_23 : decode b_M_block 23 = .ok (.iload_n 1, 1) := by decide +kernel
theorem d_M_block_24 : decode b_M_block 24 = .ok (.imul, 1) := by decide +kernel
theorem d_M_block_25 : decode b_M_block 25 = .ok (.iload_n 2, 1) := by decide +kernel
theorem d_M_block_26 : decode b_M_block 26 = .ok (.iadd, 1) := by decide +kernel
theorem d_M_block_27 : decode b_M_block 27 = .ok (.invokevirtual 97, 3) := by decide +kernel
theorem d_M_block_30 : decode b_M_block 30 = .ok (.ireturn, 1) := by decide +kernel
theorem d_M_isPiece_0 : decode b_M_isPiece 0 = .ok (.aload_n 0, 1) := by decide +kernel
theorem d_M_isPiece_1 : decode b_M_isPiece 1 = .ok (.iload_n 1, 1) := by decide +kernel
theorem d_M_isPiece_2 : decode b_M_isPiece 2 = .ok (.invokevirtual 45, 3) := by decide +kernel
theorem d_M_isPiece_5 : decode b_M_isPiece 5 = .ok (.ifCond .eq 28, 3) := by decide +kernel
theorem d_M_isPiece_8 : decode b_M_isPiece 8 = .ok (.iload_n 2, 1) := by decide +kernel
theorem d_M_isPiece_9 : decode b_M_isPiece 9 = .ok (.invokestatic 49, 3) := by decide +kernel
theorem d_M_isPiece_12 : decode b_M_isPiece 12 = .ok (.ifCond .eq 21, 3) := by decide +kernel
theorem d_M_isPiece_15 : decode b_M_isPiece 15 = .ok (.aload_n 0, 1) := by decide +kernel
theorem d_M_isPiece_16 : decode b_M_isPiece 16 = .ok (.getfield 13, 3) := by decide +kernel
theorem d_M_isPiece_19 : decode b_M_isPiece 19 = .ok (.bipush 6, 2) := by decide +kernel
theorem d_M_isPiece_21 : decode b_M_isPiece 21 = .ok (.iload_n 1, 1) := by decide +kernel
theorem d_M_isPiece_22 : decode b_M_isPiece 22 = .ok (.imul, 1) := by decide +kernel
theorem d_M_isPiece_23 : decode b_M_isPiece 23 = .ok (.iload_n 2, 1) := by decide +kernel
theorem d_M_isPiece_24 : decode b_M_isPiece 24 = .ok (.iadd, 1) := by decide +kernel
theorem d_M_isPiece_25 : decode b_M_isPiece 25 = .ok (.baload, 1) := by decide +kernel
theorem d_M_isPiece_26 : decode b_M_isPiece 26 = .ok (.ifCond .eq 7, 3) := by decide +kernel
theorem d_M_isPiece_29 : decode b_M_isPiece 29 = .ok (.iconst 1, 1) := by decide +kernel
theorem d_M_isPiece_30 : decode b_M_isPiece 30 = .ok (.goto 4, 3) := by decide +kernel
theorem d_M_isPiece_33 : decode b_M_isPiece 33 = .ok (.iconst 0, 1) := by decide +kernel
theorem d_M_isPiece_34 : decode b_M_isPiece 34 = .ok (.ireturn, 1) := by decide +kernel
theorem d_M_unreach_0 : decode b_M_unreach 0 = .ok (.iconst 0, 1) := by decide +kernel
theorem d_M_unreach_1 : decode b_M_unreach 1 = .ok (.istore_n 1, 1) := by decide +kernel
theorem d_M_unreach_2 : decode b_M_unreach 2 = .ok (.iload_n 1, 1) := by decide +kernel
theorem d_M_unreach_3 : decode b_M_unreach 3 = .ok (.sipush 2400, 3) := by decide +kernel
theorem d_M_unreach_6 : decode b_M_unreach 6 = .ok (.if_icmp .ge 16, 3) := by decide +kernel
theorem d_M_unreach_9 : decode b_M_unreach 9 = .ok (.aload_n 0, 1) := by decide +kernel
theorem d_M_unreach_10 : decode b_M_unreach 10 = .ok (.getfield 29, 3) := by decide +kernel
theorem d_M_unreach_13 : decode b_M_unreach 13 = .ok (.iload_n 1, 1) := by decide +kernel
theorem d_M_unreach_14 : decode b_M_unreach 14 = .ok (.iconst 0, 1) := by decide +kernel
theorem d_M_unreach_15 : decode b_M_unreach 15 = .ok (.bastore, 1) := by decide +kernel
theorem d_M_unreach_16 : decode b_M_unreach 16 = .ok (.iinc 1 1, 3) := by decide +kernel
theorem d_M_unreach_19 : decode b_M_unreach 19 = .ok (.goto (-17), 3) := by decide +kernel
theorem d_M_unreach_22 : decode b_M_unreach 22 = .ok (.return_, 1) := by decide +kernel
theorem d_M_lowest_0 : decode b_M_lowest 0 = .ok (.iconst 1, 1) := by decide +kernel
theorem d_M_lowest_1 : decode b_M_lowest 1 = .ok (.istore_n 2, 1) := by decide +kernel
theorem d_M_lowest_2 : decode b_M_lowest 2 = .ok (.iload_n 1, 1) := by decide +kernel
theorem d_M_lowest_3 : decode b_M_lowest 3 = .ok (.istore_n 3, 1) := by decide +kernel
theorem d_M_lowest_4 : decode b_M_lowest 4 = .ok (.aload_n 0, 1) := by decide +kernel
theorem d_M_lowest_5 : decode b_M_lowest 5 = .ok (.getfield 32, 3) := by decide +kernel
theorem d_M_lowest_8 : decode b_M_lowest 8 = .ok (.iconst 0, 1) := by decide +kernel
theorem d_M_lowest_9 : decode b_M_lowest 9 = .ok (.iload_n 1, 1) := by decide +kernel
theorem d_M_lowest_10 : decode b_M_lowest 10 = .ok (.iastore, 1) := by decide +kernel
theorem d_M_lowest_11 : decode b_M_lowest 11 = .ok (.aload_n 0, 1) := by decide +kernel
theorem d_M_lowest_12 : decode b_M_lowest 12 = .ok (.getfield 29, 3) := by decide +kernel
theorem d_M_lowest_15 : decode b_M_lowest 15 = .ok (.iload_n 1, 1) := by decide +kernel
theorem d_M_lowest_16 : decode b_M_lowest 16 = .ok (.iconst 1, 1) := by decide +kernel
theorem d_M_lowest_17 : decode b_M_lowest 17 = .ok (.bastore, 1) := by decide +kernel
theorem d_M_lowest_18 : decode b_M_lowest 18 = .ok (.iconst 0, 1) := by decide +kernel
theorem d_M_lowest_19 : decode b_M_lowest 19 = .ok (.istore 4, 2) := by decide +kernel
theorem d_M_lowest_21 : decode b_M_lowest 21 = .ok (.iload 4, 2) := by decide +kernel
theorem d_M_lowest_23 : decode b_M_lowest 23 = .ok (.iload_n 2, 1) := by decide +kernel
theorem d_M_lowest_24 : decode b_M_lowest 24 = .ok (.if_icmp .ge 97, 3) := by decide +kernel
theorem d_M_lowest_27 : decode b_M_lowest 27 = .ok (.iconst 0, 1) := by decide +kernel
theorem d_M_lowest_28 : decode b_M_lowest 28 = .ok (.istore 5, 2) := by decide +kernel
theorem d_M_lowest_30 : decode b_M_lowest 30 = .ok (.iload 5, 2) := by decide +kernel
theorem d_M_lowest_32 : decode b_M_lowest 32 = .ok (.aload_n 0, 1) := by decide +kernel
theorem d_M_lowest_33 : decode b_M_lowest 33 = .ok (.getfield 52, 3) := by decide +kernel
theorem d_M_lowest_36 : decode b_M_lowest 36 = .ok (.if_icmp .ge 79, 3) := by decide +kernel
theorem d_M_lowest_39 : decode b_M_lowest 39 = .ok (.aload_n 0, 1) := by decide +kernel
theorem d_M_lowest_40 : decode b_M_lowest 40 = .ok (.getfield 23, 3) := by decide +kernel
theorem d_M_lowest_43 : decode b_M_lowest 43 = .ok (.iload 5, 2) := by decide +kernel
theorem d_M_lowest_45 : decode b_M_lowest 45 = .ok (.iaload, 1) := by decide +kernel
theorem d_M_lowest_46 : decode b_M_lowest 46 = .ok (.istore 6, 2) := by decide +kernel
theorem d_M_lowest_48 : decode b_M_lowest 48 = .ok (.aload_n 0, 1) := by decide +kernel
theorem d_M_lowest_49 : decode b_M_lowest 49 = .ok (.getfield 29, 3) := by decide +kernel
theorem d_M_lowest_52 : decode b_M_lowest 52 = .ok (.iload 6, 2) := by decide +kernel
theorem d_M_lowest_54 : decode b_M_lowest 54 = .ok (.baload, 1) := by decide +kernel
theorem d_M_lowest_55 : decode b_M_lowest 55 = .ok (.ifCond .ne 54, 3) := by decide +kernel
theorem d_M_lowest_58 : decode b_M_lowest 58 = .ok (.aload_n 0, 1) := by decide +kernel
theorem d_M_lowest_59 : decode b_M_lowest 59 = .ok (.aload_n 0, 1) := by decide +kernel
theorem d_M_lowest_60 : decode b_M_lowest 60 = .ok (.getfield 32, 3) := by decide +kernel
theorem d_M_lowest_63 : decode b_M_lowest 63 = .ok (.iload 4, 2) := by decide +kernel
theorem d_M_lowest_65 : decode b_M_lowest 65 = .ok (.iaload, 1) := by decide +kernel
theorem d_M_lowest_66 : decode b_M_lowest 66 = .ok (.iload 6, 2) := by decide +kernel
theorem d_M_lowest_68 : decode b_M_lowest 68 = .ok (.invokevirtual 88, 3) := by decide +kernel
theorem d_M_lowest_71 : decode b_M_lowest 71 = .ok (.ifCond .ne 6, 3) := by decide +kernel
theorem d_M_lowest_74 : decode b_M_lowest 74 = .ok (.goto 35, 3) := by decide +kernel
theorem d_M_lowest_77 : decode b_M_lowest 77 = .ok (.aload_n 0, 1) := by decide +kernel
theorem d_M_lowest_78 : decode b_M_lowest 78 = .ok (.getfield 29, 3) := by decide +kernel
theorem d_M_lowest_81 : decode b_M_lowest 81 = .ok (.iload 6, 2) := by decide +kernel
theorem d_M_lowest_83 : decode b_M_lowest 83 = .ok (.iconst 1, 1) := by decide +kernel
theorem d_M_lowest_84 : decode b_M_lowest 84 = .ok (.bastore, 1) := by decide +kernel
theorem d_M_lowest_85 : decode b_M_lowest 85 = .ok (.aload_n 0, 1) := by decide +kernel
theorem d_M_lowest_86 : decode b_M_lowest 86 = .ok (.getfield 32, 3) := by decide +kernel
theorem d_M_lowest_89 : decode b_M_lowest 89 = .ok (.iload_n 2, 1) := by decide +kernel
theorem d_M_lowest_90 : decode b_M_lowest 90 = .ok (.iload 6, 2) := by decide +kernel
theorem d_M_lowest_92 : decode b_M_lowest 92 = .ok (.iastore, 1) := by decide +kernel
theorem d_M_lowest_93 : decode b_M_lowest 93 = .ok (.iinc 2 1, 3) := by decide +kernel
theorem d_M_lowest_96 : decode b_M_lowest 96 = .ok (.iload 6, 2) := by decide +kernel
theorem d_M_lowest_98 : decode b_M_lowest 98 = .ok (.iload_n 3, 1) := by decide +kernel
theorem d_M_lowest_99 : decode b_M_lowest 99 = .ok (.if_icmp .ge 8, 3) := by decide +kernel
theorem d_M_lowest_102 : decode b_M_lowest 102 = .ok (.iload 6, 2) := by decide +kernel
theorem d_M_lowest_104 : decode b_M_lowest 104 = .ok (.goto 4, 3) := by decide +kernel
theorem d_M_lowest_107 : decode b_M_lowest 107 = .ok (.iload_n 3, 1) := by decide +kernel
theorem d_M_lowest_108 : decode b_M_lowest 108 = .ok (.istore_n 3, 1) := by decide +kernel
theorem d_M_lowest_109 : decode b_M_lowest 109 = .ok (.iinc 5 1, 3) := by decide +kernel
theorem d_M_lowest_112 : decode b_M_lowest 112 = .ok (.goto (-82), 3) := by decide +kernel
theorem d_M_lowest_115 : decode b_M_lowest 115 = .ok (.iinc 4 1, 3) := by decide +kernel
theorem d_M_lowest_118 : decode b_M_lowest 118 = .ok (.goto (-97), 3) := by decide +kernel
theorem d_M_lowest_121 : decode b_M_lowest 121 = .ok (.iload_n 3, 1) := by decide +kernel
theorem d_M_lowest_122 : decode b_M_lowest 122 = .ok (.ireturn, 1) := by decide +kernel
theorem d_M_touch_0 : decode b_M_touch 0 = .ok (.iload_n 1, 1) := by decide +kernel
theorem d_M_touch_1 : decode b_M_touch 1 = .ok (.bipush 6, 2) := by decide +kernel
theorem d_M_touch_3 : decode b_M_touch 3 = .ok (.idiv, 1) := by decide +kernel
theorem d_M_touch_4 : decode b_M_touch 4 = .ok (.iload_n 2, 1) := by decide +kernel
theorem d_M_touch_5 : decode b_M_touch 5 = .ok (.bipush 6, 2) := by decide +kernel
theorem d_M_touch_7 : decode b_M_touch 7 = .ok (.idiv, 1) := by decide +kernel
theorem d_M_touch_8 : decode b_M_touch 8 = .ok (.if_icmp .ne 91, 3) := by decide +kernel
theorem d_M_touch_11 : decode b_M_touch 11 = .ok (.iload_n 1, 1) := by decide +kernel
theorem d_M_touch_12 : decode b_M_touch 12 = .ok (.bipush 6, 2) := by decide +kernel
theorem d_M_touch_14 : decode b_M_touch 14 = .ok (.irem, 1) := by decide +kernel
theorem d_M_touch_15 : decode b_M_touch 15 = .ok (.iload_n 2, 1) := by decide +kernel
theorem d_M_touch_16 : decode b_M_touch 16 = .ok (.bipush 6, 2) := by decide +kernel
theorem d_M_touch_18 : decode b_M_touch 18 = .ok (.irem, 1) := by decide +kernel
theorem d_M_touch_19 : decode b_M_touch 19 = .ok (.iadd, 1) := by decide +kernel
theorem d_M_touch_20 : decode b_M_touch 20 = .ok (.bipush 6, 2) := by decide +kernel
theorem d_M_touch_22 : decode b_M_touch 22 = .ok (.if_icmp .ne 30, 3) := by decide +kernel
theorem d_M_touch_25 : decode b_M_touch 25 = .ok (.iload_n 1, 1) := by decide +kernel
theorem d_M_touch_26 : decode b_M_touch 26 = .ok (.bipush 6, 2) := by decide +kernel
theorem d_M_touch_28 : decode b_M_touch 28 = .ok (.irem, 1) := by decide +kernel
theorem d_M_touch_29 : decode b_M_touch 29 = .ok (.iload_n 2, 1) := by decide +kernel
theorem d_M_touch_30 : decode b_M_touch 30 = .ok (.bipush 6, 2) := by decide +kernel
theorem d_M_touch_32 : decode b_M_touch 32 = .ok (.irem, 1) := by decide +kernel
theorem d_M_touch_33 : decode b_M_touch 33 = .ok (.if_icmp .eq 19, 3) := by decide +kernel
theorem d_M_touch_36 : decode b_M_touch 36 = .ok (.iload_n 1, 1) := by decide +kernel
theorem d_M_touch_37 : decode b_M_touch 37 = .ok (.bipush 6, 2) := by decide +kernel
theorem d_M_touch_39 : decode b_M_touch 39 = .ok (.irem, 1) := by decide +kernel
theorem d_M_touch_40 : decode b_M_touch 40 = .ok (.iconst 2, 1) := by decide +kernel
theorem d_M_touch_41 : decode b_M_touch 41 = .ok (.if_icmp .eq 56, 3) := by decide +kernel
theorem d_M_touch_44 : decode b_M_touch 44 = .ok (.iload_n 1, 1) := by decide +kernel
theorem d_M_touch_45 : decode b_M_touch 45 = .ok (.bipush 6, 2) := by decide +kernel
theorem d_M_touch_47 : decode b_M_touch 47 = .ok (.irem, 1) := by decide +kernel
theorem d_M_touch_48 : decode b_M_touch 48 = .ok (.iconst 4, 1) := by decide +kernel
theorem d_M_touch_49 : decode b_M_touch 49 = .ok (.if_icmp .eq 48, 3) := by decide +kernel
theorem d_M_touch_52 : decode b_M_touch 52 = .ok (.iload_n 1, 1) := by decide +kernel
theorem d_M_touch_53 : decode b_M_touch 53 = .ok (.bipush 6, 2) := by decide +kernel
theorem d_M_touch_55 : decode b_M_touch 55 = .ok (.irem, 1) := by decide +kernel
theorem d_M_touch_56 : decode b_M_touch 56 = .ok (.iload_n 2, 1) := by decide +kernel
theorem d_M_touch_57 : decode b_M_touch 57 = .ok (.bipush 6, 2) := by decide +kernel
theorem d_M_touch_59 : decode b_M_touch 59 = .ok (.irem, 1) := by decide +kernel
theorem d_M_touch_60 : decode b_M_touch 60 = .ok (.iadd, 1) := by decide +kernel
theorem d_M_touch_61 : decode b_M_touch 61 = .ok (.bipush 8, 2) := by decide +kernel
theorem d_M_touch_63 : decode b_M_touch 63 = .ok (.if_icmp .ne 30, 3) := by decide +kernel
theorem d_M_touch_66 : decode b_M_touch 66 = .ok (.iload_n 1, 1) := by decide +kernel
theorem d_M_touch_67 : decode b_M_touch 67 = .ok (.bipush 6, 2) := by decide +kernel
theorem d_M_touch_69 : decode b_M_touch 69 = .ok (.irem, 1) := by decide +kernel
theorem d_M_touch_70 : decode b_M_touch 70 = .ok (.iload_n 2, 1) := by decide +kernel
theorem d_M_touch_71 : decode b_M_touch 71 = .ok (.bipush 6, 2) := by decide +kernel
theorem d_M_touch_73 : decode b_M_touch 73 = .ok (.irem, 1) := by decide +kernel
theorem d_M_touch_74 : decode b_M_touch 74 = .ok (.if_icmp .eq 19, 3) := by decide +kernel
theorem d_M_touch_77 : decode b_M_touch 77 = .ok (.iload_n 1, 1) := by decide +kernel
theorem d_M_touch_78 : decode b_M_touch 78 = .ok (.bipush 6, 2) := by decide +kernel
theorem d_M_touch_80 : decode b_M_touch 80 = .ok (.irem, 1) := by decide +kernel
theorem d_M_touch_81 : decode b_M_touch 81 = .ok (.iconst 3, 1) := by decide +kernel
theorem d_M_touch_82 : decode b_M_touch 82 = .ok (.if_icmp .eq 15, 3) := by decide +kernel
theorem d_M_touch_85 : decode b_M_touch 85 = .ok (.iload_n 1, 1) := by decide +kernel
theorem d_M_touch_86 : decode b_M_touch 86 = .ok (.bipush 6, 2) := by decide +kernel
theorem d_M_touch_88 : decode b_M_touch 88 = .ok (.irem, 1) := by decide +kernel
theorem d_M_touch_89 : decode b_M_touch 89 = .ok (.iconst 5, 1) := by decide +kernel
theorem d_M_touch_90 : decode b_M_touch 90 = .ok (.if_icmp .eq 7, 3) := by decide +kernel
theorem d_M_touch_93 : decode b_M_touch 93 = .ok (.iconst 1, 1) := by decide +kernel
theorem d_M_touch_94 : decode b_M_touch 94 = .ok (.goto 4, 3) := by decide +kernel
theorem d_M_touch_97 : decode b_M_touch 97 = .ok (.iconst 0, 1) := by decide +kernel
theorem d_M_touch_98 : decode b_M_touch 98 = .ok (.ireturn, 1) := by decide +kernel
theorem d_M_touch_99 : decode b_M_touch 99 = .ok (.iconst 0, 1) := by decide +kernel
theorem d_M_touch_100 : decode b_M_touch 100 = .ok (.istore_n 3, 1) := by decide +kernel
theorem d_M_touch_101 : decode b_M_touch 101 = .ok (.iload_n 3, 1) := by decide +kernel
theorem d_M_touch_102 : decode b_M_touch 102 = .ok (.iconst 4, 1) := by decide +kernel
theorem d_M_touch_103 : decode b_M_touch 103 = .ok (.if_icmp .ge 72, 3) := by decide +kernel
theorem d_M_touch_106 : decode b_M_touch 106 = .ok (.aload_n 0, 1) := by decide +kernel
theorem d_M_touch_107 : decode b_M_touch 107 = .ok (.iload_n 1, 1) := by decide +kernel
theorem d_M_touch_108 : decode b_M_touch 108 = .ok (.bipush 6, 2) := by decide +kernel
theorem d_M_touch_110 : decode b_M_touch 110 = .ok (.idiv, 1) := by decide +kernel
theorem d_M_touch_111 : decode b_M_touch 111 = .ok (.iload_n 3, 1) := by decide +kernel
theorem d_M_touch_112 : decode b_M_touch 112 = .ok (.invokevirtual 65, 3) := by decide +kernel
theorem d_M_touch_115 : decode b_M_touch 115 = .ok (.iload_n 2, 1) := by decide +kernel
theorem d_M_touch_116 : decode b_M_touch 116 = .ok (.bipush 6, 2) := by decide +kernel
theorem d_M_touch_118 : decode b_M_touch 118 = .ok (.idiv, 1) := by decide +kernel
theorem d_M_touch_119 : decode b_M_touch 119 = .ok (.if_icmp .eq 6, 3) := by decide +kernel
theorem d_M_touch_122 : decode b_M_touch 122 = .ok (.goto 47, 3) := by decide +kernel
theorem d_M_touch_125 : decode b_M_touch 125 = .ok (.aload_n 0, 1) := by decide +kernel
theorem d_M_touch_126 : decode b_M_touch 126 = .ok (.iload_n 1, 1) := by decide +kernel
theorem d_M_touch_127 : decode b_M_touch 127 = .ok (.iload_n 3, 1) := by decide +kernel
theorem d_M_touch_128 : decode b_M_touch 128 = .ok (.invokevirtual 81, 3) := by decide +kernel
theorem d_M_touch_131 : decode b_M_touch 131 = .ok (.ifCond .eq 38, 3) := by decide +kernel
theorem d_M_touch_134 : decode b_M_touch 134 = .ok (.aload_n 0, 1) := by decide +kernel
theorem d_M_touch_135 : decode b_M_touch 135 = .ok (.iload_n 2, 1) := by decide +kernel
theorem d_M_touch_136 : decode b_M_touch 136 = .ok (.iload_n 3, 1) := by decide +kernel
theorem d_M_touch_137 : decode b_M_touch 137 = .ok (.invokestatic 72, 3) := by decide +kernel
theorem d_M_touch_140 : decode b_M_touch 140 = .ok (.invokevirtual 81, 3) := by decide +kernel
theorem d_M_touch_143 : decode b_M_touch 143 = .ok (.ifCond .eq 26, 3) := by decide +kernel
theorem d_M_touch_146 : decode b_M_touch 146 = .ok (.aload_n 0, 1) := by decide +kernel
theorem d_M_touch_147 : decode b_M_touch 147 = .ok (.iload_n 1, 1) := by decide +kernel
theorem d_M_touch_148 : decode b_M_touch 148 = .ok (.iload_n 3, 1) := by decide +kernel
theorem d_M_touch_149 : decode b_M_touch 149 = .ok (.invokevirtual 85, 3) := by decide +kernel
theorem d_M_touch_152 : decode b_M_touch 152 = .ok (.ifCond .ne 17, 3) := by decide +kernel
theorem d_M_touch_155 : decode b_M_touch 155 = .ok (.aload_n 0, 1) := by decide +kernel
theorem d_M_touch_156 : decode b_M_touch 156 = .ok (.iload_n 2, 1) := by decide +kernel
theorem d_M_touch_157 : decode b_M_touch 157 = .ok (.iload_n 3, 1) := by decide +kernel
theorem d_M_touch_158 : decode b_M_touch 158 = .ok (.invokestatic 72, 3) := by decide +kernel
theorem d_M_touch_161 : decode b_M_touch 161 = .ok (.invokevirtual 85, 3) := by decide +kernel
theorem d_M_touch_164 : decode b_M_touch 164 = .ok (.ifCond .ne 5, 3) := by decide +kernel
theorem d_M_touch_167 : decode b_M_touch 167 = .ok (.iconst 1, 1) := by decide +kernel
theorem d_M_touch_168 : decode b_M_touch 168 = .ok (.ireturn, 1) := by decide +kernel
theorem d_M_touch_169 : decode b_M_touch 169 = .ok (.iinc 3 1, 3) := by decide +kernel
theorem d_M_touch_172 : decode b_M_touch 172 = .ok (.goto (-71), 3) := by decide +kernel
theorem d_M_touch_175 : decode b_M_touch 175 = .ok (.iconst 0, 1) := by decide +kernel
theorem d_M_touch_176 : decode b_M_touch 176 = .ok (.ireturn, 1) := by decide +kernel
theorem d_M_ends_0 : decode b_M_ends 0 = .ok (.aload_n 0, 1) := by decide +kernel
theorem d_M_ends_1 : decode b_M_ends 1 = .ok (.getfield 7, 3) := by decide +kernel
theorem d_M_ends_4 : decode b_M_ends 4 = .ok (.iconst 2, 1) := by decide +kernel
theorem d_M_ends_5 : decode b_M_ends 5 = .ok (.iload_n 1, 1) := by decide +kernel
theorem d_M_ends_6 : decode b_M_ends 6 = .ok (.bipush 6, 2) := by decide +kernel
theorem d_M_ends_8 : decode b_M_ends 8 = .ok (.irem, 1) := by decide +kernel
theorem d_M_ends_9 : decode b_M_ends 9 = .ok (.imul, 1) := by decide +kernel
theorem d_M_ends_10 : decode b_M_ends 10 = .ok (.iaload, 1) := by decide +kernel
theorem d_M_ends_11 : decode b_M_ends 11 = .ok (.iload_n 2, 1) := by decide +kernel
theorem d_M_ends_12 : decode b_M_ends 12 = .ok (.if_icmp .eq 20, 3) := by decide +kernel
theorem d_M_ends_15 : decode b_M_ends 15 = .ok (.aload_n 0, 1) := by decide +kernel
theorem d_M_ends_16 : decode b_M_ends 16 = .ok (.getfield 7, 3) := by decide +kernel
theorem d_M_ends_19 : decode b_M_ends 19 = .ok (.iconst 2, 1) := by decide +kernel
theorem d_M_ends_20 : decode b_M_ends 20 = .ok (.iload_n 1, 1) := by decide +kernel
theorem d_M_ends_21 : decode b_M_ends 21 = .ok (.bipush 6, 2) := by decide +kernel
theorem d_M_ends_23 : decode b_M_ends 23 = .ok (.irem, 1) := by decide +kernel
theorem d_M_ends_24 : decode b_M_ends 24 = .ok (.imul, 1) := by decide +kernel
theorem d_M_ends_25 : decode b_M_ends 25 = .ok (.iconst 1, 1) := by decide +kernel
theorem d_M_ends_26 : decode b_M_ends 26 = .ok (.iadd, 1) := by decide +kernel
theorem d_M_ends_27 : decode b_M_ends 27 = .ok (.iaload, 1) := by decide +kernel
theorem d_M_ends_28 : decode b_M_ends 28 = .ok (.iload_n 2, 1) := by decide +kernel
theorem d_M_ends_29 : decode b_M_ends 29 = .ok (.if_icmp .ne 7, 3) := by decide +kernel
theorem d_M_ends_32 : decode b_M_ends 32 = .ok (.iconst 1, 1) := by decide +kernel
theorem d_M_ends_33 : decode b_M_ends 33 = .ok (.goto 4, 3) := by decide +kernel
theorem d_M_ends_36 : decode b_M_ends 36 = .ok (.iconst 0, 1) := by decide +kernel
theorem d_M_ends_37 : decode b_M_ends 37 = .ok (.ireturn, 1) := by decide +kernel
theorem d_M_guards_0 : decode b_M_guards 0 = .ok (.aload_n 0, 1) := by decide +kernel
theorem d_M_guards_1 : decode b_M_guards 1 = .ok (.getfield 17, 3) := by decide +kernel
theorem d_M_guards_4 : decode b_M_guards 4 = .ok (.iload_n 1, 1) := by decide +kernel
theorem d_M_guards_5 : decode b_M_guards 5 = .ok (.iaload, 1) := by decide +kernel
theorem d_M_guards_6 : decode b_M_guards 6 = .ok (.ifCond .le 20, 3) := by decide +kernel
theorem d_M_guards_9 : decode b_M_guards 9 = .ok (.aload_n 0, 1) := by decide +kernel
theorem d_M_guards_10 : decode b_M_guards 10 = .ok (.aload_n 0, 1) := by decide +kernel
theorem d_M_guards_11 : decode b_M_guards 11 = .ok (.iload_n 1, 1) := by decide +kernel
theorem d_M_guards_12 : decode b_M_guards 12 = .ok (.invokevirtual 58, 3) := by decide +kernel
theorem d_M_guards_15 : decode b_M_guards 15 = .ok (.invokevirtual 62, 3) := by decide +kernel
theorem d_M_guards_18 : decode b_M_guards 18 = .ok (.iload_n 2, 1) := by decide +kernel
theorem d_M_guards_19 : decode b_M_guards 19 = .ok (.if_icmp .ne 7, 3) := by decide +kernel
theorem d_M_guards_22 : decode b_M_guards 22 = .ok (.iconst 1, 1) := by decide +kernel
theorem d_M_guards_23 : decode b_M_guards 23 = .ok (.goto 4, 3) := by decide +kernel
theorem d_M_guards_26 : decode b_M_guards 26 = .ok (.iconst 0, 1) := by decide +kernel
theorem d_M_guards_27 : decode b_M_guards 27 = .ok (.ireturn, 1) := by decide +kernel
theorem d_M_sign_0 : decode b_M_sign 0 = .ok (.aload_n 0, 1) := by decide +kernel
theorem d_M_sign_1 : decode b_M_sign 1 = .ok (.iconst 0, 1) := by decide +kernel
theorem d_M_sign_2 : decode b_M_sign 2 = .ok (.putfield 42, 3) := by decide +kernel
theorem d_M_sign_5 : decode b_M_sign 5 = .ok (.iconst (-1), 1) := by decide +kernel
theorem d_M_sign_6 : decode b_M_sign 6 = .ok (.istore_n 2, 1) := by decide +kernel
theorem d_M_sign_7 : decode b_M_sign 7 = .ok (.iconst 0, 1) := by decide +kernel
theorem d_M_sign_8 : decode b_M_sign 8 = .ok (.istore_n 3, 1) := by decide +kernel
theorem d_M_sign_9 : decode b_M_sign 9 = .ok (.iload_n 3, 1) := by decide +kernel
theorem d_M_sign_10 : decode b_M_sign 10 = .ok (.aload_n 0, 1) := by decide +kernel
theorem d_M_sign_11 : decode b_M_sign 11 = .ok (.getfield 52, 3) := by decide +kernel
theorem d_M_sign_14 : decode b_M_sign 14 = .ok (.if_icmp .ge 61, 3) := by decide +kernel
theorem d_M_sign_17 : decode b_M_sign 17 = .ok (.iload_n 1, 1) := by decide +kernel
theorem d_M_sign_18 : decode b_M_sign 18 = .ok (.invokestatic 100, 3) := by decide +kernel
theorem d_M_sign_21 : decode b_M_sign 21 = .ok (.ifCond .eq 54, 3) := by decide +kernel
theorem d_M_sign_24 : decode b_M_sign 24 = .ok (.aload_n 0, 1) := by decide +kernel
theorem d_M_sign_25 : decode b_M_sign 25 = .ok (.getfield 20, 3) := by decide +kernel
theorem d_M_sign_28 : decode b_M_sign 28 = .ok (.aload_n 0, 1) := by decide +kernel
theorem d_M_sign_29 : decode b_M_sign 29 = .ok (.getfield 23, 3) := by decide +kernel
theorem d_M_sign_32 : decode b_M_sign 32 = .ok (.iload_n 3, 1) := by decide +kernel
theorem d_M_sign_33 : decode b_M_sign 33 = .ok (.iaload, 1) := by decide +kernel
theorem d_M_sign_34 : decode b_M_sign 34 = .ok (.iaload, 1) := by decide +kernel
theorem d_M_sign_35 : decode b_M_sign 35 = .ok (.iload_n 1, 1) := by decide +kernel
theorem d_M_sign_36 : decode b_M_sign 36 = .ok (.iconst 1, 1) := by decide +kernel
theorem d_M_sign_37 : decode b_M_sign 37 = .ok (.iadd, 1) := by decide +kernel
theorem d_M_sign_38 : decode b_M_sign 38 = .ok (.if_icmp .ne 31, 3) := by decide +kernel
theorem d_M_sign_41 : decode b_M_sign 41 = .ok (.iload_n 2, 1) := by decide +kernel
theorem d_M_sign_42 : decode b_M_sign 42 = .ok (.iconst (-1), 1) := by decide +kernel
theorem d_M_sign_43 : decode b_M_sign 43 = .ok (.if_icmp .eq 16, 3) := by decide +kernel
theorem d_M_sign_46 : decode b_M_sign 46 = .ok (.aload_n 0, 1) := by decide +kernel
theorem d_M_sign_47 : decode b_M_sign 47 = .ok (.getfield 23, 3) := by decide +kernel
theorem d_M_sign_50 : decode b_M_sign 50 = .ok (.iload_n 3, 1) := by decide +kernel
theorem d_M_sign_51 : decode b_M_sign 51 = .ok (.iaload, 1) := by decide +kernel
theorem d_M_sign_52 : decode b_M_sign 52 = .ok (.bipush 6, 2) := by decide +kernel
theorem d_M_sign_54 : decode b_M_sign 54 = .ok (.idiv, 1) := by decide +kernel
theorem d_M_sign_55 : decode b_M_sign 55 = .ok (.iload_n 2, 1) := by decide +kernel
theorem d_M_sign_56 : decode b_M_sign 56 = .ok (.if_icmp .ge 13, 3) := by decide +kernel
theorem d_M_sign_59 : decode b_M_sign 59 = .ok (.aload_n 0, 1) := by decide +kernel
theorem d_M_sign_60 : decode b_M_sign 60 = .ok (.getfield 23, 3) := by decide +kernel
theorem d_M_sign_63 : decode b_M_sign 63 = .ok (.iload_n 3, 1) := by decide +kernel
theorem d_M_sign_64 : decode b_M_sign 64 = .ok (.iaload, 1) := by decide +kernel
theorem d_M_sign_65 : decode b_M_sign 65 = .ok (.bipush 6, 2) := by decide +kernel
theorem d_M_sign_67 : decode b_M_sign 67 = .ok (.idiv, 1) := by decide +kernel
theorem d_M_sign_68 : decode b_M_sign 68 = .ok (.istore_n 2, 1) := by decide +kernel
theorem d_M_sign_69 : decode b_M_sign 69 = .ok (.iinc 3 1, 3) := by decide +kernel
theorem d_M_sign_72 : decode b_M_sign 72 = .ok (.goto (-63), 3) := by decide +kernel
theorem d_M_sign_75 : decode b_M_sign 75 = .ok (.iload_n 2, 1) := by decide +kernel
theorem d_M_sign_76 : decode b_M_sign 76 = .ok (.ireturn, 1) := by decide +kernel
theorem d_M_isStation_0 : decode b_M_isStation 0 = .ok (.iload_n 0, 1) := by decide +kernel
theorem d_M_isStation_1 : decode b_M_isStation 1 = .ok (.ifCond .lt 13, 3) := by decide +kernel
theorem d_M_isStation_4 : decode b_M_isStation 4 = .ok (.iload_n 0, 1) := by decide +kernel
theorem d_M_isStation_5 : decode b_M_isStation 5 = .ok (.bipush 8, 2) := by decide +kernel
theorem d_M_isStation_7 : decode b_M_isStation 7 = .ok (.if_icmp .ge 7, 3) := by decide +kernel
theorem d_M_isStation_10 : decode b_M_isStation 10 = .ok (.iconst 1, 1) := by decide +kernel
theorem d_M_isStation_11 : decode b_M_isStation 11 = .ok (.goto 4, 3) := by decide +kernel
theorem d_M_isStation_14 : decode b_M_isStation 14 = .ok (.iconst 0, 1) := by decide +kernel
theorem d_M_isStation_15 : decode b_M_isStation 15 = .ok (.ireturn, 1) := by decide +kernel
theorem d_M_isTarget_0 : decode b_M_isTarget 0 = .ok (.aload_n 0, 1) := by decide +kernel
theorem d_M_isTarget_1 : decode b_M_isTarget 1 = .ok (.iconst 0, 1) := by decide +kernel
theorem d_M_isTarget_2 : decode b_M_isTarget 2 = .ok (.putfield 42, 3) := by decide +kernel
theorem d_M_isTarget_5 : decode b_M_isTarget 5 = .ok (.aload_n 0, 1) := by decide +kernel
theorem d_M_isTarget_6 : decode b_M_isTarget 6 = .ok (.iload_n 1, 1) := by decide +kernel
theorem d_M_isTarget_7 : decode b_M_isTarget 7 = .ok (.iload_n 2, 1) := by decide +kernel
theorem d_M_isTarget_8 : decode b_M_isTarget 8 = .ok (.invokevirtual 103, 3) := by decide +kernel
theorem d_M_isTarget_11 : decode b_M_isTarget 11 = .ok (.ireturn, 1) := by decide +kernel
theorem d_M_target_0 : decode b_M_target 0 = .ok (.aload_n 0, 1) := by decide +kernel
theorem d_M_target_1 : decode b_M_target 1 = .ok (.iload_n 1, 1) := by decide +kernel
theorem d_M_target_2 : decode b_M_target 2 = .ok (.invokevirtual 75, 3) := by decide +kernel
theorem d_M_target_5 : decode b_M_target 5 = .ok (.ifCond .eq 24, 3) := by decide +kernel
theorem d_M_target_8 : decode b_M_target 8 = .ok (.iload_n 2, 1) := by decide +kernel
theorem d_M_target_9 : decode b_M_target 9 = .ok (.invokestatic 100, 3) := by decide +kernel
theorem d_M_target_12 : decode b_M_target 12 = .ok (.ifCond .eq 17, 3) := by decide +kernel
theorem d_M_target_15 : decode b_M_target 15 = .ok (.aload_n 0, 1) := by decide +kernel
theorem d_M_target_16 : decode b_M_target 16 = .ok (.getfield 20, 3) := by decide +kernel
theorem d_M_target_19 : decode b_M_target 19 = .ok (.iload_n 1, 1) := by decide +kernel
theorem d_M_target_20 : decode b_M_target 20 = .ok (.iconst 2, 1) := by decide +kernel
theorem d_M_target_21 : decode b_M_target 21 = .ok (.idiv, 1) := by decide +kernel
theorem d_M_target_22 : decode b_M_target 22 = .ok (.iaload, 1) := by decide +kernel
theorem d_M_target_23 : decode b_M_target 23 = .ok (.iload_n 2, 1) := by decide +kernel
theorem d_M_target_24 : decode b_M_target 24 = .ok (.iconst 1, 1) := by decide +kernel
theorem d_M_target_25 : decode b_M_target 25 = .ok (.iadd, 1) := by decide +kernel
theorem d_M_target_26 : decode b_M_target 26 = .ok (.if_icmp .eq 5, 3) := by decide +kernel
theorem d_M_target_29 : decode b_M_target 29 = .ok (.iconst 0, 1) := by decide +kernel
theorem d_M_target_30 : decode b_M_target 30 = .ok (.ireturn, 1) := by decide +kernel
theorem d_M_target_31 : decode b_M_target 31 = .ok (.iconst 0, 1) := by decide +kernel
theorem d_M_target_32 : decode b_M_target 32 = .ok (.istore_n 3, 1) := by decide +kernel
theorem d_M_target_33 : decode b_M_target 33 = .ok (.iload_n 3, 1) := by decide +kernel
theorem d_M_target_34 : decode b_M_target 34 = .ok (.bipush 6, 2) := by decide +kernel
theorem d_M_target_36 : decode b_M_target 36 = .ok (.if_icmp .ge 40, 3) := by decide +kernel
theorem d_M_target_39 : decode b_M_target 39 = .ok (.aload_n 0, 1) := by decide +kernel
theorem d_M_target_40 : decode b_M_target 40 = .ok (.iload_n 1, 1) := by decide +kernel
theorem d_M_target_41 : decode b_M_target 41 = .ok (.iload_n 3, 1) := by decide +kernel
theorem d_M_target_42 : decode b_M_target 42 = .ok (.invokevirtual 78, 3) := by decide +kernel
theorem d_M_target_45 : decode b_M_target 45 = .ok (.istore 4, 2) := by decide +kernel
theorem d_M_target_47 : decode b_M_target 47 = .ok (.iload 4, 2) := by decide +kernel
theorem d_M_target_49 : decode b_M_target 49 = .ok (.iconst (-1), 1) := by decide +kernel
theorem d_M_target_50 : decode b_M_target 50 = .ok (.if_icmp .eq 20, 3) := by decide +kernel
theorem d_M_target_53 : decode b_M_target 53 = .ok (.aload_n 0, 1) := by decide +kernel
theorem d_M_target_54 : decode b_M_target 54 = .ok (.getfield 20, 3) := by decide +kernel
theorem d_M_target_57 : decode b_M_target 57 = .ok (.iload 4, 2) := by decide +kernel
theorem d_M_target_59 : decode b_M_target 59 = .ok (.iconst 2, 1) := by decide +kernel
theorem d_M_target_60 : decode b_M_target 60 = .ok (.idiv, 1) := by decide +kernel
theorem d_M_target_61 : decode b_M_target 61 = .ok (.iaload, 1) := by decide +kernel
theorem d_M_target_62 : decode b_M_target 62 = .ok (.iload_n 2, 1) := by decide +kernel
theorem d_M_target_63 : decode b_M_target 63 = .ok (.iconst 1, 1) := by decide +kernel
theorem d_M_target_64 : decode b_M_target 64 = .ok (.iadd, 1) := by decide +kernel
theorem d_M_target_65 : decode b_M_target 65 = .ok (.if_icmp .ne 5, 3) := by decide +kernel
theorem d_M_target_68 : decode b_M_target 68 = .ok (.iconst 0, 1) := by decide +kernel
theorem d_M_target_69 : decode b_M_target 69 = .ok (.ireturn, 1) := by decide +kernel
theorem d_M_target_70 : decode b_M_target 70 = .ok (.iinc 3 1, 3) := by decide +kernel
theorem d_M_target_73 : decode b_M_target 73 = .ok (.goto (-40), 3) := by decide +kernel
theorem d_M_target_76 : decode b_M_target 76 = .ok (.iconst 1, 1) := by decide +kernel
theorem d_M_target_77 : decode b_M_target 77 = .ok (.ireturn, 1) := by decide +kernel
theorem d_M_cost_0 : decode b_M_cost 0 = .ok (.aload_n 0, 1) := by decide +kernel
theorem d_M_cost_1 : decode b_M_cost 1 = .ok (.iconst 0, 1) := by decide +kernel
theorem d_M_cost_2 : decode b_M_cost 2 = .ok (.putfield 42, 3) := by decide +kernel
theorem d_M_cost_5 : decode b_M_cost 5 = .ok (.aload_n 0, 1) := by decide +kernel
theorem d_M_cost_6 : decode b_M_cost 6 = .ok (.iload_n 1, 1) := by decide +kernel
theorem d_M_cost_7 : decode b_M_cost 7 = .ok (.invokevirtual 75, 3) := by decide +kernel
theorem d_M_cost_10 : decode b_M_cost 10 = .ok (.ifCond .eq 10, 3) := by decide +kernel
theorem d_M_cost_13 : decode b_M_cost 13 = .ok (.iload_n 2, 1) := by decide +kernel
theorem d_M_cost_14 : decode b_M_cost 14 = .ok (.invokestatic 100, 3) := by decide +kernel
theorem d_M_cost_17 : decode b_M_cost 17 = .ok (.ifCond .ne 5, 3) := by decide +kernel
theorem d_M_cost_20 : decode b_M_cost 20 = .ok (.iconst (-1), 1) := by decide +kernel
theorem d_M_cost_21 : decode b_M_cost 21 = .ok (.ireturn, 1) := by decide +kernel
theorem d_M_cost_22 : decode b_M_cost 22 = .ok (.aload_n 0, 1) := by decide +kernel
theorem d_M_cost_23 : decode b_M_cost 23 = .ok (.iload_n 2, 1) := by decide +kernel
theorem d_M_cost_24 : decode b_M_cost 24 = .ok (.invokevirtual 113, 3) := by decide +kernel
theorem d_M_cost_27 : decode b_M_cost 27 = .ok (.aload_n 0, 1) := by decide +kernel
theorem d_M_cost_28 : decode b_M_cost 28 = .ok (.getfield 26, 3) := by decide +kernel
theorem d_M_cost_31 : decode b_M_cost 31 = .ok (.iload_n 1, 1) := by decide +kernel
theorem d_M_cost_32 : decode b_M_cost 32 = .ok (.iaload, 1) := by decide +kernel
theorem d_M_cost_33 : decode b_M_cost 33 = .ok (.ldc 106, 2) := by decide +kernel
theorem d_M_cost_35 : decode b_M_cost 35 = .ok (.if_icmp .ne 7, 3) := by decide +kernel
theorem d_M_cost_38 : decode b_M_cost 38 = .ok (.iconst (-1), 1) := by decide +kernel
theorem d_M_cost_39 : decode b_M_cost 39 = .ok (.goto 9, 3) := by decide +kernel
theorem d_M_cost_42 : decode b_M_cost 42 = .ok (.aload_n 0, 1) := by decide +kernel
theorem d_M_cost_43 : decode b_M_cost 43 = .ok (.getfield 26, 3) := by decide +kernel
theorem d_M_cost_46 : decode b_M_cost 46 = .ok (.iload_n 1, 1) := by decide +kernel
theorem d_M_cost_47 : decode b_M_cost 47 = .ok (.iaload, 1) := by decide +kernel
theorem d_M_cost_48 : decode b_M_cost 48 = .ok (.ireturn, 1) := by decide +kernel
theorem d_M_reckon_0 : decode b_M_reckon 0 = .ok (.iconst 0, 1) := by decide +kernel
theorem d_M_reckon_1 : decode b_M_reckon 1 = .ok (.istore_n 2, 1) := by decide +kernel
theorem d_M_reckon_2 : decode b_M_reckon 2 = .ok (.iload_n 2, 1) := by decide +kernel
theorem d_M_reckon_3 : decode b_M_reckon 3 = .ok (.aload_n 0, 1) := by decide +kernel
theorem d_M_reckon_4 : decode b_M_reckon 4 = .ok (.getfield 52, 3) := by decide +kernel
theorem d_M_reckon_7 : decode b_M_reckon 7 = .ok (.if_icmp .ge 61, 3) := by decide +kernel
theorem d_M_reckon_10 : decode b_M_reckon 10 = .ok (.iconst 0, 1) := by decide +kernel
theorem d_M_reckon_11 : decode b_M_reckon 11 = .ok (.istore_n 3, 1) := by decide +kernel
theorem d_M_reckon_12 : decode b_M_reckon 12 = .ok (.iload_n 3, 1) := by decide +kernel
theorem d_M_reckon_13 : decode b_M_reckon 13 = .ok (.iconst 2, 1) := by decide +kernel
theorem d_M_reckon_14 : decode b_M_reckon 14 = .ok (.if_icmp .ge 48, 3) := by decide +kernel
theorem d_M_reckon_17 : decode b_M_reckon 17 = .ok (.aload_n 0, 1) := by decide +kernel
theorem d_M_reckon_18 : decode b_M_reckon 18 = .ok (.getfield 26, 3) := by decide +kernel
theorem d_M_reckon_21 : decode b_M_reckon 21 = .ok (.iconst 2, 1) := by decide +kernel
theorem d_M_reckon_22 : decode b_M_reckon 22 = .ok (.aload_n 0, 1) := by decide +kernel
theorem d_M_reckon_23 : decode b_M_reckon 23 = .ok (.getfield 23, 3) := by decide +kernel
theorem d_M_reckon_26 : decode b_M_reckon 26 = .ok (.iload_n 2, 1) := by decide +kernel
theorem d_M_reckon_27 : decode b_M_reckon 27 = .ok (.iaload, 1) := by decide +kernel
theorem d_M_reckon_28 : decode b_M_reckon 28 = .ok (.imul, 1) := by decide +kernel
theorem d_M_reckon_29 : decode b_M_reckon 29 = .ok (.iload_n 3, 1) := by decide +kernel
theorem d_M_reckon_30 : decode b_M_reckon 30 = .ok (.iadd, 1) := by decide +kernel
theorem d_M_reckon_31 : decode b_M_reckon 31 = .ok (.aload_n 0, 1) := by decide +kernel
theorem d_M_reckon_32 : decode b_M_reckon 32 = .ok (.iconst 2, 1) := by decide +kernel
theorem d_M_reckon_33 : decode b_M_reckon 33 = .ok (.aload_n 0, 1) := by decide +kernel
theorem d_M_reckon_34 : decode b_M_reckon 34 = .ok (.getfield 23, 3) := by decide +kernel
theorem d_M_reckon_37 : decode b_M_reckon 37 = .ok (.iload_n 2, 1) := by decide +kernel
theorem d_M_reckon_38 : decode b_M_reckon 38 = .ok (.iaload, 1) := by decide +kernel
theorem d_M_reckon_39 : decode b_M_reckon 39 = .ok (.imul, 1) := by decide +kernel
theorem d_M_reckon_40 : decode b_M_reckon 40 = .ok (.iload_n 3, 1) := by decide +kernel
theorem d_M_reckon_41 : decode b_M_reckon 41 = .ok (.iadd, 1) := by decide +kernel
theorem d_M_reckon_42 : decode b_M_reckon 42 = .ok (.iload_n 1, 1) := by decide +kernel
theorem d_M_reckon_43 : decode b_M_reckon 43 = .ok (.invokevirtual 103, 3) := by decide +kernel
theorem d_M_reckon_46 : decode b_M_reckon 46 = .ok (.ifCond .eq 7, 3) := by decide +kernel
theorem d_M_reckon_49 : decode b_M_reckon 49 = .ok (.iconst 0, 1) := by decide +kernel
theorem d_M_reckon_50 : decode b_M_reckon 50 = .ok (.goto 5, 3) := by decide +kernel
theorem d_M_reckon_53 : decode b_M_reckon 53 = .ok (.ldc 106, 2) := by decide +kernel
theorem d_M_reckon_55 : decode b_M_reckon 55 = .ok (.iastore, 1) := by decide +kernel
theorem d_M_reckon_56 : decode b_M_reckon 56 = .ok (.iinc 3 1, 3) := by decide +kernel
theorem d_M_reckon_59 : decode b_M_reckon 59 = .ok (.goto (-47), 3) := by decide +kernel
theorem d_M_reckon_62 : decode b_M_reckon 62 = .ok (.iinc 2 1, 3) := by decide +kernel
theorem d_M_reckon_65 : decode b_M_reckon 65 = .ok (.goto (-63), 3) := by decide +kernel
theorem d_M_reckon_68 : decode b_M_reckon 68 = .ok (.iconst 1, 1) := by decide +kernel
theorem d_M_reckon_69 : decode b_M_reckon 69 = .ok (.istore_n 2, 1) := by decide +kernel
theorem d_M_reckon_70 : decode b_M_reckon 70 = .ok (.iload_n 2, 1) := by decide +kernel
theorem d_M_reckon_71 : decode b_M_reckon 71 = .ok (.ifCond .eq 135, 3) := by decide +kernel
theorem d_M_reckon_74 : decode b_M_reckon 74 = .ok (.iconst 0, 1) := by decide +kernel
theorem d_M_reckon_75 : decode b_M_reckon 75 = .ok (.istore_n 2, 1) := by decide +kernel
theorem d_M_reckon_76 : decode b_M_reckon 76 = .ok (.iconst 0, 1) := by decide +kernel
theorem d_M_reckon_77 : decode b_M_reckon 77 = .ok (.istore_n 3, 1) := by decide +kernel
theorem d_M_reckon_78 : decode b_M_reckon 78 = .ok (.iload_n 3, 1) := by decide +kernel
theorem d_M_reckon_79 : decode b_M_reckon 79 = .ok (.aload_n 0, 1) := by decide +kernel
theorem d_M_reckon_80 : decode b_M_reckon 80 = .ok (.getfield 52, 3) := by decide +kernel
theorem d_M_reckon_83 : decode b_M_reckon 83 = .ok (.if_icmp .ge 120, 3) := by decide +kernel
theorem d_M_reckon_86 : decode b_M_reckon 86 = .ok (.iconst 0, 1) := by decide +kernel
theorem d_M_reckon_87 : decode b_M_reckon 87 = .ok (.istore 4, 2) := by decide +kernel
theorem d_M_reckon_89 : decode b_M_reckon 89 = .ok (.iload 4, 2) := by decide +kernel
theorem d_M_reckon_91 : decode b_M_reckon 91 = .ok (.iconst 2, 1) := by decide +kernel
theorem d_M_reckon_92 : decode b_M_reckon 92 = .ok (.if_icmp .ge 105, 3) := by decide +kernel
theorem d_M_reckon_95 : decode b_M_reckon 95 = .ok (.iconst 2, 1) := by decide +kernel
theorem d_M_reckon_96 : decode b_M_reckon 96 = .ok (.aload_n 0, 1) := by decide +kernel
theorem d_M_reckon_97 : decode b_M_reckon 97 = .ok (.getfield 23, 3) := by decide +kernel
theorem d_M_reckon_100 : decode b_M_reckon 100 = .ok (.iload_n 3, 1) := by decide +kernel
theorem d_M_reckon_101 : decode b_M_reckon 101 = .ok (.iaload, 1) := by decide +kernel
theorem d_M_reckon_102 : decode b_M_reckon 102 = .ok (.imul, 1) := by decide +kernel
theorem d_M_reckon_103 : decode b_M_reckon 103 = .ok (.iload 4, 2) := by decide +kernel
theorem d_M_reckon_105 : decode b_M_reckon 105 = .ok (.iadd, 1) := by decide +kernel
theorem d_M_reckon_106 : decode b_M_reckon 106 = .ok (.istore 5, 2) := by decide +kernel
theorem d_M_reckon_108 : decode b_M_reckon 108 = .ok (.aload_n 0, 1) := by decide +kernel
theorem d_M_reckon_109 : decode b_M_reckon 109 = .ok (.iload 5, 2) := by decide +kernel
theorem d_M_reckon_111 : decode b_M_reckon 111 = .ok (.invokevirtual 75, 3) := by decide +kernel
theorem d_M_reckon_114 : decode b_M_reckon 114 = .ok (.ifCond .eq 77, 3) := by decide +kernel
theorem d_M_reckon_117 : decode b_M_reckon 117 = .ok (.aload_n 0, 1) := by decide +kernel
theorem d_M_reckon_118 : decode b_M_reckon 118 = .ok (.getfield 26, 3) := by decide +kernel
theorem d_M_reckon_121 : decode b_M_reckon 121 = .ok (.iload 5, 2) := by decide +kernel
theorem d_M_reckon_123 : decode b_M_reckon 123 = .ok (.iaload, 1) := by decide +kernel
theorem d_M_reckon_124 : decode b_M_reckon 124 = .ok (.ifCond .ne 6, 3) := by decide +kernel
theorem d_M_reckon_127 : decode b_M_reckon 127 = .ok (.goto 64, 3) := by decide +kernel
theorem d_M_reckon_130 : decode b_M_reckon 130 = .ok (.aload_n 0, 1) := by decide +kernel
theorem d_M_reckon_131 : decode b_M_reckon 131 = .ok (.iload 5, 2) := by decide +kernel
theorem d_M_reckon_133 : decode b_M_reckon 133 = .ok (.invokevirtual 110, 3) := by decide +kernel
theorem d_M_reckon_136 : decode b_M_reckon 136 = .ok (.istore 6, 2) := by decide +kernel
theorem d_M_reckon_138 : decode b_M_reckon 138 = .ok (.iload_n 2, 1) := by decide +kernel
theorem d_M_reckon_139 : decode b_M_reckon 139 = .ok (.ifCond .ne 15, 3) := by decide +kernel
theorem d_M_reckon_142 : decode b_M_reckon 142 = .ok (.iload 6, 2) := by decide +kernel
theorem d_M_reckon_144 : decode b_M_reckon 144 = .ok (.aload_n 0, 1) := by decide +kernel
theorem d_M_reckon_145 : decode b_M_reckon 145 = .ok (.getfield 26, 3) := by decide +kernel
theorem d_M_reckon_148 : decode b_M_reckon 148 = .ok (.iload 5, 2) := by decide +kernel
theorem d_M_reckon_150 : decode b_M_reckon 150 = .ok (.iaload, 1) := by decide +kernel
theorem d_M_reckon_151 : decode b_M_reckon 151 = .ok (.if_icmp .ge 7, 3) := by decide +kernel
theorem d_M_reckon_154 : decode b_M_reckon 154 = .ok (.iconst 1, 1) := by decide +kernel
theorem d_M_reckon_155 : decode b_M_reckon 155 = .ok (.goto 4, 3) := by decide +kernel
theorem d_M_reckon_158 : decode b_M_reckon 158 = .ok (.iconst 0, 1) := by decide +kernel
theorem d_M_reckon_159 : decode b_M_reckon 159 = .ok (.istore_n 2, 1) := by decide +kernel
theorem d_M_reckon_160 : decode b_M_reckon 160 = .ok (.aload_n 0, 1) := by decide +kernel
theorem d_M_reckon_161 : decode b_M_reckon 161 = .ok (.getfield 26, 3) := by decide +kernel
theorem d_M_reckon_164 : decode b_M_reckon 164 = .ok (.iload 5, 2) := by decide +kernel
theorem d_M_reckon_166 : decode b_M_reckon 166 = .ok (.iload 6, 2) := by decide +kernel
theorem d_M_reckon_168 : decode b_M_reckon 168 = .ok (.aload_n 0, 1) := by decide +kernel
theorem d_M_reckon_169 : decode b_M_reckon 169 = .ok (.getfield 26, 3) := by decide +kernel
theorem d_M_reckon_172 : decode b_M_reckon 172 = .ok (.iload 5, 2) := by decide +kernel
theorem d_M_reckon_174 : decode b_M_reckon 174 = .ok (.iaload, 1) := by decide +kernel
theorem d_M_reckon_175 : decode b_M_reckon 175 = .ok (.if_icmp .ge 8, 3) := by decide +kernel
theorem d_M_reckon_178 : decode b_M_reckon 178 = .ok (.iload 6, 2) := by decide +kernel
theorem d_M_reckon_180 : decode b_M_reckon 180 = .ok (.goto 10, 3) := by decide +kernel
theorem d_M_reckon_183 : decode b_M_reckon 183 = .ok (.aload_n 0, 1) := by decide +kernel
theorem d_M_reckon_184 : decode b_M_reckon 184 = .ok (.getfield 26, 3) := by decide +kernel
theorem d_M_reckon_187 : decode b_M_reckon 187 = .ok (.iload 5, 2) := by decide +kernel
theorem d_M_reckon_189 : decode b_M_reckon 189 = .ok (.iaload, 1) := by decide +kernel
theorem d_M_reckon_190 : decode b_M_reckon 190 = .ok (.iastore, 1) := by decide +kernel
theorem d_M_reckon_191 : decode b_M_reckon 191 = .ok (.iinc 4 1, 3) := by decide +kernel
theorem d_M_reckon_194 : decode b_M_reckon 194 = .ok (.goto (-105), 3) := by decide +kernel
theorem d_M_reckon_197 : decode b_M_reckon 197 = .ok (.iinc 3 1, 3) := by decide +kernel
theorem d_M_reckon_200 : decode b_M_reckon 200 = .ok (.goto (-122), 3) := by decide +kernel
theorem d_M_reckon_203 : decode b_M_reckon 203 = .ok (.goto (-133), 3) := by decide +kernel
theorem d_M_reckon_206 : decode b_M_reckon 206 = .ok (.return_, 1) := by decide +kernel
theorem d_M_onward_0 : decode b_M_onward 0 = .ok (.ldc 106, 2) := by decide +kernel
theorem d_M_onward_2 : decode b_M_onward 2 = .ok (.istore_n 2, 1) := by decide +kernel
theorem d_M_onward_3 : decode b_M_onward 3 = .ok (.iconst 0, 1) := by decide +kernel
theorem d_M_onward_4 : decode b_M_onward 4 = .ok (.istore_n 3, 1) := by decide +kernel
theorem d_M_onward_5 : decode b_M_onward 5 = .ok (.iload_n 3, 1) := by decide +kernel
theorem d_M_onward_6 : decode b_M_onward 6 = .ok (.bipush 6, 2) := by decide +kernel
theorem d_M_onward_8 : decode b_M_onward 8 = .ok (.if_icmp .ge 66, 3) := by decide +kernel
theorem d_M_onward_11 : decode b_M_onward 11 = .ok (.aload_n 0, 1) := by decide +kernel
theorem d_M_onward_12 : decode b_M_onward 12 = .ok (.iload_n 1, 1) := by decide +kernel
theorem d_M_onward_13 : decode b_M_onward 13 = .ok (.iload_n 3, 1) := by decide +kernel
theorem d_M_onward_14 : decode b_M_onward 14 = .ok (.invokevirtual 78, 3) := by decide +kernel
theorem d_M_onward_17 : decode b_M_onward 17 = .ok (.istore 4, 2) := by decide +kernel
theorem d_M_onward_19 : decode b_M_onward 19 = .ok (.iload 4, 2) := by decide +kernel
theorem d_M_onward_21 : decode b_M_onward 21 = .ok (.iconst (-1), 1) := by decide +kernel
theorem d_M_onward_22 : decode b_M_onward 22 = .ok (.if_icmp .eq 46, 3) := by decide +kernel
theorem d_M_onward_25 : decode b_M_onward 25 = .ok (.aload_n 0, 1) := by decide +kernel
theorem d_M_onward_26 : decode b_M_onward 26 = .ok (.getfield 26, 3) := by decide +kernel
theorem d_M_onward_29 : decode b_M_onward 29 = .ok (.iload 4, 2) := by decide +kernel
theorem d_M_onward_31 : decode b_M_onward 31 = .ok (.iaload, 1) := by decide +kernel
theorem d_M_onward_32 : decode b_M_onward 32 = .ok (.ldc 106, 2) := by decide +kernel
theorem d_M_onward_34 : decode b_M_onward 34 = .ok (.if_icmp .ge 34, 3) := by decide +kernel
theorem d_M_onward_37 : decode b_M_onward 37 = .ok (.iload 4, 2) := by decide +kernel
theorem d_M_onward_39 : decode b_M_onward 39 = .ok (.invokestatic 107, 3) := by decide +kernel
theorem d_M_onward_42 : decode b_M_onward 42 = .ok (.aload_n 0, 1) := by decide +kernel
theorem d_M_onward_43 : decode b_M_onward 43 = .ok (.getfield 26, 3) := by decide +kernel
theorem d_M_onward_46 : decode b_M_onward 46 = .ok (.iload 4, 2) := by decide +kernel
theorem d_M_onward_48 : decode b_M_onward 48 = .ok (.iaload, 1) := by decide +kernel
theorem d_M_onward_49 : decode b_M_onward 49 = .ok (.iadd, 1) := by decide +kernel
theorem d_M_onward_50 : decode b_M_onward 50 = .ok (.iload_n 2, 1) := by decide +kernel
theorem d_M_onward_51 : decode b_M_onward 51 = .ok (.if_icmp .ge 17, 3) := by decide +kernel
theorem d_M_onward_54 : decode b_M_onward 54 = .ok (.iload 4, 2) := by decide +kernel
theorem d_M_onward_56 : decode b_M_onward 56 = .ok (.invokestatic 107, 3) := by decide +kernel
theorem d_M_onward_59 : decode b_M_onward 59 = .ok (.aload_n 0, 1) := by decide +kernel
theorem d_M_onward_60 : decode b_M_onward 60 = .ok (.getfield 26, 3) := by decide +kernel
theorem d_M_onward_63 : decode b_M_onward 63 = .ok (.iload 4, 2) := by decide +kernel
theorem d_M_onward_65 : decode b_M_onward 65 = .ok (.iaload, 1) := by decide +kernel
theorem d_M_onward_66 : decode b_M_onward 66 = .ok (.iadd, 1) := by decide +kernel
theorem d_M_onward_67 : decode b_M_onward 67 = .ok (.istore_n 2, 1) := by decide +kernel
theorem d_M_onward_68 : decode b_M_onward 68 = .ok (.iinc 3 1, 3) := by decide +kernel
theorem d_M_onward_71 : decode b_M_onward 71 = .ok (.goto (-66), 3) := by decide +kernel
theorem d_M_onward_74 : decode b_M_onward 74 = .ok (.iload_n 2, 1) := by decide +kernel
theorem d_M_onward_75 : decode b_M_onward 75 = .ok (.ireturn, 1) := by decide +kernel
theorem d_M_length_0 : decode b_M_length 0 = .ok (.iload_n 0, 1) := by decide +kernel
theorem d_M_length_1 : decode b_M_length 1 = .ok (.iconst 2, 1) := by decide +kernel
theorem d_M_length_2 : decode b_M_length 2 = .ok (.idiv, 1) := by decide +kernel
theorem d_M_length_3 : decode b_M_length 3 = .ok (.bipush 6, 2) := by decide +kernel
theorem d_M_length_5 : decode b_M_length 5 = .ok (.irem, 1) := by decide +kernel
theorem d_M_length_6 : decode b_M_length 6 = .ok (.iconst 2, 1) := by decide +kernel
theorem d_M_length_7 : decode b_M_length 7 = .ok (.if_icmp .ge 8, 3) := by decide +kernel
theorem d_M_length_10 : decode b_M_length 10 = .ok (.bipush 16, 2) := by decide +kernel
theorem d_M_length_12 : decode b_M_length 12 = .ok (.goto 5, 3) := by decide +kernel
theorem d_M_length_15 : decode b_M_length 15 = .ok (.bipush 12, 2) := by decide +kernel
theorem d_M_length_17 : decode b_M_length 17 = .ok (.ireturn, 1) := by decide +kernel
theorem d_M_route_0 : decode b_M_route 0 = .ok (.aload_n 0, 1) := by decide +kernel
theorem d_M_route_1 : decode b_M_route 1 = .ok (.iconst 0, 1) := by decide +kernel
theorem d_M_route_2 : decode b_M_route 2 = .ok (.putfield 42, 3) := by decide +kernel
theorem d_M_route_5 : decode b_M_route 5 = .ok (.aload_n 0, 1) := by decide +kernel
theorem d_M_route_6 : decode b_M_route 6 = .ok (.iload_n 1, 1) := by decide +kernel
theorem d_M_route_7 : decode b_M_route 7 = .ok (.invokevirtual 75, 3) := by decide +kernel
theorem d_M_route_10 : decode b_M_route 10 = .ok (.ifCond .eq 14, 3) := by decide +kernel
theorem d_M_route_13 : decode b_M_route 13 = .ok (.iload_n 2, 1) := by decide +kernel
theorem d_M_route_14 : decode b_M_route 14 = .ok (.invokestatic 100, 3) := by decide +kernel
theorem d_M_route_17 : decode b_M_route 17 = .ok (.ifCond .eq 7, 3) := by decide +kernel
theorem d_M_route_20 : decode b_M_route 20 = .ok (.iload_n 3, 1) := by decide +kernel
theorem d_M_route_21 : decode b_M_route 21 = .ok (.ifCond .ge 5, 3) := by decide +kernel
theorem d_M_route_24 : decode b_M_route 24 = .ok (.iconst (-1), 1) := by decide +kernel
theorem d_M_route_25 : decode b_M_route 25 = .ok (.ireturn, 1) := by decide +kernel
theorem d_M_route_26 : decode b_M_route 26 = .ok (.aload_n 0, 1) := by decide +kernel
theorem d_M_route_27 : decode b_M_route 27 = .ok (.iload_n 2, 1) := by decide +kernel
theorem d_M_route_28 : decode b_M_route 28 = .ok (.invokevirtual 113, 3) := by decide +kernel
theorem d_M_route_31 : decode b_M_route 31 = .ok (.aload_n 0, 1) := by decide +kernel
theorem d_M_route_32 : decode b_M_route 32 = .ok (.getfield 26, 3) := by decide +kernel
theorem d_M_route_35 : decode b_M_route 35 = .ok (.iload_n 1, 1) := by decide +kernel
theorem d_M_route_36 : decode b_M_route 36 = .ok (.iaload, 1) := by decide +kernel
theorem d_M_route_37 : decode b_M_route 37 = .ok (.ldc 106, 2) := by decide +kernel
theorem d_M_route_39 : decode b_M_route 39 = .ok (.if_icmp .eq 12, 3) := by decide +kernel
theorem d_M_route_42 : decode b_M_route 42 = .ok (.aload_n 0, 1) := by decide +kernel
theorem d_M_route_43 : decode b_M_route 43 = .ok (.getfield 26, 3) := by decide +kernel
theorem d_M_route_46 : decode b_M_route 46 = .ok (.iload_n 1, 1) := by decide +kernel
theorem d_M_route_47 : decode b_M_route 47 = .ok (.iaload, 1) := by decide +kernel
theorem d_M_route_48 : decode b_M_route 48 = .ok (.ifCond .ne 5, 3) := by decide +kernel
theorem d_M_route_51 : decode b_M_route 51 = .ok (.iconst (-1), 1) := by decide +kernel
theorem d_M_route_52 : decode b_M_route 52 = .ok (.ireturn, 1) := by decide +kernel
theorem d_M_route_53 : decode b_M_route 53 = .ok (.iload_n 1, 1) := by decide +kernel
theorem d_M_route_54 : decode b_M_route 54 = .ok (.istore 4, 2) := by decide +kernel
theorem d_M_route_56 : decode b_M_route 56 = .ok (.iconst 0, 1) := by decide +kernel
theorem d_M_route_57 : decode b_M_route 57 = .ok (.istore 5, 2) := by decide +kernel
theorem d_M_route_59 : decode b_M_route 59 = .ok (.iload 5, 2) := by decide +kernel
theorem d_M_route_61 : decode b_M_route 61 = .ok (.iload_n 3, 1) := by decide +kernel
theorem d_M_route_62 : decode b_M_route 62 = .ok (.if_icmp .gt 129, 3) := by decide +kernel
theorem d_M_route_65 : decode b_M_route 65 = .ok (.iload 5, 2) := by decide +kernel
theorem d_M_route_67 : decode b_M_route 67 = .ok (.ifCond .le 28, 3) := by decide +kernel
theorem d_M_route_70 : decode b_M_route 70 = .ok (.aload_n 0, 1) := by decide +kernel
theorem d_M_route_71 : decode b_M_route 71 = .ok (.iload 4, 2) := by decide +kernel
theorem d_M_route_73 : decode b_M_route 73 = .ok (.iconst 2, 1) := by decide +kernel
theorem d_M_route_74 : decode b_M_route 74 = .ok (.idiv, 1) := by decide +kernel
theorem d_M_route_75 : decode b_M_route 75 = .ok (.invokevirtual 58, 3) := by decide +kernel
theorem d_M_route_78 : decode b_M_route 78 = .ok (.iload 4, 2) := by decide +kernel
theorem d_M_route_80 : decode b_M_route 80 = .ok (.if_icmp .eq 13, 3) := by decide +kernel
theorem d_M_route_83 : decode b_M_route 83 = .ok (.aload_n 0, 1) := by decide +kernel
theorem d_M_route_84 : decode b_M_route 84 = .ok (.getfield 26, 3) := by decide +kernel
theorem d_M_route_87 : decode b_M_route 87 = .ok (.iload 4, 2) := by decide +kernel
theorem d_M_route_89 : decode b_M_route 89 = .ok (.iaload, 1) := by decide +kernel
theorem d_M_route_90 : decode b_M_route 90 = .ok (.ifCond .ne 5, 3) := by decide +kernel
theorem d_M_route_93 : decode b_M_route 93 = .ok (.iconst (-1), 1) := by decide +kernel
theorem d_M_route_94 : decode b_M_route 94 = .ok (.ireturn, 1) := by decide +kernel
theorem d_M_route_95 : decode b_M_route 95 = .ok (.iconst (-1), 1) := by decide +kernel
theorem d_M_route_96 : decode b_M_route 96 = .ok (.istore 6, 2) := by decide +kernel
theorem d_M_route_98 : decode b_M_route 98 = .ok (.iconst 0, 1) := by decide +kernel
theorem d_M_route_99 : decode b_M_route 99 = .ok (.istore 7, 2) := by decide +kernel
theorem d_M_route_101 : decode b_M_route 101 = .ok (.iload 7, 2) := by decide +kernel
theorem d_M_route_103 : decode b_M_route 103 = .ok (.bipush 6, 2) := by decide +kernel
theorem d_M_route_105 : decode b_M_route 105 = .ok (.if_icmp .ge 76, 3) := by decide +kernel
theorem d_M_route_108 : decode b_M_route 108 = .ok (.aload_n 0, 1) := by decide +kernel
theorem d_M_route_109 : decode b_M_route 109 = .ok (.iload 4, 2) := by decide +kernel
theorem d_M_route_111 : decode b_M_route 111 = .ok (.iload 7, 2) := by decide +kernel
theorem d_M_route_113 : decode b_M_route 113 = .ok (.invokevirtual 78, 3) := by decide +kernel
theorem d_M_route_116 : decode b_M_route 116 = .ok (.istore 8, 2) := by decide +kernel
theorem d_M_route_118 : decode b_M_route 118 = .ok (.iload 8, 2) := by decide +kernel
theorem d_M_route_120 : decode b_M_route 120 = .ok (.iconst (-1), 1) := by decide +kernel
theorem d_M_route_121 : decode b_M_route 121 = .ok (.if_icmp .eq 54, 3) := by decide +kernel
theorem d_M_route_124 : decode b_M_route 124 = .ok (.aload_n 0, 1) := by decide +kernel
theorem d_M_route_125 : decode b_M_route 125 = .ok (.getfield 26, 3) := by decide +kernel
theorem d_M_route_128 : decode b_M_route 128 = .ok (.iload 8, 2) := by decide +kernel
theorem d_M_route_130 : decode b_M_route 130 = .ok (.iaload, 1) := by decide +kernel
theorem d_M_route_131 : decode b_M_route 131 = .ok (.ldc 106, 2) := by decide +kernel
theorem d_M_route_133 : decode b_M_route 133 = .ok (.if_icmp .ge 42, 3) := by decide +kernel
theorem d_M_route_136 : decode b_M_route 136 = .ok (.iload 6, 2) := by decide +kernel
theorem d_M_route_138 : decode b_M_route 138 = .ok (.iconst (-1), 1) := by decide +kernel
theorem d_M_route_139 : decode b_M_route 139 = .ok (.if_icmp .eq 32, 3) := by decide +kernel
theorem d_M_route_142 : decode b_M_route 142 = .ok (.iload 8, 2) := by decide +kernel
theorem d_M_route_144 : decode b_M_route 144 = .ok (.invokestatic 107, 3) := by decide +kernel
theorem d_M_route_147 : decode b_M_route 147 = .ok (.aload_n 0, 1) := by decide +kernel
theorem d_M_route_148 : decode b_M_route 148 = .ok (.getfield 26, 3) := by decide +kernel
theorem d_M_route_151 : decode b_M_route 151 = .ok (.iload 8, 2) := by decide +kernel
theorem d_M_route_153 : decode b_M_route 153 = .ok (.iaload, 1) := by decide +kernel
theorem d_M_route_154 : decode b_M_route 154 = .ok (.iadd, 1) := by decide +kernel
theorem d_M_route_155 : decode b_M_route 155 = .ok (.iload 6, 2) := by decide +kernel
theorem d_M_route_157 : decode b_M_route 157 = .ok (.invokestatic 107, 3) := by decide +kernel
theorem d_M_route_160 : decode b_M_route 160 = .ok (.aload_n 0, 1) := by decide +kernel
theorem d_M_route_161 : decode b_M_route 161 = .ok (.getfield 26, 3) := by decide +kernel
theorem d_M_route_164 : decode b_M_route 164 = .ok (.iload 6, 2) := by decide +kernel
theorem d_M_route_166 : decode b_M_route 166 = .ok (.iaload, 1) := by decide +kernel
theorem d_M_route_167 : decode b_M_route 167 = .ok (.iadd, 1) := by decide +kernel
theorem d_M_route_168 : decode b_M_route 168 = .ok (.if_icmp .ge 7, 3) := by decide +kernel
theorem d_M_route_171 : decode b_M_route 171 = .ok (.iload 8, 2) := by decide +kernel
theorem d_M_route_173 : decode b_M_route 173 = .ok (.istore 6, 2) := by decide +kernel
theorem d_M_route_175 : decode b_M_route 175 = .ok (.iinc 7 1, 3) := by decide +kernel
theorem d_M_route_178 : decode b_M_route 178 = .ok (.goto (-77), 3) := by decide +kernel
theorem d_M_route_181 : decode b_M_route 181 = .ok (.iload 6, 2) := by decide +kernel
theorem d_M_route_183 : decode b_M_route 183 = .ok (.istore 4, 2) := by decide +kernel
theorem d_M_route_185 : decode b_M_route 185 = .ok (.iinc 5 1, 3) := by decide +kernel
theorem d_M_route_188 : decode b_M_route 188 = .ok (.goto (-129), 3) := by decide +kernel
theorem d_M_route_191 : decode b_M_route 191 = .ok (.iload 4, 2) := by decide +kernel
theorem d_M_route_193 : decode b_M_route 193 = .ok (.ireturn, 1) := by decide +kernel
theorem d_M_count_0 : decode b_M_count 0 = .ok (.aload_n 0, 1) := by decide +kernel
theorem d_M_count_1 : decode b_M_count 1 = .ok (.iconst 0, 1) := by decide +kernel
theorem d_M_count_2 : decode b_M_count 2 = .ok (.putfield 42, 3) := by decide +kernel
theorem d_M_count_5 : decode b_M_count 5 = .ok (.iload_n 1, 1) := by decide +kernel
theorem d_M_count_6 : decode b_M_count 6 = .ok (.ifCond .lt 8, 3) := by decide +kernel
theorem d_M_count_9 : decode b_M_count 9 = .ok (.iload_n 1, 1) := by decide +kernel
theorem d_M_count_10 : decode b_M_count 10 = .ok (.iconst 3, 1) := by decide +kernel
theorem d_M_count_11 : decode b_M_count 11 = .ok (.if_icmp .le 5, 3) := by decide +kernel
theorem d_M_count_14 : decode b_M_count 14 = .ok (.iconst (-1), 1) := by decide +kernel
theorem d_M_count_15 : decode b_M_count 15 = .ok (.ireturn, 1) := by decide +kernel
theorem d_M_count_16 : decode b_M_count 16 = .ok (.iconst 0, 1) := by decide +kernel
theorem d_M_count_17 : decode b_M_count 17 = .ok (.istore_n 2, 1) := by decide +kernel
theorem d_M_count_18 : decode b_M_count 18 = .ok (.aload_n 0, 1) := by decide +kernel
theorem d_M_count_19 : decode b_M_count 19 = .ok (.invokevirtual 94, 3) := by decide +kernel
theorem d_M_count_22 : decode b_M_count 22 = .ok (.iconst 0, 1) := by decide +kernel
theorem d_M_count_23 : decode b_M_count 23 = .ok (.istore_n 3, 1) := by decide +kernel
theorem d_M_count_24 : decode b_M_count 24 = .ok (.iload_n 3, 1) := by decide +kernel
theorem d_M_count_25 : decode b_M_count 25 = .ok (.aload_n 0, 1) := by decide +kernel
theorem d_M_count_26 : decode b_M_count 26 = .ok (.getfield 52, 3) := by decide +kernel
theorem d_M_count_29 : decode b_M_count 29 = .ok (.if_icmp .ge 91, 3) := by decide +kernel
theorem d_M_count_32 : decode b_M_count 32 = .ok (.aload_n 0, 1) := by decide +kernel
theorem d_M_count_33 : decode b_M_count 33 = .ok (.getfield 23, 3) := by decide +kernel
theorem d_M_count_36 : decode b_M_count 36 = .ok (.iload_n 3, 1) := by decide +kernel
theorem d_M_count_37 : decode b_M_count 37 = .ok (.iaload, 1) := by decide +kernel
theorem d_M_count_38 : decode b_M_count 38 = .ok (.istore 4, 2) := by decide +kernel
theorem d_M_count_40 : decode b_M_count 40 = .ok (.iload_n 1, 1) := by decide +kernel
theorem d_M_count_41 : decode b_M_count 41 = .ok (.ifCond .eq 48, 3) := by decide +kernel
theorem d_M_count_44 : decode b_M_count 44 = .ok (.iload_n 1, 1) := by decide +kernel
theorem d_M_count_45 : decode b_M_count 45 = .ok (.iconst 1, 1) := by decide +kernel
theorem d_M_count_46 : decode b_M_count 46 = .ok (.if_icmp .ne 13, 3) := by decide +kernel
theorem d_M_count_49 : decode b_M_count 49 = .ok (.aload_n 0, 1) := by decide +kernel
theorem d_M_count_50 : decode b_M_count 50 = .ok (.getfield 17, 3) := by decide +kernel
theorem d_M_count_53 : decode b_M_count 53 = .ok (.iload 4, 2) := by decide +kernel
theorem d_M_count_55 : decode b_M_count 55 = .ok (.iaload, 1) := by decide +kernel
theorem d_M_count_56 : decode b_M_count 56 = .ok (.ifCond .gt 33, 3) := by decide +kernel
theorem d_M_count_59 : decode b_M_count 59 = .ok (.iload_n 1, 1) := by decide +kernel
theorem d_M_count_60 : decode b_M_count 60 = .ok (.iconst 2, 1) := by decide +kernel
theorem d_M_count_61 : decode b_M_count 61 = .ok (.if_icmp .ne 13, 3) := by decide +kernel
theorem d_M_count_64 : decode b_M_count 64 = .ok (.aload_n 0, 1) := by decide +kernel
theorem d_M_count_65 : decode b_M_count 65 = .ok (.getfield 20, 3) := by decide +kernel
theorem d_M_count_68 : decode b_M_count 68 = .ok (.iload 4, 2) := by decide +kernel
theorem d_M_count_70 : decode b_M_count 70 = .ok (.iaload, 1) := by decide +kernel
theorem d_M_count_71 : decode b_M_count 71 = .ok (.ifCond .gt 18, 3) := by decide +kernel
theorem d_M_count_74 : decode b_M_count 74 = .ok (.iload_n 1, 1) := by decide +kernel
theorem d_M_count_75 : decode b_M_count 75 = .ok (.iconst 3, 1) := by decide +kernel
theorem d_M_count_76 : decode b_M_count 76 = .ok (.if_icmp .ne 16, 3) := by decide +kernel
theorem d_M_count_79 : decode b_M_count 79 = .ok (.aload_n 0, 1) := by decide +kernel
theorem d_M_count_80 : decode b_M_count 80 = .ok (.getfield 29, 3) := by decide +kernel
theorem d_M_count_83 : decode b_M_count 83 = .ok (.iload 4, 2) := by decide +kernel
theorem d_M_count_85 : decode b_M_count 85 = .ok (.baload, 1) := by decide +kernel
theorem d_M_count_86 : decode b_M_count 86 = .ok (.ifCond .ne 6, 3) := by decide +kernel
theorem d_M_count_89 : decode b_M_count 89 = .ok (.iinc 2 1, 3) := by decide +kernel
theorem d_M_count_92 : decode b_M_count 92 = .ok (.iload_n 1, 1) := by decide +kernel
theorem d_M_count_93 : decode b_M_count 93 = .ok (.iconst 3, 1) := by decide +kernel
theorem d_M_count_94 : decode b_M_count 94 = .ok (.if_icmp .ne 20, 3) := by decide +kernel
theorem d_M_count_97 : decode b_M_count 97 = .ok (.aload_n 0, 1) := by decide +kernel
theorem d_M_count_98 : decode b_M_count 98 = .ok (.getfield 29, 3) := by decide +kernel
theorem d_M_count_101 : decode b_M_count 101 = .ok (.iload 4, 2) := by decide +kernel
theorem d_M_count_103 : decode b_M_count 103 = .ok (.baload, 1) := by decide +kernel
theorem d_M_count_104 : decode b_M_count 104 = .ok (.ifCond .ne 10, 3) := by decide +kernel
theorem d_M_count_107 : decode b_M_count 107 = .ok (.aload_n 0, 1) := by decide +kernel
theorem d_M_count_108 : decode b_M_count 108 = .ok (.iload 4, 2) := by decide +kernel
theorem d_M_count_110 : decode b_M_count 110 = .ok (.invokevirtual 97, 3) := by decide +kernel
theorem d_M_count_113 : decode b_M_count 113 = .ok (.pop, 1) := by decide +kernel
theorem d_M_count_114 : decode b_M_count 114 = .ok (.iinc 3 1, 3) := by decide +kernel
theorem d_M_count_117 : decode b_M_count 117 = .ok (.goto (-93), 3) := by decide +kernel
theorem d_M_count_120 : decode b_M_count 120 = .ok (.iload_n 2, 1) := by decide +kernel
theorem d_M_count_121 : decode b_M_count 121 = .ok (.ireturn, 1) := by decide +kernel
