/-! DECODE rows, by program -/
theorem d_M_init_0 : decode b_M_init 0 = .ok (.aload_n 0, 1) := by decide +kernel
theorem d_M_init_1 : decode b_M_init 1 = .ok (.invokespecial 1, 3) := by decide +kernel
theorem d_M_init_4 : decode b_M_init 4 = .ok (.aload_n 0, 1) := by decide +kernel
theorem d_M_init_5 : decode b_M_init 5 = .ok (.bipush 12, 2) := by decide +kernel
theorem d_M_init_7 : decode b_M_init 7 = .ok (.newarray .int, 2) := by decide +kernel
theorem d_M_init_9 : decode b_M_init 9 = .ok (.dup, 1) := by decide +kernel
theorem d_M_init_10 : decode b_M_init 10 = .ok (.iconst 0, 1) := by decide +kernel
theorem d_M_init_11 : decode b_M_init 11 = .ok (.iconst 0, 1) := by decide +kernel
theorem d_M_init_12 : decode b_M_init 12 = .ok (.iastore, 1) := by decide +kernel
theorem d_M_init_13 : decode b_M_init 13 = .ok (.dup, 1) := by decide +kernel
theorem d_M_init_14 : decode b_M_init 14 = .ok (.iconst 1, 1) := by decide +kernel
theorem d_M_init_15 : decode b_M_init 15 = .ok (.iconst 1, 1) := by decide +kernel
theorem d_M_init_16 : decode b_M_init 16 = .ok (.iastore, 1) := by decide +kernel
theorem d_M_init_17 : decode b_M_init 17 = .ok (.dup, 1) := by decide +kernel
theorem d_M_init_18 : decode b_M_init 18 = .ok (.iconst 2, 1) := by decide +kernel
theorem d_M_init_19 : decode b_M_init 19 = .ok (.iconst 2, 1) := by decide +kernel
theorem d_M_init_20 : decode b_M_init 20 = .ok (.iastore, 1) := by decide +kernel
theorem d_M_init_21 : decode b_M_init 21 = .ok (.dup, 1) := by decide +kernel
theorem d_M_init_22 : decode b_M_init 22 = .ok (.iconst 3, 1) := by decide +kernel
theorem d_M_init_23 : decode b_M_init 23 = .ok (.iconst 3, 1) := by decide +kernel
theorem d_M_init_24 : decode b_M_init 24 = .ok (.iastore, 1) := by decide +kernel
theorem d_M_init_25 : decode b_M_init 25 = .ok (.dup, 1) := by decide +kernel
theorem d_M_init_26 : decode b_M_init 26 = .ok (.iconst 4, 1) := by decide +kernel
theorem d_M_init_27 : decode b_M_init 27 = .ok (.iconst 2, 1) := by decide +kernel
theorem d_M_init_28 : decode b_M_init 28 = .ok (.iastore, 1) := by decide +kernel
theorem d_M_init_29 : decode b_M_init 29 = .ok (.dup, 1) := by decide +kernel
theorem d_M_init_30 : decode b_M_init 30 = .ok (.iconst 5, 1) := by decide +kernel
theorem d_M_init_31 : decode b_M_init 31 = .ok (.iconst 1, 1) := by decide +kernel
theorem d_M_init_32 : decode b_M_init 32 = .ok (.iastore, 1) := by decide +kernel
theorem d_M_init_33 : decode b_M_init 33 = .ok (.dup, 1) := by decide +kernel
theorem d_M_init_34 : decode b_M_init 34 = .ok (.bipush 6, 2) := by decide +kernel
theorem d_M_init_36 : decode b_M_init 36 = .ok (.iconst 3, 1) := by decide +kernel
theorem d_M_init_37 : decode b_M_init 37 = .ok (.iastore, 1) := by decide +kernel
theorem d_M_init_38 : decode b_M_init 38 = .ok (.dup, 1) := by decide +kernel
theorem d_M_init_39 : decode b_M_init 39 = .ok (.bipush 7, 2) := by decide +kernel
theorem d_M_init_41 : decode b_M_init 41 = .ok (.iconst 1, 1) := by decide +kernel
theorem d_M_init_42 : decode b_M_init 42 = .ok (.iastore, 1) := by decide +kernel
theorem d_M_init_43 : decode b_M_init 43 = .ok (.dup, 1) := by decide +kernel
theorem d_M_init_44 : decode b_M_init 44 = .ok (.bipush 8, 2) := by decide +kernel
theorem d_M_init_46 : decode b_M_init 46 = .ok (.iconst 3, 1) := by decide +kernel
theorem d_M_init_47 : decode b_M_init 47 = .ok (.iastore, 1) := by decide +kernel
theorem d_M_init_48 : decode b_M_init 48 = .ok (.dup, 1) := by decide +kernel
theorem d_M_init_49 : decode b_M_init 49 = .ok (.bipush 9, 2) := by decide +kernel
theorem d_M_init_51 : decode b_M_init 51 = .ok (.iconst 0, 1) := by decide +kernel
theorem d_M_init_52 : decode b_M_init 52 = .ok (.iastore, 1) := by decide +kernel
theorem d_M_init_53 : decode b_M_init 53 = .ok (.dup, 1) := by decide +kernel
theorem d_M_init_54 : decode b_M_init 54 = .ok (.bipush 10, 2) := by decide +kernel
theorem d_M_init_56 : decode b_M_init 56 = .ok (.iconst 2, 1) := by decide +kernel
theorem d_M_init_57 : decode b_M_init 57 = .ok (.iastore, 1) := by decide +kernel
theorem d_M_init_58 : decode b_M_init 58 = .ok (.dup, 1) := by decide +kernel
theorem d_M_init_59 : decode b_M_init 59 = .ok (.bipush 11, 2) := by decide +kernel
theorem d_M_init_61 : decode b_M_init 61 = .ok (.iconst 0, 1) := by decide +kernel
theorem d_M_init_62 : decode b_M_init 62 = .ok (.iastore, 1) := by decide +kernel
theorem d_M_init_63 : decode b_M_init 63 = .ok (.putfield 7, 3) := by decide +kernel
theorem d_M_init_66 : decode b_M_init 66 = .ok (.aload_n 0, 1) := by decide +kernel
theorem d_M_init_67 : decode b_M_init 67 = .ok (.sipush 2400, 3) := by decide +kernel
theorem d_M_init_70 : decode b_M_init 70 = .ok (.newarray .boolean, 2) := by decide +kernel
theorem d_M_init_72 : decode b_M_init 72 = .ok (.putfield 13, 3) := by decide +kernel
theorem d_M_init_75 : decode b_M_init 75 = .ok (.aload_n 0, 1) := by decide +kernel
theorem d_M_init_76 : decode b_M_init 76 = .ok (.sipush 2400, 3) := by decide +kernel
theorem d_M_init_79 : decode b_M_init 79 = .ok (.newarray .int, 2) := by decide +kernel
theorem d_M_init_81 : decode b_M_init 81 = .ok (.putfield 17, 3) := by decide +kernel
theorem d_M_init_84 : decode b_M_init 84 = .ok (.aload_n 0, 1) := by decide +kernel
theorem d_M_init_85 : decode b_M_init 85 = .ok (.sipush 2400, 3) := by decide +kernel
theorem d_M_init_88 : decode b_M_init 88 = .ok (.newarray .int, 2) := by decide +kernel
theorem d_M_init_90 : decode b_M_init 90 = .ok (.putfield 20, 3) := by decide +kernel
theorem d_M_init_93 : decode b_M_init 93 = .ok (.aload_n 0, 1) := by decide +kernel
theorem d_M_init_94 : decode b_M_init 94 = .ok (.sipush 2400, 3) := by decide +kernel
theorem d_M_init_97 : decode b_M_init 97 = .ok (.newarray .int, 2) := by decide +kernel
theorem d_M_init_99 : decode b_M_init 99 = .ok (.putfield 23, 3) := by decide +kernel
theorem d_M_init_102 : decode b_M_init 102 = .ok (.aload_n 0, 1) := by decide +kernel
theorem d_M_init_103 : decode b_M_init 103 = .ok (.sipush 4800, 3) := by decide +kernel
theorem d_M_init_106 : decode b_M_init 106 = .ok (.newarray .int, 2) := by decide +kernel
theorem d_M_init_108 : decode b_M_init 108 = .ok (.putfield 26, 3) := by decide +kernel
theorem d_M_init_111 : decode b_M_init 111 = .ok (.aload_n 0, 1) := by decide +kernel
theorem d_M_init_112 : decode b_M_init 112 = .ok (.sipush 2400, 3) := by decide +kernel
theorem d_M_init_115 : decode b_M_init 115 = .ok (.newarray .boolean, 2) := by decide +kernel
theorem d_M_init_117 : decode b_M_init 117 = .ok (.putfield 29, 3) := by decide +kernel
theorem d_M_init_120 : decode b_M_init 120 = .ok (.aload_n 0, 1) := by decide +kernel
theorem d_M_init_121 : decode b_M_init 121 = .ok (.sipush 2400, 3) := by decide +kernel
theorem d_M_init_124 : decode b_M_init 124 = .ok (.newarray .int, 2) := by decide +kernel
theorem d_M_init_126 : decode b_M_init 126 = .ok (.putfield 32, 3) := by decide +kernel
theorem d_M_init_129 : decode b_M_init 129 = .ok (.aload_n 0, 1) := by decide +kernel
theorem d_M_init_130 : decode b_M_init 130 = .ok (.iload_n 1, 1) := by decide +kernel
theorem d_M_init_131 : decode b_M_init 131 = .ok (.iconst 4, 1) := by decide +kernel
theorem d_M_init_132 : decode b_M_init 132 = .ok (.if_icmp .ge 7, 3) := by decide +kernel
theorem d_M_init_135 : decode b_M_init 135 = .ok (.iconst 4, 1) := by decide +kernel
theorem d_M_init_136 : decode b_M_init 136 = .ok (.goto 15, 3) := by decide +kernel
theorem d_M_init_139 : decode b_M_init 139 = .ok (.iload_n 1, 1) := by decide +kernel
theorem d_M_init_140 : decode b_M_init 140 = .ok (.bipush 20, 2) := by decide +kernel
theorem d_M_init_142 : decode b_M_init 142 = .ok (.if_icmp .le 8, 3) := by decide +kernel
theorem d_M_init_145 : decode b_M_init 145 = .ok (.bipush 20, 2) := by decide +kernel
theorem d_M_init_147 : decode b_M_init 147 = .ok (.goto 4, 3) := by decide +kernel
theorem d_M_init_150 : decode b_M_init 150 = .ok (.iload_n 1, 1) := by decide +kernel
theorem d_M_init_151 : decode b_M_init 151 = .ok (.putfield 35, 3) := by decide +kernel
theorem d_M_init_154 : decode b_M_init 154 = .ok (.aload_n 0, 1) := by decide +kernel
theorem d_M_init_155 : decode b_M_init 155 = .ok (.iload_n 2, 1) := by decide +kernel
theorem d_M_init_156 : decode b_M_init 156 = .ok (.iconst 4, 1) := by decide +kernel
theorem d_M_init_157 : decode b_M_init 157 = .ok (.if_icmp .ge 7, 3) := by decide +kernel
theorem d_M_init_160 : decode b_M_init 160 = .ok (.iconst 4, 1) := by decide +kernel
theorem d_M_init_161 : decode b_M_init 161 = .ok (.goto 15, 3) := by decide +kernel
theorem d_M_init_164 : decode b_M_init 164 = .ok (.iload_n 2, 1) := by decide +kernel
theorem d_M_init_165 : decode b_M_init 165 = .ok (.bipush 20, 2) := by decide +kernel
theorem d_M_init_167 : decode b_M_init 167 = .ok (.if_icmp .le 8, 3) := by decide +kernel
theorem d_M_init_170 : decode b_M_init 170 = .ok (.bipush 20, 2) := by decide +kernel
theorem d_M_init_172 : decode b_M_init 172 = .ok (.goto 4, 3) := by decide +kernel
theorem d_M_init_175 : decode b_M_init 175 = .ok (.iload_n 2, 1) := by decide +kernel
theorem d_M_init_176 : decode b_M_init 176 = .ok (.putfield 39, 3) := by decide +kernel
theorem d_M_init_179 : decode b_M_init 179 = .ok (.return_, 1) := by decide +kernel
theorem d_M_thrown_0 : decode b_M_thrown 0 = .ok (.aload_n 0, 1) := by decide +kernel
theorem d_M_thrown_1 : decode b_M_thrown 1 = .ok (.getfield 42, 3) := by decide +kernel
theorem d_M_thrown_4 : decode b_M_thrown 4 = .ok (.ireturn, 1) := by decide +kernel
theorem d_M_lay_0 : decode b_M_lay 0 = .ok (.aload_n 0, 1) := by decide +kernel
theorem d_M_lay_1 : decode b_M_lay 1 = .ok (.aload_n 0, 1) := by decide +kernel
theorem d_M_lay_2 : decode b_M_lay 2 = .ok (.iload_n 1, 1) := by decide +kernel
theorem d_M_lay_3 : decode b_M_lay 3 = .ok (.invokevirtual 45, 3) := by decide +kernel
theorem d_M_lay_6 : decode b_M_lay 6 = .ok (.ifCond .eq 10, 3) := by decide +kernel
theorem d_M_lay_9 : decode b_M_lay 9 = .ok (.iload_n 2, 1) := by decide +kernel
theorem d_M_lay_10 : decode b_M_lay 10 = .ok (.invokestatic 49, 3) := by decide +kernel
theorem d_M_lay_13 : decode b_M_lay 13 = .ok (.ifCond .ne 7, 3) := by decide +kernel
theorem d_M_lay_16 : decode b_M_lay 16 = .ok (.iconst 1, 1) := by decide +kernel
theorem d_M_lay_17 : decode b_M_lay 17 = .ok (.goto 22, 3) := by decide +kernel
theorem d_M_lay_20 : decode b_M_lay 20 = .ok (.aload_n 0, 1) := by decide +kernel
theorem d_M_lay_21 : decode b_M_lay 21 = .ok (.getfield 13, 3) := by decide +kernel
theorem d_M_lay_24 : decode b_M_lay 24 = .ok (.bipush 6, 2) := by decide +kernel
theorem d_M_lay_26 : decode b_M_lay 26 = .ok (.iload_n 1, 1) := by decide +kernel
theorem d_M_lay_27 : decode b_M_lay 27 = .ok (.imul, 1) := by decide +kernel
theorem d_M_lay_28 : decode b_M_lay 28 = .ok (.iload_n 2, 1) := by decide +kernel
theorem d_M_lay_29 : decode b_M_lay 29 = .ok (.iadd, 1) := by decide +kernel
theorem d_M_lay_30 : decode b_M_lay 30 = .ok (.baload, 1) := by decide +kernel
theorem d_M_lay_31 : decode b_M_lay 31 = .ok (.ifCond .eq 7, 3) := by decide +kernel
theorem d_M_lay_34 : decode b_M_lay 34 = .ok (.iconst 2, 1) := by decide +kernel
theorem d_M_lay_35 : decode b_M_lay 35 = .ok (.goto 4, 3) := by decide +kernel
theorem d_M_lay_38 : decode b_M_lay 38 = .ok (.iconst 0, 1) := by decide +kernel
theorem d_M_lay_39 : decode b_M_lay 39 = .ok (.putfield 42, 3) := by decide +kernel
theorem d_M_lay_42 : decode b_M_lay 42 = .ok (.aload_n 0, 1) := by decide +kernel
theorem d_M_lay_43 : decode b_M_lay 43 = .ok (.getfield 42, 3) := by decide +kernel
theorem d_M_lay_46 : decode b_M_lay 46 = .ok (.ifCond .le 4, 3) := by decide +kernel
theorem d_M_lay_49 : decode b_M_lay 49 = .ok (.return_, 1) := by decide +kernel
theorem d_M_lay_50 : decode b_M_lay 50 = .ok (.aload_n 0, 1) := by decide +kernel
theorem d_M_lay_51 : decode b_M_lay 51 = .ok (.getfield 13, 3) := by decide +kernel
theorem d_M_lay_54 : decode b_M_lay 54 = .ok (.bipush 6, 2) := by decide +kernel
theorem d_M_lay_56 : decode b_M_lay 56 = .ok (.iload_n 1, 1) := by decide +kernel
theorem d_M_lay_57 : decode b_M_lay 57 = .ok (.imul, 1) := by decide +kernel
theorem d_M_lay_58 : decode b_M_lay 58 = .ok (.iload_n 2, 1) := by decide +kernel
theorem d_M_lay_59 : decode b_M_lay 59 = .ok (.iadd, 1) := by decide +kernel
theorem d_M_lay_60 : decode b_M_lay 60 = .ok (.iconst 1, 1) := by decide +kernel
theorem d_M_lay_61 : decode b_M_lay 61 = .ok (.bastore, 1) := by decide +kernel
theorem d_M_lay_62 : decode b_M_lay 62 = .ok (.aload_n 0, 1) := by decide +kernel
theorem d_M_lay_63 : decode b_M_lay 63 = .ok (.getfield 23, 3) := by decide +kernel
theorem d_M_lay_66 : decode b_M_lay 66 = .ok (.aload_n 0, 1) := by decide +kernel
theorem d_M_lay_67 : decode b_M_lay 67 = .ok (.getfield 52, 3) := by decide +kernel
theorem d_M_lay_70 : decode b_M_lay 70 = .ok (.bipush 6, 2) := by decide +kernel
theorem d_M_lay_72 : decode b_M_lay 72 = .ok (.iload_n 1, 1) := by decide +kernel
theorem d_M_lay_73 : decode b_M_lay 73 = .ok (.imul, 1) := by decide +kernel
theorem d_M_lay_74 : decode b_M_lay 74 = .ok (.iload_n 2, 1) := by decide +kernel
theorem d_M_lay_75 : decode b_M_lay 75 = .ok (.iadd, 1) := by decide +kernel
theorem d_M_lay_76 : decode b_M_lay 76 = .ok (.iastore, 1) := by decide +kernel
theorem d_M_lay_77 : decode b_M_lay 77 = .ok (.aload_n 0, 1) := by decide +kernel
theorem d_M_lay_78 : decode b_M_lay 78 = .ok (.dup, 1) := by decide +kernel
theorem d_M_lay_79 : decode b_M_lay 79 = .ok (.getfield 52, 3) := by decide +kernel
theorem d_M_lay_82 : decode b_M_lay 82 = .ok (.iconst 1, 1) := by decide +kernel
theorem d_M_lay_83 : decode b_M_lay 83 = .ok (.iadd, 1) := by decide +kernel
theorem d_M_lay_84 : decode b_M_lay 84 = .ok (.putfield 52, 3) := by decide +kernel
theorem d_M_lay_87 : decode b_M_lay 87 = .ok (.return_, 1) := by decide +kernel
theorem d_M_isTile_0 : decode b_M_isTile 0 = .ok (.iload_n 1, 1) := by decide +kernel
theorem d_M_isTile_1 : decode b_M_isTile 1 = .ok (.ifCond .lt 20, 3) := by decide +kernel
theorem d_M_isTile_4 : decode b_M_isTile 4 = .ok (.iload_n 1, 1) := by decide +kernel
theorem d_M_isTile_5 : decode b_M_isTile 5 = .ok (.aload_n 0, 1) := by decide +kernel
theorem d_M_isTile_6 : decode b_M_isTile 6 = .ok (.getfield 35, 3) := by decide +kernel
theorem d_M_isTile_9 : decode b_M_isTile 9 = .ok (.aload_n 0, 1) := by decide +kernel
theorem d_M_isTile_10 : decode b_M_isTile 10 = .ok (.getfield 39, 3) := by decide +kernel
theorem d_M_isTile_13 : decode b_M_isTile 13 = .ok (.imul, 1) := by decide +kernel
theorem d_M_isTile_14 : decode b_M_isTile 14 = .ok (.if_icmp .ge 7, 3) := by decide +kernel
theorem d_M_isTile_17 : decode b_M_isTile 17 = .ok (.iconst 1, 1) := by decide +kernel
theorem d_M_isTile_18 : decode b_M_isTile 18 = .ok (.goto 4, 3) := by decide +kernel
theorem d_M_isTile_21 : decode b_M_isTile 21 = .ok (.iconst 0, 1) := by decide +kernel
theorem d_M_isTile_22 : decode b_M_isTile 22 = .ok (.ireturn, 1) := by decide +kernel
theorem d_M_isKind_0 : decode b_M_isKind 0 = .ok (.iload_n 0, 1) := by decide +kernel
theorem d_M_isKind_1 : decode b_M_isKind 1 = .ok (.ifCond .lt 13, 3) := by decide +kernel
theorem d_M_isKind_4 : decode b_M_isKind 4 = .ok (.iload_n 0, 1) := by decide +kernel
theorem d_M_isKind_5 : decode b_M_isKind 5 = .ok (.bipush 6, 2) := by decide +kernel
theorem d_M_isKind_7 : decode b_M_isKind 7 = .ok (.if_icmp .ge 7, 3) := by decide +kernel
theorem d_M_isKind_10 : decode b_M_isKind 10 = .ok (.iconst 1, 1) := by decide +kernel
theorem d_M_isKind_11 : decode b_M_isKind 11 = .ok (.goto 4, 3) := by decide +kernel
theorem d_M_isKind_14 : decode b_M_isKind 14 = .ok (.iconst 0, 1) := by decide +kernel
theorem d_M_isKind_15 : decode b_M_isKind 15 = .ok (.ireturn, 1) := by decide +kernel
theorem d_M_lift_0 : decode b_M_lift 0 = .ok (.aload_n 0, 1) := by decide +kernel
theorem d_M_lift_1 : decode b_M_lift 1 = .ok (.aload_n 0, 1) := by decide +kernel
theorem d_M_lift_2 : decode b_M_lift 2 = .ok (.iload_n 1, 1) := by decide +kernel
theorem d_M_lift_3 : decode b_M_lift 3 = .ok (.invokevirtual 45, 3) := by decide +kernel
theorem d_M_lift_6 : decode b_M_lift 6 = .ok (.ifCond .eq 10, 3) := by decide +kernel
theorem d_M_lift_9 : decode b_M_lift 9 = .ok (.iload_n 2, 1) := by decide +kernel
theorem d_M_lift_10 : decode b_M_lift 10 = .ok (.invokestatic 49, 3) := by decide +kernel
theorem d_M_lift_13 : decode b_M_lift 13 = .ok (.ifCond .ne 7, 3) := by decide +kernel
theorem d_M_lift_16 : decode b_M_lift 16 = .ok (.iconst 1, 1) := by decide +kernel
theorem d_M_lift_17 : decode b_M_lift 17 = .ok (.goto 22, 3) := by decide +kernel
theorem d_M_lift_20 : decode b_M_lift 20 = .ok (.aload_n 0, 1) := by decide +kernel
theorem d_M_lift_21 : decode b_M_lift 21 = .ok (.getfield 13, 3) := by decide +kernel
theorem d_M_lift_24 : decode b_M_lift 24 = .ok (.bipush 6, 2) := by decide +kernel
theorem d_M_lift_26 : decode b_M_lift 26 = .ok (.iload_n 1, 1) := by decide +kernel
theorem d_M_lift_27 : decode b_M_lift 27 = .ok (.imul, 1) := by decide +kernel
theorem d_M_lift_28 : decode b_M_lift 28 = .ok (.iload_n 2, 1) := by decide +kernel
theorem d_M_lift_29 : decode b_M_lift 29 = .ok (.iadd, 1) := by decide +kernel
theorem d_M_lift_30 : decode b_M_lift 30 = .ok (.baload, 1) := by decide +kernel
theorem d_M_lift_31 : decode b_M_lift 31 = .ok (.ifCond .ne 7, 3) := by decide +kernel
theorem d_M_lift_34 : decode b_M_lift 34 = .ok (.iconst 2, 1) := by decide +kernel
theorem d_M_lift_35 : decode b_M_lift 35 = .ok (.goto 4, 3) := by decide +kernel
theorem d_M_lift_38 : decode b_M_lift 38 = .ok (.iconst 0, 1) := by decide +kernel
theorem d_M_lift_39 : decode b_M_lift 39 = .ok (.putfield 42, 3) := by decide +kernel
theorem d_M_lift_42 : decode b_M_lift 42 = .ok (.aload_n 0, 1) := by decide +kernel
theorem d_M_lift_43 : decode b_M_lift 43 = .ok (.getfield 42, 3) := by decide +kernel
theorem d_M_lift_46 : decode b_M_lift 46 = .ok (.ifCond .le 4, 3) := by decide +kernel
theorem d_M_lift_49 : decode b_M_lift 49 = .ok (.return_, 1) := by decide +kernel
theorem d_M_lift_50 : decode b_M_lift 50 = .ok (.bipush 6, 2) := by decide +kernel
theorem d_M_lift_52 : decode b_M_lift 52 = .ok (.iload_n 1, 1) := by decide +kernel
theorem d_M_lift_53 : decode b_M_lift 53 = .ok (.imul, 1) := by decide +kernel
theorem d_M_lift_54 : decode b_M_lift 54 = .ok (.iload_n 2, 1) := by decide +kernel
theorem d_M_lift_55 : decode b_M_lift 55 = .ok (.iadd, 1) := by decide +kernel
theorem d_M_lift_56 : decode b_M_lift 56 = .ok (.istore_n 3, 1) := by decide +kernel
theorem d_M_lift_57 : decode b_M_lift 57 = .ok (.aload_n 0, 1) := by decide +kernel
theorem d_M_lift_58 : decode b_M_lift 58 = .ok (.getfield 13, 3) := by decide +kernel
theorem d_M_lift_61 : decode b_M_lift 61 = .ok (.iload_n 3, 1) := by decide +kernel
theorem d_M_lift_62 : decode b_M_lift 62 = .ok (.iconst 0, 1) := by decide +kernel
theorem d_M_lift_63 : decode b_M_lift 63 = .ok (.bastore, 1) := by decide +kernel
theorem d_M_lift_64 : decode b_M_lift 64 = .ok (.aload_n 0, 1) := by decide +kernel
theorem d_M_lift_65 : decode b_M_lift 65 = .ok (.getfield 17, 3) := by decide +kernel
theorem d_M_lift_68 : decode b_M_lift 68 = .ok (.iload_n 3, 1) := by decide +kernel
theorem d_M_lift_69 : decode b_M_lift 69 = .ok (.iconst 0, 1) := by decide +kernel
theorem d_M_lift_70 : decode b_M_lift 70 = .ok (.iastore, 1) := by decide +kernel
theorem d_M_lift_71 : decode b_M_lift 71 = .ok (.aload_n 0, 1) := by decide +kernel
theorem d_M_lift_72 : decode b_M_lift 72 = .ok (.getfield 20, 3) := by decide +kernel
theorem d_M_lift_75 : decode b_M_lift 75 = .ok (.iload_n 3, 1) := by decide +kernel
theorem d_M_lift_76 : decode b_M_lift 76 = .ok (.iconst 0, 1) := by decide +kernel
theorem d_M_lift_77 : decode b_M_lift 77 = .ok (.iastore, 1) := by decide +kernel
theorem d_M_lift_78 : decode b_M_lift 78 = .ok (.iconst 0, 1) := by decide +kernel
theorem d_M_lift_79 : decode b_M_lift 79 = .ok (.istore 4, 2) := by decide +kernel
theorem d_M_lift_81 : decode b_M_lift 81 = .ok (.aload_n 0, 1) := by decide +kernel
theorem d_M_lift_82 : decode b_M_lift 82 = .ok (.getfield 23, 3) := by decide +kernel
theorem d_M_lift_85 : decode b_M_lift 85 = .ok (.iload 4, 2) := by decide +kernel
theorem d_M_lift_87 : decode b_M_lift 87 = .ok (.iaload, 1) := by decide +kernel
theorem d_M_lift_88 : decode b_M_lift 88 = .ok (.iload_n 3, 1) := by decide +kernel
theorem d_M_lift_89 : decode b_M_lift 89 = .ok (.if_icmp .eq 9, 3) := by decide +kernel
theorem d_M_lift_92 : decode b_M_lift 92 = .ok (.iinc 4 1, 3) := by decide +kernel
theorem d_M_lift_95 : decode b_M_lift 95 = .ok (.goto (-14), 3) := by decide +kernel
theorem d_M_lift_98 : decode b_M_lift 98 = .ok (.aload_n 0, 1) := by decide +kernel
theorem d_M_lift_99 : decode b_M_lift 99 = .ok (.dup, 1) := by decide +kernel
theorem d_M_lift_100 : decode b_M_lift 100 = .ok (.getfield 52, 3) := by decide +kernel
theorem d_M_lift_103 : decode b_M_lift 103 = .ok (.iconst 1, 1) := by decide +kernel
theorem d_M_lift_104 : decode b_M_lift 104 = .ok (.isub, 1) := by decide +kernel
theorem d_M_lift_105 : decode b_M_lift 105 = .ok (.putfield 52, 3) := by decide +kernel
theorem d_M_lift_108 : decode b_M_lift 108 = .ok (.aload_n 0, 1) := by decide +kernel
theorem d_M_lift_109 : decode b_M_lift 109 = .ok (.getfield 23, 3) := by decide +kernel
theorem d_M_lift_112 : decode b_M_lift 112 = .ok (.iload 4, 2) := by decide +kernel
theorem d_M_lift_114 : decode b_M_lift 114 = .ok (.aload_n 0, 1) := by decide +kernel
theorem d_M_lift_115 : decode b_M_lift 115 = .ok (.getfield 23, 3) := by decide +kernel
theorem d_M_lift_118 : decode b_M_lift 118 = .ok (.aload_n 0, 1) := by decide +kernel
theorem d_M_lift_119 : decode b_M_lift 119 = .ok (.getfield 52, 3) := by decide +kernel
theorem d_M_lift_122 : decode b_M_lift 122 = .ok (.iaload, 1) := by decide +kernel
theorem d_M_lift_123 : decode b_M_lift 123 = .ok (.iastore, 1) := by decide +kernel
theorem d_M_lift_124 : decode b_M_lift 124 = .ok (.return_, 1) := by decide +kernel
theorem d_M_signal_0 : decode b_M_signal 0 = .ok (.aload_n 0, 1) := by decide +kernel
theorem d_M_signal_1 : decode b_M_signal 1 = .ok (.aload_n 0, 1) := by decide +kernel
theorem d_M_signal_2 : decode b_M_signal 2 = .ok (.iload_n 1, 1) := by decide +kernel
theorem d_M_signal_3 : decode b_M_signal 3 = .ok (.invokevirtual 45, 3) := by decide +kernel
theorem d_M_signal_6 : decode b_M_signal 6 = .ok (.ifCond .eq 10, 3) := by decide +kernel
theorem d_M_signal_9 : decode b_M_signal 9 = .ok (.iload_n 2, 1) := by decide +kernel
theorem d_M_signal_10 : decode b_M_signal 10 = .ok (.invokestatic 49, 3) := by decide +kernel
theorem d_M_signal_13 : decode b_M_signal 13 = .ok (.ifCond .ne 7, 3) := by decide +kernel
theorem d_M_signal_16 : decode b_M_signal 16 = .ok (.iconst 1, 1) := by decide +kernel
theorem d_M_signal_17 : decode b_M_signal 17 = .ok (.goto 43, 3) := by decide +kernel
theorem d_M_signal_20 : decode b_M_signal 20 = .ok (.aload_n 0, 1) := by decide +kernel
theorem d_M_signal_21 : decode b_M_signal 21 = .ok (.getfield 13, 3) := by decide +kernel
theorem d_M_signal_24 : decode b_M_signal 24 = .ok (.bipush 6, 2) := by decide +kernel
theorem d_M_signal_26 : decode b_M_signal 26 = .ok (.iload_n 1, 1) := by decide +kernel
theorem d_M_signal_27 : decode b_M_signal 27 = .ok (.imul, 1) := by decide +kernel
theorem d_M_signal_28 : decode b_M_signal 28 = .ok (.iload_n 2, 1) := by decide +kernel
theorem d_M_signal_29 : decode b_M_signal 29 = .ok (.iadd, 1) := by decide +kernel
theorem d_M_signal_30 : decode b_M_signal 30 = .ok (.baload, 1) := by decide +kernel
theorem d_M_signal_31 : decode b_M_signal 31 = .ok (.ifCond .eq 24, 3) := by decide +kernel
theorem d_M_signal_34 : decode b_M_signal 34 = .ok (.iload_n 3, 1) := by decide +kernel
theorem d_M_signal_35 : decode b_M_signal 35 = .ok (.iconst (-1), 1) := by decide +kernel
theorem d_M_signal_36 : decode b_M_signal 36 = .ok (.if_icmp .lt 19, 3) := by decide +kernel
theorem d_M_signal_39 : decode b_M_signal 39 = .ok (.iload_n 3, 1) := by decide +kernel
theorem d_M_signal_40 : decode b_M_signal 40 = .ok (.iconst 1, 1) := by decide +kernel
theorem d_M_signal_41 : decode b_M_signal 41 = .ok (.if_icmp .gt 14, 3) := by decide +kernel
theorem d_M_signal_44 : decode b_M_signal 44 = .ok (.iload 4, 2) := by decide +kernel
theorem d_M_signal_46 : decode b_M_signal 46 = .ok (.ifCond .lt 9, 3) := by decide +kernel
theorem d_M_signal_49 : decode b_M_signal 49 = .ok (.iload 4, 2) := by decide +kernel
theorem d_M_signal_51 : decode b_M_signal 51 = .ok (.iconst 1, 1) := by decide +kernel
theorem d_M_signal_52 : decode b_M_signal 52 = .ok (.if_icmp .le 7, 3) := by decide +kernel
theorem d_M_signal_55 : decode b_M_signal 55 = .ok (.iconst 2, 1) := by decide +kernel
theorem d_M_signal_56 : decode b_M_signal 56 = .ok (.goto 4, 3) := by decide +kernel
theorem d_M_signal_59 : decode b_M_signal 59 = .ok (.iconst 0, 1) := by decide +kernel
theorem d_M_signal_60 : decode b_M_signal 60 = .ok (.putfield 42, 3) := by decide +kernel
theorem d_M_signal_63 : decode b_M_signal 63 = .ok (.aload_n 0, 1) := by decide +kernel
theorem d_M_signal_64 : decode b_M_signal 64 = .ok (.getfield 42, 3) := by decide +kernel
theorem d_M_signal_67 : decode b_M_signal 67 = .ok (.ifCond .ne 31, 3) := by decide +kernel
theorem d_M_signal_70 : decode b_M_signal 70 = .ok (.aload_n 0, 1) := by decide +kernel
theorem d_M_signal_71 : decode b_M_signal 71 = .ok (.getfield 17, 3) := by decide +kernel
theorem d_M_signal_74 : decode b_M_signal 74 = .ok (.bipush 6, 2) := by decide +kernel
theorem d_M_signal_76 : decode b_M_signal 76 = .ok (.iload_n 1, 1) := by decide +kernel
theorem d_M_signal_77 : decode b_M_signal 77 = .ok (.imul, 1) := by decide +kernel
theorem d_M_signal_78 : decode b_M_signal 78 = .ok (.iload_n 2, 1) := by decide +kernel
theorem d_M_signal_79 : decode b_M_signal 79 = .ok (.iadd, 1) := by decide +kernel
theorem d_M_signal_80 : decode b_M_signal 80 = .ok (.iload_n 3, 1) := by decide +kernel
theorem d_M_signal_81 : decode b_M_signal 81 = .ok (.iconst (-1), 1) := by decide +kernel
theorem d_M_signal_82 : decode b_M_signal 82 = .ok (.if_icmp .ne 7, 3) := by decide +kernel
theorem d_M_signal_85 : decode b_M_signal 85 = .ok (.iconst 0, 1) := by decide +kernel
theorem d_M_signal_86 : decode b_M_signal 86 = .ok (.goto 11, 3) := by decide +kernel
theorem d_M_signal_89 : decode b_M_signal 89 = .ok (.iconst 1, 1) := by decide +kernel
theorem d_M_signal_90 : decode b_M_signal 90 = .ok (.iload_n 3, 1) := by decide +kernel
theorem d_M_signal_91 : decode b_M_signal 91 = .ok (.iadd, 1) := by decide +kernel
theorem d_M_signal_92 : decode b_M_signal 92 = .ok (.iconst 2, 1) := by decide +kernel
theorem d_M_signal_93 : decode b_M_signal 93 = .ok (.iload 4, 2) := by decide +kernel
theorem d_M_signal_95 : decode b_M_signal 95 = .ok (.imul, 1) := by decide +kernel
theorem d_M_signal_96 : decode b_M_signal 96 = .ok (.iadd, 1) := by decide +kernel
theorem d_M_signal_97 : decode b_M_signal 97 = .ok (.iastore, 1) := by decide +kernel
theorem d_M_signal_98 : decode b_M_signal 98 = .ok (.return_, 1) := by decide +kernel
theorem d_M_platform_0 : decode b_M_platform 0 = .ok (.aload_n 0, 1) := by decide +kernel
theorem d_M_platform_1 : decode b_M_platform 1 = .ok (.aload_n 0, 1) := by decide +kernel
theorem d_M_platform_2 : decode b_M_platform 2 = .ok (.iload_n 1, 1) := by decide +kernel
theorem d_M_platform_3 : decode b_M_platform 3 = .ok (.invokevirtual 45, 3) := by decide +kernel
theorem d_M_platform_6 : decode b_M_platform 6 = .ok (.ifCond .eq 21, 3) := by decide +kernel
theorem d_M_platform_9 : decode b_M_platform 9 = .ok (.iload_n 2, 1) := by decide +kernel
theorem d_M_platform_10 : decode b_M_platform 10 = .ok (.invokestatic 49, 3) := by decide +kernel
theorem d_M_platform_13 : decode b_M_platform 13 = .ok (.ifCond .eq 14, 3) := by decide +kernel
theorem d_M_platform_16 : decode b_M_platform 16 = .ok (.iload_n 3, 1) := by decide +kernel
theorem d_M_platform_17 : decode b_M_platform 17 = .ok (.iconst (-1), 1) := by decide +kernel
theorem d_M_platform_18 : decode b_M_platform 18 = .ok (.if_icmp .lt 9, 3) := by decide +kernel
theorem d_M_platform_21 : decode b_M_platform 21 = .ok (.iload_n 3, 1) := by decide +kernel
theorem d_M_platform_22 : decode b_M_platform 22 = .ok (.bipush 7, 2) := by decide +kernel
theorem d_M_platform_24 : decode b_M_platform 24 = .ok (.if_icmp .le 7, 3) := by decide +kernel
theorem d_M_platform_27 : decode b_M_platform 27 = .ok (.iconst 1, 1) := by decide +kernel
theorem d_M_platform_28 : decode b_M_platform 28 = .ok (.goto 27, 3) := by decide +kernel
theorem d_M_platform_31 : decode b_M_platform 31 = .ok (.aload_n 0, 1) := by decide +kernel
theorem d_M_platform_32 : decode b_M_platform 32 = .ok (.getfield 13, 3) := by decide +kernel
theorem d_M_platform_35 : decode b_M_platform 35 = .ok (.bipush 6, 2) := by decide +kernel
theorem d_M_platform_37 : decode b_M_platform 37 = .ok (.iload_n 1, 1) := by decide +kernel
theorem d_M_platform_38 : decode b_M_platform 38 = .ok (.imul, 1) := by decide +kernel
theorem d_M_platform_39 : decode b_M_platform 39 = .ok (.iload_n 2, 1) := by decide +kernel
theorem d_M_platform_40 : decode b_M_platform 40 = .ok (.iadd, 1) := by decide +kernel
theorem d_M_platform_41 : decode b_M_platform 41 = .ok (.baload, 1) := by decide +kernel
theorem d_M_platform_42 : decode b_M_platform 42 = .ok (.ifCond .eq 8, 3) := by decide +kernel
theorem d_M_platform_45 : decode b_M_platform 45 = .ok (.iload_n 2, 1) := by decide +kernel
theorem d_M_platform_46 : decode b_M_platform 46 = .ok (.iconst 1, 1) := by decide +kernel
theorem d_M_platform_47 : decode b_M_platform 47 = .ok (.if_icmp .le 7, 3) := by decide +kernel
theorem d_M_platform_50 : decode b_M_platform 50 = .ok (.iconst 2, 1) := by decide +kernel
theorem d_M_platform_51 : decode b_M_platform 51 = .ok (.goto 4, 3) := by decide +kernel
theorem d_M_platform_54 : decode b_M_platform 54 = .ok (.iconst 0, 1) := by decide +kernel
theorem d_M_platform_55 : decode b_M_platform 55 = .ok (.putfield 42, 3) := by decide +kernel
theorem d_M_platform_58 : decode b_M_platform 58 = .ok (.aload_n 0, 1) := by decide +kernel
theorem d_M_platform_59 : decode b_M_platform 59 = .ok (.getfield 42, 3) := by decide +kernel
theorem d_M_platform_62 : decode b_M_platform 62 = .ok (.ifCond .ne 17, 3) := by decide +kernel
theorem d_M_platform_65 : decode b_M_platform 65 = .ok (.aload_n 0, 1) := by decide +kernel
theorem d_M_platform_66 : decode b_M_platform 66 = .ok (.getfield 20, 3) := by decide +kernel
theorem d_M_platform_69 : decode b_M_platform 69 = .ok (.bipush 6, 2) := by decide +kernel
theorem d_M_platform_71 : decode b_M_platform 71 = .ok (.iload_n 1, 1) := by decide +kernel
theorem d_M_platform_72 : decode b_M_platform 72 = .ok (.imul, 1) := by decide +kernel
theorem d_M_platform_73 : decode b_M_platform 73 = .ok (.iload_n 2, 1) := by decide +kernel
theorem d_M_platform_74 : decode b_M_platform 74 = .ok (.iadd, 1) := by decide +kernel
theorem d_M_platform_75 : decode b_M_platform 75 = .ok (.iload_n 3, 1) := by decide +kernel
theorem d_M_platform_76 : decode b_M_platform 76 = .ok (.iconst 1, 1) := by decide +kernel
theorem d_M_platform_77 : decode b_M_platform 77 = .ok (.iadd, 1) := by decide +kernel
theorem d_M_platform_78 : decode b_M_platform 78 = .ok (.iastore, 1) := by decide +kernel
theorem d_M_platform_79 : decode b_M_platform 79 = .ok (.return_, 1) := by decide +kernel
theorem d_M_at_0 : decode b_M_at 0 = .ok (.aload_n 0, 1) := by decide +kernel
theorem d_M_at_1 : decode b_M_at 1 = .ok (.iconst 0, 1) := by decide +kernel
theorem d_M_at_2 : decode b_M_at 2 = .ok (.putfield 42, 3) := by decide +kernel
theorem d_M_at_5 : decode b_M_at 5 = .ok (.aload_n 0, 1) := by decide +kernel
theorem d_M_at_6 : decode b_M_at 6 = .ok (.iload_n 1, 1) := by decide +kernel
theorem d_M_at_7 : decode b_M_at 7 = .ok (.invokevirtual 45, 3) := by decide +kernel
theorem d_M_at_10 : decode b_M_at 10 = .ok (.ifCond .eq 13, 3) := by decide +kernel
theorem d_M_at_13 : decode b_M_at 13 = .ok (.iload_n 2, 1) := by decide +kernel
theorem d_M_at_14 : decode b_M_at 14 = .ok (.ifCond .lt 9, 3) := by decide +kernel
theorem d_M_at_17 : decode b_M_at 17 = .ok (.iload_n 2, 1) := by decide +kernel
theorem d_M_at_18 : decode b_M_at 18 = .ok (.bipush 6, 2) := by decide +kernel
theorem d_M_at_20 : decode b_M_at 20 = .ok (.if_icmp .le 5, 3) := by decide +kernel
theorem d_M_at_23 : decode b_M_at 23 = .ok (.iconst (-1), 1) := by decide +kernel
theorem d_M_at_24 : decode b_M_at 24 = .ok (.ireturn, 1) := by decide +kernel
theorem d_M_at_25 : decode b_M_at 25 = .ok (.iconst 0, 1) := by decide +kernel
theorem d_M_at_26 : decode b_M_at 26 = .ok (.istore_n 3, 1) := by decide +kernel
theorem d_M_at_27 : decode b_M_at 27 = .ok (.iconst 0, 1) := by decide +kernel
theorem d_M_at_28 : decode b_M_at 28 = .ok (.istore 4, 2) := by decide +kernel
theorem d_M_at_30 : decode b_M_at 30 = .ok (.iload 4, 2) := by decide +kernel
theorem d_M_at_32 : decode b_M_at 32 = .ok (.bipush 6, 2) := by decide +kernel
theorem d_M_at_34 : decode b_M_at 34 = .ok (.if_icmp .ge 35, 3) := by decide +kernel
theorem d_M_at_37 : decode b_M_at 37 = .ok (.iload_n 3, 1) := by decide +kernel
theorem d_M_at_38 : decode b_M_at 38 = .ok (.aload_n 0, 1) := by decide +kernel
theorem d_M_at_39 : decode b_M_at 39 = .ok (.getfield 13, 3) := by decide +kernel
theorem d_M_at_42 : decode b_M_at 42 = .ok (.bipush 6, 2) := by decide +kernel
theorem d_M_at_44 : decode b_M_at 44 = .ok (.iload_n 1, 1) := by decide +kernel
theorem d_M_at_45 : decode b_M_at 45 = .ok (.imul, 1) := by decide +kernel
theorem d_M_at_46 : decode b_M_at 46 = .ok (.iload 4, 2) := by decide +kernel
theorem d_M_at_48 : decode b_M_at 48 = .ok (.iadd, 1) := by decide +kernel
theorem d_M_at_49 : decode b_M_at 49 = .ok (.baload, 1) := by decide +kernel
theorem d_M_at_50 : decode b_M_at 50 = .ok (.ifCond .eq 10, 3) := by decide +kernel
theorem d_M_at_53 : decode b_M_at 53 = .ok (.iconst 1, 1) := by decide +kernel
theorem d_M_at_54 : decode b_M_at 54 = .ok (.iload 4, 2) := by decide +kernel
theorem d_M_at_56 : decode b_M_at 56 = .ok (.ishl, 1) := by decide +kernel
theorem d_M_at_57 : decode b_M_at 57 = .ok (.goto 4, 3) := by decide +kernel
theorem d_M_at_60 : decode b_M_at 60 = .ok (.iconst 0, 1) := by decide +kernel
theorem d_M_at_61 : decode b_M_at 61 = .ok (.ior, 1) := by decide +kernel
theorem d_M_at_62 : decode b_M_at 62 = .ok (.istore_n 3, 1) := by decide +kernel
theorem d_M_at_63 : decode b_M_at 63 = .ok (.iinc 4 1, 3) := by decide +kernel
theorem d_M_at_66 : decode b_M_at 66 = .ok (.goto (-36), 3) := by decide +kernel
theorem d_M_at_69 : decode b_M_at 69 = .ok (.iload_n 2, 1) := by decide +kernel
theorem d_M_at_70 : decode b_M_at 70 = .ok (.ifCond .ne 5, 3) := by decide +kernel
theorem d_M_at_73 : decode b_M_at 73 = .ok (.iload_n 3, 1) := by decide +kernel
theorem d_M_at_74 : decode b_M_at 74 = .ok (.ireturn, 1) := by decide +kernel
theorem d_M_at_75 : decode b_M_at 75 = .ok (.bipush 6, 2) := by decide +kernel
theorem d_M_at_77 : decode b_M_at 77 = .ok (.iload_n 1, 1) := by decide +kernel
theorem d_M_at_78 : decode b_M_at 78 = .ok (.imul, 1) := by decide +kernel
theorem d_M_at_79 : decode b_M_at 79 = .ok (.iload_n 2, 1) := by decide +kernel
theorem d_M_at_80 : decode b_M_at 80 = .ok (.iadd, 1) := by decide +kernel
theorem d_M_at_81 : decode b_M_at 81 = .ok (.iconst 1, 1) := by decide +kernel
theorem d_M_at_82 : decode b_M_at 82 = .ok (.isub, 1) := by decide +kernel
theorem d_M_at_83 : decode b_M_at 83 = .ok (.istore 4, 2) := by decide +kernel
theorem d_M_at_85 : decode b_M_at 85 = .ok (.aload_n 0, 1) := by decide +kernel
theorem d_M_at_86 : decode b_M_at 86 = .ok (.getfield 13, 3) := by decide +kernel
theorem d_M_at_89 : decode b_M_at 89 = .ok (.iload 4, 2) := by decide +kernel
theorem d_M_at_91 : decode b_M_at 91 = .ok (.baload, 1) := by decide +kernel
theorem d_M_at_92 : decode b_M_at 92 = .ok (.ifCond .eq 28, 3) := by decide +kernel
theorem d_M_at_95 : decode b_M_at 95 = .ok (.iconst 1, 1) := by decide +kernel
theorem d_M_at_96 : decode b_M_at 96 = .ok (.iconst 4, 1) := by decide +kernel
theorem d_M_at_97 : decode b_M_at 97 = .ok (.aload_n 0, 1) := by decide +kernel
theorem d_M_at_98 : decode b_M_at 98 = .ok (.getfield 17, 3) := by decide +kernel
theorem d_M_at_101 : decode b_M_at 101 = .ok (.iload 4, 2) := by decide +kernel
theorem d_M_at_103 : decode b_M_at 103 = .ok (.iaload, 1) := by decide +kernel
theorem d_M_at_104 : decode b_M_at 104 = .ok (.imul, 1) := by decide +kernel
theorem d_M_at_105 : decode b_M_at 105 = .ok (.iadd, 1) := by decide +kernel
theorem d_M_at_106 : decode b_M_at 106 = .ok (.bipush 32, 2) := by decide +kernel
theorem d_M_at_108 : decode b_M_at 108 = .ok (.aload_n 0, 1) := by decide +kernel
theorem d_M_at_109 : decode b_M_at 109 = .ok (.getfield 20, 3) := by decide +kernel
theorem d_M_at_112 : decode b_M_at 112 = .ok (.iload 4, 2) := by decide +kernel
theorem d_M_at_114 : decode b_M_at 114 = .ok (.iaload, 1) := by decide +kernel
theorem d_M_at_115 : decode b_M_at 115 = .ok (.imul, 1) := by decide +kernel
theorem d_M_at_116 : decode b_M_at 116 = .ok (.iadd, 1) := by decide +kernel
theorem d_M_at_117 : decode b_M_at 117 = .ok (.goto 4, 3) := by decide +kernel
theorem d_M_at_120 : decode b_M_at 120 = .ok (.iconst 0, 1) := by decide +kernel
theorem d_M_at_121 : decode b_M_at 121 = .ok (.ireturn, 1) := by decide +kernel
theorem d_M_next_0 : decode b_M_next 0 = .ok (.aload_n 0, 1) := by decide +kernel
theorem d_M_next_1 : decode b_M_next 1 = .ok (.iconst 0, 1) := by decide +kernel
theorem d_M_next_2 : decode b_M_next 2 = .ok (.putfield 42, 3) := by decide +kernel
theorem d_M_next_5 : decode b_M_next 5 = .ok (.aload_n 0, 1) := by decide +kernel
theorem d_M_next_6 : decode b_M_next 6 = .ok (.iload_n 1, 1) := by decide +kernel
theorem d_M_next_7 : decode b_M_next 7 = .ok (.invokevirtual 75, 3) := by decide +kernel
theorem d_M_next_10 : decode b_M_next 10 = .ok (.ifCond .eq 7, 3) := by decide +kernel
theorem d_M_next_13 : decode b_M_next 13 = .ok (.iload_n 2, 1) := by decide +kernel
theorem d_M_next_14 : decode b_M_next 14 = .ok (.ifCond .ge 5, 3) := by decide +kernel
theorem d_M_next_17 : decode b_M_next 17 = .ok (.iconst (-1), 1) := by decide +kernel
theorem d_M_next_18 : decode b_M_next 18 = .ok (.ireturn, 1) := by decide +kernel
theorem d_M_next_19 : decode b_M_next 19 = .ok (.iload_n 2, 1) := by decide +kernel
theorem d_M_next_20 : decode b_M_next 20 = .ok (.istore_n 3, 1) := by decide +kernel
theorem d_M_next_21 : decode b_M_next 21 = .ok (.iconst 0, 1) := by decide +kernel
theorem d_M_next_22 : decode b_M_next 22 = .ok (.istore 4, 2) := by decide +kernel
theorem d_M_next_24 : decode b_M_next 24 = .ok (.iload 4, 2) := by decide +kernel
theorem d_M_next_26 : decode b_M_next 26 = .ok (.bipush 6, 2) := by decide +kernel
theorem d_M_next_28 : decode b_M_next 28 = .ok (.if_icmp .ge 37, 3) := by decide +kernel
theorem d_M_next_31 : decode b_M_next 31 = .ok (.aload_n 0, 1) := by decide +kernel
theorem d_M_next_32 : decode b_M_next 32 = .ok (.iload_n 1, 1) := by decide +kernel
theorem d_M_next_33 : decode b_M_next 33 = .ok (.iload 4, 2) := by decide +kernel
theorem d_M_next_35 : decode b_M_next 35 = .ok (.invokevirtual 78, 3) := by decide +kernel
theorem d_M_next_38 : decode b_M_next 38 = .ok (.istore 5, 2) := by decide +kernel
theorem d_M_next_40 : decode b_M_next 40 = .ok (.iload 5, 2) := by decide +kernel
theorem d_M_next_42 : decode b_M_next 42 = .ok (.iconst (-1), 1) := by decide +kernel
theorem d_M_next_43 : decode b_M_next 43 = .ok (.if_icmp .ne 6, 3) := by decide +kernel
theorem d_M_next_46 : decode b_M_next 46 = .ok (.goto 13, 3) := by decide +kernel
theorem d_M_next_49 : decode b_M_next 49 = .ok (.iload_n 3, 1) := by decide +kernel
theorem d_M_next_50 : decode b_M_next 50 = .ok (.ifCond .ne 6, 3) := by decide +kernel
theorem d_M_next_53 : decode b_M_next 53 = .ok (.iload 5, 2) := by decide +kernel
theorem d_M_next_55 : decode b_M_next 55 = .ok (.ireturn, 1) := by decide +kernel
theorem d_M_next_56 : decode b_M_next 56 = .ok (.iinc 3 (-1), 3) := by decide +kernel
theorem d_M_next_59 : decode b_M_next 59 = .ok (.iinc 4 1, 3) := by decide +kernel
theorem d_M_next_62 : decode b_M_next 62 = .ok (.goto (-38), 3) := by decide +kernel
theorem d_M_next_65 : decode b_M_next 65 = .ok (.iconst (-1), 1) := by decide +kernel
theorem d_M_next_66 : decode b_M_next 66 = .ok (.ireturn, 1) := by decide +kernel
theorem d_M_isOpen_0 : decode b_M_isOpen 0 = .ok (.aload_n 0, 1) := by decide +kernel
theorem d_M_isOpen_1 : decode b_M_isOpen 1 = .ok (.iload_n 1, 1) := by decide +kernel
theorem d_M_isOpen_2 : decode b_M_isOpen 2 = .ok (.invokevirtual 55, 3) := by decide +kernel
theorem d_M_isOpen_5 : decode b_M_isOpen 5 = .ok (.ifCond .eq 40, 3) := by decide +kernel
theorem d_M_isOpen_8 : decode b_M_isOpen 8 = .ok (.aload_n 0, 1) := by decide +kernel
theorem d_M_isOpen_9 : decode b_M_isOpen 9 = .ok (.getfield 13, 3) := by decide +kernel
theorem d_M_isOpen_12 : decode b_M_isOpen 12 = .ok (.iload_n 1, 1) := by decide +kernel
theorem d_M_isOpen_13 : decode b_M_isOpen 13 = .ok (.iconst 2, 1) := by decide +kernel
theorem d_M_isOpen_14 : decode b_M_isOpen 14 = .ok (.idiv, 1) := by decide +kernel
theorem d_M_isOpen_15 : decode b_M_isOpen 15 = .ok (.baload, 1) := by decide +kernel
theorem d_M_isOpen_16 : decode b_M_isOpen 16 = .ok (.ifCond .eq 29, 3) := by decide +kernel
theorem d_M_isOpen_19 : decode b_M_isOpen 19 = .ok (.aload_n 0, 1) := by decide +kernel
theorem d_M_isOpen_20 : decode b_M_isOpen 20 = .ok (.getfield 17, 3) := by decide +kernel
theorem d_M_isOpen_23 : decode b_M_isOpen 23 = .ok (.iload_n 1, 1) := by decide +kernel
theorem d_M_isOpen_24 : decode b_M_isOpen 24 = .ok (.iconst 2, 1) := by decide +kernel
theorem d_M_isOpen_25 : decode b_M_isOpen 25 = .ok (.idiv, 1) := by decide +kernel
theorem d_M_isOpen_26 : decode b_M_isOpen 26 = .ok (.iaload, 1) := by decide +kernel
theorem d_M_isOpen_27 : decode b_M_isOpen 27 = .ok (.ifCond .eq 14, 3) := by decide +kernel
theorem d_M_isOpen_30 : decode b_M_isOpen 30 = .ok (.aload_n 0, 1) := by decide +kernel
theorem d_M_isOpen_31 : decode b_M_isOpen 31 = .ok (.iload_n 1, 1) := by decide +kernel
theorem d_M_isOpen_32 : decode b_M_isOpen 32 = .ok (.iconst 2, 1) := by decide +kernel
theorem d_M_isOpen_33 : decode b_M_isOpen 33 = .ok (.idiv, 1) := by decide +kernel
theorem d_M_isOpen_34 : decode b_M_isOpen 34 = .ok (.invokevirtual 58, 3) := by decide +kernel
theorem d_M_isOpen_37 : decode b_M_isOpen 37 = .ok (.iload_n 1, 1) := by decide +kernel
theorem d_M_isOpen_38 : decode b_M_isOpen 38 = .ok (.if_icmp .ne 7, 3) := by decide +kernel
theorem d_M_isOpen_41 : decode b_M_isOpen 41 = .ok (.iconst 1, 1) := by decide +kernel
theorem d_M_isOpen_42 : decode b_M_isOpen 42 = .ok (.goto 4, 3) := by decide +kernel
theorem d_M_isOpen_45 : decode b_M_isOpen 45 = .ok (.iconst 0, 1) := by decide +kernel
theorem d_M_isOpen_46 : decode b_M_isOpen 46 = .ok (.ireturn, 1) := by decide +kernel
theorem d_M_isRun_0 : decode b_M_isRun 0 = .ok (.iload_n 1, 1) := by decide +kernel
theorem d_M_isRun_1 : decode b_M_isRun 1 = .ok (.ifCond .lt 23, 3) := by decide +kernel
theorem d_M_isRun_4 : decode b_M_isRun 4 = .ok (.iload_n 1, 1) := by decide +kernel
theorem d_M_isRun_5 : decode b_M_isRun 5 = .ok (.bipush 12, 2) := by decide +kernel
theorem d_M_isRun_7 : decode b_M_isRun 7 = .ok (.aload_n 0, 1) := by decide +kernel
theorem d_M_isRun_8 : decode b_M_isRun 8 = .ok (.getfield 35, 3) := by decide +kernel
theorem d_M_isRun_11 : decode b_M_isRun 11 = .ok (.imul, 1) := by decide +kernel
theorem d_M_isRun_12 : decode b_M_isRun 12 = .ok (.aload_n 0, 1) := by decide +kernel
theorem d_M_isRun_13 : decode b_M_isRun 13 = .ok (.getfield 39, 3) := by decide +kernel
theorem d_M_isRun_16 : decode b_M_isRun 16 = .ok (.imul, 1) := by decide +kernel
theorem d_M_isRun_17 : decode b_M_isRun 17 = .ok (.if_icmp .ge 7, 3) := by decide +kernel
theorem d_M_isRun_20 : decode b_M_isRun 20 = .ok (.iconst 1, 1) := by decide +kernel
theorem d_M_isRun_21 : decode b_M_isRun 21 = .ok (.goto 4, 3) := by decide +kernel
theorem d_M_isRun_24 : decode b_M_isRun 24 = .ok (.iconst 0, 1) := by decide +kernel
theorem d_M_isRun_25 : decode b_M_isRun 25 = .ok (.ireturn, 1) := by decide +kernel
theorem d_M_signalled_0 : decode b_M_signalled 0 = .ok (.aload_n 0, 1) := by decide +kernel
theorem d_M_signalled_1 : decode b_M_signalled 1 = .ok (.getfield 17, 3) := by decide +kernel
theorem d_M_signalled_4 : decode b_M_signalled 4 = .ok (.iload_n 1, 1) := by decide +kernel
theorem d_M_signalled_5 : decode b_M_signalled 5 = .ok (.iaload, 1) := by decide +kernel
theorem d_M_signalled_6 : decode b_M_signalled 6 = .ok (.ifCond .ne 7, 3) := by decide +kernel
theorem d_M_signalled_9 : decode b_M_signalled 9 = .ok (.iconst (-1), 1) := by decide +kernel
theorem d_M_signalled_10 : decode b_M_signalled 10 = .ok (.goto 17, 3) := by decide +kernel
theorem d_M_signalled_13 : decode b_M_signalled 13 = .ok (.iconst 2, 1) := by decide +kernel
theorem d_M_signalled_14 : decode b_M_signalled 14 = .ok (.iload_n 1, 1) := by decide +kernel
theorem d_M_signalled_15 : decode b_M_signalled 15 = .ok (.imul, 1) := by decide +kernel
theorem d_M_signalled_16 : decode b_M_signalled 16 = .ok (.aload_n 0, 1) := by decide +kernel
theorem d_M_signalled_17 : decode b_M_signalled 17 = .ok (.getfield 17, 3) := by decide +kernel
theorem d_M_signalled_20 : decode b_M_signalled 20 = .ok (.iload_n 1, 1) := by decide +kernel
theorem d_M_signalled_21 : decode b_M_signalled 21 = .ok (.iaload, 1) := by decide +kernel
theorem d_M_signalled_22 : decode b_M_signalled 22 = .ok (.iconst 1, 1) := by decide +kernel
theorem d_M_signalled_23 : decode b_M_signalled 23 = .ok (.isub, 1) := by decide +kernel
theorem d_M_signalled_24 : decode b_M_signalled 24 = .ok (.iconst 2, 1) := by decide +kernel
theorem d_M_signalled_25 : decode b_M_signalled 25 = .ok (.irem, 1) := by decide +kernel
theorem d_M_signalled_26 : decode b_M_signalled 26 = .ok (.iadd, 1) := by decide +kernel
theorem d_M_signalled_27 : decode b_M_signalled 27 = .ok (.ireturn, 1) := by decide +kernel
theorem d_M_follower_0 : decode b_M_follower 0 = .ok (.aload_n 0, 1) := by decide +kernel
theorem d_M_follower_1 : decode b_M_follower 1 = .ok (.iload_n 1, 1) := by decide +kernel
theorem d_M_follower_2 : decode b_M_follower 2 = .ok (.bipush 12, 2) := by decide +kernel
theorem d_M_follower_4 : decode b_M_follower 4 = .ok (.idiv, 1) := by decide +kernel
theorem d_M_follower_5 : decode b_M_follower 5 = .ok (.aload_n 0, 1) := by decide +kernel
theorem d_M_follower_6 : decode b_M_follower 6 = .ok (.iload_n 1, 1) := by decide +kernel
theorem d_M_follower_7 : decode b_M_follower 7 = .ok (.invokevirtual 62, 3) := by decide +kernel
theorem d_M_follower_10 : decode b_M_follower 10 = .ok (.invokevirtual 65, 3) := by decide +kernel
theorem d_M_follower_13 : decode b_M_follower 13 = .ok (.istore_n 3, 1) := by decide +kernel
theorem d_M_follower_14 : decode b_M_follower 14 = .ok (.iload_n 3, 1) := by decide +kernel
theorem d_M_follower_15 : decode b_M_follower 15 = .ok (.iconst (-1), 1) := by decide +kernel
theorem d_M_follower_16 : decode b_M_follower 16 = .ok (.if_icmp .ne 5, 3) := by decide +kernel
theorem d_M_follower_19 : decode b_M_follower 19 = .ok (.iconst (-1), 1) := by decide +kernel
theorem d_M_follower_20 : decode b_M_follower 20 = .ok (.ireturn, 1) := by decide +kernel
theorem d_M_follower_21 : decode b_M_follower 21 = .ok (.iconst 0, 1) := by decide +kernel
theorem d_M_follower_22 : decode b_M_follower 22 = .ok (.istore 4, 2) := by decide +kernel
theorem d_M_follower_24 : decode b_M_follower 24 = .ok (.iload 4, 2) := by decide +kernel
theorem d_M_follower_26 : decode b_M_follower 26 = .ok (.iconst 2, 1) := by decide +kernel
theorem d_M_follower_27 : decode b_M_follower 27 = .ok (.if_icmp .ge 51, 3) := by decide +kernel
theorem d_M_follower_30 : decode b_M_follower 30 = .ok (.iconst 2, 1) := by decide +kernel
theorem d_M_follower_31 : decode b_M_follower 31 = .ok (.bipush 6, 2) := by decide +kernel
theorem d_M_follower_33 : decode b_M_follower 33 = .ok (.iload_n 3, 1) := by decide +kernel
theorem d_M_follower_34 : decode b_M_follower 34 = .ok (.imul, 1) := by decide +kernel
theorem d_M_follower_35 : decode b_M_follower 35 = .ok (.iload_n 2, 1) := by decide +kernel
theorem d_M_follower_36 : decode b_M_follower 36 = .ok (.iadd, 1) := by decide +kernel
theorem d_M_follower_37 : decode b_M_follower 37 = .ok (.imul, 1) := by decide +kernel
theorem d_M_follower_38 : decode b_M_follower 38 = .ok (.iload 4, 2) := by decide +kernel
theorem d_M_follower_40 : decode b_M_follower 40 = .ok (.iadd, 1) := by decide +kernel
theorem d_M_follower_41 : decode b_M_follower 41 = .ok (.istore 5, 2) := by decide +kernel
theorem d_M_follower_43 : decode b_M_follower 43 = .ok (.aload_n 0, 1) := by decide +kernel
theorem d_M_follower_44 : decode b_M_follower 44 = .ok (.iload 5, 2) := by decide +kernel
theorem d_M_follower_46 : decode b_M_follower 46 = .ok (.invokevirtual 69, 3) := by decide +kernel
theorem d_M_follower_49 : decode b_M_follower 49 = .ok (.aload_n 0, 1) := by decide +kernel
theorem d_M_follower_50 : decode b_M_follower 50 = .ok (.iload_n 1, 1) := by decide +kernel
theorem d_M_follower_51 : decode b_M_follower 51 = .ok (.invokevirtual 62, 3) := by decide +kernel
theorem d_M_follower_54 : decode b_M_follower 54 = .ok (.invokestatic 72, 3) := by decide +kernel
theorem d_M_follower_57 : decode b_M_follower 57 = .ok (.if_icmp .ne 15, 3) := by decide +kernel
theorem d_M_follower_60 : decode b_M_follower 60 = .ok (.aload_n 0, 1) := by decide +kernel
theorem d_M_follower_61 : decode b_M_follower 61 = .ok (.iload 5, 2) := by decide +kernel
theorem d_M_follower_63 : decode b_M_follower 63 = .ok (.invokevirtual 75, 3) := by decide +kernel
theorem d_M_follower_66 : decode b_M_follower 66 = .ok (.ifCond .eq 6, 3) := by decide +kernel
theorem d_M_follower_69 : decode b_M_follower 69 = .ok (.iload 5, 2) := by decide +kernel
theorem d_M_follower_71 : decode b_M_follower 71 = .ok (.ireturn, 1) := by decide +kernel
theorem d_M_follower_72 : decode b_M_follower 72 = .ok (.iinc 4 1, 3) := by decide +kernel
theorem d_M_follower_75 : decode b_M_follower 75 = .ok (.goto (-51), 3) := by decide +kernel
theorem d_M_follower_78 : decode b_M_follower 78 = .ok (.iconst (-1), 1) := by decide +kernel
theorem d_M_follower_79 : decode b_M_follower 79 = .ok (.ireturn, 1) := by decide +kernel
theorem d_M_to_0 : decode b_M_to 0 = .ok (.aload_n 0, 1) := by decide +kernel
theorem d_M_to_1 : decode b_M_to 1 = .ok (.getfield 7, 3) := by decide +kernel
theorem d_M_to_4 : decode b_M_to 4 = .ok (.iconst 2, 1) := by decide +kernel
theorem d_M_to_5 : decode b_M_to 5 = .ok (.iload_n 1, 1) := by decide +kernel
theorem d_M_to_6 : decode b_M_to 6 = .ok (.iconst 2, 1) := by decide +kernel
theorem d_M_to_7 : decode b_M_to 7 = .ok (.idiv, 1) := by decide +kernel
theorem d_M_to_8 : decode b_M_to 8 = .ok (.bipush 6, 2) := by decide +kernel
theorem d_M_to_10 : decode b_M_to 10 = .ok (.irem, 1) := by decide +kernel
theorem d_M_to_11 : decode b_M_to 11 = .ok (.imul, 1) := by decide +kernel
theorem d_M_to_12 : decode b_M_to 12 = .ok (.iconst 1, 1) := by decide +kernel
theorem d_M_to_13 : decode b_M_to 13 = .ok (.iadd, 1) := by decide +kernel
theorem d_M_to_14 : decode b_M_to 14 = .ok (.iload_n 1, 1) := by decide +kernel
theorem d_M_to_15 : decode b_M_to 15 = .ok (.iconst 2, 1) := by decide +kernel
theorem d_M_to_16 : decode b_M_to 16 = .ok (.irem, 1) := by decide +kernel
theorem d_M_to_17 : decode b_M_to 17 = .ok (.isub, 1) := by decide +kernel
theorem d_M_to_18 : decode b_M_to 18 = .ok (.iaload, 1) := by decide +kernel
theorem d_M_to_19 : decode b_M_to 19 = .ok (.ireturn, 1) := by decide +kernel
theorem d_M_beyond_0 : decode b_M_beyond 0 = .ok (.iload_n 1, 1) := by decide +kernel
theorem d_M_beyond_1 : decode b_M_beyond 1 = .ok (.aload_n 0, 1) := by decide +kernel
theorem d_M_beyond_2 : decode b_M_beyond 2 = .ok (.getfield 35, 3) := by decide +kernel
theorem d_M_beyond_5 : decode b_M_beyond 5 = .ok (.irem, 1) := by decide +kernel
theorem d_M_beyond_6 : decode b_M_beyond 6 = .ok (.istore_n 3, 1) := by decide +kernel
theorem d_M_beyond_7 : decode b_M_beyond 7 = .ok (.iload_n 1, 1) := by decide +kernel
theorem d_M_beyond_8 : decode b_M_beyond 8 = .ok (.aload_n 0, 1) := by decide +kernel
theorem d_M_beyond_9 : decode b_M_beyond 9 = .ok (.getfield 35, 3) := by decide +kernel
theorem d_M_beyond_12 : decode b_M_beyond 12 = .ok (.idiv, 1) := by decide +kernel
theorem d_M_beyond_13 : decode b_M_beyond 13 = .ok (.istore 4, 2) := by decide +kernel
theorem d_M_beyond_15 : decode b_M_beyond 15 = .ok (.iload_n 2, 1) := by decide +kernel
theorem d_M_beyond_16 : decode b_M_beyond 16 = .ok (.ifCond .ne 15, 3) := by decide +kernel
theorem d_M_beyond_19 : decode b_M_beyond 19 = .ok (.iload_n 3, 1) := by decide +kernel
theorem d_M_beyond_20 : decode b_M_beyond 20 = .ok (.ifCond .ne 7, 3) := by decide +kernel
theorem d_M_beyond_23 : decode b_M_beyond 23 = .ok (.iconst (-1), 1) := by decide +kernel
theorem d_M_beyond_24 : decode b_M_beyond 24 = .ok (.goto 6, 3) := by decide +kernel
theorem d_M_beyond_27 : decode b_M_beyond 27 = .ok (.iload_n 1, 1) := by decide +kernel
theorem d_M_beyond_28 : decode b_M_beyond 28 = .ok (.iconst 1, 1) := by decide +kernel
theorem d_M_beyond_29 : decode b_M_beyond 29 = .ok (.isub, 1) := by decide +kernel
theorem d_M_beyond_30 : decode b_M_beyond 30 = .ok (.ireturn, 1) := by decide +kernel
theorem d_M_beyond_31 : decode b_M_beyond 31 = .ok (.iload_n 2, 1) := by decide +kernel
theorem d_M_beyond_32 : decode b_M_beyond 32 = .ok (.iconst 1, 1) := by decide +kernel
theorem d_M_beyond_33 : decode b_M_beyond 33 = .ok (.if_icmp .ne 21, 3) := by decide +kernel
theorem d_M_beyond_36 : decode b_M_beyond 36 = .ok (.iload_n 3, 1) := by decide +kernel
theorem d_M_beyond_37 : decode b_M_beyond 37 = .ok (.aload_n 0, 1) := by decide +kernel
theorem d_M_beyond_38 : decode b_M_beyond 38 = .ok (.getfield 35, 3) := by decide +kernel
theorem d_M_beyond_41 : decode b_M_beyond 41 = .ok (.iconst 1, 1) := by decide +kernel
theorem d_M_beyond_42 : decode b_M_beyond 42 = .ok (.isub, 1) := by decide +kernel
theorem d_M_beyond_43 : decode b_M_beyond 43 = .ok (.if_icmp .ne 7, 3) := by decide +kernel
theorem d_M_beyond_46 : decode b_M_beyond 46 = .ok (.iconst (-1), 1) := by decide +kernel
theorem d_M_beyond_47 : decode b_M_beyond 47 = .ok (.goto 6, 3) := by decide +kernel
theorem d_M_beyond_50 : decode b_M_beyond 50 = .ok (.iload_n 1, 1) := by decide +kernel
theorem d_M_beyond_51 : decode b_M_beyond 51 = .ok (.iconst 1, 1) := by decide +kernel
theorem d_M_beyond_52 : decode b_M_beyond 52 = .ok (.iadd, 1) := by decide +kernel
theorem d_M_beyond_53 : decode b_M_beyond 53 = .ok (.ireturn, 1) := by decide +kernel
theorem d_M_beyond_54 : decode b_M_beyond 54 = .ok (.iload_n 2, 1) := by decide +kernel
theorem d_M_beyond_55 : decode b_M_beyond 55 = .ok (.iconst 2, 1) := by decide +kernel
theorem d_M_beyond_56 : decode b_M_beyond 56 = .ok (.if_icmp .ne 19, 3) := by decide +kernel
theorem d_M_beyond_59 : decode b_M_beyond 59 = .ok (.iload 4, 2) := by decide +kernel
theorem d_M_beyond_61 : decode b_M_beyond 61 = .ok (.ifCond .ne 7, 3) := by decide +kernel
theorem d_M_beyond_64 : decode b_M_beyond 64 = .ok (.iconst (-1), 1) := by decide +kernel
theorem d_M_beyond_65 : decode b_M_beyond 65 = .ok (.goto 9, 3) := by decide +kernel
theorem d_M_beyond_68 : decode b_M_beyond 68 = .ok (.iload_n 1, 1) := by decide +kernel
theorem d_M_beyond_69 : decode b_M_beyond 69 = .ok (.aload_n 0, 1) := by decide +kernel
theorem d_M_beyond_70 : decode b_M_beyond 70 = .ok (.getfield 35, 3) := by decide +kernel
theorem d_M_beyond_73 : decode b_M_beyond 73 = .ok (.isub, 1) := by decide +kernel
theorem d_M_beyond_74 : decode b_M_beyond 74 = .ok (.ireturn, 1) := by decide +kernel
theorem d_M_beyond_75 : decode b_M_beyond 75 = .ok (.iload 4, 2) := by decide +kernel
theorem d_M_beyond_77 : decode b_M_beyond 77 = .ok (.aload_n 0, 1) := by decide +kernel
theorem d_M_beyond_78 : decode b_M_beyond 78 = .ok (.getfield 39, 3) := by decide +kernel
theorem d_M_beyond_81 : decode b_M_beyond 81 = .ok (.iconst 1, 1) := by decide +kernel
theorem d_M_beyond_82 : decode b_M_beyond 82 = .ok (.isub, 1) := by decide +kernel
theorem d_M_beyond_83 : decode b_M_beyond 83 = .ok (.if_icmp .ne 7, 3) := by decide +kernel
theorem d_M_beyond_86 : decode b_M_beyond 86 = .ok (.iconst (-1), 1) := by decide +kernel
theorem d_M_beyond_87 : decode b_M_beyond 87 = .ok (.goto 9, 3) := by decide +kernel
theorem d_M_beyond_90 : decode b_M_beyond 90 = .ok (.iload_n 1, 1) := by decide +kernel
theorem d_M_beyond_91 : decode b_M_beyond 91 = .ok (.aload_n 0, 1) := by decide +kernel
theorem d_M_beyond_92 : decode b_M_beyond 92 = .ok (.getfield 35, 3) := by decide +kernel
theorem d_M_beyond_95 : decode b_M_beyond 95 = .ok (.iadd, 1) := by decide +kernel
theorem d_M_beyond_96 : decode b_M_beyond 96 = .ok (.ireturn, 1) := by decide +kernel
theorem d_M_from_0 : decode b_M_from 0 = .ok (.aload_n 0, 1) := by decide +kernel
theorem d_M_from_1 : decode b_M_from 1 = .ok (.getfield 7, 3) := by decide +kernel
theorem d_M_from_4 : decode b_M_from 4 = .ok (.iconst 2, 1) := by decide +kernel
theorem d_M_from_5 : decode b_M_from 5 = .ok (.iload_n 1, 1) := by decide +kernel
theorem d_M_from_6 : decode b_M_from 6 = .ok (.iconst 2, 1) := by decide +kernel
theorem d_M_from_7 : decode b_M_from 7 = .ok (.idiv, 1) := by decide +kernel
theorem d_M_from_8 : decode b_M_from 8 = .ok (.bipush 6, 2) := by decide +kernel
theorem d_M_from_10 : decode b_M_from 10 = .ok (.irem, 1) := by decide +kernel
theorem d_M_from_11 : decode b_M_from 11 = .ok (.imul, 1) := by decide +kernel
theorem d_M_from_12 : decode b_M_from 12 = .ok (.iload_n 1, 1) := by decide +kernel
theorem d_M_from_13 : decode b_M_from 13 = .ok (.iconst 2, 1) := by decide +kernel
theorem d_M_from_14 : decode b_M_from 14 = .ok (.irem, 1) := by decide +kernel
theorem d_M_from_15 : decode b_M_from 15 = .ok (.iadd, 1) := by decide +kernel
theorem d_M_from_16 : decode b_M_from 16 = .ok (.iaload, 1) := by decide +kernel
theorem d_M_from_17 : decode b_M_from 17 = .ok (.ireturn, 1) := by decide +kernel
theorem d_M_other_0 : decode b_M_other 0 = .ok (.iload_n 0, 1) := by decide +kernel
theorem d_M_other_1 : decode b_M_other 1 = .ok (.iconst 2, 1) := by decide +kernel
theorem d_M_other_2 : decode b_M_other 2 = .ok (.if_icmp .ge 9, 3) := by decide +kernel
theorem d_M_other_5 : decode b_M_other 5 = .ok (.iconst 1, 1) := by decide +kernel
theorem d_M_other_6 : decode b_M_other 6 = .ok (.iload_n 0, 1) := by decide +kernel
theorem d_M_other_7 : decode b_M_other 7 = .ok (.isub, 1) := by decide +kernel
theorem d_M_other_8 : decode b_M_other 8 = .ok (.goto 6, 3) := by decide +kernel
theorem d_M_other_11 : decode b_M_other 11 = .ok (.iconst 5, 1) := by decide +kernel
theorem d_M_other_12 : decode b_M_other 12 = .ok (.iload_n 0, 1) := by decide +kernel
theorem d_M_other_13 : decode b_M_other 13 = .ok (.isub, 1) := by decide +kernel
theorem d_M_other_14 : decode b_M_other 14 = .ok (.ireturn, 1) := by decide +kernel
theorem d_M_before_0 : decode b_M_before 0 = .ok (.aload_n 0, 1) := by decide +kernel
theorem d_M_before_1 : decode b_M_before 1 = .ok (.iconst 0, 1) := by decide +kernel
theorem d_M_before_2 : decode b_M_before 2 = .ok (.putfield 42, 3) := by decide +kernel
theorem d_M_before_5 : decode b_M_before 5 = .ok (.aload_n 0, 1) := by decide +kernel
theorem d_M_before_6 : decode b_M_before 6 = .ok (.iload_n 1, 1) := by decide +kernel
theorem d_M_before_7 : decode b_M_before 7 = .ok (.invokevirtual 75, 3) := by decide +kernel
theorem d_M_before_10 : decode b_M_before 10 = .ok (.ifCond .ne 5, 3) := by decide +kernel
theorem d_M_before_13 : decode b_M_before 13 = .ok (.iconst (-1), 1) := by decide +kernel
theorem d_M_before_14 : decode b_M_before 14 = .ok (.ireturn, 1) := by decide +kernel
theorem d_M_before_15 : decode b_M_before 15 = .ok (.iconst (-1), 1) := by decide +kernel
theorem d_M_before_16 : decode b_M_before 16 = .ok (.istore_n 2, 1) := by decide +kernel
theorem d_M_before_17 : decode b_M_before 17 = .ok (.iconst 0, 1) := by decide +kernel
theorem d_M_before_18 : decode b_M_before 18 = .ok (.istore_n 3, 1) := by decide +kernel
theorem d_M_before_19 : decode b_M_before 19 = .ok (.iload_n 3, 1) := by decide +kernel
theorem d_M_before_20 : decode b_M_before 20 = .ok (.aload_n 0, 1) := by decide +kernel
theorem d_M_before_21 : decode b_M_before 21 = .ok (.getfield 52, 3) := by decide +kernel
theorem d_M_before_24 : decode b_M_before 24 = .ok (.if_icmp .ge 76, 3) := by decide +kernel
theorem d_M_before_27 : decode b_M_before 27 = .ok (.iconst 0, 1) := by decide +kernel
theorem d_M_before_28 : decode b_M_before 28 = .ok (.istore 4, 2) := by decide +kernel
theorem d_M_before_30 : decode b_M_before 30 = .ok (.iload 4, 2) := by decide +kernel
theorem d_M_before_32 : decode b_M_before 32 = .ok (.iconst 2, 1) := by decide +kernel
theorem d_M_before_33 : decode b_M_before 33 = .ok (.if_icmp .ge 61, 3) := by decide +kernel
theorem d_M_before_36 : decode b_M_before 36 = .ok (.iconst 2, 1) := by decide +kernel
theorem d_M_before_37 : decode b_M_before 37 = .ok (.aload_n 0, 1) := by decide +kernel
theorem d_M_before_38 : decode b_M_before 38 = .ok (.getfield 23, 3) := by decide +kernel
theorem d_M_before_41 : decode b_M_before 41 = .ok (.iload_n 3, 1) := by decide +kernel
theorem d_M_before_42 : decode b_M_before 42 = .ok (.iaload, 1) := by decide +kernel
theorem d_M_before_43 : decode b_M_before 43 = .ok (.imul, 1) := by decide +kernel
theorem d_M_before_44 : decode b_M_before 44 = .ok (.iload 4, 2) := by decide +kernel
theorem d_M_before_46 : decode b_M_before 46 = .ok (.iadd, 1) := by decide +kernel
theorem d_M_before_47 : decode b_M_before 47 = .ok (.istore 5, 2) := by decide +kernel
theorem d_M_before_49 : decode b_M_before 49 = .ok (.aload_n 0, 1) := by decide +kernel
theorem d_M_before_50 : decode b_M_before 50 = .ok (.iload 5, 2) := by decide +kernel
theorem d_M_before_52 : decode b_M_before 52 = .ok (.invokevirtual 75, 3) := by decide +kernel
theorem d_M_before_55 : decode b_M_before 55 = .ok (.ifCond .eq 33, 3) := by decide +kernel
theorem d_M_before_58 : decode b_M_before 58 = .ok (.aload_n 0, 1) := by decide +kernel
theorem d_M_before_59 : decode b_M_before 59 = .ok (.iload 5, 2) := by decide +kernel
theorem d_M_before_61 : decode b_M_before 61 = .ok (.iload_n 1, 1) := by decide +kernel
theorem d_M_before_62 : decode b_M_before 62 = .ok (.iconst 2, 1) := by decide +kernel
theorem d_M_before_63 : decode b_M_before 63 = .ok (.idiv, 1) := by decide +kernel
theorem d_M_before_64 : decode b_M_before 64 = .ok (.bipush 6, 2) := by decide +kernel
theorem d_M_before_66 : decode b_M_before 66 = .ok (.irem, 1) := by decide +kernel
theorem d_M_before_67 : decode b_M_before 67 = .ok (.invokevirtual 78, 3) := by decide +kernel
theorem d_M_before_70 : decode b_M_before 70 = .ok (.iload_n 1, 1) := by decide +kernel
theorem d_M_before_71 : decode b_M_before 71 = .ok (.if_icmp .ne 17, 3) := by decide +kernel
theorem d_M_before_74 : decode b_M_before 74 = .ok (.iload_n 2, 1) := by decide +kernel
theorem d_M_before_75 : decode b_M_before 75 = .ok (.iconst (-1), 1) := by decide +kernel
theorem d_M_before_76 : decode b_M_before 76 = .ok (.if_icmp .eq 9, 3) := by decide +kernel
theorem d_M_before_79 : decode b_M_before 79 = .ok (.iload 5, 2) := by decide +kernel
theorem d_M_before_81 : decode b_M_before 81 = .ok (.iload_n 2, 1) := by decide +kernel
theorem d_M_before_82 : decode b_M_before 82 = .ok (.if_icmp .ge 6, 3) := by decide +kernel
theorem d_M_before_85 : decode b_M_before 85 = .ok (.iload 5, 2) := by decide +kernel
theorem d_M_before_87 : decode b_M_before 87 = .ok (.istore_n 2, 1) := by decide +kernel
theorem d_M_before_88 : decode b_M_before 88 = .ok (.iinc 4 1, 3) := by decide +kernel
theorem d_M_before_91 : decode b_M_before 91 = .ok (.goto (-61), 3) := by decide +kernel
theorem d_M_before_94 : decode b_M_before 94 = .ok (.iinc 3 1, 3) := by decide +kernel
theorem d_M_before_97 : decode b_M_before 97 = .ok (.goto (-78), 3) := by decide +kernel
theorem d_M_before_100 : decode b_M_before 100 = .ok (.iload_n 2, 1) := by decide +kernel
