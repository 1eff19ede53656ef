/-! DECODE rows, by program -/
theorem d_A_init_0 : decode b_A_init 0 = .ok (.aload_n 0, 1) := by decide +kernel
theorem d_A_init_1 : decode b_A_init 1 = .ok (.invokespecial 3, 3) := by decide +kernel
theorem d_A_init_4 : decode b_A_init 4 = .ok (.aload_n 0, 1) := by decide +kernel
theorem d_A_init_5 : decode b_A_init 5 = .ok (.iconst 4, 1) := by decide +kernel
theorem d_A_init_6 : decode b_A_init 6 = .ok (.iload_n 1, 1) := by decide +kernel
theorem d_A_init_7 : decode b_A_init 7 = .ok (.imul, 1) := by decide +kernel
theorem d_A_init_8 : decode b_A_init 8 = .ok (.iload_n 2, 1) := by decide +kernel
theorem d_A_init_9 : decode b_A_init 9 = .ok (.imul, 1) := by decide +kernel
theorem d_A_init_10 : decode b_A_init 10 = .ok (.newarray .int, 2) := by decide +kernel
theorem d_A_init_12 : decode b_A_init 12 = .ok (.putfield 11, 3) := by decide +kernel
theorem d_A_init_15 : decode b_A_init 15 = .ok (.aload_n 0, 1) := by decide +kernel
theorem d_A_init_16 : decode b_A_init 16 = .ok (.bipush 6, 2) := by decide +kernel
theorem d_A_init_18 : decode b_A_init 18 = .ok (.iload_n 1, 1) := by decide +kernel
theorem d_A_init_19 : decode b_A_init 19 = .ok (.imul, 1) := by decide +kernel
theorem d_A_init_20 : decode b_A_init 20 = .ok (.iload_n 2, 1) := by decide +kernel
theorem d_A_init_21 : decode b_A_init 21 = .ok (.imul, 1) := by decide +kernel
theorem d_A_init_22 : decode b_A_init 22 = .ok (.newarray .int, 2) := by decide +kernel
theorem d_A_init_24 : decode b_A_init 24 = .ok (.putfield 15, 3) := by decide +kernel
theorem d_A_init_27 : decode b_A_init 27 = .ok (.iconst 0, 1) := by decide +kernel
theorem d_A_init_28 : decode b_A_init 28 = .ok (.istore_n 3, 1) := by decide +kernel
theorem d_A_init_29 : decode b_A_init 29 = .ok (.iload_n 3, 1) := by decide +kernel
theorem d_A_init_30 : decode b_A_init 30 = .ok (.iload_n 2, 1) := by decide +kernel
theorem d_A_init_31 : decode b_A_init 31 = .ok (.if_icmp .ge 132, 3) := by decide +kernel
theorem d_A_init_34 : decode b_A_init 34 = .ok (.iconst 0, 1) := by decide +kernel
theorem d_A_init_35 : decode b_A_init 35 = .ok (.istore 4, 2) := by decide +kernel
theorem d_A_init_37 : decode b_A_init 37 = .ok (.iload 4, 2) := by decide +kernel
theorem d_A_init_39 : decode b_A_init 39 = .ok (.iload_n 1, 1) := by decide +kernel
theorem d_A_init_40 : decode b_A_init 40 = .ok (.if_icmp .ge 117, 3) := by decide +kernel
theorem d_A_init_43 : decode b_A_init 43 = .ok (.iload_n 1, 1) := by decide +kernel
theorem d_A_init_44 : decode b_A_init 44 = .ok (.iload_n 3, 1) := by decide +kernel
theorem d_A_init_45 : decode b_A_init 45 = .ok (.imul, 1) := by decide +kernel
theorem d_A_init_46 : decode b_A_init 46 = .ok (.iload 4, 2) := by decide +kernel
theorem d_A_init_48 : decode b_A_init 48 = .ok (.iadd, 1) := by decide +kernel
theorem d_A_init_49 : decode b_A_init 49 = .ok (.istore 5, 2) := by decide +kernel
theorem d_A_init_51 : decode b_A_init 51 = .ok (.aload_n 0, 1) := by decide +kernel
theorem d_A_init_52 : decode b_A_init 52 = .ok (.getfield 11, 3) := by decide +kernel
theorem d_A_init_55 : decode b_A_init 55 = .ok (.iconst 4, 1) := by decide +kernel
theorem d_A_init_56 : decode b_A_init 56 = .ok (.iload 5, 2) := by decide +kernel
theorem d_A_init_58 : decode b_A_init 58 = .ok (.imul, 1) := by decide +kernel
theorem d_A_init_59 : decode b_A_init 59 = .ok (.iconst 0, 1) := by decide +kernel
theorem d_A_init_60 : decode b_A_init 60 = .ok (.iadd, 1) := by decide +kernel
theorem d_A_init_61 : decode b_A_init 61 = .ok (.iload 4, 2) := by decide +kernel
theorem d_A_init_63 : decode b_A_init 63 = .ok (.ifCond .le 10, 3) := by decide +kernel
theorem d_A_init_66 : decode b_A_init 66 = .ok (.iload 5, 2) := by decide +kernel
theorem d_A_init_68 : decode b_A_init 68 = .ok (.iconst 1, 1) := by decide +kernel
theorem d_A_init_69 : decode b_A_init 69 = .ok (.isub, 1) := by decide +kernel
theorem d_A_init_70 : decode b_A_init 70 = .ok (.goto 4, 3) := by decide +kernel
theorem d_A_init_73 : decode b_A_init 73 = .ok (.iconst (-1), 1) := by decide +kernel
theorem d_A_init_74 : decode b_A_init 74 = .ok (.iastore, 1) := by decide +kernel
theorem d_A_init_75 : decode b_A_init 75 = .ok (.aload_n 0, 1) := by decide +kernel
theorem d_A_init_76 : decode b_A_init 76 = .ok (.getfield 11, 3) := by decide +kernel
theorem d_A_init_79 : decode b_A_init 79 = .ok (.iconst 4, 1) := by decide +kernel
theorem d_A_init_80 : decode b_A_init 80 = .ok (.iload 5, 2) := by decide +kernel
theorem d_A_init_82 : decode b_A_init 82 = .ok (.imul, 1) := by decide +kernel
theorem d_A_init_83 : decode b_A_init 83 = .ok (.iconst 1, 1) := by decide +kernel
theorem d_A_init_84 : decode b_A_init 84 = .ok (.iadd, 1) := by decide +kernel
theorem d_A_init_85 : decode b_A_init 85 = .ok (.iload_n 3, 1) := by decide +kernel
theorem d_A_init_86 : decode b_A_init 86 = .ok (.ifCond .le 10, 3) := by decide +kernel
theorem d_A_init_89 : decode b_A_init 89 = .ok (.iload 5, 2) := by decide +kernel
theorem d_A_init_91 : decode b_A_init 91 = .ok (.iload_n 1, 1) := by decide +kernel
theorem d_A_init_92 : decode b_A_init 92 = .ok (.isub, 1) := by decide +kernel
theorem d_A_init_93 : decode b_A_init 93 = .ok (.goto 4, 3) := by decide +kernel
theorem d_A_init_96 : decode b_A_init 96 = .ok (.iconst (-1), 1) := by decide +kernel
theorem d_A_init_97 : decode b_A_init 97 = .ok (.iastore, 1) := by decide +kernel
theorem d_A_init_98 : decode b_A_init 98 = .ok (.aload_n 0, 1) := by decide +kernel
theorem d_A_init_99 : decode b_A_init 99 = .ok (.getfield 11, 3) := by decide +kernel
theorem d_A_init_102 : decode b_A_init 102 = .ok (.iconst 4, 1) := by decide +kernel
theorem d_A_init_103 : decode b_A_init 103 = .ok (.iload 5, 2) := by decide +kernel
theorem d_A_init_105 : decode b_A_init 105 = .ok (.imul, 1) := by decide +kernel
theorem d_A_init_106 : decode b_A_init 106 = .ok (.iconst 2, 1) := by decide +kernel
theorem d_A_init_107 : decode b_A_init 107 = .ok (.iadd, 1) := by decide +kernel
theorem d_A_init_108 : decode b_A_init 108 = .ok (.iload 4, 2) := by decide +kernel
theorem d_A_init_110 : decode b_A_init 110 = .ok (.iload_n 1, 1) := by decide +kernel
theorem d_A_init_111 : decode b_A_init 111 = .ok (.iconst 1, 1) := by decide +kernel
theorem d_A_init_112 : decode b_A_init 112 = .ok (.isub, 1) := by decide +kernel
theorem d_A_init_113 : decode b_A_init 113 = .ok (.if_icmp .ge 10, 3) := by decide +kernel
theorem d_A_init_116 : decode b_A_init 116 = .ok (.iload 5, 2) := by decide +kernel
theorem d_A_init_118 : decode b_A_init 118 = .ok (.iconst 1, 1) := by decide +kernel
theorem d_A_init_119 : decode b_A_init 119 = .ok (.iadd, 1) := by decide +kernel
theorem d_A_init_120 : decode b_A_init 120 = .ok (.goto 4, 3) := by decide +kernel
theorem d_A_init_123 : decode b_A_init 123 = .ok (.iconst (-1), 1) := by decide +kernel
theorem d_A_init_124 : decode b_A_init 124 = .ok (.iastore, 1) := by decide +kernel
theorem d_A_init_125 : decode b_A_init 125 = .ok (.aload_n 0, 1) := by decide +kernel
theorem d_A_init_126 : decode b_A_init 126 = .ok (.getfield 11, 3) := by decide +kernel
theorem d_A_init_129 : decode b_A_init 129 = .ok (.iconst 4, 1) := by decide +kernel
theorem d_A_init_130 : decode b_A_init 130 = .ok (.iload 5, 2) := by decide +kernel
theorem d_A_init_132 : decode b_A_init 132 = .ok (.imul, 1) := by decide +kernel
theorem d_A_init_133 : decode b_A_init 133 = .ok (.iconst 3, 1) := by decide +kernel
theorem d_A_init_134 : decode b_A_init 134 = .ok (.iadd, 1) := by decide +kernel
theorem d_A_init_135 : decode b_A_init 135 = .ok (.iload_n 3, 1) := by decide +kernel
theorem d_A_init_136 : decode b_A_init 136 = .ok (.iload_n 2, 1) := by decide +kernel
theorem d_A_init_137 : decode b_A_init 137 = .ok (.iconst 1, 1) := by decide +kernel
theorem d_A_init_138 : decode b_A_init 138 = .ok (.isub, 1) := by decide +kernel
theorem d_A_init_139 : decode b_A_init 139 = .ok (.if_icmp .ge 10, 3) := by decide +kernel
theorem d_A_init_142 : decode b_A_init 142 = .ok (.iload 5, 2) := by decide +kernel
theorem d_A_init_144 : decode b_A_init 144 = .ok (.iload_n 1, 1) := by decide +kernel
theorem d_A_init_145 : decode b_A_init 145 = .ok (.iadd, 1) := by decide +kernel
theorem d_A_init_146 : decode b_A_init 146 = .ok (.goto 4, 3) := by decide +kernel
theorem d_A_init_149 : decode b_A_init 149 = .ok (.iconst (-1), 1) := by decide +kernel
theorem d_A_init_150 : decode b_A_init 150 = .ok (.iastore, 1) := by decide +kernel
theorem d_A_init_151 : decode b_A_init 151 = .ok (.iinc 4 1, 3) := by decide +kernel
theorem d_A_init_154 : decode b_A_init 154 = .ok (.goto (-117), 3) := by decide +kernel
theorem d_A_init_157 : decode b_A_init 157 = .ok (.iinc 3 1, 3) := by decide +kernel
theorem d_A_init_160 : decode b_A_init 160 = .ok (.goto (-131), 3) := by decide +kernel
theorem d_A_init_163 : decode b_A_init 163 = .ok (.return_, 1) := by decide +kernel
theorem d_Q_init_0 : decode b_Q_init 0 = .ok (.aload_n 0, 1) := by decide +kernel
theorem d_Q_init_1 : decode b_Q_init 1 = .ok (.invokespecial 3, 3) := by decide +kernel
theorem d_Q_init_4 : decode b_Q_init 4 = .ok (.aload_n 0, 1) := by decide +kernel
theorem d_Q_init_5 : decode b_Q_init 5 = .ok (.iconst 0, 1) := by decide +kernel
theorem d_Q_init_6 : decode b_Q_init 6 = .ok (.iload_n 1, 1) := by decide +kernel
theorem d_Q_init_7 : decode b_Q_init 7 = .ok (.invokestatic 9, 3) := by decide +kernel
theorem d_Q_init_10 : decode b_Q_init 10 = .ok (.newarray .int, 2) := by decide +kernel
theorem d_Q_init_12 : decode b_Q_init 12 = .ok (.putfield 15, 3) := by decide +kernel
theorem d_Q_init_15 : decode b_Q_init 15 = .ok (.return_, 1) := by decide +kernel
theorem d_A_hasTile_0 : decode b_A_hasTile 0 = .ok (.iload_n 1, 1) := by decide +kernel
theorem d_A_hasTile_1 : decode b_A_hasTile 1 = .ok (.ifCond .lt 19, 3) := by decide +kernel
theorem d_A_hasTile_4 : decode b_A_hasTile 4 = .ok (.iload_n 1, 1) := by decide +kernel
theorem d_A_hasTile_5 : decode b_A_hasTile 5 = .ok (.aload_n 0, 1) := by decide +kernel
theorem d_A_hasTile_6 : decode b_A_hasTile 6 = .ok (.getfield 15, 3) := by decide +kernel
theorem d_A_hasTile_9 : decode b_A_hasTile 9 = .ok (.arraylength, 1) := by decide +kernel
theorem d_A_hasTile_10 : decode b_A_hasTile 10 = .ok (.bipush 6, 2) := by decide +kernel
theorem d_A_hasTile_12 : decode b_A_hasTile 12 = .ok (.idiv, 1) := by decide +kernel
theorem d_A_hasTile_13 : decode b_A_hasTile 13 = .ok (.if_icmp .ge 7, 3) := by decide +kernel
theorem d_A_hasTile_16 : decode b_A_hasTile 16 = .ok (.iconst 1, 1) := by decide +kernel
theorem d_A_hasTile_17 : decode b_A_hasTile 17 = .ok (.goto 4, 3) := by decide +kernel
theorem d_A_hasTile_20 : decode b_A_hasTile 20 = .ok (.iconst 0, 1) := by decide +kernel
theorem d_A_hasTile_21 : decode b_A_hasTile 21 = .ok (.ireturn, 1) := by decide +kernel
theorem d_A_kindsIn_0 : decode b_A_kindsIn 0 = .ok (.iconst 0, 1) := by decide +kernel
theorem d_A_kindsIn_1 : decode b_A_kindsIn 1 = .ok (.istore_n 2, 1) := by decide +kernel
theorem d_A_kindsIn_2 : decode b_A_kindsIn 2 = .ok (.iconst 0, 1) := by decide +kernel
theorem d_A_kindsIn_3 : decode b_A_kindsIn 3 = .ok (.istore_n 3, 1) := by decide +kernel
theorem d_A_kindsIn_4 : decode b_A_kindsIn 4 = .ok (.iload_n 3, 1) := by decide +kernel
theorem d_A_kindsIn_5 : decode b_A_kindsIn 5 = .ok (.bipush 6, 2) := by decide +kernel
theorem d_A_kindsIn_7 : decode b_A_kindsIn 7 = .ok (.if_icmp .ge 28, 3) := by decide +kernel
theorem d_A_kindsIn_10 : decode b_A_kindsIn 10 = .ok (.aload_n 0, 1) := by decide +kernel
theorem d_A_kindsIn_11 : decode b_A_kindsIn 11 = .ok (.bipush 6, 2) := by decide +kernel
theorem d_A_kindsIn_13 : decode b_A_kindsIn 13 = .ok (.iload_n 1, 1) := by decide +kernel
theorem d_A_kindsIn_14 : decode b_A_kindsIn 14 = .ok (.imul, 1) := by decide +kernel
theorem d_A_kindsIn_15 : decode b_A_kindsIn 15 = .ok (.iload_n 3, 1) := by decide +kernel
theorem d_A_kindsIn_16 : decode b_A_kindsIn 16 = .ok (.iadd, 1) := by decide +kernel
theorem d_A_kindsIn_17 : decode b_A_kindsIn 17 = .ok (.invokevirtual 18, 3) := by decide +kernel
theorem d_A_kindsIn_20 : decode b_A_kindsIn 20 = .ok (.ifCond .eq 9, 3) := by decide +kernel
theorem d_A_kindsIn_23 : decode b_A_kindsIn 23 = .ok (.iload_n 2, 1) := by decide +kernel
theorem d_A_kindsIn_24 : decode b_A_kindsIn 24 = .ok (.iconst 1, 1) := by decide +kernel
theorem d_A_kindsIn_25 : decode b_A_kindsIn 25 = .ok (.iload_n 3, 1) := by decide +kernel
theorem d_A_kindsIn_26 : decode b_A_kindsIn 26 = .ok (.ishl, 1) := by decide +kernel
theorem d_A_kindsIn_27 : decode b_A_kindsIn 27 = .ok (.ior, 1) := by decide +kernel
theorem d_A_kindsIn_28 : decode b_A_kindsIn 28 = .ok (.istore_n 2, 1) := by decide +kernel
theorem d_A_kindsIn_29 : decode b_A_kindsIn 29 = .ok (.iinc 3 1, 3) := by decide +kernel
theorem d_A_kindsIn_32 : decode b_A_kindsIn 32 = .ok (.goto (-28), 3) := by decide +kernel
theorem d_A_kindsIn_35 : decode b_A_kindsIn 35 = .ok (.iload_n 2, 1) := by decide +kernel
theorem d_A_kindsIn_36 : decode b_A_kindsIn 36 = .ok (.ireturn, 1) := by decide +kernel
theorem d_A_isThere_0 : decode b_A_isThere 0 = .ok (.aload_n 0, 1) := by decide +kernel
theorem d_A_isThere_1 : decode b_A_isThere 1 = .ok (.getfield 15, 3) := by decide +kernel
theorem d_A_isThere_4 : decode b_A_isThere 4 = .ok (.iload_n 1, 1) := by decide +kernel
theorem d_A_isThere_5 : decode b_A_isThere 5 = .ok (.iaload, 1) := by decide +kernel
theorem d_A_isThere_6 : decode b_A_isThere 6 = .ok (.ifCond .eq 7, 3) := by decide +kernel
theorem d_A_isThere_9 : decode b_A_isThere 9 = .ok (.iconst 1, 1) := by decide +kernel
theorem d_A_isThere_10 : decode b_A_isThere 10 = .ok (.goto 4, 3) := by decide +kernel
theorem d_A_isThere_13 : decode b_A_isThere 13 = .ok (.iconst 0, 1) := by decide +kernel
theorem d_A_isThere_14 : decode b_A_isThere 14 = .ok (.ireturn, 1) := by decide +kernel
theorem d_A_isOpen_0 : decode b_A_isOpen 0 = .ok (.iload_n 1, 1) := by decide +kernel
theorem d_A_isOpen_1 : decode b_A_isOpen 1 = .ok (.ifCond .lt 38, 3) := by decide +kernel
theorem d_A_isOpen_4 : decode b_A_isOpen 4 = .ok (.iload_n 1, 1) := by decide +kernel
theorem d_A_isOpen_5 : decode b_A_isOpen 5 = .ok (.iconst 2, 1) := by decide +kernel
theorem d_A_isOpen_6 : decode b_A_isOpen 6 = .ok (.aload_n 0, 1) := by decide +kernel
theorem d_A_isOpen_7 : decode b_A_isOpen 7 = .ok (.getfield 15, 3) := by decide +kernel
theorem d_A_isOpen_10 : decode b_A_isOpen 10 = .ok (.arraylength, 1) := by decide +kernel
theorem d_A_isOpen_11 : decode b_A_isOpen 11 = .ok (.imul, 1) := by decide +kernel
theorem d_A_isOpen_12 : decode b_A_isOpen 12 = .ok (.if_icmp .ge 27, 3) := by decide +kernel
theorem d_A_isOpen_15 : decode b_A_isOpen 15 = .ok (.aload_n 0, 1) := by decide +kernel
theorem d_A_isOpen_16 : decode b_A_isOpen 16 = .ok (.iload_n 1, 1) := by decide +kernel
theorem d_A_isOpen_17 : decode b_A_isOpen 17 = .ok (.iconst 2, 1) := by decide +kernel
theorem d_A_isOpen_18 : decode b_A_isOpen 18 = .ok (.idiv, 1) := by decide +kernel
theorem d_A_isOpen_19 : decode b_A_isOpen 19 = .ok (.invokevirtual 18, 3) := by decide +kernel
theorem d_A_isOpen_22 : decode b_A_isOpen 22 = .ok (.ifCond .eq 17, 3) := by decide +kernel
theorem d_A_isOpen_25 : decode b_A_isOpen 25 = .ok (.aload_n 0, 1) := by decide +kernel
theorem d_A_isOpen_26 : decode b_A_isOpen 26 = .ok (.iload_n 1, 1) := by decide +kernel
theorem d_A_isOpen_27 : decode b_A_isOpen 27 = .ok (.iconst 1, 1) := by decide +kernel
theorem d_A_isOpen_28 : decode b_A_isOpen 28 = .ok (.ixor, 1) := by decide +kernel
theorem d_A_isOpen_29 : decode b_A_isOpen 29 = .ok (.invokevirtual 26, 3) := by decide +kernel
theorem d_A_isOpen_32 : decode b_A_isOpen 32 = .ok (.ifCond .ne 7, 3) := by decide +kernel
theorem d_A_isOpen_35 : decode b_A_isOpen 35 = .ok (.iconst 1, 1) := by decide +kernel
theorem d_A_isOpen_36 : decode b_A_isOpen 36 = .ok (.goto 4, 3) := by decide +kernel
theorem d_A_isOpen_39 : decode b_A_isOpen 39 = .ok (.iconst 0, 1) := by decide +kernel
theorem d_A_isOpen_40 : decode b_A_isOpen 40 = .ok (.ireturn, 1) := by decide +kernel
theorem d_A_hasSignal_0 : decode b_A_hasSignal 0 = .ok (.aload_n 0, 1) := by decide +kernel
theorem d_A_hasSignal_1 : decode b_A_hasSignal 1 = .ok (.iload_n 1, 1) := by decide +kernel
theorem d_A_hasSignal_2 : decode b_A_hasSignal 2 = .ok (.iconst 2, 1) := by decide +kernel
theorem d_A_hasSignal_3 : decode b_A_hasSignal 3 = .ok (.idiv, 1) := by decide +kernel
theorem d_A_hasSignal_4 : decode b_A_hasSignal 4 = .ok (.invokevirtual 22, 3) := by decide +kernel
theorem d_A_hasSignal_7 : decode b_A_hasSignal 7 = .ok (.istore_n 2, 1) := by decide +kernel
theorem d_A_hasSignal_8 : decode b_A_hasSignal 8 = .ok (.iload_n 2, 1) := by decide +kernel
theorem d_A_hasSignal_9 : decode b_A_hasSignal 9 = .ok (.ifCond .eq 18, 3) := by decide +kernel
theorem d_A_hasSignal_12 : decode b_A_hasSignal 12 = .ok (.iload_n 2, 1) := by decide +kernel
theorem d_A_hasSignal_13 : decode b_A_hasSignal 13 = .ok (.iconst 1, 1) := by decide +kernel
theorem d_A_hasSignal_14 : decode b_A_hasSignal 14 = .ok (.isub, 1) := by decide +kernel
theorem d_A_hasSignal_15 : decode b_A_hasSignal 15 = .ok (.iconst 1, 1) := by decide +kernel
theorem d_A_hasSignal_16 : decode b_A_hasSignal 16 = .ok (.iand, 1) := by decide +kernel
theorem d_A_hasSignal_17 : decode b_A_hasSignal 17 = .ok (.iload_n 1, 1) := by decide +kernel
theorem d_A_hasSignal_18 : decode b_A_hasSignal 18 = .ok (.iconst 1, 1) := by decide +kernel
theorem d_A_hasSignal_19 : decode b_A_hasSignal 19 = .ok (.iand, 1) := by decide +kernel
theorem d_A_hasSignal_20 : decode b_A_hasSignal 20 = .ok (.if_icmp .ne 7, 3) := by decide +kernel
theorem d_A_hasSignal_23 : decode b_A_hasSignal 23 = .ok (.iconst 1, 1) := by decide +kernel
theorem d_A_hasSignal_24 : decode b_A_hasSignal 24 = .ok (.goto 4, 3) := by decide +kernel
theorem d_A_hasSignal_27 : decode b_A_hasSignal 27 = .ok (.iconst 0, 1) := by decide +kernel
theorem d_A_hasSignal_28 : decode b_A_hasSignal 28 = .ok (.ireturn, 1) := by decide +kernel
theorem d_A_signalOf_0 : decode b_A_signalOf 0 = .ok (.aload_n 0, 1) := by decide +kernel
theorem d_A_signalOf_1 : decode b_A_signalOf 1 = .ok (.getfield 15, 3) := by decide +kernel
theorem d_A_signalOf_4 : decode b_A_signalOf 4 = .ok (.iload_n 1, 1) := by decide +kernel
theorem d_A_signalOf_5 : decode b_A_signalOf 5 = .ok (.iaload, 1) := by decide +kernel
theorem d_A_signalOf_6 : decode b_A_signalOf 6 = .ok (.bipush 28, 2) := by decide +kernel
theorem d_A_signalOf_8 : decode b_A_signalOf 8 = .ok (.iand, 1) := by decide +kernel
theorem d_A_signalOf_9 : decode b_A_signalOf 9 = .ok (.iconst 2, 1) := by decide +kernel
theorem d_A_signalOf_10 : decode b_A_signalOf 10 = .ok (.ishr, 1) := by decide +kernel
theorem d_A_signalOf_11 : decode b_A_signalOf 11 = .ok (.ireturn, 1) := by decide +kernel
theorem d_A_ahead_0 : decode b_A_ahead 0 = .ok (.getstatic 32, 3) := by decide +kernel
theorem d_A_ahead_3 : decode b_A_ahead 3 = .ok (.iload_n 1, 1) := by decide +kernel
theorem d_A_ahead_4 : decode b_A_ahead 4 = .ok (.bipush 12, 2) := by decide +kernel
theorem d_A_ahead_6 : decode b_A_ahead 6 = .ok (.irem, 1) := by decide +kernel
theorem d_A_ahead_7 : decode b_A_ahead 7 = .ok (.iaload, 1) := by decide +kernel
theorem d_A_ahead_8 : decode b_A_ahead 8 = .ok (.istore_n 3, 1) := by decide +kernel
theorem d_A_ahead_9 : decode b_A_ahead 9 = .ok (.aload_n 0, 1) := by decide +kernel
theorem d_A_ahead_10 : decode b_A_ahead 10 = .ok (.getfield 11, 3) := by decide +kernel
theorem d_A_ahead_13 : decode b_A_ahead 13 = .ok (.iconst 4, 1) := by decide +kernel
theorem d_A_ahead_14 : decode b_A_ahead 14 = .ok (.iload_n 1, 1) := by decide +kernel
theorem d_A_ahead_15 : decode b_A_ahead 15 = .ok (.bipush 12, 2) := by decide +kernel
theorem d_A_ahead_17 : decode b_A_ahead 17 = .ok (.idiv, 1) := by decide +kernel
theorem d_A_ahead_18 : decode b_A_ahead 18 = .ok (.imul, 1) := by decide +kernel
theorem d_A_ahead_19 : decode b_A_ahead 19 = .ok (.iload_n 3, 1) := by decide +kernel
theorem d_A_ahead_20 : decode b_A_ahead 20 = .ok (.iadd, 1) := by decide +kernel
theorem d_A_ahead_21 : decode b_A_ahead 21 = .ok (.iaload, 1) := by decide +kernel
theorem d_A_ahead_22 : decode b_A_ahead 22 = .ok (.istore 4, 2) := by decide +kernel
theorem d_A_ahead_24 : decode b_A_ahead 24 = .ok (.iload 4, 2) := by decide +kernel
theorem d_A_ahead_26 : decode b_A_ahead 26 = .ok (.iconst (-1), 1) := by decide +kernel
theorem d_A_ahead_27 : decode b_A_ahead 27 = .ok (.if_icmp .ne 7, 3) := by decide +kernel
theorem d_A_ahead_30 : decode b_A_ahead 30 = .ok (.iconst (-1), 1) := by decide +kernel
theorem d_A_ahead_31 : decode b_A_ahead 31 = .ok (.goto 18, 3) := by decide +kernel
theorem d_A_ahead_34 : decode b_A_ahead 34 = .ok (.bipush 12, 2) := by decide +kernel
theorem d_A_ahead_36 : decode b_A_ahead 36 = .ok (.iload 4, 2) := by decide +kernel
theorem d_A_ahead_38 : decode b_A_ahead 38 = .ok (.imul, 1) := by decide +kernel
theorem d_A_ahead_39 : decode b_A_ahead 39 = .ok (.getstatic 35, 3) := by decide +kernel
theorem d_A_ahead_42 : decode b_A_ahead 42 = .ok (.iconst 3, 1) := by decide +kernel
theorem d_A_ahead_43 : decode b_A_ahead 43 = .ok (.iload_n 3, 1) := by decide +kernel
theorem d_A_ahead_44 : decode b_A_ahead 44 = .ok (.imul, 1) := by decide +kernel
theorem d_A_ahead_45 : decode b_A_ahead 45 = .ok (.iload_n 2, 1) := by decide +kernel
theorem d_A_ahead_46 : decode b_A_ahead 46 = .ok (.iadd, 1) := by decide +kernel
theorem d_A_ahead_47 : decode b_A_ahead 47 = .ok (.iaload, 1) := by decide +kernel
theorem d_A_ahead_48 : decode b_A_ahead 48 = .ok (.iadd, 1) := by decide +kernel
theorem d_A_ahead_49 : decode b_A_ahead 49 = .ok (.ireturn, 1) := by decide +kernel
theorem d_A_behind_0 : decode b_A_behind 0 = .ok (.aload_n 0, 1) := by decide +kernel
theorem d_A_behind_1 : decode b_A_behind 1 = .ok (.iload_n 1, 1) := by decide +kernel
theorem d_A_behind_2 : decode b_A_behind 2 = .ok (.iconst 1, 1) := by decide +kernel
theorem d_A_behind_3 : decode b_A_behind 3 = .ok (.ixor, 1) := by decide +kernel
theorem d_A_behind_4 : decode b_A_behind 4 = .ok (.iload_n 2, 1) := by decide +kernel
theorem d_A_behind_5 : decode b_A_behind 5 = .ok (.invokevirtual 38, 3) := by decide +kernel
theorem d_A_behind_8 : decode b_A_behind 8 = .ok (.istore_n 3, 1) := by decide +kernel
theorem d_A_behind_9 : decode b_A_behind 9 = .ok (.iload_n 3, 1) := by decide +kernel
theorem d_A_behind_10 : decode b_A_behind 10 = .ok (.iconst (-1), 1) := by decide +kernel
theorem d_A_behind_11 : decode b_A_behind 11 = .ok (.if_icmp .ne 7, 3) := by decide +kernel
theorem d_A_behind_14 : decode b_A_behind 14 = .ok (.iconst (-1), 1) := by decide +kernel
theorem d_A_behind_15 : decode b_A_behind 15 = .ok (.goto 6, 3) := by decide +kernel
theorem d_A_behind_18 : decode b_A_behind 18 = .ok (.iload_n 3, 1) := by decide +kernel
theorem d_A_behind_19 : decode b_A_behind 19 = .ok (.iconst 1, 1) := by decide +kernel
theorem d_A_behind_20 : decode b_A_behind 20 = .ok (.ixor, 1) := by decide +kernel
theorem d_A_behind_21 : decode b_A_behind 21 = .ok (.ireturn, 1) := by decide +kernel
theorem d_Q_clear_0 : decode b_Q_clear 0 = .ok (.aload_n 0, 1) := by decide +kernel
theorem d_Q_clear_1 : decode b_Q_clear 1 = .ok (.iconst 0, 1) := by decide +kernel
theorem d_Q_clear_2 : decode b_Q_clear 2 = .ok (.putfield 21, 3) := by decide +kernel
theorem d_Q_clear_5 : decode b_Q_clear 5 = .ok (.aload_n 0, 1) := by decide +kernel
theorem d_Q_clear_6 : decode b_Q_clear 6 = .ok (.iconst 0, 1) := by decide +kernel
theorem d_Q_clear_7 : decode b_Q_clear 7 = .ok (.putfield 25, 3) := by decide +kernel
theorem d_Q_clear_10 : decode b_Q_clear 10 = .ok (.return_, 1) := by decide +kernel
theorem d_Q_add_0 : decode b_Q_add 0 = .ok (.aload_n 0, 1) := by decide +kernel
theorem d_Q_add_1 : decode b_Q_add 1 = .ok (.getfield 25, 3) := by decide +kernel
theorem d_Q_add_4 : decode b_Q_add 4 = .ok (.aload_n 0, 1) := by decide +kernel
theorem d_Q_add_5 : decode b_Q_add 5 = .ok (.getfield 15, 3) := by decide +kernel
theorem d_Q_add_8 : decode b_Q_add 8 = .ok (.arraylength, 1) := by decide +kernel
theorem d_Q_add_9 : decode b_Q_add 9 = .ok (.if_icmp .ge 23, 3) := by decide +kernel
theorem d_Q_add_12 : decode b_Q_add 12 = .ok (.aload_n 0, 1) := by decide +kernel
theorem d_Q_add_13 : decode b_Q_add 13 = .ok (.getfield 15, 3) := by decide +kernel
theorem d_Q_add_16 : decode b_Q_add 16 = .ok (.aload_n 0, 1) := by decide +kernel
theorem d_Q_add_17 : decode b_Q_add 17 = .ok (.getfield 25, 3) := by decide +kernel
theorem d_Q_add_20 : decode b_Q_add 20 = .ok (.iload_n 1, 1) := by decide +kernel
theorem d_Q_add_21 : decode b_Q_add 21 = .ok (.iastore, 1) := by decide +kernel
theorem d_Q_add_22 : decode b_Q_add 22 = .ok (.aload_n 0, 1) := by decide +kernel
theorem d_Q_add_23 : decode b_Q_add 23 = .ok (.dup, 1) := by decide +kernel
theorem d_Q_add_24 : decode b_Q_add 24 = .ok (.getfield 25, 3) := by decide +kernel
theorem d_Q_add_27 : decode b_Q_add 27 = .ok (.iconst 1, 1) := by decide +kernel
theorem d_Q_add_28 : decode b_Q_add 28 = .ok (.iadd, 1) := by decide +kernel
theorem d_Q_add_29 : decode b_Q_add 29 = .ok (.putfield 25, 3) := by decide +kernel
theorem d_Q_add_32 : decode b_Q_add 32 = .ok (.return_, 1) := by decide +kernel
theorem d_Q_isEmpty_0 : decode b_Q_isEmpty 0 = .ok (.aload_n 0, 1) := by decide +kernel
theorem d_Q_isEmpty_1 : decode b_Q_isEmpty 1 = .ok (.getfield 21, 3) := by decide +kernel
theorem d_Q_isEmpty_4 : decode b_Q_isEmpty 4 = .ok (.aload_n 0, 1) := by decide +kernel
theorem d_Q_isEmpty_5 : decode b_Q_isEmpty 5 = .ok (.getfield 25, 3) := by decide +kernel
theorem d_Q_isEmpty_8 : decode b_Q_isEmpty 8 = .ok (.if_icmp .lt 7, 3) := by decide +kernel
theorem d_Q_isEmpty_11 : decode b_Q_isEmpty 11 = .ok (.iconst 1, 1) := by decide +kernel
theorem d_Q_isEmpty_12 : decode b_Q_isEmpty 12 = .ok (.goto 4, 3) := by decide +kernel
theorem d_Q_isEmpty_15 : decode b_Q_isEmpty 15 = .ok (.iconst 0, 1) := by decide +kernel
theorem d_Q_isEmpty_16 : decode b_Q_isEmpty 16 = .ok (.ireturn, 1) := by decide +kernel
theorem d_Q_take_0 : decode b_Q_take 0 = .ok (.aload_n 0, 1) := by decide +kernel
theorem d_Q_take_1 : decode b_Q_take 1 = .ok (.invokevirtual 28, 3) := by decide +kernel
theorem d_Q_take_4 : decode b_Q_take 4 = .ok (.ifCond .eq 5, 3) := by decide +kernel
theorem d_Q_take_7 : decode b_Q_take 7 = .ok (.iconst (-1), 1) := by decide +kernel
theorem d_Q_take_8 : decode b_Q_take 8 = .ok (.ireturn, 1) := by decide +kernel
theorem d_Q_take_9 : decode b_Q_take 9 = .ok (.aload_n 0, 1) := by decide +kernel
theorem d_Q_take_10 : decode b_Q_take 10 = .ok (.getfield 15, 3) := by decide +kernel
theorem d_Q_take_13 : decode b_Q_take 13 = .ok (.aload_n 0, 1) := by decide +kernel
theorem d_Q_take_14 : decode b_Q_take 14 = .ok (.getfield 21, 3) := by decide +kernel
theorem d_Q_take_17 : decode b_Q_take 17 = .ok (.iaload, 1) := by decide +kernel
theorem d_Q_take_18 : decode b_Q_take 18 = .ok (.istore_n 1, 1) := by decide +kernel
theorem d_Q_take_19 : decode b_Q_take 19 = .ok (.aload_n 0, 1) := by decide +kernel
theorem d_Q_take_20 : decode b_Q_take 20 = .ok (.dup, 1) := by decide +kernel
theorem d_Q_take_21 : decode b_Q_take 21 = .ok (.getfield 21, 3) := by decide +kernel
theorem d_Q_take_24 : decode b_Q_take 24 = .ok (.iconst 1, 1) := by decide +kernel
theorem d_Q_take_25 : decode b_Q_take 25 = .ok (.iadd, 1) := by decide +kernel
theorem d_Q_take_26 : decode b_Q_take 26 = .ok (.putfield 21, 3) := by decide +kernel
theorem d_Q_take_29 : decode b_Q_take 29 = .ok (.iload_n 1, 1) := by decide +kernel
theorem d_Q_take_30 : decode b_Q_take 30 = .ok (.ireturn, 1) := by decide +kernel
theorem d_A_stationOf_0 : decode b_A_stationOf 0 = .ok (.aload_n 0, 1) := by decide +kernel
theorem d_A_stationOf_1 : decode b_A_stationOf 1 = .ok (.getfield 15, 3) := by decide +kernel
theorem d_A_stationOf_4 : decode b_A_stationOf 4 = .ok (.iload_n 1, 1) := by decide +kernel
theorem d_A_stationOf_5 : decode b_A_stationOf 5 = .ok (.iaload, 1) := by decide +kernel
theorem d_A_stationOf_6 : decode b_A_stationOf 6 = .ok (.sipush 480, 3) := by decide +kernel
theorem d_A_stationOf_9 : decode b_A_stationOf 9 = .ok (.iand, 1) := by decide +kernel
theorem d_A_stationOf_10 : decode b_A_stationOf 10 = .ok (.iconst 5, 1) := by decide +kernel
theorem d_A_stationOf_11 : decode b_A_stationOf 11 = .ok (.ishr, 1) := by decide +kernel
theorem d_A_stationOf_12 : decode b_A_stationOf 12 = .ok (.iconst 1, 1) := by decide +kernel
theorem d_A_stationOf_13 : decode b_A_stationOf 13 = .ok (.isub, 1) := by decide +kernel
theorem d_A_stationOf_14 : decode b_A_stationOf 14 = .ok (.ireturn, 1) := by decide +kernel
theorem d_A_isLastOf_0 : decode b_A_isLastOf 0 = .ok (.aload_n 0, 1) := by decide +kernel
theorem d_A_isLastOf_1 : decode b_A_isLastOf 1 = .ok (.iload_n 1, 1) := by decide +kernel
theorem d_A_isLastOf_2 : decode b_A_isLastOf 2 = .ok (.iconst 2, 1) := by decide +kernel
theorem d_A_isLastOf_3 : decode b_A_isLastOf 3 = .ok (.idiv, 1) := by decide +kernel
theorem d_A_isLastOf_4 : decode b_A_isLastOf 4 = .ok (.invokevirtual 42, 3) := by decide +kernel
theorem d_A_isLastOf_7 : decode b_A_isLastOf 7 = .ok (.iload_n 2, 1) := by decide +kernel
theorem d_A_isLastOf_8 : decode b_A_isLastOf 8 = .ok (.if_icmp .eq 5, 3) := by decide +kernel
theorem d_A_isLastOf_11 : decode b_A_isLastOf 11 = .ok (.iconst 0, 1) := by decide +kernel
theorem d_A_isLastOf_12 : decode b_A_isLastOf 12 = .ok (.ireturn, 1) := by decide +kernel
theorem d_A_isLastOf_13 : decode b_A_isLastOf 13 = .ok (.iconst 0, 1) := by decide +kernel
theorem d_A_isLastOf_14 : decode b_A_isLastOf 14 = .ok (.istore_n 3, 1) := by decide +kernel
theorem d_A_isLastOf_15 : decode b_A_isLastOf 15 = .ok (.iload_n 3, 1) := by decide +kernel
theorem d_A_isLastOf_16 : decode b_A_isLastOf 16 = .ok (.iconst 3, 1) := by decide +kernel
theorem d_A_isLastOf_17 : decode b_A_isLastOf 17 = .ok (.if_icmp .ge 40, 3) := by decide +kernel
theorem d_A_isLastOf_20 : decode b_A_isLastOf 20 = .ok (.aload_n 0, 1) := by decide +kernel
theorem d_A_isLastOf_21 : decode b_A_isLastOf 21 = .ok (.iload_n 1, 1) := by decide +kernel
theorem d_A_isLastOf_22 : decode b_A_isLastOf 22 = .ok (.iload_n 3, 1) := by decide +kernel
theorem d_A_isLastOf_23 : decode b_A_isLastOf 23 = .ok (.invokevirtual 38, 3) := by decide +kernel
theorem d_A_isLastOf_26 : decode b_A_isLastOf 26 = .ok (.istore 4, 2) := by decide +kernel
theorem d_A_isLastOf_28 : decode b_A_isLastOf 28 = .ok (.aload_n 0, 1) := by decide +kernel
theorem d_A_isLastOf_29 : decode b_A_isLastOf 29 = .ok (.iload 4, 2) := by decide +kernel
theorem d_A_isLastOf_31 : decode b_A_isLastOf 31 = .ok (.invokevirtual 45, 3) := by decide +kernel
theorem d_A_isLastOf_34 : decode b_A_isLastOf 34 = .ok (.ifCond .eq 17, 3) := by decide +kernel
theorem d_A_isLastOf_37 : decode b_A_isLastOf 37 = .ok (.aload_n 0, 1) := by decide +kernel
theorem d_A_isLastOf_38 : decode b_A_isLastOf 38 = .ok (.iload 4, 2) := by decide +kernel
theorem d_A_isLastOf_40 : decode b_A_isLastOf 40 = .ok (.iconst 2, 1) := by decide +kernel
theorem d_A_isLastOf_41 : decode b_A_isLastOf 41 = .ok (.idiv, 1) := by decide +kernel
theorem d_A_isLastOf_42 : decode b_A_isLastOf 42 = .ok (.invokevirtual 42, 3) := by decide +kernel
theorem d_A_isLastOf_45 : decode b_A_isLastOf 45 = .ok (.iload_n 2, 1) := by decide +kernel
theorem d_A_isLastOf_46 : decode b_A_isLastOf 46 = .ok (.if_icmp .ne 5, 3) := by decide +kernel
theorem d_A_isLastOf_49 : decode b_A_isLastOf 49 = .ok (.iconst 0, 1) := by decide +kernel
theorem d_A_isLastOf_50 : decode b_A_isLastOf 50 = .ok (.ireturn, 1) := by decide +kernel
theorem d_A_isLastOf_51 : decode b_A_isLastOf 51 = .ok (.iinc 3 1, 3) := by decide +kernel
theorem d_A_isLastOf_54 : decode b_A_isLastOf 54 = .ok (.goto (-39), 3) := by decide +kernel
theorem d_A_isLastOf_57 : decode b_A_isLastOf 57 = .ok (.iconst 1, 1) := by decide +kernel
theorem d_A_isLastOf_58 : decode b_A_isLastOf 58 = .ok (.ireturn, 1) := by decide +kernel
theorem d_A_isStraight_0 : decode b_A_isStraight 0 = .ok (.iload_n 1, 1) := by decide +kernel
theorem d_A_isStraight_1 : decode b_A_isStraight 1 = .ok (.iconst 2, 1) := by decide +kernel
theorem d_A_isStraight_2 : decode b_A_isStraight 2 = .ok (.idiv, 1) := by decide +kernel
theorem d_A_isStraight_3 : decode b_A_isStraight 3 = .ok (.bipush 6, 2) := by decide +kernel
theorem d_A_isStraight_5 : decode b_A_isStraight 5 = .ok (.irem, 1) := by decide +kernel
theorem d_A_isStraight_6 : decode b_A_isStraight 6 = .ok (.iconst 2, 1) := by decide +kernel
theorem d_A_isStraight_7 : decode b_A_isStraight 7 = .ok (.if_icmp .ge 7, 3) := by decide +kernel
theorem d_A_isStraight_10 : decode b_A_isStraight 10 = .ok (.iconst 1, 1) := by decide +kernel
theorem d_A_isStraight_11 : decode b_A_isStraight 11 = .ok (.goto 4, 3) := by decide +kernel
theorem d_A_isStraight_14 : decode b_A_isStraight 14 = .ok (.iconst 0, 1) := by decide +kernel
theorem d_A_isStraight_15 : decode b_A_isStraight 15 = .ok (.ireturn, 1) := by decide +kernel
theorem d_Q_first_0 : decode b_Q_first 0 = .ok (.aload_n 0, 1) := by decide +kernel
theorem d_Q_first_1 : decode b_Q_first 1 = .ok (.invokevirtual 28, 3) := by decide +kernel
theorem d_Q_first_4 : decode b_Q_first 4 = .ok (.ifCond .eq 7, 3) := by decide +kernel
theorem d_Q_first_7 : decode b_Q_first 7 = .ok (.iconst (-1), 1) := by decide +kernel
theorem d_Q_first_8 : decode b_Q_first 8 = .ok (.goto 12, 3) := by decide +kernel
theorem d_Q_first_11 : decode b_Q_first 11 = .ok (.aload_n 0, 1) := by decide +kernel
theorem d_Q_first_12 : decode b_Q_first 12 = .ok (.getfield 15, 3) := by decide +kernel
theorem d_Q_first_15 : decode b_Q_first 15 = .ok (.aload_n 0, 1) := by decide +kernel
theorem d_Q_first_16 : decode b_Q_first 16 = .ok (.getfield 21, 3) := by decide +kernel
theorem d_Q_first_19 : decode b_Q_first 19 = .ok (.iaload, 1) := by decide +kernel
theorem d_Q_first_20 : decode b_Q_first 20 = .ok (.ireturn, 1) := by decide +kernel
theorem d_A_lengthOf_0 : decode b_A_lengthOf 0 = .ok (.aload_n 0, 1) := by decide +kernel
theorem d_A_lengthOf_1 : decode b_A_lengthOf 1 = .ok (.iload_n 1, 1) := by decide +kernel
theorem d_A_lengthOf_2 : decode b_A_lengthOf 2 = .ok (.invokevirtual 29, 3) := by decide +kernel
theorem d_A_lengthOf_5 : decode b_A_lengthOf 5 = .ok (.ifCond .eq 8, 3) := by decide +kernel
theorem d_A_lengthOf_8 : decode b_A_lengthOf 8 = .ok (.bipush 16, 2) := by decide +kernel
theorem d_A_lengthOf_10 : decode b_A_lengthOf 10 = .ok (.goto 5, 3) := by decide +kernel
theorem d_A_lengthOf_13 : decode b_A_lengthOf 13 = .ok (.bipush 12, 2) := by decide +kernel
theorem d_A_lengthOf_15 : decode b_A_lengthOf 15 = .ok (.ireturn, 1) := by decide +kernel
theorem d_A_piecesWith_0 : decode b_A_piecesWith 0 = .ok (.iconst 0, 1) := by decide +kernel
theorem d_A_piecesWith_1 : decode b_A_piecesWith 1 = .ok (.istore_n 2, 1) := by decide +kernel
theorem d_A_piecesWith_2 : decode b_A_piecesWith 2 = .ok (.iconst 0, 1) := by decide +kernel
theorem d_A_piecesWith_3 : decode b_A_piecesWith 3 = .ok (.istore_n 3, 1) := by decide +kernel
theorem d_A_piecesWith_4 : decode b_A_piecesWith 4 = .ok (.iload_n 3, 1) := by decide +kernel
theorem d_A_piecesWith_5 : decode b_A_piecesWith 5 = .ok (.aload_n 0, 1) := by decide +kernel
theorem d_A_piecesWith_6 : decode b_A_piecesWith 6 = .ok (.getfield 15, 3) := by decide +kernel
theorem d_A_piecesWith_9 : decode b_A_piecesWith 9 = .ok (.arraylength, 1) := by decide +kernel
theorem d_A_piecesWith_10 : decode b_A_piecesWith 10 = .ok (.if_icmp .ge 23, 3) := by decide +kernel
theorem d_A_piecesWith_13 : decode b_A_piecesWith 13 = .ok (.aload_n 0, 1) := by decide +kernel
theorem d_A_piecesWith_14 : decode b_A_piecesWith 14 = .ok (.getfield 15, 3) := by decide +kernel
theorem d_A_piecesWith_17 : decode b_A_piecesWith 17 = .ok (.iload_n 3, 1) := by decide +kernel
theorem d_A_piecesWith_18 : decode b_A_piecesWith 18 = .ok (.iaload, 1) := by decide +kernel
theorem d_A_piecesWith_19 : decode b_A_piecesWith 19 = .ok (.iload_n 1, 1) := by decide +kernel
theorem d_A_piecesWith_20 : decode b_A_piecesWith 20 = .ok (.iand, 1) := by decide +kernel
theorem d_A_piecesWith_21 : decode b_A_piecesWith 21 = .ok (.ifCond .eq 6, 3) := by decide +kernel
theorem d_A_piecesWith_24 : decode b_A_piecesWith 24 = .ok (.iinc 2 1, 3) := by decide +kernel
theorem d_A_piecesWith_27 : decode b_A_piecesWith 27 = .ok (.iinc 3 1, 3) := by decide +kernel
theorem d_A_piecesWith_30 : decode b_A_piecesWith 30 = .ok (.goto (-26), 3) := by decide +kernel
theorem d_A_piecesWith_33 : decode b_A_piecesWith 33 = .ok (.iload_n 2, 1) := by decide +kernel
theorem d_A_piecesWith_34 : decode b_A_piecesWith 34 = .ok (.ireturn, 1) := by decide +kernel
theorem d_A_put_0 : decode b_A_put 0 = .ok (.aload_n 0, 1) := by decide +kernel
theorem d_A_put_1 : decode b_A_put 1 = .ok (.getfield 15, 3) := by decide +kernel
theorem d_A_put_4 : decode b_A_put 4 = .ok (.iload_n 1, 1) := by decide +kernel
theorem d_A_put_5 : decode b_A_put 5 = .ok (.iconst 1, 1) := by decide +kernel
theorem d_A_put_6 : decode b_A_put 6 = .ok (.iload_n 2, 1) := by decide +kernel
theorem d_A_put_7 : decode b_A_put 7 = .ok (.iconst 2, 1) := by decide +kernel
theorem d_A_put_8 : decode b_A_put 8 = .ok (.ishl, 1) := by decide +kernel
theorem d_A_put_9 : decode b_A_put 9 = .ok (.iadd, 1) := by decide +kernel
theorem d_A_put_10 : decode b_A_put 10 = .ok (.iload_n 3, 1) := by decide +kernel
theorem d_A_put_11 : decode b_A_put 11 = .ok (.iconst 1, 1) := by decide +kernel
theorem d_A_put_12 : decode b_A_put 12 = .ok (.iadd, 1) := by decide +kernel
theorem d_A_put_13 : decode b_A_put 13 = .ok (.iconst 5, 1) := by decide +kernel
theorem d_A_put_14 : decode b_A_put 14 = .ok (.ishl, 1) := by decide +kernel
theorem d_A_put_15 : decode b_A_put 15 = .ok (.iadd, 1) := by decide +kernel
theorem d_A_put_16 : decode b_A_put 16 = .ok (.iastore, 1) := by decide +kernel
theorem d_A_put_17 : decode b_A_put 17 = .ok (.return_, 1) := by decide +kernel
theorem d_A_takeAway_0 : decode b_A_takeAway 0 = .ok (.aload_n 0, 1) := by decide +kernel
theorem d_A_takeAway_1 : decode b_A_takeAway 1 = .ok (.getfield 15, 3) := by decide +kernel
theorem d_A_takeAway_4 : decode b_A_takeAway 4 = .ok (.iload_n 1, 1) := by decide +kernel
theorem d_A_takeAway_5 : decode b_A_takeAway 5 = .ok (.iconst 0, 1) := by decide +kernel
theorem d_A_takeAway_6 : decode b_A_takeAway 6 = .ok (.iastore, 1) := by decide +kernel
theorem d_A_takeAway_7 : decode b_A_takeAway 7 = .ok (.return_, 1) := by decide +kernel
theorem d_JA_fill_0 : decode b_JA_fill 0 = .ok (.iconst 0, 1) := by decide +kernel
theorem d_JA_fill_1 : decode b_JA_fill 1 = .ok (.istore_n 2, 1) := by decide +kernel
theorem d_JA_fill_2 : decode b_JA_fill 2 = .ok (.aload_n 0, 1) := by decide +kernel
theorem d_JA_fill_3 : decode b_JA_fill 3 = .ok (.arraylength, 1) := by decide +kernel
theorem d_JA_fill_4 : decode b_JA_fill 4 = .ok (.istore_n 3, 1) := by decide +kernel
theorem d_JA_fill_5 : decode b_JA_fill 5 = .ok (.iload_n 2, 1) := by decide +kernel
theorem d_JA_fill_6 : decode b_JA_fill 6 = .ok (.iload_n 3, 1) := by decide +kernel
theorem d_JA_fill_7 : decode b_JA_fill 7 = .ok (.if_icmp .ge 13, 3) := by decide +kernel
theorem d_JA_fill_10 : decode b_JA_fill 10 = .ok (.aload_n 0, 1) := by decide +kernel
theorem d_JA_fill_11 : decode b_JA_fill 11 = .ok (.iload_n 2, 1) := by decide +kernel
theorem d_JA_fill_12 : decode b_JA_fill 12 = .ok (.iload_n 1, 1) := by decide +kernel
theorem d_JA_fill_13 : decode b_JA_fill 13 = .ok (.iastore, 1) := by decide +kernel
theorem d_JA_fill_14 : decode b_JA_fill 14 = .ok (.iinc 2 1, 3) := by decide +kernel
theorem d_JA_fill_17 : decode b_JA_fill 17 = .ok (.goto (-12), 3) := by decide +kernel
theorem d_JA_fill_20 : decode b_JA_fill 20 = .ok (.return_, 1) := by decide +kernel
