/-! DECODE rows, by program -/
theorem d_S_init_0 : decode b_S_init 0 = .ok (.aload_n 0, 1) := by decide +kernel
theorem d_S_init_1 : decode b_S_init 1 = .ok (.invokespecial 3, 3) := by decide +kernel
theorem d_S_init_4 : decode b_S_init 4 = .ok (.aload_n 0, 1) := by decide +kernel
theorem d_S_init_5 : decode b_S_init 5 = .ok (.bipush 12, 2) := by decide +kernel
theorem d_S_init_7 : decode b_S_init 7 = .ok (.iload_n 1, 1) := by decide +kernel
theorem d_S_init_8 : decode b_S_init 8 = .ok (.imul, 1) := by decide +kernel
theorem d_S_init_9 : decode b_S_init 9 = .ok (.newarray .int, 2) := by decide +kernel
theorem d_S_init_11 : decode b_S_init 11 = .ok (.putfield 11, 3) := by decide +kernel
theorem d_S_init_14 : decode b_S_init 14 = .ok (.aload_n 0, 1) := by decide +kernel
theorem d_S_init_15 : decode b_S_init 15 = .ok (.new 17, 3) := by decide +kernel
theorem d_S_init_18 : decode b_S_init 18 = .ok (.dup, 1) := by decide +kernel
theorem d_S_init_19 : decode b_S_init 19 = .ok (.iconst 4, 1) := by decide +kernel
theorem d_S_init_20 : decode b_S_init 20 = .ok (.iload_n 1, 1) := by decide +kernel
theorem d_S_init_21 : decode b_S_init 21 = .ok (.imul, 1) := by decide +kernel
theorem d_S_init_22 : decode b_S_init 22 = .ok (.invokespecial 19, 3) := by decide +kernel
theorem d_S_init_25 : decode b_S_init 25 = .ok (.putfield 22, 3) := by decide +kernel
theorem d_S_init_28 : decode b_S_init 28 = .ok (.aload_n 0, 1) := by decide +kernel
theorem d_S_init_29 : decode b_S_init 29 = .ok (.new 17, 3) := by decide +kernel
theorem d_S_init_32 : decode b_S_init 32 = .ok (.dup, 1) := by decide +kernel
theorem d_S_init_33 : decode b_S_init 33 = .ok (.bipush 8, 2) := by decide +kernel
theorem d_S_init_35 : decode b_S_init 35 = .ok (.iload_n 1, 1) := by decide +kernel
theorem d_S_init_36 : decode b_S_init 36 = .ok (.imul, 1) := by decide +kernel
theorem d_S_init_37 : decode b_S_init 37 = .ok (.invokespecial 19, 3) := by decide +kernel
theorem d_S_init_40 : decode b_S_init 40 = .ok (.putfield 26, 3) := by decide +kernel
theorem d_S_init_43 : decode b_S_init 43 = .ok (.aload_n 0, 1) := by decide +kernel
theorem d_S_init_44 : decode b_S_init 44 = .ok (.iconst (-1), 1) := by decide +kernel
theorem d_S_init_45 : decode b_S_init 45 = .ok (.putfield 29, 3) := by decide +kernel
theorem d_S_init_48 : decode b_S_init 48 = .ok (.return_, 1) := by decide +kernel
theorem d_S_findBlocks_0 : decode b_S_findBlocks 0 = .ok (.aload_n 0, 1) := by decide +kernel
theorem d_S_findBlocks_1 : decode b_S_findBlocks 1 = .ok (.getfield 29, 3) := by decide +kernel
theorem d_S_findBlocks_4 : decode b_S_findBlocks 4 = .ok (.bipush 8, 2) := by decide +kernel
theorem d_S_findBlocks_6 : decode b_S_findBlocks 6 = .ok (.if_icmp .ne 4, 3) := by decide +kernel
theorem d_S_findBlocks_9 : decode b_S_findBlocks 9 = .ok (.return_, 1) := by decide +kernel
theorem d_S_findBlocks_10 : decode b_S_findBlocks 10 = .ok (.aload_n 0, 1) := by decide +kernel
theorem d_S_findBlocks_11 : decode b_S_findBlocks 11 = .ok (.bipush 8, 2) := by decide +kernel
theorem d_S_findBlocks_13 : decode b_S_findBlocks 13 = .ok (.putfield 29, 3) := by decide +kernel
theorem d_S_findBlocks_16 : decode b_S_findBlocks 16 = .ok (.aload_n 0, 1) := by decide +kernel
theorem d_S_findBlocks_17 : decode b_S_findBlocks 17 = .ok (.iconst 0, 1) := by decide +kernel
theorem d_S_findBlocks_18 : decode b_S_findBlocks 18 = .ok (.putfield 33, 3) := by decide +kernel
theorem d_S_findBlocks_21 : decode b_S_findBlocks 21 = .ok (.aload_n 0, 1) := by decide +kernel
theorem d_S_findBlocks_22 : decode b_S_findBlocks 22 = .ok (.getfield 11, 3) := by decide +kernel
theorem d_S_findBlocks_25 : decode b_S_findBlocks 25 = .ok (.iconst (-1), 1) := by decide +kernel
theorem d_S_findBlocks_26 : decode b_S_findBlocks 26 = .ok (.invokestatic 36, 3) := by decide +kernel
theorem d_S_findBlocks_29 : decode b_S_findBlocks 29 = .ok (.iconst 0, 1) := by decide +kernel
theorem d_S_findBlocks_30 : decode b_S_findBlocks 30 = .ok (.istore_n 2, 1) := by decide +kernel
theorem d_S_findBlocks_31 : decode b_S_findBlocks 31 = .ok (.iload_n 2, 1) := by decide +kernel
theorem d_S_findBlocks_32 : decode b_S_findBlocks 32 = .ok (.aload_n 1, 1) := by decide +kernel
theorem d_S_findBlocks_33 : decode b_S_findBlocks 33 = .ok (.getfield 42, 3) := by decide +kernel
theorem d_S_findBlocks_36 : decode b_S_findBlocks 36 = .ok (.arraylength, 1) := by decide +kernel
theorem d_S_findBlocks_37 : decode b_S_findBlocks 37 = .ok (.if_icmp .ge 43, 3) := by decide +kernel
theorem d_S_findBlocks_40 : decode b_S_findBlocks 40 = .ok (.aload_n 1, 1) := by decide +kernel
theorem d_S_findBlocks_41 : decode b_S_findBlocks 41 = .ok (.iload_n 2, 1) := by decide +kernel
theorem d_S_findBlocks_42 : decode b_S_findBlocks 42 = .ok (.invokevirtual 45, 3) := by decide +kernel
theorem d_S_findBlocks_45 : decode b_S_findBlocks 45 = .ok (.ifCond .eq 29, 3) := by decide +kernel
theorem d_S_findBlocks_48 : decode b_S_findBlocks 48 = .ok (.aload_n 0, 1) := by decide +kernel
theorem d_S_findBlocks_49 : decode b_S_findBlocks 49 = .ok (.getfield 11, 3) := by decide +kernel
theorem d_S_findBlocks_52 : decode b_S_findBlocks 52 = .ok (.iload_n 2, 1) := by decide +kernel
theorem d_S_findBlocks_53 : decode b_S_findBlocks 53 = .ok (.iaload, 1) := by decide +kernel
theorem d_S_findBlocks_54 : decode b_S_findBlocks 54 = .ok (.iconst (-1), 1) := by decide +kernel
theorem d_S_findBlocks_55 : decode b_S_findBlocks 55 = .ok (.if_icmp .ne 19, 3) := by decide +kernel
theorem d_S_findBlocks_58 : decode b_S_findBlocks 58 = .ok (.aload_n 0, 1) := by decide +kernel
theorem d_S_findBlocks_59 : decode b_S_findBlocks 59 = .ok (.dup, 1) := by decide +kernel
theorem d_S_findBlocks_60 : decode b_S_findBlocks 60 = .ok (.getfield 33, 3) := by decide +kernel
theorem d_S_findBlocks_63 : decode b_S_findBlocks 63 = .ok (.iconst 1, 1) := by decide +kernel
theorem d_S_findBlocks_64 : decode b_S_findBlocks 64 = .ok (.iadd, 1) := by decide +kernel
theorem d_S_findBlocks_65 : decode b_S_findBlocks 65 = .ok (.putfield 33, 3) := by decide +kernel
theorem d_S_findBlocks_68 : decode b_S_findBlocks 68 = .ok (.aload_n 0, 1) := by decide +kernel
theorem d_S_findBlocks_69 : decode b_S_findBlocks 69 = .ok (.aload_n 1, 1) := by decide +kernel
theorem d_S_findBlocks_70 : decode b_S_findBlocks 70 = .ok (.iload_n 2, 1) := by decide +kernel
theorem d_S_findBlocks_71 : decode b_S_findBlocks 71 = .ok (.invokevirtual 49, 3) := by decide +kernel
theorem d_S_findBlocks_74 : decode b_S_findBlocks 74 = .ok (.iinc 2 1, 3) := by decide +kernel
theorem d_S_findBlocks_77 : decode b_S_findBlocks 77 = .ok (.goto (-46), 3) := by decide +kernel
theorem d_S_findBlocks_80 : decode b_S_findBlocks 80 = .ok (.return_, 1) := by decide +kernel
theorem d_S_floodBlock_0 : decode b_S_floodBlock 0 = .ok (.aload_n 0, 1) := by decide +kernel
theorem d_S_floodBlock_1 : decode b_S_floodBlock 1 = .ok (.getfield 26, 3) := by decide +kernel
theorem d_S_floodBlock_4 : decode b_S_floodBlock 4 = .ok (.invokevirtual 53, 3) := by decide +kernel
theorem d_S_floodBlock_7 : decode b_S_floodBlock 7 = .ok (.aload_n 0, 1) := by decide +kernel
theorem d_S_floodBlock_8 : decode b_S_floodBlock 8 = .ok (.iload_n 2, 1) := by decide +kernel
theorem d_S_floodBlock_9 : decode b_S_floodBlock 9 = .ok (.iload_n 2, 1) := by decide +kernel
theorem d_S_floodBlock_10 : decode b_S_floodBlock 10 = .ok (.invokevirtual 56, 3) := by decide +kernel
theorem d_S_floodBlock_13 : decode b_S_floodBlock 13 = .ok (.iconst 0, 1) := by decide +kernel
theorem d_S_floodBlock_14 : decode b_S_floodBlock 14 = .ok (.istore_n 3, 1) := by decide +kernel
theorem d_S_floodBlock_15 : decode b_S_floodBlock 15 = .ok (.iload_n 3, 1) := by decide +kernel
theorem d_S_floodBlock_16 : decode b_S_floodBlock 16 = .ok (.aload_n 0, 1) := by decide +kernel
theorem d_S_floodBlock_17 : decode b_S_floodBlock 17 = .ok (.getfield 11, 3) := by decide +kernel
theorem d_S_floodBlock_20 : decode b_S_floodBlock 20 = .ok (.arraylength, 1) := by decide +kernel
theorem d_S_floodBlock_21 : decode b_S_floodBlock 21 = .ok (.if_icmp .ge 58, 3) := by decide +kernel
theorem d_S_floodBlock_24 : decode b_S_floodBlock 24 = .ok (.aload_n 0, 1) := by decide +kernel
theorem d_S_floodBlock_25 : decode b_S_floodBlock 25 = .ok (.getfield 26, 3) := by decide +kernel
theorem d_S_floodBlock_28 : decode b_S_floodBlock 28 = .ok (.invokevirtual 60, 3) := by decide +kernel
theorem d_S_floodBlock_31 : decode b_S_floodBlock 31 = .ok (.ifCond .ne 48, 3) := by decide +kernel
theorem d_S_floodBlock_34 : decode b_S_floodBlock 34 = .ok (.aload_n 0, 1) := by decide +kernel
theorem d_S_floodBlock_35 : decode b_S_floodBlock 35 = .ok (.getfield 26, 3) := by decide +kernel
theorem d_S_floodBlock_38 : decode b_S_floodBlock 38 = .ok (.invokevirtual 64, 3) := by decide +kernel
theorem d_S_floodBlock_41 : decode b_S_floodBlock 41 = .ok (.istore 4, 2) := by decide +kernel
theorem d_S_floodBlock_43 : decode b_S_floodBlock 43 = .ok (.aload_n 0, 1) := by decide +kernel
theorem d_S_floodBlock_44 : decode b_S_floodBlock 44 = .ok (.aload_n 1, 1) := by decide +kernel
theorem d_S_floodBlock_45 : decode b_S_floodBlock 45 = .ok (.iload 4, 2) := by decide +kernel
theorem d_S_floodBlock_47 : decode b_S_floodBlock 47 = .ok (.iload_n 2, 1) := by decide +kernel
theorem d_S_floodBlock_48 : decode b_S_floodBlock 48 = .ok (.invokevirtual 68, 3) := by decide +kernel
theorem d_S_floodBlock_51 : decode b_S_floodBlock 51 = .ok (.aload_n 0, 1) := by decide +kernel
theorem d_S_floodBlock_52 : decode b_S_floodBlock 52 = .ok (.aload_n 1, 1) := by decide +kernel
theorem d_S_floodBlock_53 : decode b_S_floodBlock 53 = .ok (.iconst 2, 1) := by decide +kernel
theorem d_S_floodBlock_54 : decode b_S_floodBlock 54 = .ok (.iload 4, 2) := by decide +kernel
theorem d_S_floodBlock_56 : decode b_S_floodBlock 56 = .ok (.imul, 1) := by decide +kernel
theorem d_S_floodBlock_57 : decode b_S_floodBlock 57 = .ok (.iload_n 2, 1) := by decide +kernel
theorem d_S_floodBlock_58 : decode b_S_floodBlock 58 = .ok (.invokevirtual 72, 3) := by decide +kernel
theorem d_S_floodBlock_61 : decode b_S_floodBlock 61 = .ok (.aload_n 0, 1) := by decide +kernel
theorem d_S_floodBlock_62 : decode b_S_floodBlock 62 = .ok (.aload_n 1, 1) := by decide +kernel
theorem d_S_floodBlock_63 : decode b_S_floodBlock 63 = .ok (.iconst 2, 1) := by decide +kernel
theorem d_S_floodBlock_64 : decode b_S_floodBlock 64 = .ok (.iload 4, 2) := by decide +kernel
theorem d_S_floodBlock_66 : decode b_S_floodBlock 66 = .ok (.imul, 1) := by decide +kernel
theorem d_S_floodBlock_67 : decode b_S_floodBlock 67 = .ok (.iconst 1, 1) := by decide +kernel
theorem d_S_floodBlock_68 : decode b_S_floodBlock 68 = .ok (.iadd, 1) := by decide +kernel
theorem d_S_floodBlock_69 : decode b_S_floodBlock 69 = .ok (.iload_n 2, 1) := by decide +kernel
theorem d_S_floodBlock_70 : decode b_S_floodBlock 70 = .ok (.invokevirtual 72, 3) := by decide +kernel
theorem d_S_floodBlock_73 : decode b_S_floodBlock 73 = .ok (.iinc 3 1, 3) := by decide +kernel
theorem d_S_floodBlock_76 : decode b_S_floodBlock 76 = .ok (.goto (-61), 3) := by decide +kernel
theorem d_S_floodBlock_79 : decode b_S_floodBlock 79 = .ok (.return_, 1) := by decide +kernel
theorem d_S_join_0 : decode b_S_join 0 = .ok (.aload_n 0, 1) := by decide +kernel
theorem d_S_join_1 : decode b_S_join 1 = .ok (.getfield 11, 3) := by decide +kernel
theorem d_S_join_4 : decode b_S_join 4 = .ok (.iload_n 1, 1) := by decide +kernel
theorem d_S_join_5 : decode b_S_join 5 = .ok (.iaload, 1) := by decide +kernel
theorem d_S_join_6 : decode b_S_join 6 = .ok (.iconst (-1), 1) := by decide +kernel
theorem d_S_join_7 : decode b_S_join 7 = .ok (.if_icmp .ne 18, 3) := by decide +kernel
theorem d_S_join_10 : decode b_S_join 10 = .ok (.aload_n 0, 1) := by decide +kernel
theorem d_S_join_11 : decode b_S_join 11 = .ok (.getfield 11, 3) := by decide +kernel
theorem d_S_join_14 : decode b_S_join 14 = .ok (.iload_n 1, 1) := by decide +kernel
theorem d_S_join_15 : decode b_S_join 15 = .ok (.iload_n 2, 1) := by decide +kernel
theorem d_S_join_16 : decode b_S_join 16 = .ok (.iastore, 1) := by decide +kernel
theorem d_S_join_17 : decode b_S_join 17 = .ok (.aload_n 0, 1) := by decide +kernel
theorem d_S_join_18 : decode b_S_join 18 = .ok (.getfield 26, 3) := by decide +kernel
theorem d_S_join_21 : decode b_S_join 21 = .ok (.iload_n 1, 1) := by decide +kernel
theorem d_S_join_22 : decode b_S_join 22 = .ok (.invokevirtual 85, 3) := by decide +kernel
theorem d_S_join_25 : decode b_S_join 25 = .ok (.return_, 1) := by decide +kernel
theorem d_S_joinMeeting_0 : decode b_S_joinMeeting 0 = .ok (.iload_n 2, 1) := by decide +kernel
theorem d_S_joinMeeting_1 : decode b_S_joinMeeting 1 = .ok (.bipush 6, 2) := by decide +kernel
theorem d_S_joinMeeting_3 : decode b_S_joinMeeting 3 = .ok (.irem, 1) := by decide +kernel
theorem d_S_joinMeeting_4 : decode b_S_joinMeeting 4 = .ok (.istore 4, 2) := by decide +kernel
theorem d_S_joinMeeting_6 : decode b_S_joinMeeting 6 = .ok (.iload_n 2, 1) := by decide +kernel
theorem d_S_joinMeeting_7 : decode b_S_joinMeeting 7 = .ok (.iload 4, 2) := by decide +kernel
theorem d_S_joinMeeting_9 : decode b_S_joinMeeting 9 = .ok (.isub, 1) := by decide +kernel
theorem d_S_joinMeeting_10 : decode b_S_joinMeeting 10 = .ok (.istore 5, 2) := by decide +kernel
theorem d_S_joinMeeting_12 : decode b_S_joinMeeting 12 = .ok (.iconst 0, 1) := by decide +kernel
theorem d_S_joinMeeting_13 : decode b_S_joinMeeting 13 = .ok (.istore 6, 2) := by decide +kernel
theorem d_S_joinMeeting_15 : decode b_S_joinMeeting 15 = .ok (.iload 6, 2) := by decide +kernel
theorem d_S_joinMeeting_17 : decode b_S_joinMeeting 17 = .ok (.bipush 6, 2) := by decide +kernel
theorem d_S_joinMeeting_19 : decode b_S_joinMeeting 19 = .ok (.if_icmp .ge 42, 3) := by decide +kernel
theorem d_S_joinMeeting_22 : decode b_S_joinMeeting 22 = .ok (.getstatic 75, 3) := by decide +kernel
theorem d_S_joinMeeting_25 : decode b_S_joinMeeting 25 = .ok (.iload 4, 2) := by decide +kernel
theorem d_S_joinMeeting_27 : decode b_S_joinMeeting 27 = .ok (.iaload, 1) := by decide +kernel
theorem d_S_joinMeeting_28 : decode b_S_joinMeeting 28 = .ok (.iload 6, 2) := by decide +kernel
theorem d_S_joinMeeting_30 : decode b_S_joinMeeting 30 = .ok (.if_icmp .eq 25, 3) := by decide +kernel
theorem d_S_joinMeeting_33 : decode b_S_joinMeeting 33 = .ok (.aload_n 1, 1) := by decide +kernel
theorem d_S_joinMeeting_34 : decode b_S_joinMeeting 34 = .ok (.iload 5, 2) := by decide +kernel
theorem d_S_joinMeeting_36 : decode b_S_joinMeeting 36 = .ok (.iload 6, 2) := by decide +kernel
theorem d_S_joinMeeting_38 : decode b_S_joinMeeting 38 = .ok (.iadd, 1) := by decide +kernel
theorem d_S_joinMeeting_39 : decode b_S_joinMeeting 39 = .ok (.invokevirtual 45, 3) := by decide +kernel
theorem d_S_joinMeeting_42 : decode b_S_joinMeeting 42 = .ok (.ifCond .eq 13, 3) := by decide +kernel
theorem d_S_joinMeeting_45 : decode b_S_joinMeeting 45 = .ok (.aload_n 0, 1) := by decide +kernel
theorem d_S_joinMeeting_46 : decode b_S_joinMeeting 46 = .ok (.iload 5, 2) := by decide +kernel
theorem d_S_joinMeeting_48 : decode b_S_joinMeeting 48 = .ok (.iload 6, 2) := by decide +kernel
theorem d_S_joinMeeting_50 : decode b_S_joinMeeting 50 = .ok (.iadd, 1) := by decide +kernel
theorem d_S_joinMeeting_51 : decode b_S_joinMeeting 51 = .ok (.iload_n 3, 1) := by decide +kernel
theorem d_S_joinMeeting_52 : decode b_S_joinMeeting 52 = .ok (.invokevirtual 56, 3) := by decide +kernel
theorem d_S_joinMeeting_55 : decode b_S_joinMeeting 55 = .ok (.iinc 6 1, 3) := by decide +kernel
theorem d_S_joinMeeting_58 : decode b_S_joinMeeting 58 = .ok (.goto (-43), 3) := by decide +kernel
theorem d_S_joinMeeting_61 : decode b_S_joinMeeting 61 = .ok (.return_, 1) := by decide +kernel
theorem d_S_joinAcross_0 : decode b_S_joinAcross 0 = .ok (.aload_n 1, 1) := by decide +kernel
theorem d_S_joinAcross_1 : decode b_S_joinAcross 1 = .ok (.iload_n 2, 1) := by decide +kernel
theorem d_S_joinAcross_2 : decode b_S_joinAcross 2 = .ok (.invokevirtual 78, 3) := by decide +kernel
theorem d_S_joinAcross_5 : decode b_S_joinAcross 5 = .ok (.ifCond .eq 4, 3) := by decide +kernel
theorem d_S_joinAcross_8 : decode b_S_joinAcross 8 = .ok (.return_, 1) := by decide +kernel
theorem d_S_joinAcross_9 : decode b_S_joinAcross 9 = .ok (.iconst 0, 1) := by decide +kernel
theorem d_S_joinAcross_10 : decode b_S_joinAcross 10 = .ok (.istore 4, 2) := by decide +kernel
theorem d_S_joinAcross_12 : decode b_S_joinAcross 12 = .ok (.iload 4, 2) := by decide +kernel
theorem d_S_joinAcross_14 : decode b_S_joinAcross 14 = .ok (.iconst 3, 1) := by decide +kernel
theorem d_S_joinAcross_15 : decode b_S_joinAcross 15 = .ok (.if_icmp .ge 55, 3) := by decide +kernel
theorem d_S_joinAcross_18 : decode b_S_joinAcross 18 = .ok (.aload_n 1, 1) := by decide +kernel
theorem d_S_joinAcross_19 : decode b_S_joinAcross 19 = .ok (.iload_n 2, 1) := by decide +kernel
theorem d_S_joinAcross_20 : decode b_S_joinAcross 20 = .ok (.iload 4, 2) := by decide +kernel
theorem d_S_joinAcross_22 : decode b_S_joinAcross 22 = .ok (.invokevirtual 81, 3) := by decide +kernel
theorem d_S_joinAcross_25 : decode b_S_joinAcross 25 = .ok (.istore 5, 2) := by decide +kernel
theorem d_S_joinAcross_27 : decode b_S_joinAcross 27 = .ok (.iload 5, 2) := by decide +kernel
theorem d_S_joinAcross_29 : decode b_S_joinAcross 29 = .ok (.iconst (-1), 1) := by decide +kernel
theorem d_S_joinAcross_30 : decode b_S_joinAcross 30 = .ok (.if_icmp .eq 34, 3) := by decide +kernel
theorem d_S_joinAcross_33 : decode b_S_joinAcross 33 = .ok (.aload_n 1, 1) := by decide +kernel
theorem d_S_joinAcross_34 : decode b_S_joinAcross 34 = .ok (.iload 5, 2) := by decide +kernel
theorem d_S_joinAcross_36 : decode b_S_joinAcross 36 = .ok (.iconst 2, 1) := by decide +kernel
theorem d_S_joinAcross_37 : decode b_S_joinAcross 37 = .ok (.idiv, 1) := by decide +kernel
theorem d_S_joinAcross_38 : decode b_S_joinAcross 38 = .ok (.invokevirtual 45, 3) := by decide +kernel
theorem d_S_joinAcross_41 : decode b_S_joinAcross 41 = .ok (.ifCond .eq 23, 3) := by decide +kernel
theorem d_S_joinAcross_44 : decode b_S_joinAcross 44 = .ok (.aload_n 1, 1) := by decide +kernel
theorem d_S_joinAcross_45 : decode b_S_joinAcross 45 = .ok (.iload 5, 2) := by decide +kernel
theorem d_S_joinAcross_47 : decode b_S_joinAcross 47 = .ok (.iconst 1, 1) := by decide +kernel
theorem d_S_joinAcross_48 : decode b_S_joinAcross 48 = .ok (.ixor, 1) := by decide +kernel
theorem d_S_joinAcross_49 : decode b_S_joinAcross 49 = .ok (.invokevirtual 78, 3) := by decide +kernel
theorem d_S_joinAcross_52 : decode b_S_joinAcross 52 = .ok (.ifCond .ne 12, 3) := by decide +kernel
theorem d_S_joinAcross_55 : decode b_S_joinAcross 55 = .ok (.aload_n 0, 1) := by decide +kernel
theorem d_S_joinAcross_56 : decode b_S_joinAcross 56 = .ok (.iload 5, 2) := by decide +kernel
theorem d_S_joinAcross_58 : decode b_S_joinAcross 58 = .ok (.iconst 2, 1) := by decide +kernel
theorem d_S_joinAcross_59 : decode b_S_joinAcross 59 = .ok (.idiv, 1) := by decide +kernel
theorem d_S_joinAcross_60 : decode b_S_joinAcross 60 = .ok (.iload_n 3, 1) := by decide +kernel
theorem d_S_joinAcross_61 : decode b_S_joinAcross 61 = .ok (.invokevirtual 56, 3) := by decide +kernel
theorem d_S_joinAcross_64 : decode b_S_joinAcross 64 = .ok (.iinc 4 1, 3) := by decide +kernel
theorem d_S_joinAcross_67 : decode b_S_joinAcross 67 = .ok (.goto (-55), 3) := by decide +kernel
theorem d_S_joinAcross_70 : decode b_S_joinAcross 70 = .ok (.return_, 1) := by decide +kernel
theorem d_S_findCosts_0 : decode b_S_findCosts 0 = .ok (.aload_n 0, 1) := by decide +kernel
theorem d_S_findCosts_1 : decode b_S_findCosts 1 = .ok (.getfield 29, 3) := by decide +kernel
theorem d_S_findCosts_4 : decode b_S_findCosts 4 = .ok (.iload_n 2, 1) := by decide +kernel
theorem d_S_findCosts_5 : decode b_S_findCosts 5 = .ok (.if_icmp .ne 4, 3) := by decide +kernel
theorem d_S_findCosts_8 : decode b_S_findCosts 8 = .ok (.return_, 1) := by decide +kernel
theorem d_S_findCosts_9 : decode b_S_findCosts 9 = .ok (.aload_n 0, 1) := by decide +kernel
theorem d_S_findCosts_10 : decode b_S_findCosts 10 = .ok (.iload_n 2, 1) := by decide +kernel
theorem d_S_findCosts_11 : decode b_S_findCosts 11 = .ok (.putfield 29, 3) := by decide +kernel
theorem d_S_findCosts_14 : decode b_S_findCosts 14 = .ok (.aload_n 0, 1) := by decide +kernel
theorem d_S_findCosts_15 : decode b_S_findCosts 15 = .ok (.getfield 11, 3) := by decide +kernel
theorem d_S_findCosts_18 : decode b_S_findCosts 18 = .ok (.iconst (-1), 1) := by decide +kernel
theorem d_S_findCosts_19 : decode b_S_findCosts 19 = .ok (.invokestatic 36, 3) := by decide +kernel
theorem d_S_findCosts_22 : decode b_S_findCosts 22 = .ok (.aload_n 0, 1) := by decide +kernel
theorem d_S_findCosts_23 : decode b_S_findCosts 23 = .ok (.getfield 22, 3) := by decide +kernel
theorem d_S_findCosts_26 : decode b_S_findCosts 26 = .ok (.invokevirtual 53, 3) := by decide +kernel
theorem d_S_findCosts_29 : decode b_S_findCosts 29 = .ok (.aload_n 0, 1) := by decide +kernel
theorem d_S_findCosts_30 : decode b_S_findCosts 30 = .ok (.getfield 26, 3) := by decide +kernel
theorem d_S_findCosts_33 : decode b_S_findCosts 33 = .ok (.invokevirtual 53, 3) := by decide +kernel
theorem d_S_findCosts_36 : decode b_S_findCosts 36 = .ok (.aload_n 0, 1) := by decide +kernel
theorem d_S_findCosts_37 : decode b_S_findCosts 37 = .ok (.aload_n 1, 1) := by decide +kernel
theorem d_S_findCosts_38 : decode b_S_findCosts 38 = .ok (.iload_n 2, 1) := by decide +kernel
theorem d_S_findCosts_39 : decode b_S_findCosts 39 = .ok (.invokevirtual 88, 3) := by decide +kernel
theorem d_S_findCosts_42 : decode b_S_findCosts 42 = .ok (.iconst 0, 1) := by decide +kernel
theorem d_S_findCosts_43 : decode b_S_findCosts 43 = .ok (.istore_n 3, 1) := by decide +kernel
theorem d_S_findCosts_44 : decode b_S_findCosts 44 = .ok (.iload_n 3, 1) := by decide +kernel
theorem d_S_findCosts_45 : decode b_S_findCosts 45 = .ok (.aload_n 0, 1) := by decide +kernel
theorem d_S_findCosts_46 : decode b_S_findCosts 46 = .ok (.getfield 11, 3) := by decide +kernel
theorem d_S_findCosts_49 : decode b_S_findCosts 49 = .ok (.arraylength, 1) := by decide +kernel
theorem d_S_findCosts_50 : decode b_S_findCosts 50 = .ok (.if_icmp .ge 29, 3) := by decide +kernel
theorem d_S_findCosts_53 : decode b_S_findCosts 53 = .ok (.aload_n 0, 1) := by decide +kernel
theorem d_S_findCosts_54 : decode b_S_findCosts 54 = .ok (.invokevirtual 91, 3) := by decide +kernel
theorem d_S_findCosts_57 : decode b_S_findCosts 57 = .ok (.istore 4, 2) := by decide +kernel
theorem d_S_findCosts_59 : decode b_S_findCosts 59 = .ok (.iload 4, 2) := by decide +kernel
theorem d_S_findCosts_61 : decode b_S_findCosts 61 = .ok (.iconst (-1), 1) := by decide +kernel
theorem d_S_findCosts_62 : decode b_S_findCosts 62 = .ok (.if_icmp .ne 4, 3) := by decide +kernel
theorem d_S_findCosts_65 : decode b_S_findCosts 65 = .ok (.return_, 1) := by decide +kernel
theorem d_S_findCosts_66 : decode b_S_findCosts 66 = .ok (.aload_n 0, 1) := by decide +kernel
theorem d_S_findCosts_67 : decode b_S_findCosts 67 = .ok (.aload_n 1, 1) := by decide +kernel
theorem d_S_findCosts_68 : decode b_S_findCosts 68 = .ok (.iload 4, 2) := by decide +kernel
theorem d_S_findCosts_70 : decode b_S_findCosts 70 = .ok (.invokevirtual 94, 3) := by decide +kernel
theorem d_S_findCosts_73 : decode b_S_findCosts 73 = .ok (.iinc 3 1, 3) := by decide +kernel
theorem d_S_findCosts_76 : decode b_S_findCosts 76 = .ok (.goto (-32), 3) := by decide +kernel
theorem d_S_findCosts_79 : decode b_S_findCosts 79 = .ok (.return_, 1) := by decide +kernel
theorem d_S_settleTargets_0 : decode b_S_settleTargets 0 = .ok (.iconst 0, 1) := by decide +kernel
theorem d_S_settleTargets_1 : decode b_S_settleTargets 1 = .ok (.istore_n 3, 1) := by decide +kernel
theorem d_S_settleTargets_2 : decode b_S_settleTargets 2 = .ok (.iload_n 3, 1) := by decide +kernel
theorem d_S_settleTargets_3 : decode b_S_settleTargets 3 = .ok (.aload_n 1, 1) := by decide +kernel
theorem d_S_settleTargets_4 : decode b_S_settleTargets 4 = .ok (.getfield 42, 3) := by decide +kernel
theorem d_S_settleTargets_7 : decode b_S_settleTargets 7 = .ok (.arraylength, 1) := by decide +kernel
theorem d_S_settleTargets_8 : decode b_S_settleTargets 8 = .ok (.if_icmp .ge 69, 3) := by decide +kernel
theorem d_S_settleTargets_11 : decode b_S_settleTargets 11 = .ok (.aload_n 1, 1) := by decide +kernel
theorem d_S_settleTargets_12 : decode b_S_settleTargets 12 = .ok (.iload_n 3, 1) := by decide +kernel
theorem d_S_settleTargets_13 : decode b_S_settleTargets 13 = .ok (.invokevirtual 97, 3) := by decide +kernel
theorem d_S_settleTargets_16 : decode b_S_settleTargets 16 = .ok (.iload_n 2, 1) := by decide +kernel
theorem d_S_settleTargets_17 : decode b_S_settleTargets 17 = .ok (.if_icmp .eq 6, 3) := by decide +kernel
theorem d_S_settleTargets_20 : decode b_S_settleTargets 20 = .ok (.goto 51, 3) := by decide +kernel
theorem d_S_settleTargets_23 : decode b_S_settleTargets 23 = .ok (.iconst 2, 1) := by decide +kernel
theorem d_S_settleTargets_24 : decode b_S_settleTargets 24 = .ok (.iload_n 3, 1) := by decide +kernel
theorem d_S_settleTargets_25 : decode b_S_settleTargets 25 = .ok (.imul, 1) := by decide +kernel
theorem d_S_settleTargets_26 : decode b_S_settleTargets 26 = .ok (.istore 4, 2) := by decide +kernel
theorem d_S_settleTargets_28 : decode b_S_settleTargets 28 = .ok (.iload 4, 2) := by decide +kernel
theorem d_S_settleTargets_30 : decode b_S_settleTargets 30 = .ok (.iconst 2, 1) := by decide +kernel
theorem d_S_settleTargets_31 : decode b_S_settleTargets 31 = .ok (.iload_n 3, 1) := by decide +kernel
theorem d_S_settleTargets_32 : decode b_S_settleTargets 32 = .ok (.imul, 1) := by decide +kernel
theorem d_S_settleTargets_33 : decode b_S_settleTargets 33 = .ok (.iconst 1, 1) := by decide +kernel
theorem d_S_settleTargets_34 : decode b_S_settleTargets 34 = .ok (.iadd, 1) := by decide +kernel
theorem d_S_settleTargets_35 : decode b_S_settleTargets 35 = .ok (.if_icmp .gt 36, 3) := by decide +kernel
theorem d_S_settleTargets_38 : decode b_S_settleTargets 38 = .ok (.aload_n 1, 1) := by decide +kernel
theorem d_S_settleTargets_39 : decode b_S_settleTargets 39 = .ok (.iload 4, 2) := by decide +kernel
theorem d_S_settleTargets_41 : decode b_S_settleTargets 41 = .ok (.invokevirtual 101, 3) := by decide +kernel
theorem d_S_settleTargets_44 : decode b_S_settleTargets 44 = .ok (.ifCond .eq 21, 3) := by decide +kernel
theorem d_S_settleTargets_47 : decode b_S_settleTargets 47 = .ok (.aload_n 1, 1) := by decide +kernel
theorem d_S_settleTargets_48 : decode b_S_settleTargets 48 = .ok (.iload 4, 2) := by decide +kernel
theorem d_S_settleTargets_50 : decode b_S_settleTargets 50 = .ok (.iload_n 2, 1) := by decide +kernel
theorem d_S_settleTargets_51 : decode b_S_settleTargets 51 = .ok (.invokevirtual 104, 3) := by decide +kernel
theorem d_S_settleTargets_54 : decode b_S_settleTargets 54 = .ok (.ifCond .eq 11, 3) := by decide +kernel
theorem d_S_settleTargets_57 : decode b_S_settleTargets 57 = .ok (.aload_n 0, 1) := by decide +kernel
theorem d_S_settleTargets_58 : decode b_S_settleTargets 58 = .ok (.aload_n 1, 1) := by decide +kernel
theorem d_S_settleTargets_59 : decode b_S_settleTargets 59 = .ok (.iload 4, 2) := by decide +kernel
theorem d_S_settleTargets_61 : decode b_S_settleTargets 61 = .ok (.iconst 0, 1) := by decide +kernel
theorem d_S_settleTargets_62 : decode b_S_settleTargets 62 = .ok (.invokevirtual 108, 3) := by decide +kernel
theorem d_S_settleTargets_65 : decode b_S_settleTargets 65 = .ok (.iinc 4 1, 3) := by decide +kernel
theorem d_S_settleTargets_68 : decode b_S_settleTargets 68 = .ok (.goto (-40), 3) := by decide +kernel
theorem d_S_settleTargets_71 : decode b_S_settleTargets 71 = .ok (.iinc 3 1, 3) := by decide +kernel
theorem d_S_settleTargets_74 : decode b_S_settleTargets 74 = .ok (.goto (-72), 3) := by decide +kernel
theorem d_S_settleTargets_77 : decode b_S_settleTargets 77 = .ok (.return_, 1) := by decide +kernel
theorem d_S_settle_0 : decode b_S_settle 0 = .ok (.aload_n 0, 1) := by decide +kernel
theorem d_S_settle_1 : decode b_S_settle 1 = .ok (.getfield 11, 3) := by decide +kernel
theorem d_S_settle_4 : decode b_S_settle 4 = .ok (.iload_n 2, 1) := by decide +kernel
theorem d_S_settle_5 : decode b_S_settle 5 = .ok (.iload_n 3, 1) := by decide +kernel
theorem d_S_settle_6 : decode b_S_settle 6 = .ok (.iastore, 1) := by decide +kernel
theorem d_S_settle_7 : decode b_S_settle 7 = .ok (.aload_n 1, 1) := by decide +kernel
theorem d_S_settle_8 : decode b_S_settle 8 = .ok (.iload_n 2, 1) := by decide +kernel
theorem d_S_settle_9 : decode b_S_settle 9 = .ok (.invokevirtual 117, 3) := by decide +kernel
theorem d_S_settle_12 : decode b_S_settle 12 = .ok (.ifCond .eq 14, 3) := by decide +kernel
theorem d_S_settle_15 : decode b_S_settle 15 = .ok (.aload_n 0, 1) := by decide +kernel
theorem d_S_settle_16 : decode b_S_settle 16 = .ok (.getfield 22, 3) := by decide +kernel
theorem d_S_settle_19 : decode b_S_settle 19 = .ok (.iload_n 2, 1) := by decide +kernel
theorem d_S_settle_20 : decode b_S_settle 20 = .ok (.invokevirtual 85, 3) := by decide +kernel
theorem d_S_settle_23 : decode b_S_settle 23 = .ok (.goto 11, 3) := by decide +kernel
theorem d_S_settle_26 : decode b_S_settle 26 = .ok (.aload_n 0, 1) := by decide +kernel
theorem d_S_settle_27 : decode b_S_settle 27 = .ok (.getfield 26, 3) := by decide +kernel
theorem d_S_settle_30 : decode b_S_settle 30 = .ok (.iload_n 2, 1) := by decide +kernel
theorem d_S_settle_31 : decode b_S_settle 31 = .ok (.invokevirtual 85, 3) := by decide +kernel
theorem d_S_settle_34 : decode b_S_settle 34 = .ok (.return_, 1) := by decide +kernel
theorem d_S_takeNearest_0 : decode b_S_takeNearest 0 = .ok (.aload_n 0, 1) := by decide +kernel
theorem d_S_takeNearest_1 : decode b_S_takeNearest 1 = .ok (.getfield 22, 3) := by decide +kernel
theorem d_S_takeNearest_4 : decode b_S_takeNearest 4 = .ok (.invokevirtual 120, 3) := by decide +kernel
theorem d_S_takeNearest_7 : decode b_S_takeNearest 7 = .ok (.istore_n 1, 1) := by decide +kernel
theorem d_S_takeNearest_8 : decode b_S_takeNearest 8 = .ok (.aload_n 0, 1) := by decide +kernel
theorem d_S_takeNearest_9 : decode b_S_takeNearest 9 = .ok (.getfield 26, 3) := by decide +kernel
theorem d_S_takeNearest_12 : decode b_S_takeNearest 12 = .ok (.invokevirtual 120, 3) := by decide +kernel
theorem d_S_takeNearest_15 : decode b_S_takeNearest 15 = .ok (.istore_n 2, 1) := by decide +kernel
theorem d_S_takeNearest_16 : decode b_S_takeNearest 16 = .ok (.iload_n 1, 1) := by decide +kernel
theorem d_S_takeNearest_17 : decode b_S_takeNearest 17 = .ok (.iconst (-1), 1) := by decide +kernel
theorem d_S_takeNearest_18 : decode b_S_takeNearest 18 = .ok (.if_icmp .ne 11, 3) := by decide +kernel
theorem d_S_takeNearest_21 : decode b_S_takeNearest 21 = .ok (.aload_n 0, 1) := by decide +kernel
theorem d_S_takeNearest_22 : decode b_S_takeNearest 22 = .ok (.getfield 26, 3) := by decide +kernel
theorem d_S_takeNearest_25 : decode b_S_takeNearest 25 = .ok (.invokevirtual 64, 3) := by decide +kernel
theorem d_S_takeNearest_28 : decode b_S_takeNearest 28 = .ok (.ireturn, 1) := by decide +kernel
theorem d_S_takeNearest_29 : decode b_S_takeNearest 29 = .ok (.iload_n 2, 1) := by decide +kernel
theorem d_S_takeNearest_30 : decode b_S_takeNearest 30 = .ok (.iconst (-1), 1) := by decide +kernel
theorem d_S_takeNearest_31 : decode b_S_takeNearest 31 = .ok (.if_icmp .ne 11, 3) := by decide +kernel
theorem d_S_takeNearest_34 : decode b_S_takeNearest 34 = .ok (.aload_n 0, 1) := by decide +kernel
theorem d_S_takeNearest_35 : decode b_S_takeNearest 35 = .ok (.getfield 22, 3) := by decide +kernel
theorem d_S_takeNearest_38 : decode b_S_takeNearest 38 = .ok (.invokevirtual 64, 3) := by decide +kernel
theorem d_S_takeNearest_41 : decode b_S_takeNearest 41 = .ok (.ireturn, 1) := by decide +kernel
theorem d_S_takeNearest_42 : decode b_S_takeNearest 42 = .ok (.aload_n 0, 1) := by decide +kernel
theorem d_S_takeNearest_43 : decode b_S_takeNearest 43 = .ok (.getfield 11, 3) := by decide +kernel
theorem d_S_takeNearest_46 : decode b_S_takeNearest 46 = .ok (.iload_n 1, 1) := by decide +kernel
theorem d_S_takeNearest_47 : decode b_S_takeNearest 47 = .ok (.iaload, 1) := by decide +kernel
theorem d_S_takeNearest_48 : decode b_S_takeNearest 48 = .ok (.bipush 16, 2) := by decide +kernel
theorem d_S_takeNearest_50 : decode b_S_takeNearest 50 = .ok (.iadd, 1) := by decide +kernel
theorem d_S_takeNearest_51 : decode b_S_takeNearest 51 = .ok (.istore_n 3, 1) := by decide +kernel
theorem d_S_takeNearest_52 : decode b_S_takeNearest 52 = .ok (.aload_n 0, 1) := by decide +kernel
theorem d_S_takeNearest_53 : decode b_S_takeNearest 53 = .ok (.getfield 11, 3) := by decide +kernel
theorem d_S_takeNearest_56 : decode b_S_takeNearest 56 = .ok (.iload_n 2, 1) := by decide +kernel
theorem d_S_takeNearest_57 : decode b_S_takeNearest 57 = .ok (.iaload, 1) := by decide +kernel
theorem d_S_takeNearest_58 : decode b_S_takeNearest 58 = .ok (.bipush 12, 2) := by decide +kernel
theorem d_S_takeNearest_60 : decode b_S_takeNearest 60 = .ok (.iadd, 1) := by decide +kernel
theorem d_S_takeNearest_61 : decode b_S_takeNearest 61 = .ok (.istore 4, 2) := by decide +kernel
theorem d_S_takeNearest_63 : decode b_S_takeNearest 63 = .ok (.iload_n 3, 1) := by decide +kernel
theorem d_S_takeNearest_64 : decode b_S_takeNearest 64 = .ok (.iload 4, 2) := by decide +kernel
theorem d_S_takeNearest_66 : decode b_S_takeNearest 66 = .ok (.if_icmp .gt 13, 3) := by decide +kernel
theorem d_S_takeNearest_69 : decode b_S_takeNearest 69 = .ok (.aload_n 0, 1) := by decide +kernel
theorem d_S_takeNearest_70 : decode b_S_takeNearest 70 = .ok (.getfield 22, 3) := by decide +kernel
theorem d_S_takeNearest_73 : decode b_S_takeNearest 73 = .ok (.invokevirtual 64, 3) := by decide +kernel
theorem d_S_takeNearest_76 : decode b_S_takeNearest 76 = .ok (.goto 10, 3) := by decide +kernel
theorem d_S_takeNearest_79 : decode b_S_takeNearest 79 = .ok (.aload_n 0, 1) := by decide +kernel
theorem d_S_takeNearest_80 : decode b_S_takeNearest 80 = .ok (.getfield 26, 3) := by decide +kernel
theorem d_S_takeNearest_83 : decode b_S_takeNearest 83 = .ok (.invokevirtual 64, 3) := by decide +kernel
theorem d_S_takeNearest_86 : decode b_S_takeNearest 86 = .ok (.ireturn, 1) := by decide +kernel
theorem d_S_settleBehind_0 : decode b_S_settleBehind 0 = .ok (.aload_n 0, 1) := by decide +kernel
theorem d_S_settleBehind_1 : decode b_S_settleBehind 1 = .ok (.getfield 11, 3) := by decide +kernel
theorem d_S_settleBehind_4 : decode b_S_settleBehind 4 = .ok (.iload_n 2, 1) := by decide +kernel
theorem d_S_settleBehind_5 : decode b_S_settleBehind 5 = .ok (.iaload, 1) := by decide +kernel
theorem d_S_settleBehind_6 : decode b_S_settleBehind 6 = .ok (.aload_n 1, 1) := by decide +kernel
theorem d_S_settleBehind_7 : decode b_S_settleBehind 7 = .ok (.iload_n 2, 1) := by decide +kernel
theorem d_S_settleBehind_8 : decode b_S_settleBehind 8 = .ok (.invokevirtual 111, 3) := by decide +kernel
theorem d_S_settleBehind_11 : decode b_S_settleBehind 11 = .ok (.iadd, 1) := by decide +kernel
theorem d_S_settleBehind_12 : decode b_S_settleBehind 12 = .ok (.istore_n 3, 1) := by decide +kernel
theorem d_S_settleBehind_13 : decode b_S_settleBehind 13 = .ok (.iconst 0, 1) := by decide +kernel
theorem d_S_settleBehind_14 : decode b_S_settleBehind 14 = .ok (.istore 4, 2) := by decide +kernel
theorem d_S_settleBehind_16 : decode b_S_settleBehind 16 = .ok (.iload 4, 2) := by decide +kernel
theorem d_S_settleBehind_18 : decode b_S_settleBehind 18 = .ok (.iconst 3, 1) := by decide +kernel
theorem d_S_settleBehind_19 : decode b_S_settleBehind 19 = .ok (.if_icmp .ge 46, 3) := by decide +kernel
theorem d_S_settleBehind_22 : decode b_S_settleBehind 22 = .ok (.aload_n 1, 1) := by decide +kernel
theorem d_S_settleBehind_23 : decode b_S_settleBehind 23 = .ok (.iload_n 2, 1) := by decide +kernel
theorem d_S_settleBehind_24 : decode b_S_settleBehind 24 = .ok (.iload 4, 2) := by decide +kernel
theorem d_S_settleBehind_26 : decode b_S_settleBehind 26 = .ok (.invokevirtual 114, 3) := by decide +kernel
theorem d_S_settleBehind_29 : decode b_S_settleBehind 29 = .ok (.istore 5, 2) := by decide +kernel
theorem d_S_settleBehind_31 : decode b_S_settleBehind 31 = .ok (.aload_n 1, 1) := by decide +kernel
theorem d_S_settleBehind_32 : decode b_S_settleBehind 32 = .ok (.iload 5, 2) := by decide +kernel
theorem d_S_settleBehind_34 : decode b_S_settleBehind 34 = .ok (.invokevirtual 101, 3) := by decide +kernel
theorem d_S_settleBehind_37 : decode b_S_settleBehind 37 = .ok (.ifCond .eq 22, 3) := by decide +kernel
theorem d_S_settleBehind_40 : decode b_S_settleBehind 40 = .ok (.aload_n 0, 1) := by decide +kernel
theorem d_S_settleBehind_41 : decode b_S_settleBehind 41 = .ok (.getfield 11, 3) := by decide +kernel
theorem d_S_settleBehind_44 : decode b_S_settleBehind 44 = .ok (.iload 5, 2) := by decide +kernel
theorem d_S_settleBehind_46 : decode b_S_settleBehind 46 = .ok (.iaload, 1) := by decide +kernel
theorem d_S_settleBehind_47 : decode b_S_settleBehind 47 = .ok (.iconst (-1), 1) := by decide +kernel
theorem d_S_settleBehind_48 : decode b_S_settleBehind 48 = .ok (.if_icmp .ne 11, 3) := by decide +kernel
theorem d_S_settleBehind_51 : decode b_S_settleBehind 51 = .ok (.aload_n 0, 1) := by decide +kernel
theorem d_S_settleBehind_52 : decode b_S_settleBehind 52 = .ok (.aload_n 1, 1) := by decide +kernel
theorem d_S_settleBehind_53 : decode b_S_settleBehind 53 = .ok (.iload 5, 2) := by decide +kernel
theorem d_S_settleBehind_55 : decode b_S_settleBehind 55 = .ok (.iload_n 3, 1) := by decide +kernel
theorem d_S_settleBehind_56 : decode b_S_settleBehind 56 = .ok (.invokevirtual 108, 3) := by decide +kernel
theorem d_S_settleBehind_59 : decode b_S_settleBehind 59 = .ok (.iinc 4 1, 3) := by decide +kernel
theorem d_S_settleBehind_62 : decode b_S_settleBehind 62 = .ok (.goto (-46), 3) := by decide +kernel
theorem d_S_settleBehind_65 : decode b_S_settleBehind 65 = .ok (.return_, 1) := by decide +kernel
theorem d_S_cheapestAhead_0 : decode b_S_cheapestAhead 0 = .ok (.iconst (-1), 1) := by decide +kernel
theorem d_S_cheapestAhead_1 : decode b_S_cheapestAhead 1 = .ok (.istore_n 3, 1) := by decide +kernel
theorem d_S_cheapestAhead_2 : decode b_S_cheapestAhead 2 = .ok (.iconst 0, 1) := by decide +kernel
theorem d_S_cheapestAhead_3 : decode b_S_cheapestAhead 3 = .ok (.istore 4, 2) := by decide +kernel
theorem d_S_cheapestAhead_5 : decode b_S_cheapestAhead 5 = .ok (.iconst 0, 1) := by decide +kernel
theorem d_S_cheapestAhead_6 : decode b_S_cheapestAhead 6 = .ok (.istore 5, 2) := by decide +kernel
theorem d_S_cheapestAhead_8 : decode b_S_cheapestAhead 8 = .ok (.iload 5, 2) := by decide +kernel
theorem d_S_cheapestAhead_10 : decode b_S_cheapestAhead 10 = .ok (.iconst 3, 1) := by decide +kernel
theorem d_S_cheapestAhead_11 : decode b_S_cheapestAhead 11 = .ok (.if_icmp .ge 73, 3) := by decide +kernel
theorem d_S_cheapestAhead_14 : decode b_S_cheapestAhead 14 = .ok (.aload_n 1, 1) := by decide +kernel
theorem d_S_cheapestAhead_15 : decode b_S_cheapestAhead 15 = .ok (.iload_n 2, 1) := by decide +kernel
theorem d_S_cheapestAhead_16 : decode b_S_cheapestAhead 16 = .ok (.iload 5, 2) := by decide +kernel
theorem d_S_cheapestAhead_18 : decode b_S_cheapestAhead 18 = .ok (.invokevirtual 81, 3) := by decide +kernel
theorem d_S_cheapestAhead_21 : decode b_S_cheapestAhead 21 = .ok (.istore 6, 2) := by decide +kernel
theorem d_S_cheapestAhead_23 : decode b_S_cheapestAhead 23 = .ok (.aload_n 1, 1) := by decide +kernel
theorem d_S_cheapestAhead_24 : decode b_S_cheapestAhead 24 = .ok (.iload 6, 2) := by decide +kernel
theorem d_S_cheapestAhead_26 : decode b_S_cheapestAhead 26 = .ok (.invokevirtual 101, 3) := by decide +kernel
theorem d_S_cheapestAhead_29 : decode b_S_cheapestAhead 29 = .ok (.ifCond .eq 49, 3) := by decide +kernel
theorem d_S_cheapestAhead_32 : decode b_S_cheapestAhead 32 = .ok (.aload_n 0, 1) := by decide +kernel
theorem d_S_cheapestAhead_33 : decode b_S_cheapestAhead 33 = .ok (.getfield 11, 3) := by decide +kernel
theorem d_S_cheapestAhead_36 : decode b_S_cheapestAhead 36 = .ok (.iload 6, 2) := by decide +kernel
theorem d_S_cheapestAhead_38 : decode b_S_cheapestAhead 38 = .ok (.iaload, 1) := by decide +kernel
theorem d_S_cheapestAhead_39 : decode b_S_cheapestAhead 39 = .ok (.iconst (-1), 1) := by decide +kernel
theorem d_S_cheapestAhead_40 : decode b_S_cheapestAhead 40 = .ok (.if_icmp .eq 38, 3) := by decide +kernel
theorem d_S_cheapestAhead_43 : decode b_S_cheapestAhead 43 = .ok (.aload_n 1, 1) := by decide +kernel
theorem d_S_cheapestAhead_44 : decode b_S_cheapestAhead 44 = .ok (.iload 6, 2) := by decide +kernel
theorem d_S_cheapestAhead_46 : decode b_S_cheapestAhead 46 = .ok (.invokevirtual 111, 3) := by decide +kernel
theorem d_S_cheapestAhead_49 : decode b_S_cheapestAhead 49 = .ok (.aload_n 0, 1) := by decide +kernel
theorem d_S_cheapestAhead_50 : decode b_S_cheapestAhead 50 = .ok (.getfield 11, 3) := by decide +kernel
theorem d_S_cheapestAhead_53 : decode b_S_cheapestAhead 53 = .ok (.iload 6, 2) := by decide +kernel
theorem d_S_cheapestAhead_55 : decode b_S_cheapestAhead 55 = .ok (.iaload, 1) := by decide +kernel
theorem d_S_cheapestAhead_56 : decode b_S_cheapestAhead 56 = .ok (.iadd, 1) := by decide +kernel
theorem d_S_cheapestAhead_57 : decode b_S_cheapestAhead 57 = .ok (.istore 7, 2) := by decide +kernel
theorem d_S_cheapestAhead_59 : decode b_S_cheapestAhead 59 = .ok (.iload_n 3, 1) := by decide +kernel
theorem d_S_cheapestAhead_60 : decode b_S_cheapestAhead 60 = .ok (.iconst (-1), 1) := by decide +kernel
theorem d_S_cheapestAhead_61 : decode b_S_cheapestAhead 61 = .ok (.if_icmp .eq 10, 3) := by decide +kernel
theorem d_S_cheapestAhead_64 : decode b_S_cheapestAhead 64 = .ok (.iload 7, 2) := by decide +kernel
theorem d_S_cheapestAhead_66 : decode b_S_cheapestAhead 66 = .ok (.iload 4, 2) := by decide +kernel
theorem d_S_cheapestAhead_68 : decode b_S_cheapestAhead 68 = .ok (.if_icmp .ge 10, 3) := by decide +kernel
theorem d_S_cheapestAhead_71 : decode b_S_cheapestAhead 71 = .ok (.iload 6, 2) := by decide +kernel
theorem d_S_cheapestAhead_73 : decode b_S_cheapestAhead 73 = .ok (.istore_n 3, 1) := by decide +kernel
theorem d_S_cheapestAhead_74 : decode b_S_cheapestAhead 74 = .ok (.iload 7, 2) := by decide +kernel
theorem d_S_cheapestAhead_76 : decode b_S_cheapestAhead 76 = .ok (.istore 4, 2) := by decide +kernel
theorem d_S_cheapestAhead_78 : decode b_S_cheapestAhead 78 = .ok (.iinc 5 1, 3) := by decide +kernel
theorem d_S_cheapestAhead_81 : decode b_S_cheapestAhead 81 = .ok (.goto (-73), 3) := by decide +kernel
theorem d_S_cheapestAhead_84 : decode b_S_cheapestAhead 84 = .ok (.iload_n 3, 1) := by decide +kernel
theorem d_S_cheapestAhead_85 : decode b_S_cheapestAhead 85 = .ok (.ireturn, 1) := by decide +kernel
theorem d_S_forget_0 : decode b_S_forget 0 = .ok (.aload_n 0, 1) := by decide +kernel
theorem d_S_forget_1 : decode b_S_forget 1 = .ok (.iconst (-1), 1) := by decide +kernel
theorem d_S_forget_2 : decode b_S_forget 2 = .ok (.putfield 29, 3) := by decide +kernel
theorem d_S_forget_5 : decode b_S_forget 5 = .ok (.return_, 1) := by decide +kernel
