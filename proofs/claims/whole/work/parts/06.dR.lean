/-! DECODE rows, by program -/
theorem d_R_init_0 : decode b_R_init 0 = .ok (.aload_n 0, 1) := by decide +kernel
theorem d_R_init_1 : decode b_R_init 1 = .ok (.invokespecial 1, 3) := by decide +kernel
theorem d_R_init_4 : decode b_R_init 4 = .ok (.iload_n 1, 1) := by decide +kernel
theorem d_R_init_5 : decode b_R_init 5 = .ok (.invokestatic 7, 3) := by decide +kernel
theorem d_R_init_8 : decode b_R_init 8 = .ok (.istore_n 3, 1) := by decide +kernel
theorem d_R_init_9 : decode b_R_init 9 = .ok (.iload_n 2, 1) := by decide +kernel
theorem d_R_init_10 : decode b_R_init 10 = .ok (.invokestatic 7, 3) := by decide +kernel
theorem d_R_init_13 : decode b_R_init 13 = .ok (.istore 4, 2) := by decide +kernel
theorem d_R_init_15 : decode b_R_init 15 = .ok (.aload_n 0, 1) := by decide +kernel
theorem d_R_init_16 : decode b_R_init 16 = .ok (.new 13, 3) := by decide +kernel
theorem d_R_init_19 : decode b_R_init 19 = .ok (.dup, 1) := by decide +kernel
theorem d_R_init_20 : decode b_R_init 20 = .ok (.iload_n 3, 1) := by decide +kernel
theorem d_R_init_21 : decode b_R_init 21 = .ok (.iload 4, 2) := by decide +kernel
theorem d_R_init_23 : decode b_R_init 23 = .ok (.invokespecial 15, 3) := by decide +kernel
theorem d_R_init_26 : decode b_R_init 26 = .ok (.putfield 18, 3) := by decide +kernel
theorem d_R_init_29 : decode b_R_init 29 = .ok (.aload_n 0, 1) := by decide +kernel
theorem d_R_init_30 : decode b_R_init 30 = .ok (.new 22, 3) := by decide +kernel
theorem d_R_init_33 : decode b_R_init 33 = .ok (.dup, 1) := by decide +kernel
theorem d_R_init_34 : decode b_R_init 34 = .ok (.iload_n 3, 1) := by decide +kernel
theorem d_R_init_35 : decode b_R_init 35 = .ok (.iload 4, 2) := by decide +kernel
theorem d_R_init_37 : decode b_R_init 37 = .ok (.imul, 1) := by decide +kernel
theorem d_R_init_38 : decode b_R_init 38 = .ok (.invokespecial 24, 3) := by decide +kernel
theorem d_R_init_41 : decode b_R_init 41 = .ok (.putfield 27, 3) := by decide +kernel
theorem d_R_init_44 : decode b_R_init 44 = .ok (.return_, 1) := by decide +kernel
theorem d_R_sideWithin_0 : decode b_R_sideWithin 0 = .ok (.iconst 4, 1) := by decide +kernel
theorem d_R_sideWithin_1 : decode b_R_sideWithin 1 = .ok (.bipush 20, 2) := by decide +kernel
theorem d_R_sideWithin_3 : decode b_R_sideWithin 3 = .ok (.iload_n 0, 1) := by decide +kernel
theorem d_R_sideWithin_4 : decode b_R_sideWithin 4 = .ok (.invokestatic 130, 3) := by decide +kernel
theorem d_R_sideWithin_7 : decode b_R_sideWithin 7 = .ok (.invokestatic 135, 3) := by decide +kernel
theorem d_R_sideWithin_10 : decode b_R_sideWithin 10 = .ok (.ireturn, 1) := by decide +kernel
theorem d_R_at_0 : decode b_R_at 0 = .ok (.aload_n 0, 1) := by decide +kernel
theorem d_R_at_1 : decode b_R_at 1 = .ok (.getfield 18, 3) := by decide +kernel
theorem d_R_at_4 : decode b_R_at 4 = .ok (.iload_n 1, 1) := by decide +kernel
theorem d_R_at_5 : decode b_R_at 5 = .ok (.invokevirtual 78, 3) := by decide +kernel
theorem d_R_at_8 : decode b_R_at 8 = .ok (.ifCond .eq 13, 3) := by decide +kernel
theorem d_R_at_11 : decode b_R_at 11 = .ok (.iload_n 2, 1) := by decide +kernel
theorem d_R_at_12 : decode b_R_at 12 = .ok (.ifCond .lt 9, 3) := by decide +kernel
theorem d_R_at_15 : decode b_R_at 15 = .ok (.iload_n 2, 1) := by decide +kernel
theorem d_R_at_16 : decode b_R_at 16 = .ok (.bipush 6, 2) := by decide +kernel
theorem d_R_at_18 : decode b_R_at 18 = .ok (.if_icmp .le 5, 3) := by decide +kernel
theorem d_R_at_21 : decode b_R_at 21 = .ok (.iconst (-1), 1) := by decide +kernel
theorem d_R_at_22 : decode b_R_at 22 = .ok (.ireturn, 1) := by decide +kernel
theorem d_R_at_23 : decode b_R_at 23 = .ok (.iload_n 2, 1) := by decide +kernel
theorem d_R_at_24 : decode b_R_at 24 = .ok (.ifCond .ne 14, 3) := by decide +kernel
theorem d_R_at_27 : decode b_R_at 27 = .ok (.aload_n 0, 1) := by decide +kernel
theorem d_R_at_28 : decode b_R_at 28 = .ok (.getfield 18, 3) := by decide +kernel
theorem d_R_at_31 : decode b_R_at 31 = .ok (.iload_n 1, 1) := by decide +kernel
theorem d_R_at_32 : decode b_R_at 32 = .ok (.invokevirtual 81, 3) := by decide +kernel
theorem d_R_at_35 : decode b_R_at 35 = .ok (.goto 19, 3) := by decide +kernel
theorem d_R_at_38 : decode b_R_at 38 = .ok (.aload_n 0, 1) := by decide +kernel
theorem d_R_at_39 : decode b_R_at 39 = .ok (.getfield 18, 3) := by decide +kernel
theorem d_R_at_42 : decode b_R_at 42 = .ok (.getfield 84, 3) := by decide +kernel
theorem d_R_at_45 : decode b_R_at 45 = .ok (.bipush 6, 2) := by decide +kernel
theorem d_R_at_47 : decode b_R_at 47 = .ok (.iload_n 1, 1) := by decide +kernel
theorem d_R_at_48 : decode b_R_at 48 = .ok (.imul, 1) := by decide +kernel
theorem d_R_at_49 : decode b_R_at 49 = .ok (.iload_n 2, 1) := by decide +kernel
theorem d_R_at_50 : decode b_R_at 50 = .ok (.iadd, 1) := by decide +kernel
theorem d_R_at_51 : decode b_R_at 51 = .ok (.iconst 1, 1) := by decide +kernel
theorem d_R_at_52 : decode b_R_at 52 = .ok (.isub, 1) := by decide +kernel
theorem d_R_at_53 : decode b_R_at 53 = .ok (.iaload, 1) := by decide +kernel
theorem d_R_at_54 : decode b_R_at 54 = .ok (.ireturn, 1) := by decide +kernel
theorem d_R_next_0 : decode b_R_next 0 = .ok (.aload_n 0, 1) := by decide +kernel
theorem d_R_next_1 : decode b_R_next 1 = .ok (.getfield 18, 3) := by decide +kernel
theorem d_R_next_4 : decode b_R_next 4 = .ok (.iload_n 1, 1) := by decide +kernel
theorem d_R_next_5 : decode b_R_next 5 = .ok (.invokevirtual 88, 3) := by decide +kernel
theorem d_R_next_8 : decode b_R_next 8 = .ok (.ifCond .ne 5, 3) := by decide +kernel
theorem d_R_next_11 : decode b_R_next 11 = .ok (.iconst (-1), 1) := by decide +kernel
theorem d_R_next_12 : decode b_R_next 12 = .ok (.ireturn, 1) := by decide +kernel
theorem d_R_next_13 : decode b_R_next 13 = .ok (.iconst 0, 1) := by decide +kernel
theorem d_R_next_14 : decode b_R_next 14 = .ok (.istore_n 3, 1) := by decide +kernel
theorem d_R_next_15 : decode b_R_next 15 = .ok (.iconst 0, 1) := by decide +kernel
theorem d_R_next_16 : decode b_R_next 16 = .ok (.istore 4, 2) := by decide +kernel
theorem d_R_next_18 : decode b_R_next 18 = .ok (.iload 4, 2) := by decide +kernel
theorem d_R_next_20 : decode b_R_next 20 = .ok (.iconst 3, 1) := by decide +kernel
theorem d_R_next_21 : decode b_R_next 21 = .ok (.if_icmp .ge 44, 3) := by decide +kernel
theorem d_R_next_24 : decode b_R_next 24 = .ok (.aload_n 0, 1) := by decide +kernel
theorem d_R_next_25 : decode b_R_next 25 = .ok (.getfield 18, 3) := by decide +kernel
theorem d_R_next_28 : decode b_R_next 28 = .ok (.iload_n 1, 1) := by decide +kernel
theorem d_R_next_29 : decode b_R_next 29 = .ok (.iload 4, 2) := by decide +kernel
theorem d_R_next_31 : decode b_R_next 31 = .ok (.invokevirtual 91, 3) := by decide +kernel
theorem d_R_next_34 : decode b_R_next 34 = .ok (.istore 5, 2) := by decide +kernel
theorem d_R_next_36 : decode b_R_next 36 = .ok (.aload_n 0, 1) := by decide +kernel
theorem d_R_next_37 : decode b_R_next 37 = .ok (.getfield 18, 3) := by decide +kernel
theorem d_R_next_40 : decode b_R_next 40 = .ok (.iload 5, 2) := by decide +kernel
theorem d_R_next_42 : decode b_R_next 42 = .ok (.invokevirtual 88, 3) := by decide +kernel
theorem d_R_next_45 : decode b_R_next 45 = .ok (.ifCond .eq 14, 3) := by decide +kernel
theorem d_R_next_48 : decode b_R_next 48 = .ok (.iload_n 3, 1) := by decide +kernel
theorem d_R_next_49 : decode b_R_next 49 = .ok (.iload_n 2, 1) := by decide +kernel
theorem d_R_next_50 : decode b_R_next 50 = .ok (.if_icmp .ne 6, 3) := by decide +kernel
theorem d_R_next_53 : decode b_R_next 53 = .ok (.iload 5, 2) := by decide +kernel
theorem d_R_next_55 : decode b_R_next 55 = .ok (.ireturn, 1) := by decide +kernel
theorem d_R_next_56 : decode b_R_next 56 = .ok (.iinc 3 1, 3) := by decide +kernel
theorem d_R_next_59 : decode b_R_next 59 = .ok (.iinc 4 1, 3) := by decide +kernel
theorem d_R_next_62 : decode b_R_next 62 = .ok (.goto (-44), 3) := by decide +kernel
theorem d_R_next_65 : decode b_R_next 65 = .ok (.iconst (-1), 1) := by decide +kernel
theorem d_R_next_66 : decode b_R_next 66 = .ok (.ireturn, 1) := by decide +kernel
theorem d_R_before_0 : decode b_R_before 0 = .ok (.aload_n 0, 1) := by decide +kernel
theorem d_R_before_1 : decode b_R_before 1 = .ok (.getfield 18, 3) := by decide +kernel
theorem d_R_before_4 : decode b_R_before 4 = .ok (.iload_n 1, 1) := by decide +kernel
theorem d_R_before_5 : decode b_R_before 5 = .ok (.invokevirtual 88, 3) := by decide +kernel
theorem d_R_before_8 : decode b_R_before 8 = .ok (.ifCond .ne 5, 3) := by decide +kernel
theorem d_R_before_11 : decode b_R_before 11 = .ok (.iconst (-1), 1) := by decide +kernel
theorem d_R_before_12 : decode b_R_before 12 = .ok (.ireturn, 1) := by decide +kernel
theorem d_R_before_13 : decode b_R_before 13 = .ok (.iconst 0, 1) := by decide +kernel
theorem d_R_before_14 : decode b_R_before 14 = .ok (.istore_n 2, 1) := by decide +kernel
theorem d_R_before_15 : decode b_R_before 15 = .ok (.iload_n 2, 1) := by decide +kernel
theorem d_R_before_16 : decode b_R_before 16 = .ok (.iconst 3, 1) := by decide +kernel
theorem d_R_before_17 : decode b_R_before 17 = .ok (.if_icmp .ge 32, 3) := by decide +kernel
theorem d_R_before_20 : decode b_R_before 20 = .ok (.aload_n 0, 1) := by decide +kernel
theorem d_R_before_21 : decode b_R_before 21 = .ok (.getfield 18, 3) := by decide +kernel
theorem d_R_before_24 : decode b_R_before 24 = .ok (.iload_n 1, 1) := by decide +kernel
theorem d_R_before_25 : decode b_R_before 25 = .ok (.iload_n 2, 1) := by decide +kernel
theorem d_R_before_26 : decode b_R_before 26 = .ok (.invokevirtual 95, 3) := by decide +kernel
theorem d_R_before_29 : decode b_R_before 29 = .ok (.istore_n 3, 1) := by decide +kernel
theorem d_R_before_30 : decode b_R_before 30 = .ok (.aload_n 0, 1) := by decide +kernel
theorem d_R_before_31 : decode b_R_before 31 = .ok (.getfield 18, 3) := by decide +kernel
theorem d_R_before_34 : decode b_R_before 34 = .ok (.iload_n 3, 1) := by decide +kernel
theorem d_R_before_35 : decode b_R_before 35 = .ok (.invokevirtual 88, 3) := by decide +kernel
theorem d_R_before_38 : decode b_R_before 38 = .ok (.ifCond .eq 5, 3) := by decide +kernel
theorem d_R_before_41 : decode b_R_before 41 = .ok (.iload_n 3, 1) := by decide +kernel
theorem d_R_before_42 : decode b_R_before 42 = .ok (.ireturn, 1) := by decide +kernel
theorem d_R_before_43 : decode b_R_before 43 = .ok (.iinc 2 1, 3) := by decide +kernel
theorem d_R_before_46 : decode b_R_before 46 = .ok (.goto (-31), 3) := by decide +kernel
theorem d_R_before_49 : decode b_R_before 49 = .ok (.iconst (-1), 1) := by decide +kernel
theorem d_R_before_50 : decode b_R_before 50 = .ok (.ireturn, 1) := by decide +kernel
theorem d_R_block_0 : decode b_R_block 0 = .ok (.aload_n 0, 1) := by decide +kernel
theorem d_R_block_1 : decode b_R_block 1 = .ok (.getfield 18, 3) := by decide +kernel
theorem d_R_block_4 : decode b_R_block 4 = .ok (.iload_n 1, 1) := by decide +kernel
theorem d_R_block_5 : decode b_R_block 5 = .ok (.invokevirtual 78, 3) := by decide +kernel
theorem d_R_block_8 : decode b_R_block 8 = .ok (.ifCond .eq 10, 3) := by decide +kernel
theorem d_R_block_11 : decode b_R_block 11 = .ok (.iload_n 2, 1) := by decide +kernel
theorem d_R_block_12 : decode b_R_block 12 = .ok (.invokestatic 98, 3) := by decide +kernel
theorem d_R_block_15 : decode b_R_block 15 = .ok (.ifCond .ne 5, 3) := by decide +kernel
theorem d_R_block_18 : decode b_R_block 18 = .ok (.iconst (-1), 1) := by decide +kernel
theorem d_R_block_19 : decode b_R_block 19 = .ok (.ireturn, 1) := by decide +kernel
theorem d_R_block_20 : decode b_R_block 20 = .ok (.aload_n 0, 1) := by decide +kernel
theorem d_R_block_21 : decode b_R_block 21 = .ok (.getfield 27, 3) := by decide +kernel
theorem d_R_block_24 : decode b_R_block 24 = .ok (.aload_n 0, 1) := by decide +kernel
theorem d_R_block_25 : decode b_R_block 25 = .ok (.getfield 18, 3) := by decide +kernel
theorem d_R_block_28 : decode b_R_block 28 = .ok (.invokevirtual 101, 3) := by decide +kernel
theorem d_R_block_31 : decode b_R_block 31 = .ok (.aload_n 0, 1) := by decide +kernel
theorem d_R_block_32 : decode b_R_block 32 = .ok (.getfield 27, 3) := by decide +kernel
theorem d_R_block_35 : decode b_R_block 35 = .ok (.getfield 105, 3) := by decide +kernel
theorem d_R_block_38 : decode b_R_block 38 = .ok (.bipush 6, 2) := by decide +kernel
theorem d_R_block_40 : decode b_R_block 40 = .ok (.iload_n 1, 1) := by decide +kernel
theorem d_R_block_41 : decode b_R_block 41 = .ok (.imul, 1) := by decide +kernel
theorem d_R_block_42 : decode b_R_block 42 = .ok (.iload_n 2, 1) := by decide +kernel
theorem d_R_block_43 : decode b_R_block 43 = .ok (.iadd, 1) := by decide +kernel
theorem d_R_block_44 : decode b_R_block 44 = .ok (.iaload, 1) := by decide +kernel
theorem d_R_block_45 : decode b_R_block 45 = .ok (.ireturn, 1) := by decide +kernel
theorem d_R_isKind_0 : decode b_R_isKind 0 = .ok (.iload_n 0, 1) := by decide +kernel
theorem d_R_isKind_1 : decode b_R_isKind 1 = .ok (.ifCond .lt 13, 3) := by decide +kernel
theorem d_R_isKind_4 : decode b_R_isKind 4 = .ok (.iload_n 0, 1) := by decide +kernel
theorem d_R_isKind_5 : decode b_R_isKind 5 = .ok (.bipush 6, 2) := by decide +kernel
theorem d_R_isKind_7 : decode b_R_isKind 7 = .ok (.if_icmp .ge 7, 3) := by decide +kernel
theorem d_R_isKind_10 : decode b_R_isKind 10 = .ok (.iconst 1, 1) := by decide +kernel
theorem d_R_isKind_11 : decode b_R_isKind 11 = .ok (.goto 4, 3) := by decide +kernel
theorem d_R_isKind_14 : decode b_R_isKind 14 = .ok (.iconst 0, 1) := by decide +kernel
theorem d_R_isKind_15 : decode b_R_isKind 15 = .ok (.ireturn, 1) := by decide +kernel
theorem d_R_sign_0 : decode b_R_sign 0 = .ok (.iload_n 1, 1) := by decide +kernel
theorem d_R_sign_1 : decode b_R_sign 1 = .ok (.invokestatic 65, 3) := by decide +kernel
theorem d_R_sign_4 : decode b_R_sign 4 = .ok (.ifCond .ne 5, 3) := by decide +kernel
theorem d_R_sign_7 : decode b_R_sign 7 = .ok (.iconst (-1), 1) := by decide +kernel
theorem d_R_sign_8 : decode b_R_sign 8 = .ok (.ireturn, 1) := by decide +kernel
theorem d_R_sign_9 : decode b_R_sign 9 = .ok (.iconst 0, 1) := by decide +kernel
theorem d_R_sign_10 : decode b_R_sign 10 = .ok (.istore_n 2, 1) := by decide +kernel
theorem d_R_sign_11 : decode b_R_sign 11 = .ok (.iload_n 2, 1) := by decide +kernel
theorem d_R_sign_12 : decode b_R_sign 12 = .ok (.aload_n 0, 1) := by decide +kernel
theorem d_R_sign_13 : decode b_R_sign 13 = .ok (.getfield 18, 3) := by decide +kernel
theorem d_R_sign_16 : decode b_R_sign 16 = .ok (.getfield 84, 3) := by decide +kernel
theorem d_R_sign_19 : decode b_R_sign 19 = .ok (.arraylength, 1) := by decide +kernel
theorem d_R_sign_20 : decode b_R_sign 20 = .ok (.if_icmp .ge 26, 3) := by decide +kernel
theorem d_R_sign_23 : decode b_R_sign 23 = .ok (.aload_n 0, 1) := by decide +kernel
theorem d_R_sign_24 : decode b_R_sign 24 = .ok (.getfield 18, 3) := by decide +kernel
theorem d_R_sign_27 : decode b_R_sign 27 = .ok (.iload_n 2, 1) := by decide +kernel
theorem d_R_sign_28 : decode b_R_sign 28 = .ok (.invokevirtual 62, 3) := by decide +kernel
theorem d_R_sign_31 : decode b_R_sign 31 = .ok (.iload_n 1, 1) := by decide +kernel
theorem d_R_sign_32 : decode b_R_sign 32 = .ok (.if_icmp .ne 8, 3) := by decide +kernel
theorem d_R_sign_35 : decode b_R_sign 35 = .ok (.iload_n 2, 1) := by decide +kernel
theorem d_R_sign_36 : decode b_R_sign 36 = .ok (.bipush 6, 2) := by decide +kernel
theorem d_R_sign_38 : decode b_R_sign 38 = .ok (.idiv, 1) := by decide +kernel
theorem d_R_sign_39 : decode b_R_sign 39 = .ok (.ireturn, 1) := by decide +kernel
theorem d_R_sign_40 : decode b_R_sign 40 = .ok (.iinc 2 1, 3) := by decide +kernel
theorem d_R_sign_43 : decode b_R_sign 43 = .ok (.goto (-32), 3) := by decide +kernel
theorem d_R_sign_46 : decode b_R_sign 46 = .ok (.iconst (-1), 1) := by decide +kernel
theorem d_R_sign_47 : decode b_R_sign 47 = .ok (.ireturn, 1) := by decide +kernel
theorem d_R_isStation_0 : decode b_R_isStation 0 = .ok (.iload_n 0, 1) := by decide +kernel
theorem d_R_isStation_1 : decode b_R_isStation 1 = .ok (.ifCond .lt 13, 3) := by decide +kernel
theorem d_R_isStation_4 : decode b_R_isStation 4 = .ok (.iload_n 0, 1) := by decide +kernel
theorem d_R_isStation_5 : decode b_R_isStation 5 = .ok (.bipush 8, 2) := by decide +kernel
theorem d_R_isStation_7 : decode b_R_isStation 7 = .ok (.if_icmp .ge 7, 3) := by decide +kernel
theorem d_R_isStation_10 : decode b_R_isStation 10 = .ok (.iconst 1, 1) := by decide +kernel
theorem d_R_isStation_11 : decode b_R_isStation 11 = .ok (.goto 4, 3) := by decide +kernel
theorem d_R_isStation_14 : decode b_R_isStation 14 = .ok (.iconst 0, 1) := by decide +kernel
theorem d_R_isStation_15 : decode b_R_isStation 15 = .ok (.ireturn, 1) := by decide +kernel
theorem d_R_isTarget_0 : decode b_R_isTarget 0 = .ok (.iload_n 2, 1) := by decide +kernel
theorem d_R_isTarget_1 : decode b_R_isTarget 1 = .ok (.invokestatic 65, 3) := by decide +kernel
theorem d_R_isTarget_4 : decode b_R_isTarget 4 = .ok (.ifCond .eq 30, 3) := by decide +kernel
theorem d_R_isTarget_7 : decode b_R_isTarget 7 = .ok (.aload_n 0, 1) := by decide +kernel
theorem d_R_isTarget_8 : decode b_R_isTarget 8 = .ok (.getfield 18, 3) := by decide +kernel
theorem d_R_isTarget_11 : decode b_R_isTarget 11 = .ok (.iload_n 1, 1) := by decide +kernel
theorem d_R_isTarget_12 : decode b_R_isTarget 12 = .ok (.invokevirtual 88, 3) := by decide +kernel
theorem d_R_isTarget_15 : decode b_R_isTarget 15 = .ok (.ifCond .eq 19, 3) := by decide +kernel
theorem d_R_isTarget_18 : decode b_R_isTarget 18 = .ok (.aload_n 0, 1) := by decide +kernel
theorem d_R_isTarget_19 : decode b_R_isTarget 19 = .ok (.getfield 18, 3) := by decide +kernel
theorem d_R_isTarget_22 : decode b_R_isTarget 22 = .ok (.iload_n 1, 1) := by decide +kernel
theorem d_R_isTarget_23 : decode b_R_isTarget 23 = .ok (.iload_n 2, 1) := by decide +kernel
theorem d_R_isTarget_24 : decode b_R_isTarget 24 = .ok (.invokevirtual 108, 3) := by decide +kernel
theorem d_R_isTarget_27 : decode b_R_isTarget 27 = .ok (.ifCond .eq 7, 3) := by decide +kernel
theorem d_R_isTarget_30 : decode b_R_isTarget 30 = .ok (.iconst 1, 1) := by decide +kernel
theorem d_R_isTarget_31 : decode b_R_isTarget 31 = .ok (.goto 4, 3) := by decide +kernel
theorem d_R_isTarget_34 : decode b_R_isTarget 34 = .ok (.iconst 0, 1) := by decide +kernel
theorem d_R_isTarget_35 : decode b_R_isTarget 35 = .ok (.ireturn, 1) := by decide +kernel
theorem d_R_cost_0 : decode b_R_cost 0 = .ok (.iload_n 2, 1) := by decide +kernel
theorem d_R_cost_1 : decode b_R_cost 1 = .ok (.invokestatic 65, 3) := by decide +kernel
theorem d_R_cost_4 : decode b_R_cost 4 = .ok (.ifCond .eq 14, 3) := by decide +kernel
theorem d_R_cost_7 : decode b_R_cost 7 = .ok (.aload_n 0, 1) := by decide +kernel
theorem d_R_cost_8 : decode b_R_cost 8 = .ok (.getfield 18, 3) := by decide +kernel
theorem d_R_cost_11 : decode b_R_cost 11 = .ok (.iload_n 1, 1) := by decide +kernel
theorem d_R_cost_12 : decode b_R_cost 12 = .ok (.invokevirtual 88, 3) := by decide +kernel
theorem d_R_cost_15 : decode b_R_cost 15 = .ok (.ifCond .ne 5, 3) := by decide +kernel
theorem d_R_cost_18 : decode b_R_cost 18 = .ok (.iconst (-1), 1) := by decide +kernel
theorem d_R_cost_19 : decode b_R_cost 19 = .ok (.ireturn, 1) := by decide +kernel
theorem d_R_cost_20 : decode b_R_cost 20 = .ok (.aload_n 0, 1) := by decide +kernel
theorem d_R_cost_21 : decode b_R_cost 21 = .ok (.getfield 27, 3) := by decide +kernel
theorem d_R_cost_24 : decode b_R_cost 24 = .ok (.aload_n 0, 1) := by decide +kernel
theorem d_R_cost_25 : decode b_R_cost 25 = .ok (.getfield 18, 3) := by decide +kernel
theorem d_R_cost_28 : decode b_R_cost 28 = .ok (.iload_n 2, 1) := by decide +kernel
theorem d_R_cost_29 : decode b_R_cost 29 = .ok (.invokevirtual 112, 3) := by decide +kernel
theorem d_R_cost_32 : decode b_R_cost 32 = .ok (.aload_n 0, 1) := by decide +kernel
theorem d_R_cost_33 : decode b_R_cost 33 = .ok (.getfield 27, 3) := by decide +kernel
theorem d_R_cost_36 : decode b_R_cost 36 = .ok (.getfield 105, 3) := by decide +kernel
theorem d_R_cost_39 : decode b_R_cost 39 = .ok (.iload_n 1, 1) := by decide +kernel
theorem d_R_cost_40 : decode b_R_cost 40 = .ok (.iaload, 1) := by decide +kernel
theorem d_R_cost_41 : decode b_R_cost 41 = .ok (.ireturn, 1) := by decide +kernel
theorem d_R_route_0 : decode b_R_route 0 = .ok (.iload_n 2, 1) := by decide +kernel
theorem d_R_route_1 : decode b_R_route 1 = .ok (.invokestatic 65, 3) := by decide +kernel
theorem d_R_route_4 : decode b_R_route 4 = .ok (.ifCond .eq 14, 3) := by decide +kernel
theorem d_R_route_7 : decode b_R_route 7 = .ok (.aload_n 0, 1) := by decide +kernel
theorem d_R_route_8 : decode b_R_route 8 = .ok (.getfield 18, 3) := by decide +kernel
theorem d_R_route_11 : decode b_R_route 11 = .ok (.iload_n 1, 1) := by decide +kernel
theorem d_R_route_12 : decode b_R_route 12 = .ok (.invokevirtual 88, 3) := by decide +kernel
theorem d_R_route_15 : decode b_R_route 15 = .ok (.ifCond .ne 5, 3) := by decide +kernel
theorem d_R_route_18 : decode b_R_route 18 = .ok (.iconst (-1), 1) := by decide +kernel
theorem d_R_route_19 : decode b_R_route 19 = .ok (.ireturn, 1) := by decide +kernel
theorem d_R_route_20 : decode b_R_route 20 = .ok (.aload_n 0, 1) := by decide +kernel
theorem d_R_route_21 : decode b_R_route 21 = .ok (.getfield 27, 3) := by decide +kernel
theorem d_R_route_24 : decode b_R_route 24 = .ok (.aload_n 0, 1) := by decide +kernel
theorem d_R_route_25 : decode b_R_route 25 = .ok (.getfield 18, 3) := by decide +kernel
theorem d_R_route_28 : decode b_R_route 28 = .ok (.iload_n 2, 1) := by decide +kernel
theorem d_R_route_29 : decode b_R_route 29 = .ok (.invokevirtual 112, 3) := by decide +kernel
theorem d_R_route_32 : decode b_R_route 32 = .ok (.aload_n 0, 1) := by decide +kernel
theorem d_R_route_33 : decode b_R_route 33 = .ok (.getfield 27, 3) := by decide +kernel
theorem d_R_route_36 : decode b_R_route 36 = .ok (.getfield 105, 3) := by decide +kernel
theorem d_R_route_39 : decode b_R_route 39 = .ok (.iload_n 1, 1) := by decide +kernel
theorem d_R_route_40 : decode b_R_route 40 = .ok (.iaload, 1) := by decide +kernel
theorem d_R_route_41 : decode b_R_route 41 = .ok (.ifCond .gt 5, 3) := by decide +kernel
theorem d_R_route_44 : decode b_R_route 44 = .ok (.iconst (-1), 1) := by decide +kernel
theorem d_R_route_45 : decode b_R_route 45 = .ok (.ireturn, 1) := by decide +kernel
theorem d_R_route_46 : decode b_R_route 46 = .ok (.iload_n 1, 1) := by decide +kernel
theorem d_R_route_47 : decode b_R_route 47 = .ok (.istore 4, 2) := by decide +kernel
theorem d_R_route_49 : decode b_R_route 49 = .ok (.iconst 0, 1) := by decide +kernel
theorem d_R_route_50 : decode b_R_route 50 = .ok (.istore 5, 2) := by decide +kernel
theorem d_R_route_52 : decode b_R_route 52 = .ok (.iload 5, 2) := by decide +kernel
theorem d_R_route_54 : decode b_R_route 54 = .ok (.aload_n 0, 1) := by decide +kernel
theorem d_R_route_55 : decode b_R_route 55 = .ok (.getfield 27, 3) := by decide +kernel
theorem d_R_route_58 : decode b_R_route 58 = .ok (.getfield 105, 3) := by decide +kernel
theorem d_R_route_61 : decode b_R_route 61 = .ok (.arraylength, 1) := by decide +kernel
theorem d_R_route_62 : decode b_R_route 62 = .ok (.if_icmp .ge 66, 3) := by decide +kernel
theorem d_R_route_65 : decode b_R_route 65 = .ok (.aload_n 0, 1) := by decide +kernel
theorem d_R_route_66 : decode b_R_route 66 = .ok (.getfield 27, 3) := by decide +kernel
theorem d_R_route_69 : decode b_R_route 69 = .ok (.aload_n 0, 1) := by decide +kernel
theorem d_R_route_70 : decode b_R_route 70 = .ok (.getfield 18, 3) := by decide +kernel
theorem d_R_route_73 : decode b_R_route 73 = .ok (.iload 4, 2) := by decide +kernel
theorem d_R_route_75 : decode b_R_route 75 = .ok (.invokevirtual 116, 3) := by decide +kernel
theorem d_R_route_78 : decode b_R_route 78 = .ok (.istore 4, 2) := by decide +kernel
theorem d_R_route_80 : decode b_R_route 80 = .ok (.iload 4, 2) := by decide +kernel
theorem d_R_route_82 : decode b_R_route 82 = .ok (.iconst (-1), 1) := by decide +kernel
theorem d_R_route_83 : decode b_R_route 83 = .ok (.if_icmp .eq 9, 3) := by decide +kernel
theorem d_R_route_86 : decode b_R_route 86 = .ok (.iload 5, 2) := by decide +kernel
theorem d_R_route_88 : decode b_R_route 88 = .ok (.iload_n 3, 1) := by decide +kernel
theorem d_R_route_89 : decode b_R_route 89 = .ok (.if_icmp .ne 6, 3) := by decide +kernel
theorem d_R_route_92 : decode b_R_route 92 = .ok (.iload 4, 2) := by decide +kernel
theorem d_R_route_94 : decode b_R_route 94 = .ok (.ireturn, 1) := by decide +kernel
theorem d_R_route_95 : decode b_R_route 95 = .ok (.aload_n 0, 1) := by decide +kernel
theorem d_R_route_96 : decode b_R_route 96 = .ok (.getfield 18, 3) := by decide +kernel
theorem d_R_route_99 : decode b_R_route 99 = .ok (.iload 4, 2) := by decide +kernel
theorem d_R_route_101 : decode b_R_route 101 = .ok (.invokevirtual 120, 3) := by decide +kernel
theorem d_R_route_104 : decode b_R_route 104 = .ok (.ifCond .ne 16, 3) := by decide +kernel
theorem d_R_route_107 : decode b_R_route 107 = .ok (.aload_n 0, 1) := by decide +kernel
theorem d_R_route_108 : decode b_R_route 108 = .ok (.getfield 27, 3) := by decide +kernel
theorem d_R_route_111 : decode b_R_route 111 = .ok (.getfield 105, 3) := by decide +kernel
theorem d_R_route_114 : decode b_R_route 114 = .ok (.iload 4, 2) := by decide +kernel
theorem d_R_route_116 : decode b_R_route 116 = .ok (.iaload, 1) := by decide +kernel
theorem d_R_route_117 : decode b_R_route 117 = .ok (.ifCond .ne 5, 3) := by decide +kernel
theorem d_R_route_120 : decode b_R_route 120 = .ok (.iconst (-1), 1) := by decide +kernel
theorem d_R_route_121 : decode b_R_route 121 = .ok (.ireturn, 1) := by decide +kernel
theorem d_R_route_122 : decode b_R_route 122 = .ok (.iinc 5 1, 3) := by decide +kernel
theorem d_R_route_125 : decode b_R_route 125 = .ok (.goto (-73), 3) := by decide +kernel
theorem d_R_route_128 : decode b_R_route 128 = .ok (.iconst (-1), 1) := by decide +kernel
theorem d_R_route_129 : decode b_R_route 129 = .ok (.ireturn, 1) := by decide +kernel
theorem d_R_count_0 : decode b_R_count 0 = .ok (.iload_n 1, 1) := by decide +kernel
theorem d_R_count_1 : decode b_R_count 1 = .ok (.tableswitch 80 0 3 #[31, 40, 50, 61], 31) := by decide +kernel
theorem d_R_count_32 : decode b_R_count 32 = .ok (.aload_n 0, 1) := by decide +kernel
theorem d_R_count_33 : decode b_R_count 33 = .ok (.getfield 18, 3) := by decide +kernel
theorem d_R_count_36 : decode b_R_count 36 = .ok (.iconst 1, 1) := by decide +kernel
theorem d_R_count_37 : decode b_R_count 37 = .ok (.invokevirtual 123, 3) := by decide +kernel
theorem d_R_count_40 : decode b_R_count 40 = .ok (.ireturn, 1) := by decide +kernel
theorem d_R_count_41 : decode b_R_count 41 = .ok (.aload_n 0, 1) := by decide +kernel
theorem d_R_count_42 : decode b_R_count 42 = .ok (.getfield 18, 3) := by decide +kernel
theorem d_R_count_45 : decode b_R_count 45 = .ok (.bipush 28, 2) := by decide +kernel
theorem d_R_count_47 : decode b_R_count 47 = .ok (.invokevirtual 123, 3) := by decide +kernel
theorem d_R_count_50 : decode b_R_count 50 = .ok (.ireturn, 1) := by decide +kernel
theorem d_R_count_51 : decode b_R_count 51 = .ok (.aload_n 0, 1) := by decide +kernel
theorem d_R_count_52 : decode b_R_count 52 = .ok (.getfield 18, 3) := by decide +kernel
theorem d_R_count_55 : decode b_R_count 55 = .ok (.sipush 480, 3) := by decide +kernel
theorem d_R_count_58 : decode b_R_count 58 = .ok (.invokevirtual 123, 3) := by decide +kernel
theorem d_R_count_61 : decode b_R_count 61 = .ok (.ireturn, 1) := by decide +kernel
theorem d_R_count_62 : decode b_R_count 62 = .ok (.aload_n 0, 1) := by decide +kernel
theorem d_R_count_63 : decode b_R_count 63 = .ok (.getfield 27, 3) := by decide +kernel
theorem d_R_count_66 : decode b_R_count 66 = .ok (.aload_n 0, 1) := by decide +kernel
theorem d_R_count_67 : decode b_R_count 67 = .ok (.getfield 18, 3) := by decide +kernel
theorem d_R_count_70 : decode b_R_count 70 = .ok (.invokevirtual 101, 3) := by decide +kernel
theorem d_R_count_73 : decode b_R_count 73 = .ok (.aload_n 0, 1) := by decide +kernel
theorem d_R_count_74 : decode b_R_count 74 = .ok (.getfield 27, 3) := by decide +kernel
theorem d_R_count_77 : decode b_R_count 77 = .ok (.getfield 126, 3) := by decide +kernel
theorem d_R_count_80 : decode b_R_count 80 = .ok (.ireturn, 1) := by decide +kernel
theorem d_R_count_81 : decode b_R_count 81 = .ok (.iconst (-1), 1) := by decide +kernel
theorem d_R_count_82 : decode b_R_count 82 = .ok (.ireturn, 1) := by decide +kernel
theorem d_R_lay_0 : decode b_R_lay 0 = .ok (.aload_n 0, 1) := by decide +kernel
theorem d_R_lay_1 : decode b_R_lay 1 = .ok (.iload_n 1, 1) := by decide +kernel
theorem d_R_lay_2 : decode b_R_lay 2 = .ok (.iload_n 2, 1) := by decide +kernel
theorem d_R_lay_3 : decode b_R_lay 3 = .ok (.invokevirtual 31, 3) := by decide +kernel
theorem d_R_lay_6 : decode b_R_lay 6 = .ok (.bipush 6, 2) := by decide +kernel
theorem d_R_lay_8 : decode b_R_lay 8 = .ok (.iload_n 1, 1) := by decide +kernel
theorem d_R_lay_9 : decode b_R_lay 9 = .ok (.imul, 1) := by decide +kernel
theorem d_R_lay_10 : decode b_R_lay 10 = .ok (.iload_n 2, 1) := by decide +kernel
theorem d_R_lay_11 : decode b_R_lay 11 = .ok (.iadd, 1) := by decide +kernel
theorem d_R_lay_12 : decode b_R_lay 12 = .ok (.istore_n 3, 1) := by decide +kernel
theorem d_R_lay_13 : decode b_R_lay 13 = .ok (.aload_n 0, 1) := by decide +kernel
theorem d_R_lay_14 : decode b_R_lay 14 = .ok (.getfield 18, 3) := by decide +kernel
theorem d_R_lay_17 : decode b_R_lay 17 = .ok (.iload_n 3, 1) := by decide +kernel
theorem d_R_lay_18 : decode b_R_lay 18 = .ok (.invokevirtual 34, 3) := by decide +kernel
theorem d_R_lay_21 : decode b_R_lay 21 = .ok (.ifCond .eq 13, 3) := by decide +kernel
theorem d_R_lay_24 : decode b_R_lay 24 = .ok (.new 38, 3) := by decide +kernel
theorem d_R_lay_27 : decode b_R_lay 27 = .ok (.dup, 1) := by decide +kernel
theorem d_R_lay_28 : decode b_R_lay 28 = .ok (.ldc 40, 2) := by decide +kernel
theorem d_R_lay_30 : decode b_R_lay 30 = .ok (.invokespecial 42, 3) := by decide +kernel
theorem d_R_lay_33 : decode b_R_lay 33 = .ok (.athrow, 1) := by decide +kernel
theorem d_R_lay_34 : decode b_R_lay 34 = .ok (.aload_n 0, 1) := by decide +kernel
theorem d_R_lay_35 : decode b_R_lay 35 = .ok (.getfield 18, 3) := by decide +kernel
theorem d_R_lay_38 : decode b_R_lay 38 = .ok (.iload_n 3, 1) := by decide +kernel
theorem d_R_lay_39 : decode b_R_lay 39 = .ok (.iconst 0, 1) := by decide +kernel
theorem d_R_lay_40 : decode b_R_lay 40 = .ok (.iconst (-1), 1) := by decide +kernel
theorem d_R_lay_41 : decode b_R_lay 41 = .ok (.invokevirtual 45, 3) := by decide +kernel
theorem d_R_lay_44 : decode b_R_lay 44 = .ok (.aload_n 0, 1) := by decide +kernel
theorem d_R_lay_45 : decode b_R_lay 45 = .ok (.getfield 27, 3) := by decide +kernel
theorem d_R_lay_48 : decode b_R_lay 48 = .ok (.invokevirtual 49, 3) := by decide +kernel
theorem d_R_lay_51 : decode b_R_lay 51 = .ok (.return_, 1) := by decide +kernel
theorem d_R_requirePlace_0 : decode b_R_requirePlace 0 = .ok (.aload_n 0, 1) := by decide +kernel
theorem d_R_requirePlace_1 : decode b_R_requirePlace 1 = .ok (.getfield 18, 3) := by decide +kernel
theorem d_R_requirePlace_4 : decode b_R_requirePlace 4 = .ok (.iload_n 1, 1) := by decide +kernel
theorem d_R_requirePlace_5 : decode b_R_requirePlace 5 = .ok (.invokevirtual 78, 3) := by decide +kernel
theorem d_R_requirePlace_8 : decode b_R_requirePlace 8 = .ok (.ifCond .ne 13, 3) := by decide +kernel
theorem d_R_requirePlace_11 : decode b_R_requirePlace 11 = .ok (.new 68, 3) := by decide +kernel
theorem d_R_requirePlace_14 : decode b_R_requirePlace 14 = .ok (.dup, 1) := by decide +kernel
theorem d_R_requirePlace_15 : decode b_R_requirePlace 15 = .ok (.ldc 138, 2) := by decide +kernel
theorem d_R_requirePlace_17 : decode b_R_requirePlace 17 = .ok (.invokespecial 72, 3) := by decide +kernel
theorem d_R_requirePlace_20 : decode b_R_requirePlace 20 = .ok (.athrow, 1) := by decide +kernel
theorem d_R_requirePlace_21 : decode b_R_requirePlace 21 = .ok (.iload_n 2, 1) := by decide +kernel
theorem d_R_requirePlace_22 : decode b_R_requirePlace 22 = .ok (.invokestatic 98, 3) := by decide +kernel
theorem d_R_requirePlace_25 : decode b_R_requirePlace 25 = .ok (.ifCond .ne 13, 3) := by decide +kernel
theorem d_R_requirePlace_28 : decode b_R_requirePlace 28 = .ok (.new 68, 3) := by decide +kernel
theorem d_R_requirePlace_31 : decode b_R_requirePlace 31 = .ok (.dup, 1) := by decide +kernel
theorem d_R_requirePlace_32 : decode b_R_requirePlace 32 = .ok (.ldc 140, 2) := by decide +kernel
theorem d_R_requirePlace_34 : decode b_R_requirePlace 34 = .ok (.invokespecial 72, 3) := by decide +kernel
theorem d_R_requirePlace_37 : decode b_R_requirePlace 37 = .ok (.athrow, 1) := by decide +kernel
theorem d_R_requirePlace_38 : decode b_R_requirePlace 38 = .ok (.return_, 1) := by decide +kernel
theorem d_R_lift_0 : decode b_R_lift 0 = .ok (.aload_n 0, 1) := by decide +kernel
theorem d_R_lift_1 : decode b_R_lift 1 = .ok (.iload_n 1, 1) := by decide +kernel
theorem d_R_lift_2 : decode b_R_lift 2 = .ok (.iload_n 2, 1) := by decide +kernel
theorem d_R_lift_3 : decode b_R_lift 3 = .ok (.invokevirtual 31, 3) := by decide +kernel
theorem d_R_lift_6 : decode b_R_lift 6 = .ok (.bipush 6, 2) := by decide +kernel
theorem d_R_lift_8 : decode b_R_lift 8 = .ok (.iload_n 1, 1) := by decide +kernel
theorem d_R_lift_9 : decode b_R_lift 9 = .ok (.imul, 1) := by decide +kernel
theorem d_R_lift_10 : decode b_R_lift 10 = .ok (.iload_n 2, 1) := by decide +kernel
theorem d_R_lift_11 : decode b_R_lift 11 = .ok (.iadd, 1) := by decide +kernel
theorem d_R_lift_12 : decode b_R_lift 12 = .ok (.istore_n 3, 1) := by decide +kernel
theorem d_R_lift_13 : decode b_R_lift 13 = .ok (.aload_n 0, 1) := by decide +kernel
theorem d_R_lift_14 : decode b_R_lift 14 = .ok (.iload_n 3, 1) := by decide +kernel
theorem d_R_lift_15 : decode b_R_lift 15 = .ok (.invokevirtual 52, 3) := by decide +kernel
theorem d_R_lift_18 : decode b_R_lift 18 = .ok (.aload_n 0, 1) := by decide +kernel
theorem d_R_lift_19 : decode b_R_lift 19 = .ok (.getfield 18, 3) := by decide +kernel
theorem d_R_lift_22 : decode b_R_lift 22 = .ok (.iload_n 3, 1) := by decide +kernel
theorem d_R_lift_23 : decode b_R_lift 23 = .ok (.invokevirtual 55, 3) := by decide +kernel
theorem d_R_lift_26 : decode b_R_lift 26 = .ok (.aload_n 0, 1) := by decide +kernel
theorem d_R_lift_27 : decode b_R_lift 27 = .ok (.getfield 27, 3) := by decide +kernel
theorem d_R_lift_30 : decode b_R_lift 30 = .ok (.invokevirtual 49, 3) := by decide +kernel
theorem d_R_lift_33 : decode b_R_lift 33 = .ok (.return_, 1) := by decide +kernel
theorem d_R_requireThere_0 : decode b_R_requireThere 0 = .ok (.aload_n 0, 1) := by decide +kernel
theorem d_R_requireThere_1 : decode b_R_requireThere 1 = .ok (.getfield 18, 3) := by decide +kernel
theorem d_R_requireThere_4 : decode b_R_requireThere 4 = .ok (.iload_n 1, 1) := by decide +kernel
theorem d_R_requireThere_5 : decode b_R_requireThere 5 = .ok (.invokevirtual 34, 3) := by decide +kernel
theorem d_R_requireThere_8 : decode b_R_requireThere 8 = .ok (.ifCond .ne 13, 3) := by decide +kernel
theorem d_R_requireThere_11 : decode b_R_requireThere 11 = .ok (.new 38, 3) := by decide +kernel
theorem d_R_requireThere_14 : decode b_R_requireThere 14 = .ok (.dup, 1) := by decide +kernel
theorem d_R_requireThere_15 : decode b_R_requireThere 15 = .ok (.ldc 142, 2) := by decide +kernel
theorem d_R_requireThere_17 : decode b_R_requireThere 17 = .ok (.invokespecial 42, 3) := by decide +kernel
theorem d_R_requireThere_20 : decode b_R_requireThere 20 = .ok (.athrow, 1) := by decide +kernel
theorem d_R_requireThere_21 : decode b_R_requireThere 21 = .ok (.return_, 1) := by decide +kernel
theorem d_R_signal_0 : decode b_R_signal 0 = .ok (.aload_n 0, 1) := by decide +kernel
theorem d_R_signal_1 : decode b_R_signal 1 = .ok (.iload_n 1, 1) := by decide +kernel
theorem d_R_signal_2 : decode b_R_signal 2 = .ok (.iload_n 2, 1) := by decide +kernel
theorem d_R_signal_3 : decode b_R_signal 3 = .ok (.invokevirtual 31, 3) := by decide +kernel
theorem d_R_signal_6 : decode b_R_signal 6 = .ok (.bipush 6, 2) := by decide +kernel
theorem d_R_signal_8 : decode b_R_signal 8 = .ok (.iload_n 1, 1) := by decide +kernel
theorem d_R_signal_9 : decode b_R_signal 9 = .ok (.imul, 1) := by decide +kernel
theorem d_R_signal_10 : decode b_R_signal 10 = .ok (.iload_n 2, 1) := by decide +kernel
theorem d_R_signal_11 : decode b_R_signal 11 = .ok (.iadd, 1) := by decide +kernel
theorem d_R_signal_12 : decode b_R_signal 12 = .ok (.istore 5, 2) := by decide +kernel
theorem d_R_signal_14 : decode b_R_signal 14 = .ok (.aload_n 0, 1) := by decide +kernel
theorem d_R_signal_15 : decode b_R_signal 15 = .ok (.iload 5, 2) := by decide +kernel
theorem d_R_signal_17 : decode b_R_signal 17 = .ok (.invokevirtual 52, 3) := by decide +kernel
theorem d_R_signal_20 : decode b_R_signal 20 = .ok (.iload_n 3, 1) := by decide +kernel
theorem d_R_signal_21 : decode b_R_signal 21 = .ok (.iconst (-1), 1) := by decide +kernel
theorem d_R_signal_22 : decode b_R_signal 22 = .ok (.if_icmp .lt 8, 3) := by decide +kernel
theorem d_R_signal_25 : decode b_R_signal 25 = .ok (.iload_n 3, 1) := by decide +kernel
theorem d_R_signal_26 : decode b_R_signal 26 = .ok (.iconst 1, 1) := by decide +kernel
theorem d_R_signal_27 : decode b_R_signal 27 = .ok (.if_icmp .le 13, 3) := by decide +kernel
theorem d_R_signal_30 : decode b_R_signal 30 = .ok (.new 38, 3) := by decide +kernel
theorem d_R_signal_33 : decode b_R_signal 33 = .ok (.dup, 1) := by decide +kernel
theorem d_R_signal_34 : decode b_R_signal 34 = .ok (.ldc 58, 2) := by decide +kernel
theorem d_R_signal_36 : decode b_R_signal 36 = .ok (.invokespecial 42, 3) := by decide +kernel
theorem d_R_signal_39 : decode b_R_signal 39 = .ok (.athrow, 1) := by decide +kernel
theorem d_R_signal_40 : decode b_R_signal 40 = .ok (.iload 4, 2) := by decide +kernel
theorem d_R_signal_42 : decode b_R_signal 42 = .ok (.ifCond .lt 9, 3) := by decide +kernel
theorem d_R_signal_45 : decode b_R_signal 45 = .ok (.iload 4, 2) := by decide +kernel
theorem d_R_signal_47 : decode b_R_signal 47 = .ok (.iconst 2, 1) := by decide +kernel
theorem d_R_signal_48 : decode b_R_signal 48 = .ok (.if_icmp .lt 13, 3) := by decide +kernel
theorem d_R_signal_51 : decode b_R_signal 51 = .ok (.new 38, 3) := by decide +kernel
theorem d_R_signal_54 : decode b_R_signal 54 = .ok (.dup, 1) := by decide +kernel
theorem d_R_signal_55 : decode b_R_signal 55 = .ok (.ldc 60, 2) := by decide +kernel
theorem d_R_signal_57 : decode b_R_signal 57 = .ok (.invokespecial 42, 3) := by decide +kernel
theorem d_R_signal_60 : decode b_R_signal 60 = .ok (.athrow, 1) := by decide +kernel
theorem d_R_signal_61 : decode b_R_signal 61 = .ok (.iload_n 3, 1) := by decide +kernel
theorem d_R_signal_62 : decode b_R_signal 62 = .ok (.iconst (-1), 1) := by decide +kernel
theorem d_R_signal_63 : decode b_R_signal 63 = .ok (.if_icmp .ne 7, 3) := by decide +kernel
theorem d_R_signal_66 : decode b_R_signal 66 = .ok (.iconst 0, 1) := by decide +kernel
theorem d_R_signal_67 : decode b_R_signal 67 = .ok (.goto 11, 3) := by decide +kernel
theorem d_R_signal_70 : decode b_R_signal 70 = .ok (.iconst 1, 1) := by decide +kernel
theorem d_R_signal_71 : decode b_R_signal 71 = .ok (.iload_n 3, 1) := by decide +kernel
theorem d_R_signal_72 : decode b_R_signal 72 = .ok (.iadd, 1) := by decide +kernel
theorem d_R_signal_73 : decode b_R_signal 73 = .ok (.iconst 2, 1) := by decide +kernel
theorem d_R_signal_74 : decode b_R_signal 74 = .ok (.iload 4, 2) := by decide +kernel
theorem d_R_signal_76 : decode b_R_signal 76 = .ok (.imul, 1) := by decide +kernel
theorem d_R_signal_77 : decode b_R_signal 77 = .ok (.iadd, 1) := by decide +kernel
theorem d_R_signal_78 : decode b_R_signal 78 = .ok (.istore 6, 2) := by decide +kernel
theorem d_R_signal_80 : decode b_R_signal 80 = .ok (.aload_n 0, 1) := by decide +kernel
theorem d_R_signal_81 : decode b_R_signal 81 = .ok (.getfield 18, 3) := by decide +kernel
theorem d_R_signal_84 : decode b_R_signal 84 = .ok (.iload 5, 2) := by decide +kernel
theorem d_R_signal_86 : decode b_R_signal 86 = .ok (.iload 6, 2) := by decide +kernel
theorem d_R_signal_88 : decode b_R_signal 88 = .ok (.aload_n 0, 1) := by decide +kernel
theorem d_R_signal_89 : decode b_R_signal 89 = .ok (.getfield 18, 3) := by decide +kernel
theorem d_R_signal_92 : decode b_R_signal 92 = .ok (.iload 5, 2) := by decide +kernel
theorem d_R_signal_94 : decode b_R_signal 94 = .ok (.invokevirtual 62, 3) := by decide +kernel
theorem d_R_signal_97 : decode b_R_signal 97 = .ok (.invokevirtual 45, 3) := by decide +kernel
theorem d_R_signal_100 : decode b_R_signal 100 = .ok (.aload_n 0, 1) := by decide +kernel
theorem d_R_signal_101 : decode b_R_signal 101 = .ok (.getfield 27, 3) := by decide +kernel
theorem d_R_signal_104 : decode b_R_signal 104 = .ok (.invokevirtual 49, 3) := by decide +kernel
theorem d_R_signal_107 : decode b_R_signal 107 = .ok (.return_, 1) := by decide +kernel
theorem d_R_platform_0 : decode b_R_platform 0 = .ok (.aload_n 0, 1) := by decide +kernel
theorem d_R_platform_1 : decode b_R_platform 1 = .ok (.iload_n 1, 1) := by decide +kernel
theorem d_R_platform_2 : decode b_R_platform 2 = .ok (.iload_n 2, 1) := by decide +kernel
theorem d_R_platform_3 : decode b_R_platform 3 = .ok (.invokevirtual 31, 3) := by decide +kernel
theorem d_R_platform_6 : decode b_R_platform 6 = .ok (.iload_n 3, 1) := by decide +kernel
theorem d_R_platform_7 : decode b_R_platform 7 = .ok (.iconst (-1), 1) := by decide +kernel
theorem d_R_platform_8 : decode b_R_platform 8 = .ok (.if_icmp .eq 20, 3) := by decide +kernel
theorem d_R_platform_11 : decode b_R_platform 11 = .ok (.iload_n 3, 1) := by decide +kernel
theorem d_R_platform_12 : decode b_R_platform 12 = .ok (.invokestatic 65, 3) := by decide +kernel
theorem d_R_platform_15 : decode b_R_platform 15 = .ok (.ifCond .ne 13, 3) := by decide +kernel
theorem d_R_platform_18 : decode b_R_platform 18 = .ok (.new 68, 3) := by decide +kernel
theorem d_R_platform_21 : decode b_R_platform 21 = .ok (.dup, 1) := by decide +kernel
theorem d_R_platform_22 : decode b_R_platform 22 = .ok (.ldc 70, 2) := by decide +kernel
theorem d_R_platform_24 : decode b_R_platform 24 = .ok (.invokespecial 72, 3) := by decide +kernel
theorem d_R_platform_27 : decode b_R_platform 27 = .ok (.athrow, 1) := by decide +kernel
theorem d_R_platform_28 : decode b_R_platform 28 = .ok (.bipush 6, 2) := by decide +kernel
theorem d_R_platform_30 : decode b_R_platform 30 = .ok (.iload_n 1, 1) := by decide +kernel
theorem d_R_platform_31 : decode b_R_platform 31 = .ok (.imul, 1) := by decide +kernel
theorem d_R_platform_32 : decode b_R_platform 32 = .ok (.iload_n 2, 1) := by decide +kernel
theorem d_R_platform_33 : decode b_R_platform 33 = .ok (.iadd, 1) := by decide +kernel
theorem d_R_platform_34 : decode b_R_platform 34 = .ok (.istore 4, 2) := by decide +kernel
theorem d_R_platform_36 : decode b_R_platform 36 = .ok (.aload_n 0, 1) := by decide +kernel
theorem d_R_platform_37 : decode b_R_platform 37 = .ok (.iload 4, 2) := by decide +kernel
theorem d_R_platform_39 : decode b_R_platform 39 = .ok (.invokevirtual 52, 3) := by decide +kernel
theorem d_R_platform_42 : decode b_R_platform 42 = .ok (.iload_n 2, 1) := by decide +kernel
theorem d_R_platform_43 : decode b_R_platform 43 = .ok (.iconst 2, 1) := by decide +kernel
theorem d_R_platform_44 : decode b_R_platform 44 = .ok (.if_icmp .lt 13, 3) := by decide +kernel
theorem d_R_platform_47 : decode b_R_platform 47 = .ok (.new 38, 3) := by decide +kernel
theorem d_R_platform_50 : decode b_R_platform 50 = .ok (.dup, 1) := by decide +kernel
theorem d_R_platform_51 : decode b_R_platform 51 = .ok (.ldc 73, 2) := by decide +kernel
theorem d_R_platform_53 : decode b_R_platform 53 = .ok (.invokespecial 42, 3) := by decide +kernel
theorem d_R_platform_56 : decode b_R_platform 56 = .ok (.athrow, 1) := by decide +kernel
theorem d_R_platform_57 : decode b_R_platform 57 = .ok (.aload_n 0, 1) := by decide +kernel
theorem d_R_platform_58 : decode b_R_platform 58 = .ok (.getfield 18, 3) := by decide +kernel
theorem d_R_platform_61 : decode b_R_platform 61 = .ok (.iload 4, 2) := by decide +kernel
theorem d_R_platform_63 : decode b_R_platform 63 = .ok (.aload_n 0, 1) := by decide +kernel
theorem d_R_platform_64 : decode b_R_platform 64 = .ok (.getfield 18, 3) := by decide +kernel
theorem d_R_platform_67 : decode b_R_platform 67 = .ok (.iload 4, 2) := by decide +kernel
theorem d_R_platform_69 : decode b_R_platform 69 = .ok (.invokevirtual 75, 3) := by decide +kernel
theorem d_R_platform_72 : decode b_R_platform 72 = .ok (.iload_n 3, 1) := by decide +kernel
theorem d_R_platform_73 : decode b_R_platform 73 = .ok (.invokevirtual 45, 3) := by decide +kernel
theorem d_R_platform_76 : decode b_R_platform 76 = .ok (.aload_n 0, 1) := by decide +kernel
theorem d_R_platform_77 : decode b_R_platform 77 = .ok (.getfield 27, 3) := by decide +kernel
theorem d_R_platform_80 : decode b_R_platform 80 = .ok (.invokevirtual 49, 3) := by decide +kernel
theorem d_R_platform_83 : decode b_R_platform 83 = .ok (.return_, 1) := by decide +kernel
