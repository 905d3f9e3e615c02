theorem dS_init_0 : decode prog_1_method_1_code 0 = .ok (.aload_n 0, 1) := by decide +kernel
theorem dS_init_1 : decode prog_1_method_1_code 1 = .ok (.invokespecial 1, 3) := by decide +kernel
theorem dS_init_4 : decode prog_1_method_1_code 4 = .ok (.aload_n 0, 1) := by decide +kernel
theorem dS_init_5 : decode prog_1_method_1_code 5 = .ok (.sipush 4096, 3) := by decide +kernel
theorem dS_init_8 : decode prog_1_method_1_code 8 = .ok (.newarray .int, 2) := by decide +kernel
theorem dS_init_10 : decode prog_1_method_1_code 10 = .ok (.putfield 9, 3) := by decide +kernel
theorem dS_init_13 : decode prog_1_method_1_code 13 = .ok (.aload_n 0, 1) := by decide +kernel
theorem dS_init_14 : decode prog_1_method_1_code 14 = .ok (.sipush 4096, 3) := by decide +kernel
theorem dS_init_17 : decode prog_1_method_1_code 17 = .ok (.newarray .int, 2) := by decide +kernel
theorem dS_init_19 : decode prog_1_method_1_code 19 = .ok (.putfield 13, 3) := by decide +kernel
theorem dS_init_22 : decode prog_1_method_1_code 22 = .ok (.aload_n 0, 1) := by decide +kernel
theorem dS_init_23 : decode prog_1_method_1_code 23 = .ok (.iconst 0, 1) := by decide +kernel
theorem dS_init_24 : decode prog_1_method_1_code 24 = .ok (.putfield 16, 3) := by decide +kernel
theorem dS_init_27 : decode prog_1_method_1_code 27 = .ok (.aload_n 0, 1) := by decide +kernel
theorem dS_init_28 : decode prog_1_method_1_code 28 = .ok (.iconst 0, 1) := by decide +kernel
theorem dS_init_29 : decode prog_1_method_1_code 29 = .ok (.putfield 20, 3) := by decide +kernel
theorem dS_init_32 : decode prog_1_method_1_code 32 = .ok (.aload_n 0, 1) := by decide +kernel
theorem dS_init_33 : decode prog_1_method_1_code 33 = .ok (.iconst 0, 1) := by decide +kernel
theorem dS_init_34 : decode prog_1_method_1_code 34 = .ok (.putfield 23, 3) := by decide +kernel
theorem dS_init_37 : decode prog_1_method_1_code 37 = .ok (.return_, 1) := by decide +kernel
theorem dS_change_0 : decode prog_1_method_4_code 0 = .ok (.aload_n 0, 1) := by decide +kernel
theorem dS_change_1 : decode prog_1_method_4_code 1 = .ok (.iload_n 1, 1) := by decide +kernel
theorem dS_change_2 : decode prog_1_method_4_code 2 = .ok (.invokevirtual 42, 3) := by decide +kernel
theorem dS_change_5 : decode prog_1_method_4_code 5 = .ok (.ifCond .eq 14, 3) := by decide +kernel
theorem dS_change_8 : decode prog_1_method_4_code 8 = .ok (.iload_n 2, 1) := by decide +kernel
theorem dS_change_9 : decode prog_1_method_4_code 9 = .ok (.ifCond .lt 10, 3) := by decide +kernel
theorem dS_change_12 : decode prog_1_method_4_code 12 = .ok (.iload_n 2, 1) := by decide +kernel
theorem dS_change_13 : decode prog_1_method_4_code 13 = .ok (.sipush 255, 3) := by decide +kernel
theorem dS_change_16 : decode prog_1_method_4_code 16 = .ok (.if_icmp .le 5, 3) := by decide +kernel
theorem dS_change_19 : decode prog_1_method_4_code 19 = .ok (.iconst (-1), 1) := by decide +kernel
theorem dS_change_20 : decode prog_1_method_4_code 20 = .ok (.ireturn, 1) := by decide +kernel
theorem dS_change_21 : decode prog_1_method_4_code 21 = .ok (.aload_n 0, 1) := by decide +kernel
theorem dS_change_22 : decode prog_1_method_4_code 22 = .ok (.getfield 9, 3) := by decide +kernel
theorem dS_change_25 : decode prog_1_method_4_code 25 = .ok (.iload_n 1, 1) := by decide +kernel
theorem dS_change_26 : decode prog_1_method_4_code 26 = .ok (.iaload, 1) := by decide +kernel
theorem dS_change_27 : decode prog_1_method_4_code 27 = .ok (.istore_n 3, 1) := by decide +kernel
theorem dS_change_28 : decode prog_1_method_4_code 28 = .ok (.aload_n 0, 1) := by decide +kernel
theorem dS_change_29 : decode prog_1_method_4_code 29 = .ok (.getfield 9, 3) := by decide +kernel
theorem dS_change_32 : decode prog_1_method_4_code 32 = .ok (.iload_n 1, 1) := by decide +kernel
theorem dS_change_33 : decode prog_1_method_4_code 33 = .ok (.iload_n 2, 1) := by decide +kernel
theorem dS_change_34 : decode prog_1_method_4_code 34 = .ok (.iastore, 1) := by decide +kernel
theorem dS_change_35 : decode prog_1_method_4_code 35 = .ok (.iload_n 3, 1) := by decide +kernel
theorem dS_change_36 : decode prog_1_method_4_code 36 = .ok (.ireturn, 1) := by decide +kernel
theorem dS_hasByte_0 : decode prog_1_method_14_code 0 = .ok (.iload_n 1, 1) := by decide +kernel
theorem dS_hasByte_1 : decode prog_1_method_14_code 1 = .ok (.ifCond .lt 15, 3) := by decide +kernel
theorem dS_hasByte_4 : decode prog_1_method_14_code 4 = .ok (.iload_n 1, 1) := by decide +kernel
theorem dS_hasByte_5 : decode prog_1_method_14_code 5 = .ok (.aload_n 0, 1) := by decide +kernel
theorem dS_hasByte_6 : decode prog_1_method_14_code 6 = .ok (.getfield 16, 3) := by decide +kernel
theorem dS_hasByte_9 : decode prog_1_method_14_code 9 = .ok (.if_icmp .ge 7, 3) := by decide +kernel
theorem dS_hasByte_12 : decode prog_1_method_14_code 12 = .ok (.iconst 1, 1) := by decide +kernel
theorem dS_hasByte_13 : decode prog_1_method_14_code 13 = .ok (.goto 4, 3) := by decide +kernel
theorem dS_hasByte_16 : decode prog_1_method_14_code 16 = .ok (.iconst 0, 1) := by decide +kernel
theorem dS_hasByte_17 : decode prog_1_method_14_code 17 = .ok (.ireturn, 1) := by decide +kernel
theorem dS_came_0 : decode prog_1_method_5_code 0 = .ok (.aload_n 0, 1) := by decide +kernel
theorem dS_came_1 : decode prog_1_method_5_code 1 = .ok (.iload_n 1, 1) := by decide +kernel
theorem dS_came_2 : decode prog_1_method_5_code 2 = .ok (.invokevirtual 42, 3) := by decide +kernel
theorem dS_came_5 : decode prog_1_method_5_code 5 = .ok (.ifCond .eq 12, 3) := by decide +kernel
theorem dS_came_8 : decode prog_1_method_5_code 8 = .ok (.aload_n 0, 1) := by decide +kernel
theorem dS_came_9 : decode prog_1_method_5_code 9 = .ok (.getfield 9, 3) := by decide +kernel
theorem dS_came_12 : decode prog_1_method_5_code 12 = .ok (.iload_n 1, 1) := by decide +kernel
theorem dS_came_13 : decode prog_1_method_5_code 13 = .ok (.iaload, 1) := by decide +kernel
theorem dS_came_14 : decode prog_1_method_5_code 14 = .ok (.goto 4, 3) := by decide +kernel
theorem dS_came_17 : decode prog_1_method_5_code 17 = .ok (.iconst (-1), 1) := by decide +kernel
theorem dS_came_18 : decode prog_1_method_5_code 18 = .ok (.ireturn, 1) := by decide +kernel
theorem dS_read_0 : decode prog_1_method_6_code 0 = .ok (.aload_n 0, 1) := by decide +kernel
theorem dS_read_1 : decode prog_1_method_6_code 1 = .ok (.invokevirtual 46, 3) := by decide +kernel
theorem dS_read_4 : decode prog_1_method_6_code 4 = .ok (.istore_n 1, 1) := by decide +kernel
theorem dS_read_5 : decode prog_1_method_6_code 5 = .ok (.aload_n 0, 1) := by decide +kernel
theorem dS_read_6 : decode prog_1_method_6_code 6 = .ok (.iload_n 1, 1) := by decide +kernel
theorem dS_read_7 : decode prog_1_method_6_code 7 = .ok (.invokevirtual 50, 3) := by decide +kernel
theorem dS_read_10 : decode prog_1_method_6_code 10 = .ok (.istore_n 2, 1) := by decide +kernel
theorem dS_read_11 : decode prog_1_method_6_code 11 = .ok (.iload_n 2, 1) := by decide +kernel
theorem dS_read_12 : decode prog_1_method_6_code 12 = .ok (.iconst (-1), 1) := by decide +kernel
theorem dS_read_13 : decode prog_1_method_6_code 13 = .ok (.if_icmp .ne 13, 3) := by decide +kernel
theorem dS_read_16 : decode prog_1_method_6_code 16 = .ok (.aload_n 0, 1) := by decide +kernel
theorem dS_read_17 : decode prog_1_method_6_code 17 = .ok (.iload_n 1, 1) := by decide +kernel
theorem dS_read_18 : decode prog_1_method_6_code 18 = .ok (.invokevirtual 54, 3) := by decide +kernel
theorem dS_read_21 : decode prog_1_method_6_code 21 = .ok (.aload_n 0, 1) := by decide +kernel
theorem dS_read_22 : decode prog_1_method_6_code 22 = .ok (.iload_n 1, 1) := by decide +kernel
theorem dS_read_23 : decode prog_1_method_6_code 23 = .ok (.putfield 23, 3) := by decide +kernel
theorem dS_read_26 : decode prog_1_method_6_code 26 = .ok (.aload_n 0, 1) := by decide +kernel
theorem dS_read_27 : decode prog_1_method_6_code 27 = .ok (.iconst 0, 1) := by decide +kernel
theorem dS_read_28 : decode prog_1_method_6_code 28 = .ok (.putfield 16, 3) := by decide +kernel
theorem dS_read_31 : decode prog_1_method_6_code 31 = .ok (.iload_n 2, 1) := by decide +kernel
theorem dS_read_32 : decode prog_1_method_6_code 32 = .ok (.ireturn, 1) := by decide +kernel
theorem dS_wayOfBytes_0 : decode prog_1_method_16_code 0 = .ok (.iconst 1, 1) := by decide +kernel
theorem dS_wayOfBytes_1 : decode prog_1_method_16_code 1 = .ok (.istore_n 1, 1) := by decide +kernel
theorem dS_wayOfBytes_2 : decode prog_1_method_16_code 2 = .ok (.iload_n 1, 1) := by decide +kernel
theorem dS_wayOfBytes_3 : decode prog_1_method_16_code 3 = .ok (.iconst 3, 1) := by decide +kernel
theorem dS_wayOfBytes_4 : decode prog_1_method_16_code 4 = .ok (.if_icmp .gt 22, 3) := by decide +kernel
theorem dS_wayOfBytes_7 : decode prog_1_method_16_code 7 = .ok (.aload_n 0, 1) := by decide +kernel
theorem dS_wayOfBytes_8 : decode prog_1_method_16_code 8 = .ok (.iconst 0, 1) := by decide +kernel
theorem dS_wayOfBytes_9 : decode prog_1_method_16_code 9 = .ok (.iload_n 1, 1) := by decide +kernel
theorem dS_wayOfBytes_10 : decode prog_1_method_16_code 10 = .ok (.invokevirtual 77, 3) := by decide +kernel
theorem dS_wayOfBytes_13 : decode prog_1_method_16_code 13 = .ok (.ldc 66, 2) := by decide +kernel
theorem dS_wayOfBytes_15 : decode prog_1_method_16_code 15 = .ok (.if_icmp .ne 5, 3) := by decide +kernel
theorem dS_wayOfBytes_18 : decode prog_1_method_16_code 18 = .ok (.iload_n 1, 1) := by decide +kernel
theorem dS_wayOfBytes_19 : decode prog_1_method_16_code 19 = .ok (.ireturn, 1) := by decide +kernel
theorem dS_wayOfBytes_20 : decode prog_1_method_16_code 20 = .ok (.iinc 1 1, 3) := by decide +kernel
theorem dS_wayOfBytes_23 : decode prog_1_method_16_code 23 = .ok (.goto (-21), 3) := by decide +kernel
theorem dS_wayOfBytes_26 : decode prog_1_method_16_code 26 = .ok (.iconst 0, 1) := by decide +kernel
theorem dS_wayOfBytes_27 : decode prog_1_method_16_code 27 = .ok (.ireturn, 1) := by decide +kernel
theorem dS_numberAt_0 : decode prog_1_method_20_code 0 = .ok (.iload_n 2, 1) := by decide +kernel
theorem dS_numberAt_1 : decode prog_1_method_20_code 1 = .ok (.invokestatic 87, 3) := by decide +kernel
theorem dS_numberAt_4 : decode prog_1_method_20_code 4 = .ok (.ifCond .eq 12, 3) := by decide +kernel
theorem dS_numberAt_7 : decode prog_1_method_20_code 7 = .ok (.aload_n 0, 1) := by decide +kernel
theorem dS_numberAt_8 : decode prog_1_method_20_code 8 = .ok (.iload_n 1, 1) := by decide +kernel
theorem dS_numberAt_9 : decode prog_1_method_20_code 9 = .ok (.iload_n 2, 1) := by decide +kernel
theorem dS_numberAt_10 : decode prog_1_method_20_code 10 = .ok (.invokevirtual 90, 3) := by decide +kernel
theorem dS_numberAt_13 : decode prog_1_method_20_code 13 = .ok (.goto 8, 3) := by decide +kernel
theorem dS_numberAt_16 : decode prog_1_method_20_code 16 = .ok (.aload_n 0, 1) := by decide +kernel
theorem dS_numberAt_17 : decode prog_1_method_20_code 17 = .ok (.iload_n 1, 1) := by decide +kernel
theorem dS_numberAt_18 : decode prog_1_method_20_code 18 = .ok (.invokevirtual 93, 3) := by decide +kernel
theorem dS_numberAt_21 : decode prog_1_method_20_code 21 = .ok (.ireturn, 1) := by decide +kernel
theorem dS_isSixteenBits_0 : decode prog_1_method_30_code 0 = .ok (.iload_n 0, 1) := by decide +kernel
theorem dS_isSixteenBits_1 : decode prog_1_method_30_code 1 = .ok (.iconst 1, 1) := by decide +kernel
theorem dS_isSixteenBits_2 : decode prog_1_method_30_code 2 = .ok (.if_icmp .eq 8, 3) := by decide +kernel
theorem dS_isSixteenBits_5 : decode prog_1_method_30_code 5 = .ok (.iload_n 0, 1) := by decide +kernel
theorem dS_isSixteenBits_6 : decode prog_1_method_30_code 6 = .ok (.iconst 2, 1) := by decide +kernel
theorem dS_isSixteenBits_7 : decode prog_1_method_30_code 7 = .ok (.if_icmp .ne 7, 3) := by decide +kernel
theorem dS_isSixteenBits_10 : decode prog_1_method_30_code 10 = .ok (.iconst 1, 1) := by decide +kernel
theorem dS_isSixteenBits_11 : decode prog_1_method_30_code 11 = .ok (.goto 4, 3) := by decide +kernel
theorem dS_isSixteenBits_14 : decode prog_1_method_30_code 14 = .ok (.iconst 0, 1) := by decide +kernel
theorem dS_isSixteenBits_15 : decode prog_1_method_30_code 15 = .ok (.ireturn, 1) := by decide +kernel
theorem dS_numberOf16Bits_0 : decode prog_1_method_23_code 0 = .ok (.aload_n 0, 1) := by decide +kernel
theorem dS_numberOf16Bits_1 : decode prog_1_method_23_code 1 = .ok (.iload_n 1, 1) := by decide +kernel
theorem dS_numberOf16Bits_2 : decode prog_1_method_23_code 2 = .ok (.iload_n 2, 1) := by decide +kernel
theorem dS_numberOf16Bits_3 : decode prog_1_method_23_code 3 = .ok (.invokevirtual 105, 3) := by decide +kernel
theorem dS_numberOf16Bits_6 : decode prog_1_method_23_code 6 = .ok (.istore_n 3, 1) := by decide +kernel
theorem dS_numberOf16Bits_7 : decode prog_1_method_23_code 7 = .ok (.iload_n 3, 1) := by decide +kernel
theorem dS_numberOf16Bits_8 : decode prog_1_method_23_code 8 = .ok (.ldc 108, 2) := by decide +kernel
theorem dS_numberOf16Bits_10 : decode prog_1_method_23_code 10 = .ok (.if_icmp .lt 9, 3) := by decide +kernel
theorem dS_numberOf16Bits_13 : decode prog_1_method_23_code 13 = .ok (.iload_n 3, 1) := by decide +kernel
theorem dS_numberOf16Bits_14 : decode prog_1_method_23_code 14 = .ok (.ldc 109, 2) := by decide +kernel
theorem dS_numberOf16Bits_16 : decode prog_1_method_23_code 16 = .ok (.if_icmp .le 5, 3) := by decide +kernel
theorem dS_numberOf16Bits_19 : decode prog_1_method_23_code 19 = .ok (.iload_n 3, 1) := by decide +kernel
theorem dS_numberOf16Bits_20 : decode prog_1_method_23_code 20 = .ok (.ireturn, 1) := by decide +kernel
theorem dS_numberOf16Bits_21 : decode prog_1_method_23_code 21 = .ok (.aload_n 0, 1) := by decide +kernel
theorem dS_numberOf16Bits_22 : decode prog_1_method_23_code 22 = .ok (.iload_n 1, 1) := by decide +kernel
theorem dS_numberOf16Bits_23 : decode prog_1_method_23_code 23 = .ok (.iconst 2, 1) := by decide +kernel
theorem dS_numberOf16Bits_24 : decode prog_1_method_23_code 24 = .ok (.iadd, 1) := by decide +kernel
theorem dS_numberOf16Bits_25 : decode prog_1_method_23_code 25 = .ok (.iload_n 2, 1) := by decide +kernel
theorem dS_numberOf16Bits_26 : decode prog_1_method_23_code 26 = .ok (.invokevirtual 105, 3) := by decide +kernel
theorem dS_numberOf16Bits_29 : decode prog_1_method_23_code 29 = .ok (.istore 4, 2) := by decide +kernel
theorem dS_numberOf16Bits_31 : decode prog_1_method_23_code 31 = .ok (.iload 4, 2) := by decide +kernel
theorem dS_numberOf16Bits_33 : decode prog_1_method_23_code 33 = .ok (.ldc 110, 2) := by decide +kernel
theorem dS_numberOf16Bits_35 : decode prog_1_method_23_code 35 = .ok (.if_icmp .lt 10, 3) := by decide +kernel
theorem dS_numberOf16Bits_38 : decode prog_1_method_23_code 38 = .ok (.iload 4, 2) := by decide +kernel
theorem dS_numberOf16Bits_40 : decode prog_1_method_23_code 40 = .ok (.ldc 111, 2) := by decide +kernel
theorem dS_numberOf16Bits_42 : decode prog_1_method_23_code 42 = .ok (.if_icmp .le 5, 3) := by decide +kernel
theorem dS_numberOf16Bits_45 : decode prog_1_method_23_code 45 = .ok (.iload_n 3, 1) := by decide +kernel
theorem dS_numberOf16Bits_46 : decode prog_1_method_23_code 46 = .ok (.ireturn, 1) := by decide +kernel
theorem dS_numberOf16Bits_47 : decode prog_1_method_23_code 47 = .ok (.ldc 112, 2) := by decide +kernel
theorem dS_numberOf16Bits_49 : decode prog_1_method_23_code 49 = .ok (.sipush 1024, 3) := by decide +kernel
theorem dS_numberOf16Bits_52 : decode prog_1_method_23_code 52 = .ok (.iload_n 3, 1) := by decide +kernel
theorem dS_numberOf16Bits_53 : decode prog_1_method_23_code 53 = .ok (.ldc 108, 2) := by decide +kernel
theorem dS_numberOf16Bits_55 : decode prog_1_method_23_code 55 = .ok (.isub, 1) := by decide +kernel
theorem dS_numberOf16Bits_56 : decode prog_1_method_23_code 56 = .ok (.imul, 1) := by decide +kernel
theorem dS_numberOf16Bits_57 : decode prog_1_method_23_code 57 = .ok (.iadd, 1) := by decide +kernel
theorem dS_numberOf16Bits_58 : decode prog_1_method_23_code 58 = .ok (.iload 4, 2) := by decide +kernel
theorem dS_numberOf16Bits_60 : decode prog_1_method_23_code 60 = .ok (.ldc 110, 2) := by decide +kernel
theorem dS_numberOf16Bits_62 : decode prog_1_method_23_code 62 = .ok (.isub, 1) := by decide +kernel
theorem dS_numberOf16Bits_63 : decode prog_1_method_23_code 63 = .ok (.iadd, 1) := by decide +kernel
theorem dS_numberOf16Bits_64 : decode prog_1_method_23_code 64 = .ok (.ireturn, 1) := by decide +kernel
theorem dS_pairAt_0 : decode prog_1_method_24_code 0 = .ok (.aload_n 0, 1) := by decide +kernel
theorem dS_pairAt_1 : decode prog_1_method_24_code 1 = .ok (.iload_n 1, 1) := by decide +kernel
theorem dS_pairAt_2 : decode prog_1_method_24_code 2 = .ok (.invokevirtual 96, 3) := by decide +kernel
theorem dS_pairAt_5 : decode prog_1_method_24_code 5 = .ok (.istore_n 3, 1) := by decide +kernel
theorem dS_pairAt_6 : decode prog_1_method_24_code 6 = .ok (.aload_n 0, 1) := by decide +kernel
theorem dS_pairAt_7 : decode prog_1_method_24_code 7 = .ok (.iload_n 1, 1) := by decide +kernel
theorem dS_pairAt_8 : decode prog_1_method_24_code 8 = .ok (.iconst 1, 1) := by decide +kernel
theorem dS_pairAt_9 : decode prog_1_method_24_code 9 = .ok (.iadd, 1) := by decide +kernel
theorem dS_pairAt_10 : decode prog_1_method_24_code 10 = .ok (.invokevirtual 96, 3) := by decide +kernel
theorem dS_pairAt_13 : decode prog_1_method_24_code 13 = .ok (.istore 4, 2) := by decide +kernel
theorem dS_pairAt_15 : decode prog_1_method_24_code 15 = .ok (.iload_n 3, 1) := by decide +kernel
theorem dS_pairAt_16 : decode prog_1_method_24_code 16 = .ok (.iconst (-1), 1) := by decide +kernel
theorem dS_pairAt_17 : decode prog_1_method_24_code 17 = .ok (.if_icmp .eq 9, 3) := by decide +kernel
theorem dS_pairAt_20 : decode prog_1_method_24_code 20 = .ok (.iload 4, 2) := by decide +kernel
theorem dS_pairAt_22 : decode prog_1_method_24_code 22 = .ok (.iconst (-1), 1) := by decide +kernel
theorem dS_pairAt_23 : decode prog_1_method_24_code 23 = .ok (.if_icmp .ne 5, 3) := by decide +kernel
theorem dS_pairAt_26 : decode prog_1_method_24_code 26 = .ok (.iconst (-1), 1) := by decide +kernel
theorem dS_pairAt_27 : decode prog_1_method_24_code 27 = .ok (.ireturn, 1) := by decide +kernel
theorem dS_pairAt_28 : decode prog_1_method_24_code 28 = .ok (.iload_n 2, 1) := by decide +kernel
theorem dS_pairAt_29 : decode prog_1_method_24_code 29 = .ok (.iconst 1, 1) := by decide +kernel
theorem dS_pairAt_30 : decode prog_1_method_24_code 30 = .ok (.if_icmp .ne 14, 3) := by decide +kernel
theorem dS_pairAt_33 : decode prog_1_method_24_code 33 = .ok (.iload_n 3, 1) := by decide +kernel
theorem dS_pairAt_34 : decode prog_1_method_24_code 34 = .ok (.sipush 256, 3) := by decide +kernel
theorem dS_pairAt_37 : decode prog_1_method_24_code 37 = .ok (.imul, 1) := by decide +kernel
theorem dS_pairAt_38 : decode prog_1_method_24_code 38 = .ok (.iload 4, 2) := by decide +kernel
theorem dS_pairAt_40 : decode prog_1_method_24_code 40 = .ok (.iadd, 1) := by decide +kernel
theorem dS_pairAt_41 : decode prog_1_method_24_code 41 = .ok (.goto 11, 3) := by decide +kernel
theorem dS_pairAt_44 : decode prog_1_method_24_code 44 = .ok (.iload 4, 2) := by decide +kernel
theorem dS_pairAt_46 : decode prog_1_method_24_code 46 = .ok (.sipush 256, 3) := by decide +kernel
theorem dS_pairAt_49 : decode prog_1_method_24_code 49 = .ok (.imul, 1) := by decide +kernel
theorem dS_pairAt_50 : decode prog_1_method_24_code 50 = .ok (.iload_n 3, 1) := by decide +kernel
theorem dS_pairAt_51 : decode prog_1_method_24_code 51 = .ok (.iadd, 1) := by decide +kernel
theorem dS_pairAt_52 : decode prog_1_method_24_code 52 = .ok (.ireturn, 1) := by decide +kernel
theorem dS_numberOf8Bits_0 : decode prog_1_method_21_code 0 = .ok (.aload_n 0, 1) := by decide +kernel
theorem dS_numberOf8Bits_1 : decode prog_1_method_21_code 1 = .ok (.iload_n 1, 1) := by decide +kernel
theorem dS_numberOf8Bits_2 : decode prog_1_method_21_code 2 = .ok (.invokevirtual 96, 3) := by decide +kernel
theorem dS_numberOf8Bits_5 : decode prog_1_method_21_code 5 = .ok (.istore_n 2, 1) := by decide +kernel
theorem dS_numberOf8Bits_6 : decode prog_1_method_21_code 6 = .ok (.iload_n 2, 1) := by decide +kernel
theorem dS_numberOf8Bits_7 : decode prog_1_method_21_code 7 = .ok (.sipush 128, 3) := by decide +kernel
theorem dS_numberOf8Bits_10 : decode prog_1_method_21_code 10 = .ok (.if_icmp .ge 5, 3) := by decide +kernel
theorem dS_numberOf8Bits_13 : decode prog_1_method_21_code 13 = .ok (.iload_n 2, 1) := by decide +kernel
theorem dS_numberOf8Bits_14 : decode prog_1_method_21_code 14 = .ok (.ireturn, 1) := by decide +kernel
theorem dS_numberOf8Bits_15 : decode prog_1_method_21_code 15 = .ok (.iload_n 2, 1) := by decide +kernel
theorem dS_numberOf8Bits_16 : decode prog_1_method_21_code 16 = .ok (.invokestatic 99, 3) := by decide +kernel
theorem dS_numberOf8Bits_19 : decode prog_1_method_21_code 19 = .ok (.istore_n 3, 1) := by decide +kernel
theorem dS_numberOf8Bits_20 : decode prog_1_method_21_code 20 = .ok (.iload_n 3, 1) := by decide +kernel
theorem dS_numberOf8Bits_21 : decode prog_1_method_21_code 21 = .ok (.ifCond .ne 5, 3) := by decide +kernel
theorem dS_numberOf8Bits_24 : decode prog_1_method_21_code 24 = .ok (.iconst (-1), 1) := by decide +kernel
theorem dS_numberOf8Bits_25 : decode prog_1_method_21_code 25 = .ok (.ireturn, 1) := by decide +kernel
theorem dS_numberOf8Bits_26 : decode prog_1_method_21_code 26 = .ok (.iload_n 2, 1) := by decide +kernel
theorem dS_numberOf8Bits_27 : decode prog_1_method_21_code 27 = .ok (.bipush 63, 2) := by decide +kernel
theorem dS_numberOf8Bits_29 : decode prog_1_method_21_code 29 = .ok (.iload_n 3, 1) := by decide +kernel
theorem dS_numberOf8Bits_30 : decode prog_1_method_21_code 30 = .ok (.ishr, 1) := by decide +kernel
theorem dS_numberOf8Bits_31 : decode prog_1_method_21_code 31 = .ok (.iand, 1) := by decide +kernel
theorem dS_numberOf8Bits_32 : decode prog_1_method_21_code 32 = .ok (.istore 4, 2) := by decide +kernel
theorem dS_numberOf8Bits_34 : decode prog_1_method_21_code 34 = .ok (.iconst 1, 1) := by decide +kernel
theorem dS_numberOf8Bits_35 : decode prog_1_method_21_code 35 = .ok (.istore 5, 2) := by decide +kernel
theorem dS_numberOf8Bits_37 : decode prog_1_method_21_code 37 = .ok (.iload 5, 2) := by decide +kernel
theorem dS_numberOf8Bits_39 : decode prog_1_method_21_code 39 = .ok (.iload_n 3, 1) := by decide +kernel
theorem dS_numberOf8Bits_40 : decode prog_1_method_21_code 40 = .ok (.if_icmp .gt 51, 3) := by decide +kernel
theorem dS_numberOf8Bits_43 : decode prog_1_method_21_code 43 = .ok (.aload_n 0, 1) := by decide +kernel
theorem dS_numberOf8Bits_44 : decode prog_1_method_21_code 44 = .ok (.iload_n 1, 1) := by decide +kernel
theorem dS_numberOf8Bits_45 : decode prog_1_method_21_code 45 = .ok (.iload 5, 2) := by decide +kernel
theorem dS_numberOf8Bits_47 : decode prog_1_method_21_code 47 = .ok (.iadd, 1) := by decide +kernel
theorem dS_numberOf8Bits_48 : decode prog_1_method_21_code 48 = .ok (.invokevirtual 96, 3) := by decide +kernel
theorem dS_numberOf8Bits_51 : decode prog_1_method_21_code 51 = .ok (.istore 6, 2) := by decide +kernel
theorem dS_numberOf8Bits_53 : decode prog_1_method_21_code 53 = .ok (.iload 6, 2) := by decide +kernel
theorem dS_numberOf8Bits_55 : decode prog_1_method_21_code 55 = .ok (.sipush 128, 3) := by decide +kernel
theorem dS_numberOf8Bits_58 : decode prog_1_method_21_code 58 = .ok (.if_icmp .lt 11, 3) := by decide +kernel
theorem dS_numberOf8Bits_61 : decode prog_1_method_21_code 61 = .ok (.iload 6, 2) := by decide +kernel
theorem dS_numberOf8Bits_63 : decode prog_1_method_21_code 63 = .ok (.sipush 191, 3) := by decide +kernel
theorem dS_numberOf8Bits_66 : decode prog_1_method_21_code 66 = .ok (.if_icmp .le 5, 3) := by decide +kernel
theorem dS_numberOf8Bits_69 : decode prog_1_method_21_code 69 = .ok (.iconst (-1), 1) := by decide +kernel
theorem dS_numberOf8Bits_70 : decode prog_1_method_21_code 70 = .ok (.ireturn, 1) := by decide +kernel
theorem dS_numberOf8Bits_71 : decode prog_1_method_21_code 71 = .ok (.iload 4, 2) := by decide +kernel
theorem dS_numberOf8Bits_73 : decode prog_1_method_21_code 73 = .ok (.bipush 64, 2) := by decide +kernel
theorem dS_numberOf8Bits_75 : decode prog_1_method_21_code 75 = .ok (.imul, 1) := by decide +kernel
theorem dS_numberOf8Bits_76 : decode prog_1_method_21_code 76 = .ok (.iload 6, 2) := by decide +kernel
theorem dS_numberOf8Bits_78 : decode prog_1_method_21_code 78 = .ok (.sipush 128, 3) := by decide +kernel
theorem dS_numberOf8Bits_81 : decode prog_1_method_21_code 81 = .ok (.isub, 1) := by decide +kernel
theorem dS_numberOf8Bits_82 : decode prog_1_method_21_code 82 = .ok (.iadd, 1) := by decide +kernel
theorem dS_numberOf8Bits_83 : decode prog_1_method_21_code 83 = .ok (.istore 4, 2) := by decide +kernel
theorem dS_numberOf8Bits_85 : decode prog_1_method_21_code 85 = .ok (.iinc 5 1, 3) := by decide +kernel
theorem dS_numberOf8Bits_88 : decode prog_1_method_21_code 88 = .ok (.goto (-51), 3) := by decide +kernel
theorem dS_numberOf8Bits_91 : decode prog_1_method_21_code 91 = .ok (.iload 4, 2) := by decide +kernel
theorem dS_numberOf8Bits_93 : decode prog_1_method_21_code 93 = .ok (.invokestatic 102, 3) := by decide +kernel
theorem dS_numberOf8Bits_96 : decode prog_1_method_21_code 96 = .ok (.iload_n 3, 1) := by decide +kernel
theorem dS_numberOf8Bits_97 : decode prog_1_method_21_code 97 = .ok (.iconst 1, 1) := by decide +kernel
theorem dS_numberOf8Bits_98 : decode prog_1_method_21_code 98 = .ok (.iadd, 1) := by decide +kernel
theorem dS_numberOf8Bits_99 : decode prog_1_method_21_code 99 = .ok (.if_icmp .ne 8, 3) := by decide +kernel
theorem dS_numberOf8Bits_102 : decode prog_1_method_21_code 102 = .ok (.iload 4, 2) := by decide +kernel
theorem dS_numberOf8Bits_104 : decode prog_1_method_21_code 104 = .ok (.goto 4, 3) := by decide +kernel
theorem dS_numberOf8Bits_107 : decode prog_1_method_21_code 107 = .ok (.iconst (-1), 1) := by decide +kernel
theorem dS_numberOf8Bits_108 : decode prog_1_method_21_code 108 = .ok (.ireturn, 1) := by decide +kernel
theorem dS_bytesBehind_0 : decode prog_1_method_22_code 0 = .ok (.iload_n 0, 1) := by decide +kernel
theorem dS_bytesBehind_1 : decode prog_1_method_22_code 1 = .ok (.sipush 224, 3) := by decide +kernel
theorem dS_bytesBehind_4 : decode prog_1_method_22_code 4 = .ok (.iand, 1) := by decide +kernel
theorem dS_bytesBehind_5 : decode prog_1_method_22_code 5 = .ok (.sipush 192, 3) := by decide +kernel
theorem dS_bytesBehind_8 : decode prog_1_method_22_code 8 = .ok (.if_icmp .ne 5, 3) := by decide +kernel
theorem dS_bytesBehind_11 : decode prog_1_method_22_code 11 = .ok (.iconst 1, 1) := by decide +kernel
theorem dS_bytesBehind_12 : decode prog_1_method_22_code 12 = .ok (.ireturn, 1) := by decide +kernel
theorem dS_bytesBehind_13 : decode prog_1_method_22_code 13 = .ok (.iload_n 0, 1) := by decide +kernel
theorem dS_bytesBehind_14 : decode prog_1_method_22_code 14 = .ok (.sipush 240, 3) := by decide +kernel
theorem dS_bytesBehind_17 : decode prog_1_method_22_code 17 = .ok (.iand, 1) := by decide +kernel
theorem dS_bytesBehind_18 : decode prog_1_method_22_code 18 = .ok (.sipush 224, 3) := by decide +kernel
theorem dS_bytesBehind_21 : decode prog_1_method_22_code 21 = .ok (.if_icmp .ne 5, 3) := by decide +kernel
theorem dS_bytesBehind_24 : decode prog_1_method_22_code 24 = .ok (.iconst 2, 1) := by decide +kernel
theorem dS_bytesBehind_25 : decode prog_1_method_22_code 25 = .ok (.ireturn, 1) := by decide +kernel
theorem dS_bytesBehind_26 : decode prog_1_method_22_code 26 = .ok (.iload_n 0, 1) := by decide +kernel
theorem dS_bytesBehind_27 : decode prog_1_method_22_code 27 = .ok (.sipush 248, 3) := by decide +kernel
theorem dS_bytesBehind_30 : decode prog_1_method_22_code 30 = .ok (.iand, 1) := by decide +kernel
theorem dS_bytesBehind_31 : decode prog_1_method_22_code 31 = .ok (.sipush 240, 3) := by decide +kernel
theorem dS_bytesBehind_34 : decode prog_1_method_22_code 34 = .ok (.if_icmp .ne 7, 3) := by decide +kernel
theorem dS_bytesBehind_37 : decode prog_1_method_22_code 37 = .ok (.iconst 3, 1) := by decide +kernel
theorem dS_bytesBehind_38 : decode prog_1_method_22_code 38 = .ok (.goto 4, 3) := by decide +kernel
theorem dS_bytesBehind_41 : decode prog_1_method_22_code 41 = .ok (.iconst 0, 1) := by decide +kernel
theorem dS_bytesBehind_42 : decode prog_1_method_22_code 42 = .ok (.ireturn, 1) := by decide +kernel
theorem dS_sizeOf8Bits_0 : decode prog_1_method_28_code 0 = .ok (.iload_n 0, 1) := by decide +kernel
theorem dS_sizeOf8Bits_1 : decode prog_1_method_28_code 1 = .ok (.sipush 128, 3) := by decide +kernel
theorem dS_sizeOf8Bits_4 : decode prog_1_method_28_code 4 = .ok (.if_icmp .ge 5, 3) := by decide +kernel
theorem dS_sizeOf8Bits_7 : decode prog_1_method_28_code 7 = .ok (.iconst 1, 1) := by decide +kernel
theorem dS_sizeOf8Bits_8 : decode prog_1_method_28_code 8 = .ok (.ireturn, 1) := by decide +kernel
theorem dS_sizeOf8Bits_9 : decode prog_1_method_28_code 9 = .ok (.iload_n 0, 1) := by decide +kernel
theorem dS_sizeOf8Bits_10 : decode prog_1_method_28_code 10 = .ok (.sipush 2048, 3) := by decide +kernel
theorem dS_sizeOf8Bits_13 : decode prog_1_method_28_code 13 = .ok (.if_icmp .ge 5, 3) := by decide +kernel
theorem dS_sizeOf8Bits_16 : decode prog_1_method_28_code 16 = .ok (.iconst 2, 1) := by decide +kernel
theorem dS_sizeOf8Bits_17 : decode prog_1_method_28_code 17 = .ok (.ireturn, 1) := by decide +kernel
theorem dS_sizeOf8Bits_18 : decode prog_1_method_28_code 18 = .ok (.iload_n 0, 1) := by decide +kernel
theorem dS_sizeOf8Bits_19 : decode prog_1_method_28_code 19 = .ok (.ldc 112, 2) := by decide +kernel
theorem dS_sizeOf8Bits_21 : decode prog_1_method_28_code 21 = .ok (.if_icmp .ge 7, 3) := by decide +kernel
theorem dS_sizeOf8Bits_24 : decode prog_1_method_28_code 24 = .ok (.iconst 3, 1) := by decide +kernel
theorem dS_sizeOf8Bits_25 : decode prog_1_method_28_code 25 = .ok (.goto 4, 3) := by decide +kernel
theorem dS_sizeOf8Bits_28 : decode prog_1_method_28_code 28 = .ok (.iconst 4, 1) := by decide +kernel
theorem dS_sizeOf8Bits_29 : decode prog_1_method_28_code 29 = .ok (.ireturn, 1) := by decide +kernel
theorem dS_placeRefused_0 : decode prog_1_method_17_code 0 = .ok (.iload_n 1, 1) := by decide +kernel
theorem dS_placeRefused_1 : decode prog_1_method_17_code 1 = .ok (.invokestatic 81, 3) := by decide +kernel
theorem dS_placeRefused_4 : decode prog_1_method_17_code 4 = .ok (.istore_n 2, 1) := by decide +kernel
theorem dS_placeRefused_5 : decode prog_1_method_17_code 5 = .ok (.iconst 0, 1) := by decide +kernel
theorem dS_placeRefused_6 : decode prog_1_method_17_code 6 = .ok (.istore_n 3, 1) := by decide +kernel
theorem dS_placeRefused_7 : decode prog_1_method_17_code 7 = .ok (.iload_n 3, 1) := by decide +kernel
theorem dS_placeRefused_8 : decode prog_1_method_17_code 8 = .ok (.sipush 4096, 3) := by decide +kernel
theorem dS_placeRefused_11 : decode prog_1_method_17_code 11 = .ok (.if_icmp .ge 44, 3) := by decide +kernel
theorem dS_placeRefused_14 : decode prog_1_method_17_code 14 = .ok (.iload_n 2, 1) := by decide +kernel
theorem dS_placeRefused_15 : decode prog_1_method_17_code 15 = .ok (.aload_n 0, 1) := by decide +kernel
theorem dS_placeRefused_16 : decode prog_1_method_17_code 16 = .ok (.getfield 16, 3) := by decide +kernel
theorem dS_placeRefused_19 : decode prog_1_method_17_code 19 = .ok (.if_icmp .ge 36, 3) := by decide +kernel
theorem dS_placeRefused_22 : decode prog_1_method_17_code 22 = .ok (.aload_n 0, 1) := by decide +kernel
theorem dS_placeRefused_23 : decode prog_1_method_17_code 23 = .ok (.iload_n 2, 1) := by decide +kernel
theorem dS_placeRefused_24 : decode prog_1_method_17_code 24 = .ok (.iload_n 1, 1) := by decide +kernel
theorem dS_placeRefused_25 : decode prog_1_method_17_code 25 = .ok (.invokevirtual 77, 3) := by decide +kernel
theorem dS_placeRefused_28 : decode prog_1_method_17_code 28 = .ok (.istore 4, 2) := by decide +kernel
theorem dS_placeRefused_30 : decode prog_1_method_17_code 30 = .ok (.iload 4, 2) := by decide +kernel
theorem dS_placeRefused_32 : decode prog_1_method_17_code 32 = .ok (.invokestatic 71, 3) := by decide +kernel
theorem dS_placeRefused_35 : decode prog_1_method_17_code 35 = .ok (.ifCond .ne 5, 3) := by decide +kernel
theorem dS_placeRefused_38 : decode prog_1_method_17_code 38 = .ok (.iload_n 2, 1) := by decide +kernel
theorem dS_placeRefused_39 : decode prog_1_method_17_code 39 = .ok (.ireturn, 1) := by decide +kernel
theorem dS_placeRefused_40 : decode prog_1_method_17_code 40 = .ok (.iload_n 2, 1) := by decide +kernel
theorem dS_placeRefused_41 : decode prog_1_method_17_code 41 = .ok (.iload 4, 2) := by decide +kernel
theorem dS_placeRefused_43 : decode prog_1_method_17_code 43 = .ok (.iload_n 1, 1) := by decide +kernel
theorem dS_placeRefused_44 : decode prog_1_method_17_code 44 = .ok (.invokestatic 84, 3) := by decide +kernel
theorem dS_placeRefused_47 : decode prog_1_method_17_code 47 = .ok (.iadd, 1) := by decide +kernel
theorem dS_placeRefused_48 : decode prog_1_method_17_code 48 = .ok (.istore_n 2, 1) := by decide +kernel
theorem dS_placeRefused_49 : decode prog_1_method_17_code 49 = .ok (.iinc 3 1, 3) := by decide +kernel
theorem dS_placeRefused_52 : decode prog_1_method_17_code 52 = .ok (.goto (-45), 3) := by decide +kernel
theorem dS_placeRefused_55 : decode prog_1_method_17_code 55 = .ok (.iconst (-1), 1) := by decide +kernel
theorem dS_placeRefused_56 : decode prog_1_method_17_code 56 = .ok (.ireturn, 1) := by decide +kernel
theorem dS_sizeOfMark_0 : decode prog_1_method_26_code 0 = .ok (.iload_n 0, 1) := by decide +kernel
theorem dS_sizeOfMark_1 : decode prog_1_method_26_code 1 = .ok (.ifCond .ne 7, 3) := by decide +kernel
theorem dS_sizeOfMark_4 : decode prog_1_method_26_code 4 = .ok (.iconst 0, 1) := by decide +kernel
theorem dS_sizeOfMark_5 : decode prog_1_method_26_code 5 = .ok (.goto 9, 3) := by decide +kernel
theorem dS_sizeOfMark_8 : decode prog_1_method_26_code 8 = .ok (.ldc 66, 2) := by decide +kernel
theorem dS_sizeOfMark_10 : decode prog_1_method_26_code 10 = .ok (.iload_n 0, 1) := by decide +kernel
theorem dS_sizeOfMark_11 : decode prog_1_method_26_code 11 = .ok (.invokestatic 84, 3) := by decide +kernel
theorem dS_sizeOfMark_14 : decode prog_1_method_26_code 14 = .ok (.ireturn, 1) := by decide +kernel
theorem dS_sizeOf_0 : decode prog_1_method_27_code 0 = .ok (.iload_n 1, 1) := by decide +kernel
theorem dS_sizeOf_1 : decode prog_1_method_27_code 1 = .ok (.invokestatic 87, 3) := by decide +kernel
theorem dS_sizeOf_4 : decode prog_1_method_27_code 4 = .ok (.ifCond .eq 10, 3) := by decide +kernel
theorem dS_sizeOf_7 : decode prog_1_method_27_code 7 = .ok (.iload_n 0, 1) := by decide +kernel
theorem dS_sizeOf_8 : decode prog_1_method_27_code 8 = .ok (.invokestatic 113, 3) := by decide +kernel
theorem dS_sizeOf_11 : decode prog_1_method_27_code 11 = .ok (.goto 7, 3) := by decide +kernel
theorem dS_sizeOf_14 : decode prog_1_method_27_code 14 = .ok (.iload_n 0, 1) := by decide +kernel
theorem dS_sizeOf_15 : decode prog_1_method_27_code 15 = .ok (.invokestatic 102, 3) := by decide +kernel
theorem dS_sizeOf_18 : decode prog_1_method_27_code 18 = .ok (.ireturn, 1) := by decide +kernel
theorem dS_sizeOf16Bits_0 : decode prog_1_method_29_code 0 = .ok (.iload_n 0, 1) := by decide +kernel
theorem dS_sizeOf16Bits_1 : decode prog_1_method_29_code 1 = .ok (.ldc 112, 2) := by decide +kernel
theorem dS_sizeOf16Bits_3 : decode prog_1_method_29_code 3 = .ok (.if_icmp .ge 7, 3) := by decide +kernel
theorem dS_sizeOf16Bits_6 : decode prog_1_method_29_code 6 = .ok (.iconst 2, 1) := by decide +kernel
theorem dS_sizeOf16Bits_7 : decode prog_1_method_29_code 7 = .ok (.goto 4, 3) := by decide +kernel
theorem dS_sizeOf16Bits_10 : decode prog_1_method_29_code 10 = .ok (.iconst 4, 1) := by decide +kernel
theorem dS_sizeOf16Bits_11 : decode prog_1_method_29_code 11 = .ok (.ireturn, 1) := by decide +kernel
theorem dS_isCharacter_0 : decode prog_1_method_38_code 0 = .ok (.getstatic 150, 3) := by decide +kernel
theorem dS_isCharacter_3 : decode prog_1_method_38_code 3 = .ok (.iload_n 0, 1) := by decide +kernel
theorem dS_isCharacter_4 : decode prog_1_method_38_code 4 = .ok (.invokestatic 140, 3) := by decide +kernel
theorem dS_isCharacter_7 : decode prog_1_method_38_code 7 = .ok (.ireturn, 1) := by decide +kernel
theorem dS_isWithin_0 : decode prog_1_method_43_code 0 = .ok (.iconst 0, 1) := by decide +kernel
theorem dS_isWithin_1 : decode prog_1_method_43_code 1 = .ok (.istore_n 2, 1) := by decide +kernel
theorem dS_isWithin_2 : decode prog_1_method_43_code 2 = .ok (.iload_n 2, 1) := by decide +kernel
theorem dS_isWithin_3 : decode prog_1_method_43_code 3 = .ok (.iconst 1, 1) := by decide +kernel
theorem dS_isWithin_4 : decode prog_1_method_43_code 4 = .ok (.iadd, 1) := by decide +kernel
theorem dS_isWithin_5 : decode prog_1_method_43_code 5 = .ok (.aload_n 0, 1) := by decide +kernel
theorem dS_isWithin_6 : decode prog_1_method_43_code 6 = .ok (.arraylength, 1) := by decide +kernel
theorem dS_isWithin_7 : decode prog_1_method_43_code 7 = .ok (.if_icmp .ge 27, 3) := by decide +kernel
theorem dS_isWithin_10 : decode prog_1_method_43_code 10 = .ok (.iload_n 1, 1) := by decide +kernel
theorem dS_isWithin_11 : decode prog_1_method_43_code 11 = .ok (.aload_n 0, 1) := by decide +kernel
theorem dS_isWithin_12 : decode prog_1_method_43_code 12 = .ok (.iload_n 2, 1) := by decide +kernel
theorem dS_isWithin_13 : decode prog_1_method_43_code 13 = .ok (.iaload, 1) := by decide +kernel
theorem dS_isWithin_14 : decode prog_1_method_43_code 14 = .ok (.if_icmp .lt 14, 3) := by decide +kernel
theorem dS_isWithin_17 : decode prog_1_method_43_code 17 = .ok (.iload_n 1, 1) := by decide +kernel
theorem dS_isWithin_18 : decode prog_1_method_43_code 18 = .ok (.aload_n 0, 1) := by decide +kernel
theorem dS_isWithin_19 : decode prog_1_method_43_code 19 = .ok (.iload_n 2, 1) := by decide +kernel
theorem dS_isWithin_20 : decode prog_1_method_43_code 20 = .ok (.iconst 1, 1) := by decide +kernel
theorem dS_isWithin_21 : decode prog_1_method_43_code 21 = .ok (.iadd, 1) := by decide +kernel
theorem dS_isWithin_22 : decode prog_1_method_43_code 22 = .ok (.iaload, 1) := by decide +kernel
theorem dS_isWithin_23 : decode prog_1_method_43_code 23 = .ok (.if_icmp .gt 5, 3) := by decide +kernel
theorem dS_isWithin_26 : decode prog_1_method_43_code 26 = .ok (.iconst 1, 1) := by decide +kernel
theorem dS_isWithin_27 : decode prog_1_method_43_code 27 = .ok (.ireturn, 1) := by decide +kernel
theorem dS_isWithin_28 : decode prog_1_method_43_code 28 = .ok (.iinc 2 2, 3) := by decide +kernel
theorem dS_isWithin_31 : decode prog_1_method_43_code 31 = .ok (.goto (-29), 3) := by decide +kernel
theorem dS_isWithin_34 : decode prog_1_method_43_code 34 = .ok (.iconst 0, 1) := by decide +kernel
theorem dS_isWithin_35 : decode prog_1_method_43_code 35 = .ok (.ireturn, 1) := by decide +kernel
theorem dS_takeText_0 : decode prog_1_method_18_code 0 = .ok (.iload_n 1, 1) := by decide +kernel
theorem dS_takeText_1 : decode prog_1_method_18_code 1 = .ok (.invokestatic 81, 3) := by decide +kernel
theorem dS_takeText_4 : decode prog_1_method_18_code 4 = .ok (.istore_n 2, 1) := by decide +kernel
theorem dS_takeText_5 : decode prog_1_method_18_code 5 = .ok (.iconst (-1), 1) := by decide +kernel
theorem dS_takeText_6 : decode prog_1_method_18_code 6 = .ok (.istore_n 3, 1) := by decide +kernel
theorem dS_takeText_7 : decode prog_1_method_18_code 7 = .ok (.aload_n 0, 1) := by decide +kernel
theorem dS_takeText_8 : decode prog_1_method_18_code 8 = .ok (.iconst 0, 1) := by decide +kernel
theorem dS_takeText_9 : decode prog_1_method_18_code 9 = .ok (.putfield 20, 3) := by decide +kernel
theorem dS_takeText_12 : decode prog_1_method_18_code 12 = .ok (.iconst 0, 1) := by decide +kernel
theorem dS_takeText_13 : decode prog_1_method_18_code 13 = .ok (.istore 4, 2) := by decide +kernel
theorem dS_takeText_15 : decode prog_1_method_18_code 15 = .ok (.iload 4, 2) := by decide +kernel
theorem dS_takeText_17 : decode prog_1_method_18_code 17 = .ok (.sipush 4096, 3) := by decide +kernel
theorem dS_takeText_20 : decode prog_1_method_18_code 20 = .ok (.if_icmp .ge 80, 3) := by decide +kernel
theorem dS_takeText_23 : decode prog_1_method_18_code 23 = .ok (.iload_n 2, 1) := by decide +kernel
theorem dS_takeText_24 : decode prog_1_method_18_code 24 = .ok (.aload_n 0, 1) := by decide +kernel
theorem dS_takeText_25 : decode prog_1_method_18_code 25 = .ok (.getfield 16, 3) := by decide +kernel
theorem dS_takeText_28 : decode prog_1_method_18_code 28 = .ok (.if_icmp .ge 72, 3) := by decide +kernel
theorem dS_takeText_31 : decode prog_1_method_18_code 31 = .ok (.aload_n 0, 1) := by decide +kernel
theorem dS_takeText_32 : decode prog_1_method_18_code 32 = .ok (.iload_n 2, 1) := by decide +kernel
theorem dS_takeText_33 : decode prog_1_method_18_code 33 = .ok (.iload_n 1, 1) := by decide +kernel
theorem dS_takeText_34 : decode prog_1_method_18_code 34 = .ok (.invokevirtual 77, 3) := by decide +kernel
theorem dS_takeText_37 : decode prog_1_method_18_code 37 = .ok (.istore 5, 2) := by decide +kernel
theorem dS_takeText_39 : decode prog_1_method_18_code 39 = .ok (.iload_n 3, 1) := by decide +kernel
theorem dS_takeText_40 : decode prog_1_method_18_code 40 = .ok (.bipush 13, 2) := by decide +kernel
theorem dS_takeText_42 : decode prog_1_method_18_code 42 = .ok (.if_icmp .ne 14, 3) := by decide +kernel
theorem dS_takeText_45 : decode prog_1_method_18_code 45 = .ok (.iload 5, 2) := by decide +kernel
theorem dS_takeText_47 : decode prog_1_method_18_code 47 = .ok (.bipush 10, 2) := by decide +kernel
theorem dS_takeText_49 : decode prog_1_method_18_code 49 = .ok (.if_icmp .ne 7, 3) := by decide +kernel
theorem dS_takeText_52 : decode prog_1_method_18_code 52 = .ok (.iconst 1, 1) := by decide +kernel
theorem dS_takeText_53 : decode prog_1_method_18_code 53 = .ok (.goto 4, 3) := by decide +kernel
theorem dS_takeText_56 : decode prog_1_method_18_code 56 = .ok (.iconst 0, 1) := by decide +kernel
theorem dS_takeText_57 : decode prog_1_method_18_code 57 = .ok (.istore 6, 2) := by decide +kernel
theorem dS_takeText_59 : decode prog_1_method_18_code 59 = .ok (.iload 6, 2) := by decide +kernel
theorem dS_takeText_61 : decode prog_1_method_18_code 61 = .ok (.ifCond .ne 21, 3) := by decide +kernel
theorem dS_takeText_64 : decode prog_1_method_18_code 64 = .ok (.aload_n 0, 1) := by decide +kernel
theorem dS_takeText_65 : decode prog_1_method_18_code 65 = .ok (.iload 5, 2) := by decide +kernel
theorem dS_takeText_67 : decode prog_1_method_18_code 67 = .ok (.bipush 13, 2) := by decide +kernel
theorem dS_takeText_69 : decode prog_1_method_18_code 69 = .ok (.if_icmp .ne 8, 3) := by decide +kernel
theorem dS_takeText_72 : decode prog_1_method_18_code 72 = .ok (.bipush 10, 2) := by decide +kernel
theorem dS_takeText_74 : decode prog_1_method_18_code 74 = .ok (.goto 5, 3) := by decide +kernel
theorem dS_takeText_77 : decode prog_1_method_18_code 77 = .ok (.iload 5, 2) := by decide +kernel
theorem dS_takeText_79 : decode prog_1_method_18_code 79 = .ok (.invokevirtual 74, 3) := by decide +kernel
theorem dS_takeText_82 : decode prog_1_method_18_code 82 = .ok (.iload 5, 2) := by decide +kernel
theorem dS_takeText_84 : decode prog_1_method_18_code 84 = .ok (.istore_n 3, 1) := by decide +kernel
theorem dS_takeText_85 : decode prog_1_method_18_code 85 = .ok (.iload_n 2, 1) := by decide +kernel
theorem dS_takeText_86 : decode prog_1_method_18_code 86 = .ok (.iload 5, 2) := by decide +kernel
theorem dS_takeText_88 : decode prog_1_method_18_code 88 = .ok (.iload_n 1, 1) := by decide +kernel
theorem dS_takeText_89 : decode prog_1_method_18_code 89 = .ok (.invokestatic 84, 3) := by decide +kernel
theorem dS_takeText_92 : decode prog_1_method_18_code 92 = .ok (.iadd, 1) := by decide +kernel
theorem dS_takeText_93 : decode prog_1_method_18_code 93 = .ok (.istore_n 2, 1) := by decide +kernel
theorem dS_takeText_94 : decode prog_1_method_18_code 94 = .ok (.iinc 4 1, 3) := by decide +kernel
theorem dS_takeText_97 : decode prog_1_method_18_code 97 = .ok (.goto (-82), 3) := by decide +kernel
theorem dS_takeText_100 : decode prog_1_method_18_code 100 = .ok (.return_, 1) := by decide +kernel
theorem dS_putSign_0 : decode prog_1_method_19_code 0 = .ok (.aload_n 0, 1) := by decide +kernel
theorem dS_putSign_1 : decode prog_1_method_19_code 1 = .ok (.getfield 20, 3) := by decide +kernel
theorem dS_putSign_4 : decode prog_1_method_19_code 4 = .ok (.sipush 4096, 3) := by decide +kernel
theorem dS_putSign_7 : decode prog_1_method_19_code 7 = .ok (.if_icmp .ge 23, 3) := by decide +kernel
theorem dS_putSign_10 : decode prog_1_method_19_code 10 = .ok (.aload_n 0, 1) := by decide +kernel
theorem dS_putSign_11 : decode prog_1_method_19_code 11 = .ok (.getfield 13, 3) := by decide +kernel
theorem dS_putSign_14 : decode prog_1_method_19_code 14 = .ok (.aload_n 0, 1) := by decide +kernel
theorem dS_putSign_15 : decode prog_1_method_19_code 15 = .ok (.getfield 20, 3) := by decide +kernel
theorem dS_putSign_18 : decode prog_1_method_19_code 18 = .ok (.iload_n 1, 1) := by decide +kernel
theorem dS_putSign_19 : decode prog_1_method_19_code 19 = .ok (.iastore, 1) := by decide +kernel
theorem dS_putSign_20 : decode prog_1_method_19_code 20 = .ok (.aload_n 0, 1) := by decide +kernel
theorem dS_putSign_21 : decode prog_1_method_19_code 21 = .ok (.dup, 1) := by decide +kernel
theorem dS_putSign_22 : decode prog_1_method_19_code 22 = .ok (.getfield 20, 3) := by decide +kernel
theorem dS_putSign_25 : decode prog_1_method_19_code 25 = .ok (.iconst 1, 1) := by decide +kernel
theorem dS_putSign_26 : decode prog_1_method_19_code 26 = .ok (.iadd, 1) := by decide +kernel
theorem dS_putSign_27 : decode prog_1_method_19_code 27 = .ok (.putfield 20, 3) := by decide +kernel
theorem dS_putSign_30 : decode prog_1_method_19_code 30 = .ok (.return_, 1) := by decide +kernel
theorem dS_length_0 : decode prog_1_method_7_code 0 = .ok (.aload_n 0, 1) := by decide +kernel
theorem dS_length_1 : decode prog_1_method_7_code 1 = .ok (.getfield 20, 3) := by decide +kernel
theorem dS_length_4 : decode prog_1_method_7_code 4 = .ok (.ireturn, 1) := by decide +kernel
theorem dS_sign_0 : decode prog_1_method_8_code 0 = .ok (.aload_n 0, 1) := by decide +kernel
theorem dS_sign_1 : decode prog_1_method_8_code 1 = .ok (.iload_n 1, 1) := by decide +kernel
theorem dS_sign_2 : decode prog_1_method_8_code 2 = .ok (.invokevirtual 57, 3) := by decide +kernel
theorem dS_sign_5 : decode prog_1_method_8_code 5 = .ok (.ifCond .eq 12, 3) := by decide +kernel
theorem dS_sign_8 : decode prog_1_method_8_code 8 = .ok (.aload_n 0, 1) := by decide +kernel
theorem dS_sign_9 : decode prog_1_method_8_code 9 = .ok (.getfield 13, 3) := by decide +kernel
theorem dS_sign_12 : decode prog_1_method_8_code 12 = .ok (.iload_n 1, 1) := by decide +kernel
theorem dS_sign_13 : decode prog_1_method_8_code 13 = .ok (.iaload, 1) := by decide +kernel
theorem dS_sign_14 : decode prog_1_method_8_code 14 = .ok (.goto 4, 3) := by decide +kernel
theorem dS_sign_17 : decode prog_1_method_8_code 17 = .ok (.iconst (-1), 1) := by decide +kernel
theorem dS_sign_18 : decode prog_1_method_8_code 18 = .ok (.ireturn, 1) := by decide +kernel
theorem dS_hasSign_0 : decode prog_1_method_15_code 0 = .ok (.iload_n 1, 1) := by decide +kernel
theorem dS_hasSign_1 : decode prog_1_method_15_code 1 = .ok (.ifCond .lt 15, 3) := by decide +kernel
theorem dS_hasSign_4 : decode prog_1_method_15_code 4 = .ok (.iload_n 1, 1) := by decide +kernel
theorem dS_hasSign_5 : decode prog_1_method_15_code 5 = .ok (.aload_n 0, 1) := by decide +kernel
theorem dS_hasSign_6 : decode prog_1_method_15_code 6 = .ok (.getfield 20, 3) := by decide +kernel
theorem dS_hasSign_9 : decode prog_1_method_15_code 9 = .ok (.if_icmp .ge 7, 3) := by decide +kernel
theorem dS_hasSign_12 : decode prog_1_method_15_code 12 = .ok (.iconst 1, 1) := by decide +kernel
theorem dS_hasSign_13 : decode prog_1_method_15_code 13 = .ok (.goto 4, 3) := by decide +kernel
theorem dS_hasSign_16 : decode prog_1_method_15_code 16 = .ok (.iconst 0, 1) := by decide +kernel
theorem dS_hasSign_17 : decode prog_1_method_15_code 17 = .ok (.ireturn, 1) := by decide +kernel
theorem dS_way_0 : decode prog_1_method_9_code 0 = .ok (.aload_n 0, 1) := by decide +kernel
theorem dS_way_1 : decode prog_1_method_9_code 1 = .ok (.getfield 23, 3) := by decide +kernel
theorem dS_way_4 : decode prog_1_method_9_code 4 = .ok (.ireturn, 1) := by decide +kernel
theorem dS_kinds_0 : decode prog_1_method_10_code 0 = .ok (.iload_n 1, 1) := by decide +kernel
theorem dS_kinds_1 : decode prog_1_method_10_code 1 = .ok (.invokestatic 60, 3) := by decide +kernel
theorem dS_kinds_4 : decode prog_1_method_10_code 4 = .ok (.ireturn, 1) := by decide +kernel
theorem dS_kindsOf_0 : decode prog_1_method_37_code 0 = .ok (.iload_n 0, 1) := by decide +kernel
theorem dS_kindsOf_1 : decode prog_1_method_37_code 1 = .ok (.invokestatic 128, 3) := by decide +kernel
theorem dS_kindsOf_4 : decode prog_1_method_37_code 4 = .ok (.ifCond .eq 7, 3) := by decide +kernel
theorem dS_kindsOf_7 : decode prog_1_method_37_code 7 = .ok (.iconst 1, 1) := by decide +kernel
theorem dS_kindsOf_8 : decode prog_1_method_37_code 8 = .ok (.goto 4, 3) := by decide +kernel
theorem dS_kindsOf_11 : decode prog_1_method_37_code 11 = .ok (.iconst 0, 1) := by decide +kernel
theorem dS_kindsOf_12 : decode prog_1_method_37_code 12 = .ok (.istore_n 1, 1) := by decide +kernel
theorem dS_kindsOf_13 : decode prog_1_method_37_code 13 = .ok (.iload_n 0, 1) := by decide +kernel
theorem dS_kindsOf_14 : decode prog_1_method_37_code 14 = .ok (.invokestatic 131, 3) := by decide +kernel
theorem dS_kindsOf_17 : decode prog_1_method_37_code 17 = .ok (.ifCond .eq 6, 3) := by decide +kernel
theorem dS_kindsOf_20 : decode prog_1_method_37_code 20 = .ok (.iinc 1 2, 3) := by decide +kernel
theorem dS_kindsOf_23 : decode prog_1_method_37_code 23 = .ok (.iload_n 0, 1) := by decide +kernel
theorem dS_kindsOf_24 : decode prog_1_method_37_code 24 = .ok (.invokestatic 134, 3) := by decide +kernel
theorem dS_kindsOf_27 : decode prog_1_method_37_code 27 = .ok (.ifCond .eq 6, 3) := by decide +kernel
theorem dS_kindsOf_30 : decode prog_1_method_37_code 30 = .ok (.iinc 1 4, 3) := by decide +kernel
theorem dS_kindsOf_33 : decode prog_1_method_37_code 33 = .ok (.getstatic 137, 3) := by decide +kernel
theorem dS_kindsOf_36 : decode prog_1_method_37_code 36 = .ok (.iload_n 0, 1) := by decide +kernel
theorem dS_kindsOf_37 : decode prog_1_method_37_code 37 = .ok (.invokestatic 140, 3) := by decide +kernel
theorem dS_kindsOf_40 : decode prog_1_method_37_code 40 = .ok (.ifCond .eq 9, 3) := by decide +kernel
theorem dS_kindsOf_43 : decode prog_1_method_37_code 43 = .ok (.iinc 1 24, 3) := by decide +kernel
theorem dS_kindsOf_46 : decode prog_1_method_37_code 46 = .ok (.goto 16, 3) := by decide +kernel
theorem dS_kindsOf_49 : decode prog_1_method_37_code 49 = .ok (.getstatic 144, 3) := by decide +kernel
theorem dS_kindsOf_52 : decode prog_1_method_37_code 52 = .ok (.iload_n 0, 1) := by decide +kernel
theorem dS_kindsOf_53 : decode prog_1_method_37_code 53 = .ok (.invokestatic 140, 3) := by decide +kernel
theorem dS_kindsOf_56 : decode prog_1_method_37_code 56 = .ok (.ifCond .eq 6, 3) := by decide +kernel
theorem dS_kindsOf_59 : decode prog_1_method_37_code 59 = .ok (.iinc 1 16, 3) := by decide +kernel
theorem dS_kindsOf_62 : decode prog_1_method_37_code 62 = .ok (.iload_n 0, 1) := by decide +kernel
theorem dS_kindsOf_63 : decode prog_1_method_37_code 63 = .ok (.invokestatic 147, 3) := by decide +kernel
theorem dS_kindsOf_66 : decode prog_1_method_37_code 66 = .ok (.ifCond .eq 6, 3) := by decide +kernel
theorem dS_kindsOf_69 : decode prog_1_method_37_code 69 = .ok (.iinc 1 32, 3) := by decide +kernel
theorem dS_kindsOf_72 : decode prog_1_method_37_code 72 = .ok (.iload_n 1, 1) := by decide +kernel
theorem dS_kindsOf_73 : decode prog_1_method_37_code 73 = .ok (.ireturn, 1) := by decide +kernel
theorem dS_isSpace_0 : decode prog_1_method_39_code 0 = .ok (.iload_n 0, 1) := by decide +kernel
theorem dS_isSpace_1 : decode prog_1_method_39_code 1 = .ok (.bipush 32, 2) := by decide +kernel
theorem dS_isSpace_3 : decode prog_1_method_39_code 3 = .ok (.if_icmp .eq 21, 3) := by decide +kernel
theorem dS_isSpace_6 : decode prog_1_method_39_code 6 = .ok (.iload_n 0, 1) := by decide +kernel
theorem dS_isSpace_7 : decode prog_1_method_39_code 7 = .ok (.bipush 9, 2) := by decide +kernel
theorem dS_isSpace_9 : decode prog_1_method_39_code 9 = .ok (.if_icmp .eq 15, 3) := by decide +kernel
theorem dS_isSpace_12 : decode prog_1_method_39_code 12 = .ok (.iload_n 0, 1) := by decide +kernel
theorem dS_isSpace_13 : decode prog_1_method_39_code 13 = .ok (.bipush 13, 2) := by decide +kernel
theorem dS_isSpace_15 : decode prog_1_method_39_code 15 = .ok (.if_icmp .eq 9, 3) := by decide +kernel
theorem dS_isSpace_18 : decode prog_1_method_39_code 18 = .ok (.iload_n 0, 1) := by decide +kernel
theorem dS_isSpace_19 : decode prog_1_method_39_code 19 = .ok (.bipush 10, 2) := by decide +kernel
theorem dS_isSpace_21 : decode prog_1_method_39_code 21 = .ok (.if_icmp .ne 7, 3) := by decide +kernel
theorem dS_isSpace_24 : decode prog_1_method_39_code 24 = .ok (.iconst 1, 1) := by decide +kernel
theorem dS_isSpace_25 : decode prog_1_method_39_code 25 = .ok (.goto 4, 3) := by decide +kernel
theorem dS_isSpace_28 : decode prog_1_method_39_code 28 = .ok (.iconst 0, 1) := by decide +kernel
theorem dS_isSpace_29 : decode prog_1_method_39_code 29 = .ok (.ireturn, 1) := by decide +kernel
theorem dS_isLetter_0 : decode prog_1_method_40_code 0 = .ok (.iload_n 0, 1) := by decide +kernel
theorem dS_isLetter_1 : decode prog_1_method_40_code 1 = .ok (.bipush 65, 2) := by decide +kernel
theorem dS_isLetter_3 : decode prog_1_method_40_code 3 = .ok (.if_icmp .lt 9, 3) := by decide +kernel
theorem dS_isLetter_6 : decode prog_1_method_40_code 6 = .ok (.iload_n 0, 1) := by decide +kernel
theorem dS_isLetter_7 : decode prog_1_method_40_code 7 = .ok (.bipush 90, 2) := by decide +kernel
theorem dS_isLetter_9 : decode prog_1_method_40_code 9 = .ok (.if_icmp .le 15, 3) := by decide +kernel
theorem dS_isLetter_12 : decode prog_1_method_40_code 12 = .ok (.iload_n 0, 1) := by decide +kernel
theorem dS_isLetter_13 : decode prog_1_method_40_code 13 = .ok (.bipush 97, 2) := by decide +kernel
theorem dS_isLetter_15 : decode prog_1_method_40_code 15 = .ok (.if_icmp .lt 13, 3) := by decide +kernel
theorem dS_isLetter_18 : decode prog_1_method_40_code 18 = .ok (.iload_n 0, 1) := by decide +kernel
theorem dS_isLetter_19 : decode prog_1_method_40_code 19 = .ok (.bipush 122, 2) := by decide +kernel
theorem dS_isLetter_21 : decode prog_1_method_40_code 21 = .ok (.if_icmp .gt 7, 3) := by decide +kernel
theorem dS_isLetter_24 : decode prog_1_method_40_code 24 = .ok (.iconst 1, 1) := by decide +kernel
theorem dS_isLetter_25 : decode prog_1_method_40_code 25 = .ok (.goto 4, 3) := by decide +kernel
theorem dS_isLetter_28 : decode prog_1_method_40_code 28 = .ok (.iconst 0, 1) := by decide +kernel
theorem dS_isLetter_29 : decode prog_1_method_40_code 29 = .ok (.ireturn, 1) := by decide +kernel
theorem dS_isDigit_0 : decode prog_1_method_41_code 0 = .ok (.iload_n 0, 1) := by decide +kernel
theorem dS_isDigit_1 : decode prog_1_method_41_code 1 = .ok (.bipush 48, 2) := by decide +kernel
theorem dS_isDigit_3 : decode prog_1_method_41_code 3 = .ok (.if_icmp .lt 13, 3) := by decide +kernel
theorem dS_isDigit_6 : decode prog_1_method_41_code 6 = .ok (.iload_n 0, 1) := by decide +kernel
theorem dS_isDigit_7 : decode prog_1_method_41_code 7 = .ok (.bipush 57, 2) := by decide +kernel
theorem dS_isDigit_9 : decode prog_1_method_41_code 9 = .ok (.if_icmp .gt 7, 3) := by decide +kernel
theorem dS_isDigit_12 : decode prog_1_method_41_code 12 = .ok (.iconst 1, 1) := by decide +kernel
theorem dS_isDigit_13 : decode prog_1_method_41_code 13 = .ok (.goto 4, 3) := by decide +kernel
theorem dS_isDigit_16 : decode prog_1_method_41_code 16 = .ok (.iconst 0, 1) := by decide +kernel
theorem dS_isDigit_17 : decode prog_1_method_41_code 17 = .ok (.ireturn, 1) := by decide +kernel
theorem dS_isPublic_0 : decode prog_1_method_42_code 0 = .ok (.iload_n 0, 1) := by decide +kernel
theorem dS_isPublic_1 : decode prog_1_method_42_code 1 = .ok (.bipush 32, 2) := by decide +kernel
theorem dS_isPublic_3 : decode prog_1_method_42_code 3 = .ok (.if_icmp .eq 23, 3) := by decide +kernel
theorem dS_isPublic_6 : decode prog_1_method_42_code 6 = .ok (.iload_n 0, 1) := by decide +kernel
theorem dS_isPublic_7 : decode prog_1_method_42_code 7 = .ok (.bipush 10, 2) := by decide +kernel
theorem dS_isPublic_9 : decode prog_1_method_42_code 9 = .ok (.if_icmp .eq 17, 3) := by decide +kernel
theorem dS_isPublic_12 : decode prog_1_method_42_code 12 = .ok (.iload_n 0, 1) := by decide +kernel
theorem dS_isPublic_13 : decode prog_1_method_42_code 13 = .ok (.invokestatic 131, 3) := by decide +kernel
theorem dS_isPublic_16 : decode prog_1_method_42_code 16 = .ok (.ifCond .ne 10, 3) := by decide +kernel
theorem dS_isPublic_19 : decode prog_1_method_42_code 19 = .ok (.iload_n 0, 1) := by decide +kernel
theorem dS_isPublic_20 : decode prog_1_method_42_code 20 = .ok (.invokestatic 134, 3) := by decide +kernel
theorem dS_isPublic_23 : decode prog_1_method_42_code 23 = .ok (.ifCond .eq 5, 3) := by decide +kernel
theorem dS_isPublic_26 : decode prog_1_method_42_code 26 = .ok (.iconst 1, 1) := by decide +kernel
theorem dS_isPublic_27 : decode prog_1_method_42_code 27 = .ok (.ireturn, 1) := by decide +kernel
theorem dS_isPublic_28 : decode prog_1_method_42_code 28 = .ok (.iload_n 0, 1) := by decide +kernel
theorem dS_isPublic_29 : decode prog_1_method_42_code 29 = .ok (.bipush 32, 2) := by decide +kernel
theorem dS_isPublic_31 : decode prog_1_method_42_code 31 = .ok (.if_icmp .le 24, 3) := by decide +kernel
theorem dS_isPublic_34 : decode prog_1_method_42_code 34 = .ok (.iload_n 0, 1) := by decide +kernel
theorem dS_isPublic_35 : decode prog_1_method_42_code 35 = .ok (.sipush 128, 3) := by decide +kernel
theorem dS_isPublic_38 : decode prog_1_method_42_code 38 = .ok (.if_icmp .ge 17, 3) := by decide +kernel
theorem dS_isPublic_41 : decode prog_1_method_42_code 41 = .ok (.ldc 153, 2) := by decide +kernel
theorem dS_isPublic_43 : decode prog_1_method_42_code 43 = .ok (.iload_n 0, 1) := by decide +kernel
theorem dS_isPublic_44 : decode prog_1_method_42_code 44 = .ok (.i2c, 1) := by decide +kernel
theorem dS_isPublic_45 : decode prog_1_method_42_code 45 = .ok (.invokevirtual 155, 3) := by decide +kernel
theorem dS_isPublic_48 : decode prog_1_method_42_code 48 = .ok (.ifCond .lt 7, 3) := by decide +kernel
theorem dS_isPublic_51 : decode prog_1_method_42_code 51 = .ok (.iconst 1, 1) := by decide +kernel
theorem dS_isPublic_52 : decode prog_1_method_42_code 52 = .ok (.goto 4, 3) := by decide +kernel
theorem dS_isPublic_55 : decode prog_1_method_42_code 55 = .ok (.iconst 0, 1) := by decide +kernel
theorem dS_isPublic_56 : decode prog_1_method_42_code 56 = .ok (.ireturn, 1) := by decide +kernel
theorem dS_run_0 : decode prog_1_method_11_code 0 = .ok (.aload_n 0, 1) := by decide +kernel
theorem dS_run_1 : decode prog_1_method_11_code 1 = .ok (.iload_n 1, 1) := by decide +kernel
theorem dS_run_2 : decode prog_1_method_11_code 2 = .ok (.invokevirtual 57, 3) := by decide +kernel
theorem dS_run_5 : decode prog_1_method_11_code 5 = .ok (.ifCond .ne 5, 3) := by decide +kernel
theorem dS_run_8 : decode prog_1_method_11_code 8 = .ok (.iconst 0, 1) := by decide +kernel
theorem dS_run_9 : decode prog_1_method_11_code 9 = .ok (.ireturn, 1) := by decide +kernel
theorem dS_run_10 : decode prog_1_method_11_code 10 = .ok (.iload_n 1, 1) := by decide +kernel
theorem dS_run_11 : decode prog_1_method_11_code 11 = .ok (.istore_n 3, 1) := by decide +kernel
theorem dS_run_12 : decode prog_1_method_11_code 12 = .ok (.iload_n 3, 1) := by decide +kernel
theorem dS_run_13 : decode prog_1_method_11_code 13 = .ok (.aload_n 0, 1) := by decide +kernel
theorem dS_run_14 : decode prog_1_method_11_code 14 = .ok (.getfield 20, 3) := by decide +kernel
theorem dS_run_17 : decode prog_1_method_11_code 17 = .ok (.if_icmp .ge 23, 3) := by decide +kernel
theorem dS_run_20 : decode prog_1_method_11_code 20 = .ok (.aload_n 0, 1) := by decide +kernel
theorem dS_run_21 : decode prog_1_method_11_code 21 = .ok (.getfield 13, 3) := by decide +kernel
theorem dS_run_24 : decode prog_1_method_11_code 24 = .ok (.iload_n 3, 1) := by decide +kernel
theorem dS_run_25 : decode prog_1_method_11_code 25 = .ok (.iaload, 1) := by decide +kernel
theorem dS_run_26 : decode prog_1_method_11_code 26 = .ok (.invokestatic 60, 3) := by decide +kernel
theorem dS_run_29 : decode prog_1_method_11_code 29 = .ok (.iload_n 2, 1) := by decide +kernel
theorem dS_run_30 : decode prog_1_method_11_code 30 = .ok (.iand, 1) := by decide +kernel
theorem dS_run_31 : decode prog_1_method_11_code 31 = .ok (.ifCond .eq 9, 3) := by decide +kernel
theorem dS_run_34 : decode prog_1_method_11_code 34 = .ok (.iinc 3 1, 3) := by decide +kernel
theorem dS_run_37 : decode prog_1_method_11_code 37 = .ok (.goto (-25), 3) := by decide +kernel
theorem dS_run_40 : decode prog_1_method_11_code 40 = .ok (.iload_n 3, 1) := by decide +kernel
theorem dS_run_41 : decode prog_1_method_11_code 41 = .ok (.iload_n 1, 1) := by decide +kernel
theorem dS_run_42 : decode prog_1_method_11_code 42 = .ok (.isub, 1) := by decide +kernel
theorem dS_run_43 : decode prog_1_method_11_code 43 = .ok (.ireturn, 1) := by decide +kernel
theorem dS_write_0 : decode prog_1_method_12_code 0 = .ok (.iload_n 1, 1) := by decide +kernel
theorem dS_write_1 : decode prog_1_method_12_code 1 = .ok (.ifCond .lt 19, 3) := by decide +kernel
theorem dS_write_4 : decode prog_1_method_12_code 4 = .ok (.iload_n 1, 1) := by decide +kernel
theorem dS_write_5 : decode prog_1_method_12_code 5 = .ok (.iconst 3, 1) := by decide +kernel
theorem dS_write_6 : decode prog_1_method_12_code 6 = .ok (.if_icmp .gt 14, 3) := by decide +kernel
theorem dS_write_9 : decode prog_1_method_12_code 9 = .ok (.aload_n 0, 1) := by decide +kernel
theorem dS_write_10 : decode prog_1_method_12_code 10 = .ok (.iload_n 1, 1) := by decide +kernel
theorem dS_write_11 : decode prog_1_method_12_code 11 = .ok (.invokevirtual 63, 3) := by decide +kernel
theorem dS_write_14 : decode prog_1_method_12_code 14 = .ok (.sipush 4096, 3) := by decide +kernel
theorem dS_write_17 : decode prog_1_method_12_code 17 = .ok (.if_icmp .le 5, 3) := by decide +kernel
theorem dS_write_20 : decode prog_1_method_12_code 20 = .ok (.iconst (-1), 1) := by decide +kernel
theorem dS_write_21 : decode prog_1_method_12_code 21 = .ok (.ireturn, 1) := by decide +kernel
theorem dS_write_22 : decode prog_1_method_12_code 22 = .ok (.aload_n 0, 1) := by decide +kernel
theorem dS_write_23 : decode prog_1_method_12_code 23 = .ok (.iconst 0, 1) := by decide +kernel
theorem dS_write_24 : decode prog_1_method_12_code 24 = .ok (.putfield 16, 3) := by decide +kernel
theorem dS_write_27 : decode prog_1_method_12_code 27 = .ok (.iload_n 1, 1) := by decide +kernel
theorem dS_write_28 : decode prog_1_method_12_code 28 = .ok (.ifCond .eq 10, 3) := by decide +kernel
theorem dS_write_31 : decode prog_1_method_12_code 31 = .ok (.aload_n 0, 1) := by decide +kernel
theorem dS_write_32 : decode prog_1_method_12_code 32 = .ok (.ldc 66, 2) := by decide +kernel
theorem dS_write_34 : decode prog_1_method_12_code 34 = .ok (.iload_n 1, 1) := by decide +kernel
theorem dS_write_35 : decode prog_1_method_12_code 35 = .ok (.invokevirtual 67, 3) := by decide +kernel
theorem dS_write_38 : decode prog_1_method_12_code 38 = .ok (.iconst 0, 1) := by decide +kernel
theorem dS_write_39 : decode prog_1_method_12_code 39 = .ok (.istore_n 2, 1) := by decide +kernel
theorem dS_write_40 : decode prog_1_method_12_code 40 = .ok (.iload_n 2, 1) := by decide +kernel
theorem dS_write_41 : decode prog_1_method_12_code 41 = .ok (.aload_n 0, 1) := by decide +kernel
theorem dS_write_42 : decode prog_1_method_12_code 42 = .ok (.getfield 20, 3) := by decide +kernel
theorem dS_write_45 : decode prog_1_method_12_code 45 = .ok (.if_icmp .ge 20, 3) := by decide +kernel
theorem dS_write_48 : decode prog_1_method_12_code 48 = .ok (.aload_n 0, 1) := by decide +kernel
theorem dS_write_49 : decode prog_1_method_12_code 49 = .ok (.aload_n 0, 1) := by decide +kernel
theorem dS_write_50 : decode prog_1_method_12_code 50 = .ok (.getfield 13, 3) := by decide +kernel
theorem dS_write_53 : decode prog_1_method_12_code 53 = .ok (.iload_n 2, 1) := by decide +kernel
theorem dS_write_54 : decode prog_1_method_12_code 54 = .ok (.iaload, 1) := by decide +kernel
theorem dS_write_55 : decode prog_1_method_12_code 55 = .ok (.iload_n 1, 1) := by decide +kernel
theorem dS_write_56 : decode prog_1_method_12_code 56 = .ok (.invokevirtual 67, 3) := by decide +kernel
theorem dS_write_59 : decode prog_1_method_12_code 59 = .ok (.iinc 2 1, 3) := by decide +kernel
theorem dS_write_62 : decode prog_1_method_12_code 62 = .ok (.goto (-22), 3) := by decide +kernel
theorem dS_write_65 : decode prog_1_method_12_code 65 = .ok (.aload_n 0, 1) := by decide +kernel
theorem dS_write_66 : decode prog_1_method_12_code 66 = .ok (.getfield 16, 3) := by decide +kernel
theorem dS_write_69 : decode prog_1_method_12_code 69 = .ok (.ireturn, 1) := by decide +kernel
theorem dS_sizeWritten_0 : decode prog_1_method_25_code 0 = .ok (.iload_n 1, 1) := by decide +kernel
theorem dS_sizeWritten_1 : decode prog_1_method_25_code 1 = .ok (.invokestatic 81, 3) := by decide +kernel
theorem dS_sizeWritten_4 : decode prog_1_method_25_code 4 = .ok (.istore_n 2, 1) := by decide +kernel
theorem dS_sizeWritten_5 : decode prog_1_method_25_code 5 = .ok (.iconst 0, 1) := by decide +kernel
theorem dS_sizeWritten_6 : decode prog_1_method_25_code 6 = .ok (.istore_n 3, 1) := by decide +kernel
theorem dS_sizeWritten_7 : decode prog_1_method_25_code 7 = .ok (.iload_n 3, 1) := by decide +kernel
theorem dS_sizeWritten_8 : decode prog_1_method_25_code 8 = .ok (.aload_n 0, 1) := by decide +kernel
theorem dS_sizeWritten_9 : decode prog_1_method_25_code 9 = .ok (.getfield 20, 3) := by decide +kernel
theorem dS_sizeWritten_12 : decode prog_1_method_25_code 12 = .ok (.if_icmp .ge 22, 3) := by decide +kernel
theorem dS_sizeWritten_15 : decode prog_1_method_25_code 15 = .ok (.iload_n 2, 1) := by decide +kernel
theorem dS_sizeWritten_16 : decode prog_1_method_25_code 16 = .ok (.aload_n 0, 1) := by decide +kernel
theorem dS_sizeWritten_17 : decode prog_1_method_25_code 17 = .ok (.getfield 13, 3) := by decide +kernel
theorem dS_sizeWritten_20 : decode prog_1_method_25_code 20 = .ok (.iload_n 3, 1) := by decide +kernel
theorem dS_sizeWritten_21 : decode prog_1_method_25_code 21 = .ok (.iaload, 1) := by decide +kernel
theorem dS_sizeWritten_22 : decode prog_1_method_25_code 22 = .ok (.iload_n 1, 1) := by decide +kernel
theorem dS_sizeWritten_23 : decode prog_1_method_25_code 23 = .ok (.invokestatic 84, 3) := by decide +kernel
theorem dS_sizeWritten_26 : decode prog_1_method_25_code 26 = .ok (.iadd, 1) := by decide +kernel
theorem dS_sizeWritten_27 : decode prog_1_method_25_code 27 = .ok (.istore_n 2, 1) := by decide +kernel
theorem dS_sizeWritten_28 : decode prog_1_method_25_code 28 = .ok (.iinc 3 1, 3) := by decide +kernel
theorem dS_sizeWritten_31 : decode prog_1_method_25_code 31 = .ok (.goto (-24), 3) := by decide +kernel
theorem dS_sizeWritten_34 : decode prog_1_method_25_code 34 = .ok (.iload_n 2, 1) := by decide +kernel
theorem dS_sizeWritten_35 : decode prog_1_method_25_code 35 = .ok (.ireturn, 1) := by decide +kernel
theorem dS_putCharacter_0 : decode prog_1_method_31_code 0 = .ok (.iload_n 2, 1) := by decide +kernel
theorem dS_putCharacter_1 : decode prog_1_method_31_code 1 = .ok (.invokestatic 87, 3) := by decide +kernel
theorem dS_putCharacter_4 : decode prog_1_method_31_code 4 = .ok (.ifCond .eq 12, 3) := by decide +kernel
theorem dS_putCharacter_7 : decode prog_1_method_31_code 7 = .ok (.aload_n 0, 1) := by decide +kernel
theorem dS_putCharacter_8 : decode prog_1_method_31_code 8 = .ok (.iload_n 1, 1) := by decide +kernel
theorem dS_putCharacter_9 : decode prog_1_method_31_code 9 = .ok (.iload_n 2, 1) := by decide +kernel
theorem dS_putCharacter_10 : decode prog_1_method_31_code 10 = .ok (.invokevirtual 116, 3) := by decide +kernel
theorem dS_putCharacter_13 : decode prog_1_method_31_code 13 = .ok (.goto 8, 3) := by decide +kernel
theorem dS_putCharacter_16 : decode prog_1_method_31_code 16 = .ok (.aload_n 0, 1) := by decide +kernel
theorem dS_putCharacter_17 : decode prog_1_method_31_code 17 = .ok (.iload_n 1, 1) := by decide +kernel
theorem dS_putCharacter_18 : decode prog_1_method_31_code 18 = .ok (.invokevirtual 119, 3) := by decide +kernel
theorem dS_putCharacter_21 : decode prog_1_method_31_code 21 = .ok (.return_, 1) := by decide +kernel
theorem dS_put16Bits_0 : decode prog_1_method_33_code 0 = .ok (.iload_n 1, 1) := by decide +kernel
theorem dS_put16Bits_1 : decode prog_1_method_33_code 1 = .ok (.ldc 112, 2) := by decide +kernel
theorem dS_put16Bits_3 : decode prog_1_method_33_code 3 = .ok (.if_icmp .ge 10, 3) := by decide +kernel
theorem dS_put16Bits_6 : decode prog_1_method_33_code 6 = .ok (.aload_n 0, 1) := by decide +kernel
theorem dS_put16Bits_7 : decode prog_1_method_33_code 7 = .ok (.iload_n 1, 1) := by decide +kernel
theorem dS_put16Bits_8 : decode prog_1_method_33_code 8 = .ok (.iload_n 2, 1) := by decide +kernel
theorem dS_put16Bits_9 : decode prog_1_method_33_code 9 = .ok (.invokevirtual 125, 3) := by decide +kernel
theorem dS_put16Bits_12 : decode prog_1_method_33_code 12 = .ok (.return_, 1) := by decide +kernel
theorem dS_put16Bits_13 : decode prog_1_method_33_code 13 = .ok (.iload_n 1, 1) := by decide +kernel
theorem dS_put16Bits_14 : decode prog_1_method_33_code 14 = .ok (.ldc 112, 2) := by decide +kernel
theorem dS_put16Bits_16 : decode prog_1_method_33_code 16 = .ok (.isub, 1) := by decide +kernel
theorem dS_put16Bits_17 : decode prog_1_method_33_code 17 = .ok (.istore_n 3, 1) := by decide +kernel
theorem dS_put16Bits_18 : decode prog_1_method_33_code 18 = .ok (.aload_n 0, 1) := by decide +kernel
theorem dS_put16Bits_19 : decode prog_1_method_33_code 19 = .ok (.ldc 108, 2) := by decide +kernel
theorem dS_put16Bits_21 : decode prog_1_method_33_code 21 = .ok (.iload_n 3, 1) := by decide +kernel
theorem dS_put16Bits_22 : decode prog_1_method_33_code 22 = .ok (.bipush 10, 2) := by decide +kernel
theorem dS_put16Bits_24 : decode prog_1_method_33_code 24 = .ok (.ishr, 1) := by decide +kernel
theorem dS_put16Bits_25 : decode prog_1_method_33_code 25 = .ok (.iadd, 1) := by decide +kernel
theorem dS_put16Bits_26 : decode prog_1_method_33_code 26 = .ok (.iload_n 2, 1) := by decide +kernel
theorem dS_put16Bits_27 : decode prog_1_method_33_code 27 = .ok (.invokevirtual 125, 3) := by decide +kernel
theorem dS_put16Bits_30 : decode prog_1_method_33_code 30 = .ok (.aload_n 0, 1) := by decide +kernel
theorem dS_put16Bits_31 : decode prog_1_method_33_code 31 = .ok (.ldc 110, 2) := by decide +kernel
theorem dS_put16Bits_33 : decode prog_1_method_33_code 33 = .ok (.iload_n 3, 1) := by decide +kernel
theorem dS_put16Bits_34 : decode prog_1_method_33_code 34 = .ok (.sipush 1023, 3) := by decide +kernel
theorem dS_put16Bits_37 : decode prog_1_method_33_code 37 = .ok (.iand, 1) := by decide +kernel
theorem dS_put16Bits_38 : decode prog_1_method_33_code 38 = .ok (.iadd, 1) := by decide +kernel
theorem dS_put16Bits_39 : decode prog_1_method_33_code 39 = .ok (.iload_n 2, 1) := by decide +kernel
theorem dS_put16Bits_40 : decode prog_1_method_33_code 40 = .ok (.invokevirtual 125, 3) := by decide +kernel
theorem dS_put16Bits_43 : decode prog_1_method_33_code 43 = .ok (.return_, 1) := by decide +kernel
theorem dS_putPair_0 : decode prog_1_method_34_code 0 = .ok (.iload_n 2, 1) := by decide +kernel
theorem dS_putPair_1 : decode prog_1_method_34_code 1 = .ok (.iconst 1, 1) := by decide +kernel
theorem dS_putPair_2 : decode prog_1_method_34_code 2 = .ok (.if_icmp .ne 19, 3) := by decide +kernel
theorem dS_putPair_5 : decode prog_1_method_34_code 5 = .ok (.aload_n 0, 1) := by decide +kernel
theorem dS_putPair_6 : decode prog_1_method_34_code 6 = .ok (.iload_n 1, 1) := by decide +kernel
theorem dS_putPair_7 : decode prog_1_method_34_code 7 = .ok (.bipush 8, 2) := by decide +kernel
theorem dS_putPair_9 : decode prog_1_method_34_code 9 = .ok (.ishr, 1) := by decide +kernel
theorem dS_putPair_10 : decode prog_1_method_34_code 10 = .ok (.invokevirtual 122, 3) := by decide +kernel
theorem dS_putPair_13 : decode prog_1_method_34_code 13 = .ok (.aload_n 0, 1) := by decide +kernel
theorem dS_putPair_14 : decode prog_1_method_34_code 14 = .ok (.iload_n 1, 1) := by decide +kernel
theorem dS_putPair_15 : decode prog_1_method_34_code 15 = .ok (.invokevirtual 122, 3) := by decide +kernel
theorem dS_putPair_18 : decode prog_1_method_34_code 18 = .ok (.goto 16, 3) := by decide +kernel
theorem dS_putPair_21 : decode prog_1_method_34_code 21 = .ok (.aload_n 0, 1) := by decide +kernel
theorem dS_putPair_22 : decode prog_1_method_34_code 22 = .ok (.iload_n 1, 1) := by decide +kernel
theorem dS_putPair_23 : decode prog_1_method_34_code 23 = .ok (.invokevirtual 122, 3) := by decide +kernel
theorem dS_putPair_26 : decode prog_1_method_34_code 26 = .ok (.aload_n 0, 1) := by decide +kernel
theorem dS_putPair_27 : decode prog_1_method_34_code 27 = .ok (.iload_n 1, 1) := by decide +kernel
theorem dS_putPair_28 : decode prog_1_method_34_code 28 = .ok (.bipush 8, 2) := by decide +kernel
theorem dS_putPair_30 : decode prog_1_method_34_code 30 = .ok (.ishr, 1) := by decide +kernel
theorem dS_putPair_31 : decode prog_1_method_34_code 31 = .ok (.invokevirtual 122, 3) := by decide +kernel
theorem dS_putPair_34 : decode prog_1_method_34_code 34 = .ok (.return_, 1) := by decide +kernel
theorem dS_putByte_0 : decode prog_1_method_36_code 0 = .ok (.aload_n 0, 1) := by decide +kernel
theorem dS_putByte_1 : decode prog_1_method_36_code 1 = .ok (.getfield 16, 3) := by decide +kernel
theorem dS_putByte_4 : decode prog_1_method_36_code 4 = .ok (.sipush 4096, 3) := by decide +kernel
theorem dS_putByte_7 : decode prog_1_method_36_code 7 = .ok (.if_icmp .ge 27, 3) := by decide +kernel
theorem dS_putByte_10 : decode prog_1_method_36_code 10 = .ok (.aload_n 0, 1) := by decide +kernel
theorem dS_putByte_11 : decode prog_1_method_36_code 11 = .ok (.getfield 9, 3) := by decide +kernel
theorem dS_putByte_14 : decode prog_1_method_36_code 14 = .ok (.aload_n 0, 1) := by decide +kernel
theorem dS_putByte_15 : decode prog_1_method_36_code 15 = .ok (.getfield 16, 3) := by decide +kernel
theorem dS_putByte_18 : decode prog_1_method_36_code 18 = .ok (.iload_n 1, 1) := by decide +kernel
theorem dS_putByte_19 : decode prog_1_method_36_code 19 = .ok (.sipush 255, 3) := by decide +kernel
theorem dS_putByte_22 : decode prog_1_method_36_code 22 = .ok (.iand, 1) := by decide +kernel
theorem dS_putByte_23 : decode prog_1_method_36_code 23 = .ok (.iastore, 1) := by decide +kernel
theorem dS_putByte_24 : decode prog_1_method_36_code 24 = .ok (.aload_n 0, 1) := by decide +kernel
theorem dS_putByte_25 : decode prog_1_method_36_code 25 = .ok (.dup, 1) := by decide +kernel
theorem dS_putByte_26 : decode prog_1_method_36_code 26 = .ok (.getfield 16, 3) := by decide +kernel
theorem dS_putByte_29 : decode prog_1_method_36_code 29 = .ok (.iconst 1, 1) := by decide +kernel
theorem dS_putByte_30 : decode prog_1_method_36_code 30 = .ok (.iadd, 1) := by decide +kernel
theorem dS_putByte_31 : decode prog_1_method_36_code 31 = .ok (.putfield 16, 3) := by decide +kernel
theorem dS_putByte_34 : decode prog_1_method_36_code 34 = .ok (.return_, 1) := by decide +kernel
theorem dS_put8Bits_0 : decode prog_1_method_32_code 0 = .ok (.iload_n 1, 1) := by decide +kernel
theorem dS_put8Bits_1 : decode prog_1_method_32_code 1 = .ok (.invokestatic 102, 3) := by decide +kernel
theorem dS_put8Bits_4 : decode prog_1_method_32_code 4 = .ok (.iconst 1, 1) := by decide +kernel
theorem dS_put8Bits_5 : decode prog_1_method_32_code 5 = .ok (.isub, 1) := by decide +kernel
theorem dS_put8Bits_6 : decode prog_1_method_32_code 6 = .ok (.istore_n 2, 1) := by decide +kernel
theorem dS_put8Bits_7 : decode prog_1_method_32_code 7 = .ok (.iload_n 2, 1) := by decide +kernel
theorem dS_put8Bits_8 : decode prog_1_method_32_code 8 = .ok (.ifCond .ne 9, 3) := by decide +kernel
theorem dS_put8Bits_11 : decode prog_1_method_32_code 11 = .ok (.aload_n 0, 1) := by decide +kernel
theorem dS_put8Bits_12 : decode prog_1_method_32_code 12 = .ok (.iload_n 1, 1) := by decide +kernel
theorem dS_put8Bits_13 : decode prog_1_method_32_code 13 = .ok (.invokevirtual 122, 3) := by decide +kernel
theorem dS_put8Bits_16 : decode prog_1_method_32_code 16 = .ok (.return_, 1) := by decide +kernel
theorem dS_put8Bits_17 : decode prog_1_method_32_code 17 = .ok (.sipush 256, 3) := by decide +kernel
theorem dS_put8Bits_20 : decode prog_1_method_32_code 20 = .ok (.sipush 128, 3) := by decide +kernel
theorem dS_put8Bits_23 : decode prog_1_method_32_code 23 = .ok (.iload_n 2, 1) := by decide +kernel
theorem dS_put8Bits_24 : decode prog_1_method_32_code 24 = .ok (.ishr, 1) := by decide +kernel
theorem dS_put8Bits_25 : decode prog_1_method_32_code 25 = .ok (.isub, 1) := by decide +kernel
theorem dS_put8Bits_26 : decode prog_1_method_32_code 26 = .ok (.istore_n 3, 1) := by decide +kernel
theorem dS_put8Bits_27 : decode prog_1_method_32_code 27 = .ok (.aload_n 0, 1) := by decide +kernel
theorem dS_put8Bits_28 : decode prog_1_method_32_code 28 = .ok (.iload_n 3, 1) := by decide +kernel
theorem dS_put8Bits_29 : decode prog_1_method_32_code 29 = .ok (.iload_n 1, 1) := by decide +kernel
theorem dS_put8Bits_30 : decode prog_1_method_32_code 30 = .ok (.bipush 6, 2) := by decide +kernel
theorem dS_put8Bits_32 : decode prog_1_method_32_code 32 = .ok (.iload_n 2, 1) := by decide +kernel
theorem dS_put8Bits_33 : decode prog_1_method_32_code 33 = .ok (.imul, 1) := by decide +kernel
theorem dS_put8Bits_34 : decode prog_1_method_32_code 34 = .ok (.ishr, 1) := by decide +kernel
theorem dS_put8Bits_35 : decode prog_1_method_32_code 35 = .ok (.iadd, 1) := by decide +kernel
theorem dS_put8Bits_36 : decode prog_1_method_32_code 36 = .ok (.invokevirtual 122, 3) := by decide +kernel
theorem dS_put8Bits_39 : decode prog_1_method_32_code 39 = .ok (.iload_n 2, 1) := by decide +kernel
theorem dS_put8Bits_40 : decode prog_1_method_32_code 40 = .ok (.iconst 1, 1) := by decide +kernel
theorem dS_put8Bits_41 : decode prog_1_method_32_code 41 = .ok (.isub, 1) := by decide +kernel
theorem dS_put8Bits_42 : decode prog_1_method_32_code 42 = .ok (.istore 4, 2) := by decide +kernel
theorem dS_put8Bits_44 : decode prog_1_method_32_code 44 = .ok (.iload 4, 2) := by decide +kernel
theorem dS_put8Bits_46 : decode prog_1_method_32_code 46 = .ok (.ifCond .lt 27, 3) := by decide +kernel
theorem dS_put8Bits_49 : decode prog_1_method_32_code 49 = .ok (.aload_n 0, 1) := by decide +kernel
theorem dS_put8Bits_50 : decode prog_1_method_32_code 50 = .ok (.sipush 128, 3) := by decide +kernel
theorem dS_put8Bits_53 : decode prog_1_method_32_code 53 = .ok (.iload_n 1, 1) := by decide +kernel
theorem dS_put8Bits_54 : decode prog_1_method_32_code 54 = .ok (.bipush 6, 2) := by decide +kernel
theorem dS_put8Bits_56 : decode prog_1_method_32_code 56 = .ok (.iload 4, 2) := by decide +kernel
theorem dS_put8Bits_58 : decode prog_1_method_32_code 58 = .ok (.imul, 1) := by decide +kernel
theorem dS_put8Bits_59 : decode prog_1_method_32_code 59 = .ok (.ishr, 1) := by decide +kernel
theorem dS_put8Bits_60 : decode prog_1_method_32_code 60 = .ok (.bipush 63, 2) := by decide +kernel
theorem dS_put8Bits_62 : decode prog_1_method_32_code 62 = .ok (.iand, 1) := by decide +kernel
theorem dS_put8Bits_63 : decode prog_1_method_32_code 63 = .ok (.iadd, 1) := by decide +kernel
theorem dS_put8Bits_64 : decode prog_1_method_32_code 64 = .ok (.invokevirtual 122, 3) := by decide +kernel
theorem dS_put8Bits_67 : decode prog_1_method_32_code 67 = .ok (.iinc 4 (-1), 3) := by decide +kernel
theorem dS_put8Bits_70 : decode prog_1_method_32_code 70 = .ok (.goto (-26), 3) := by decide +kernel
theorem dS_put8Bits_73 : decode prog_1_method_32_code 73 = .ok (.return_, 1) := by decide +kernel
theorem dS_add_0 : decode prog_1_method_13_code 0 = .ok (.iload_n 1, 1) := by decide +kernel
theorem dS_add_1 : decode prog_1_method_13_code 1 = .ok (.invokestatic 71, 3) := by decide +kernel
theorem dS_add_4 : decode prog_1_method_13_code 4 = .ok (.ifCond .eq 19, 3) := by decide +kernel
theorem dS_add_7 : decode prog_1_method_13_code 7 = .ok (.iload_n 1, 1) := by decide +kernel
theorem dS_add_8 : decode prog_1_method_13_code 8 = .ok (.bipush 13, 2) := by decide +kernel
theorem dS_add_10 : decode prog_1_method_13_code 10 = .ok (.if_icmp .eq 13, 3) := by decide +kernel
theorem dS_add_13 : decode prog_1_method_13_code 13 = .ok (.aload_n 0, 1) := by decide +kernel
theorem dS_add_14 : decode prog_1_method_13_code 14 = .ok (.getfield 20, 3) := by decide +kernel
theorem dS_add_17 : decode prog_1_method_13_code 17 = .ok (.sipush 4096, 3) := by decide +kernel
theorem dS_add_20 : decode prog_1_method_13_code 20 = .ok (.if_icmp .lt 5, 3) := by decide +kernel
theorem dS_add_23 : decode prog_1_method_13_code 23 = .ok (.iconst (-1), 1) := by decide +kernel
theorem dS_add_24 : decode prog_1_method_13_code 24 = .ok (.ireturn, 1) := by decide +kernel
theorem dS_add_25 : decode prog_1_method_13_code 25 = .ok (.aload_n 0, 1) := by decide +kernel
theorem dS_add_26 : decode prog_1_method_13_code 26 = .ok (.iload_n 1, 1) := by decide +kernel
theorem dS_add_27 : decode prog_1_method_13_code 27 = .ok (.invokevirtual 74, 3) := by decide +kernel
theorem dS_add_30 : decode prog_1_method_13_code 30 = .ok (.aload_n 0, 1) := by decide +kernel
theorem dS_add_31 : decode prog_1_method_13_code 31 = .ok (.getfield 20, 3) := by decide +kernel
theorem dS_add_34 : decode prog_1_method_13_code 34 = .ok (.ireturn, 1) := by decide +kernel
theorem dS_feed_0 : decode prog_1_method_2_code 0 = .ok (.aload_n 0, 1) := by decide +kernel
theorem dS_feed_1 : decode prog_1_method_2_code 1 = .ok (.getfield 16, 3) := by decide +kernel
theorem dS_feed_4 : decode prog_1_method_2_code 4 = .ok (.sipush 4076, 3) := by decide +kernel
theorem dS_feed_7 : decode prog_1_method_2_code 7 = .ok (.if_icmp .le 13, 3) := by decide +kernel
theorem dS_feed_10 : decode prog_1_method_2_code 10 = .ok (.new 26, 3) := by decide +kernel
theorem dS_feed_13 : decode prog_1_method_2_code 13 = .ok (.dup, 1) := by decide +kernel
theorem dS_feed_14 : decode prog_1_method_2_code 14 = .ok (.ldc 28, 2) := by decide +kernel
theorem dS_feed_16 : decode prog_1_method_2_code 16 = .ok (.invokespecial 30, 3) := by decide +kernel
theorem dS_feed_19 : decode prog_1_method_2_code 19 = .ok (.athrow, 1) := by decide +kernel
theorem dS_feed_20 : decode prog_1_method_2_code 20 = .ok (.aload_n 0, 1) := by decide +kernel
theorem dS_feed_21 : decode prog_1_method_2_code 21 = .ok (.iload_n 1, 1) := by decide +kernel
theorem dS_feed_22 : decode prog_1_method_2_code 22 = .ok (.invokevirtual 33, 3) := by decide +kernel
theorem dS_feed_25 : decode prog_1_method_2_code 25 = .ok (.aload_n 0, 1) := by decide +kernel
theorem dS_feed_26 : decode prog_1_method_2_code 26 = .ok (.iload_n 2, 1) := by decide +kernel
theorem dS_feed_27 : decode prog_1_method_2_code 27 = .ok (.invokevirtual 33, 3) := by decide +kernel
theorem dS_feed_30 : decode prog_1_method_2_code 30 = .ok (.aload_n 0, 1) := by decide +kernel
theorem dS_feed_31 : decode prog_1_method_2_code 31 = .ok (.iload_n 3, 1) := by decide +kernel
theorem dS_feed_32 : decode prog_1_method_2_code 32 = .ok (.invokevirtual 33, 3) := by decide +kernel
theorem dS_feed_35 : decode prog_1_method_2_code 35 = .ok (.aload_n 0, 1) := by decide +kernel
theorem dS_feed_36 : decode prog_1_method_2_code 36 = .ok (.iload 4, 2) := by decide +kernel
theorem dS_feed_38 : decode prog_1_method_2_code 38 = .ok (.invokevirtual 33, 3) := by decide +kernel
theorem dS_feed_41 : decode prog_1_method_2_code 41 = .ok (.aload_n 0, 1) := by decide +kernel
theorem dS_feed_42 : decode prog_1_method_2_code 42 = .ok (.iload 5, 2) := by decide +kernel
theorem dS_feed_44 : decode prog_1_method_2_code 44 = .ok (.invokevirtual 33, 3) := by decide +kernel
theorem dS_feed_47 : decode prog_1_method_2_code 47 = .ok (.return_, 1) := by decide +kernel
theorem dS_putFour_0 : decode prog_1_method_35_code 0 = .ok (.aload_n 0, 1) := by decide +kernel
theorem dS_putFour_1 : decode prog_1_method_35_code 1 = .ok (.iload_n 1, 1) := by decide +kernel
theorem dS_putFour_2 : decode prog_1_method_35_code 2 = .ok (.bipush 24, 2) := by decide +kernel
theorem dS_putFour_4 : decode prog_1_method_35_code 4 = .ok (.ishr, 1) := by decide +kernel
theorem dS_putFour_5 : decode prog_1_method_35_code 5 = .ok (.invokevirtual 122, 3) := by decide +kernel
theorem dS_putFour_8 : decode prog_1_method_35_code 8 = .ok (.aload_n 0, 1) := by decide +kernel
theorem dS_putFour_9 : decode prog_1_method_35_code 9 = .ok (.iload_n 1, 1) := by decide +kernel
theorem dS_putFour_10 : decode prog_1_method_35_code 10 = .ok (.bipush 16, 2) := by decide +kernel
theorem dS_putFour_12 : decode prog_1_method_35_code 12 = .ok (.ishr, 1) := by decide +kernel
theorem dS_putFour_13 : decode prog_1_method_35_code 13 = .ok (.invokevirtual 122, 3) := by decide +kernel
theorem dS_putFour_16 : decode prog_1_method_35_code 16 = .ok (.aload_n 0, 1) := by decide +kernel
theorem dS_putFour_17 : decode prog_1_method_35_code 17 = .ok (.iload_n 1, 1) := by decide +kernel
theorem dS_putFour_18 : decode prog_1_method_35_code 18 = .ok (.bipush 8, 2) := by decide +kernel
theorem dS_putFour_20 : decode prog_1_method_35_code 20 = .ok (.ishr, 1) := by decide +kernel
theorem dS_putFour_21 : decode prog_1_method_35_code 21 = .ok (.invokevirtual 122, 3) := by decide +kernel
theorem dS_putFour_24 : decode prog_1_method_35_code 24 = .ok (.aload_n 0, 1) := by decide +kernel
theorem dS_putFour_25 : decode prog_1_method_35_code 25 = .ok (.iload_n 1, 1) := by decide +kernel
theorem dS_putFour_26 : decode prog_1_method_35_code 26 = .ok (.invokevirtual 122, 3) := by decide +kernel
theorem dS_putFour_29 : decode prog_1_method_35_code 29 = .ok (.return_, 1) := by decide +kernel
theorem dS_end_0 : decode prog_1_method_3_code 0 = .ok (.iload_n 1, 1) := by decide +kernel
theorem dS_end_1 : decode prog_1_method_3_code 1 = .ok (.ifCond .lt 11, 3) := by decide +kernel
theorem dS_end_4 : decode prog_1_method_3_code 4 = .ok (.iload_n 1, 1) := by decide +kernel
theorem dS_end_5 : decode prog_1_method_3_code 5 = .ok (.aload_n 0, 1) := by decide +kernel
theorem dS_end_6 : decode prog_1_method_3_code 6 = .ok (.getfield 16, 3) := by decide +kernel
theorem dS_end_9 : decode prog_1_method_3_code 9 = .ok (.if_icmp .le 13, 3) := by decide +kernel
theorem dS_end_12 : decode prog_1_method_3_code 12 = .ok (.new 37, 3) := by decide +kernel
theorem dS_end_15 : decode prog_1_method_3_code 15 = .ok (.dup, 1) := by decide +kernel
theorem dS_end_16 : decode prog_1_method_3_code 16 = .ok (.ldc 39, 2) := by decide +kernel
theorem dS_end_18 : decode prog_1_method_3_code 18 = .ok (.invokespecial 41, 3) := by decide +kernel
theorem dS_end_21 : decode prog_1_method_3_code 21 = .ok (.athrow, 1) := by decide +kernel
theorem dS_end_22 : decode prog_1_method_3_code 22 = .ok (.aload_n 0, 1) := by decide +kernel
theorem dS_end_23 : decode prog_1_method_3_code 23 = .ok (.getfield 16, 3) := by decide +kernel
theorem dS_end_26 : decode prog_1_method_3_code 26 = .ok (.istore_n 2, 1) := by decide +kernel
theorem dS_end_27 : decode prog_1_method_3_code 27 = .ok (.aload_n 0, 1) := by decide +kernel
theorem dS_end_28 : decode prog_1_method_3_code 28 = .ok (.iload_n 1, 1) := by decide +kernel
theorem dS_end_29 : decode prog_1_method_3_code 29 = .ok (.putfield 16, 3) := by decide +kernel
theorem dS_end_32 : decode prog_1_method_3_code 32 = .ok (.iload_n 2, 1) := by decide +kernel
theorem dS_end_33 : decode prog_1_method_3_code 33 = .ok (.ireturn, 1) := by decide +kernel
