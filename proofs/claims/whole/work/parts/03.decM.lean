theorem dM_init_0 : decode prog_3_method_1_code 0 = .ok (.aload_n 0, 1) := by decide +kernel
theorem dM_init_1 : decode prog_3_method_1_code 1 = .ok (.invokespecial 1, 3) := by decide +kernel
theorem dM_init_4 : decode prog_3_method_1_code 4 = .ok (.aload_n 0, 1) := by decide +kernel
theorem dM_init_5 : decode prog_3_method_1_code 5 = .ok (.sipush 4096, 3) := by decide +kernel
theorem dM_init_8 : decode prog_3_method_1_code 8 = .ok (.newarray .int, 2) := by decide +kernel
theorem dM_init_10 : decode prog_3_method_1_code 10 = .ok (.putfield 7, 3) := by decide +kernel
theorem dM_init_13 : decode prog_3_method_1_code 13 = .ok (.aload_n 0, 1) := by decide +kernel
theorem dM_init_14 : decode prog_3_method_1_code 14 = .ok (.sipush 4096, 3) := by decide +kernel
theorem dM_init_17 : decode prog_3_method_1_code 17 = .ok (.newarray .int, 2) := by decide +kernel
theorem dM_init_19 : decode prog_3_method_1_code 19 = .ok (.putfield 13, 3) := by decide +kernel
theorem dM_init_22 : decode prog_3_method_1_code 22 = .ok (.aload_n 0, 1) := by decide +kernel
theorem dM_init_23 : decode prog_3_method_1_code 23 = .ok (.sipush 4100, 3) := by decide +kernel
theorem dM_init_26 : decode prog_3_method_1_code 26 = .ok (.newarray .int, 2) := by decide +kernel
theorem dM_init_28 : decode prog_3_method_1_code 28 = .ok (.putfield 16, 3) := by decide +kernel
theorem dM_init_31 : decode prog_3_method_1_code 31 = .ok (.return_, 1) := by decide +kernel
theorem dM_thrown_0 : decode prog_3_method_2_code 0 = .ok (.aload_n 0, 1) := by decide +kernel
theorem dM_thrown_1 : decode prog_3_method_2_code 1 = .ok (.getfield 19, 3) := by decide +kernel
theorem dM_thrown_4 : decode prog_3_method_2_code 4 = .ok (.ireturn, 1) := by decide +kernel
theorem dM_feed_0 : decode prog_3_method_5_code 0 = .ok (.aload_n 0, 1) := by decide +kernel
theorem dM_feed_1 : decode prog_3_method_5_code 1 = .ok (.aload_n 0, 1) := by decide +kernel
theorem dM_feed_2 : decode prog_3_method_5_code 2 = .ok (.getfield 32, 3) := by decide +kernel
theorem dM_feed_5 : decode prog_3_method_5_code 5 = .ok (.bipush 20, 2) := by decide +kernel
theorem dM_feed_7 : decode prog_3_method_5_code 7 = .ok (.iadd, 1) := by decide +kernel
theorem dM_feed_8 : decode prog_3_method_5_code 8 = .ok (.sipush 4096, 3) := by decide +kernel
theorem dM_feed_11 : decode prog_3_method_5_code 11 = .ok (.if_icmp .le 7, 3) := by decide +kernel
theorem dM_feed_14 : decode prog_3_method_5_code 14 = .ok (.iconst 1, 1) := by decide +kernel
theorem dM_feed_15 : decode prog_3_method_5_code 15 = .ok (.goto 4, 3) := by decide +kernel
theorem dM_feed_18 : decode prog_3_method_5_code 18 = .ok (.iconst 0, 1) := by decide +kernel
theorem dM_feed_19 : decode prog_3_method_5_code 19 = .ok (.putfield 19, 3) := by decide +kernel
theorem dM_feed_22 : decode prog_3_method_5_code 22 = .ok (.aload_n 0, 1) := by decide +kernel
theorem dM_feed_23 : decode prog_3_method_5_code 23 = .ok (.getfield 19, 3) := by decide +kernel
theorem dM_feed_26 : decode prog_3_method_5_code 26 = .ok (.ifCond .le 4, 3) := by decide +kernel
theorem dM_feed_29 : decode prog_3_method_5_code 29 = .ok (.return_, 1) := by decide +kernel
theorem dM_feed_30 : decode prog_3_method_5_code 30 = .ok (.iconst 0, 1) := by decide +kernel
theorem dM_feed_31 : decode prog_3_method_5_code 31 = .ok (.istore 6, 2) := by decide +kernel
theorem dM_feed_33 : decode prog_3_method_5_code 33 = .ok (.iload 6, 2) := by decide +kernel
theorem dM_feed_35 : decode prog_3_method_5_code 35 = .ok (.bipush 20, 2) := by decide +kernel
theorem dM_feed_37 : decode prog_3_method_5_code 37 = .ok (.if_icmp .ge 93, 3) := by decide +kernel
theorem dM_feed_40 : decode prog_3_method_5_code 40 = .ok (.iload 6, 2) := by decide +kernel
theorem dM_feed_42 : decode prog_3_method_5_code 42 = .ok (.iconst 4, 1) := by decide +kernel
theorem dM_feed_43 : decode prog_3_method_5_code 43 = .ok (.if_icmp .ge 7, 3) := by decide +kernel
theorem dM_feed_46 : decode prog_3_method_5_code 46 = .ok (.iload_n 1, 1) := by decide +kernel
theorem dM_feed_47 : decode prog_3_method_5_code 47 = .ok (.goto 39, 3) := by decide +kernel
theorem dM_feed_50 : decode prog_3_method_5_code 50 = .ok (.iload 6, 2) := by decide +kernel
theorem dM_feed_52 : decode prog_3_method_5_code 52 = .ok (.bipush 8, 2) := by decide +kernel
theorem dM_feed_54 : decode prog_3_method_5_code 54 = .ok (.if_icmp .ge 7, 3) := by decide +kernel
theorem dM_feed_57 : decode prog_3_method_5_code 57 = .ok (.iload_n 2, 1) := by decide +kernel
theorem dM_feed_58 : decode prog_3_method_5_code 58 = .ok (.goto 28, 3) := by decide +kernel
theorem dM_feed_61 : decode prog_3_method_5_code 61 = .ok (.iload 6, 2) := by decide +kernel
theorem dM_feed_63 : decode prog_3_method_5_code 63 = .ok (.bipush 12, 2) := by decide +kernel
theorem dM_feed_65 : decode prog_3_method_5_code 65 = .ok (.if_icmp .ge 7, 3) := by decide +kernel
theorem dM_feed_68 : decode prog_3_method_5_code 68 = .ok (.iload_n 3, 1) := by decide +kernel
theorem dM_feed_69 : decode prog_3_method_5_code 69 = .ok (.goto 17, 3) := by decide +kernel
theorem dM_feed_72 : decode prog_3_method_5_code 72 = .ok (.iload 6, 2) := by decide +kernel
theorem dM_feed_74 : decode prog_3_method_5_code 74 = .ok (.bipush 16, 2) := by decide +kernel
theorem dM_feed_76 : decode prog_3_method_5_code 76 = .ok (.if_icmp .ge 8, 3) := by decide +kernel
theorem dM_feed_79 : decode prog_3_method_5_code 79 = .ok (.iload 4, 2) := by decide +kernel
theorem dM_feed_81 : decode prog_3_method_5_code 81 = .ok (.goto 5, 3) := by decide +kernel
theorem dM_feed_84 : decode prog_3_method_5_code 84 = .ok (.iload 5, 2) := by decide +kernel
theorem dM_feed_86 : decode prog_3_method_5_code 86 = .ok (.istore 7, 2) := by decide +kernel
theorem dM_feed_88 : decode prog_3_method_5_code 88 = .ok (.aload_n 0, 1) := by decide +kernel
theorem dM_feed_89 : decode prog_3_method_5_code 89 = .ok (.getfield 7, 3) := by decide +kernel
theorem dM_feed_92 : decode prog_3_method_5_code 92 = .ok (.aload_n 0, 1) := by decide +kernel
theorem dM_feed_93 : decode prog_3_method_5_code 93 = .ok (.getfield 32, 3) := by decide +kernel
theorem dM_feed_96 : decode prog_3_method_5_code 96 = .ok (.iload 7, 2) := by decide +kernel
theorem dM_feed_98 : decode prog_3_method_5_code 98 = .ok (.bipush 24, 2) := by decide +kernel
theorem dM_feed_100 : decode prog_3_method_5_code 100 = .ok (.bipush 8, 2) := by decide +kernel
theorem dM_feed_102 : decode prog_3_method_5_code 102 = .ok (.iload 6, 2) := by decide +kernel
theorem dM_feed_104 : decode prog_3_method_5_code 104 = .ok (.iconst 4, 1) := by decide +kernel
theorem dM_feed_105 : decode prog_3_method_5_code 105 = .ok (.irem, 1) := by decide +kernel
theorem dM_feed_106 : decode prog_3_method_5_code 106 = .ok (.imul, 1) := by decide +kernel
theorem dM_feed_107 : decode prog_3_method_5_code 107 = .ok (.isub, 1) := by decide +kernel
theorem dM_feed_108 : decode prog_3_method_5_code 108 = .ok (.ishr, 1) := by decide +kernel
theorem dM_feed_109 : decode prog_3_method_5_code 109 = .ok (.sipush 255, 3) := by decide +kernel
theorem dM_feed_112 : decode prog_3_method_5_code 112 = .ok (.iand, 1) := by decide +kernel
theorem dM_feed_113 : decode prog_3_method_5_code 113 = .ok (.iastore, 1) := by decide +kernel
theorem dM_feed_114 : decode prog_3_method_5_code 114 = .ok (.aload_n 0, 1) := by decide +kernel
theorem dM_feed_115 : decode prog_3_method_5_code 115 = .ok (.aload_n 0, 1) := by decide +kernel
theorem dM_feed_116 : decode prog_3_method_5_code 116 = .ok (.getfield 32, 3) := by decide +kernel
theorem dM_feed_119 : decode prog_3_method_5_code 119 = .ok (.iconst 1, 1) := by decide +kernel
theorem dM_feed_120 : decode prog_3_method_5_code 120 = .ok (.iadd, 1) := by decide +kernel
theorem dM_feed_121 : decode prog_3_method_5_code 121 = .ok (.putfield 32, 3) := by decide +kernel
theorem dM_feed_124 : decode prog_3_method_5_code 124 = .ok (.iinc 6 1, 3) := by decide +kernel
theorem dM_feed_127 : decode prog_3_method_5_code 127 = .ok (.goto (-94), 3) := by decide +kernel
theorem dM_feed_130 : decode prog_3_method_5_code 130 = .ok (.return_, 1) := by decide +kernel
theorem dM_end_0 : decode prog_3_method_6_code 0 = .ok (.aload_n 0, 1) := by decide +kernel
theorem dM_end_1 : decode prog_3_method_6_code 1 = .ok (.iload_n 1, 1) := by decide +kernel
theorem dM_end_2 : decode prog_3_method_6_code 2 = .ok (.ifCond .lt 11, 3) := by decide +kernel
theorem dM_end_5 : decode prog_3_method_6_code 5 = .ok (.iload_n 1, 1) := by decide +kernel
theorem dM_end_6 : decode prog_3_method_6_code 6 = .ok (.aload_n 0, 1) := by decide +kernel
theorem dM_end_7 : decode prog_3_method_6_code 7 = .ok (.getfield 32, 3) := by decide +kernel
theorem dM_end_10 : decode prog_3_method_6_code 10 = .ok (.if_icmp .le 7, 3) := by decide +kernel
theorem dM_end_13 : decode prog_3_method_6_code 13 = .ok (.iconst 1, 1) := by decide +kernel
theorem dM_end_14 : decode prog_3_method_6_code 14 = .ok (.goto 4, 3) := by decide +kernel
theorem dM_end_17 : decode prog_3_method_6_code 17 = .ok (.iconst 0, 1) := by decide +kernel
theorem dM_end_18 : decode prog_3_method_6_code 18 = .ok (.putfield 19, 3) := by decide +kernel
theorem dM_end_21 : decode prog_3_method_6_code 21 = .ok (.aload_n 0, 1) := by decide +kernel
theorem dM_end_22 : decode prog_3_method_6_code 22 = .ok (.getfield 19, 3) := by decide +kernel
theorem dM_end_25 : decode prog_3_method_6_code 25 = .ok (.ifCond .le 5, 3) := by decide +kernel
theorem dM_end_28 : decode prog_3_method_6_code 28 = .ok (.iconst 0, 1) := by decide +kernel
theorem dM_end_29 : decode prog_3_method_6_code 29 = .ok (.ireturn, 1) := by decide +kernel
theorem dM_end_30 : decode prog_3_method_6_code 30 = .ok (.aload_n 0, 1) := by decide +kernel
theorem dM_end_31 : decode prog_3_method_6_code 31 = .ok (.getfield 32, 3) := by decide +kernel
theorem dM_end_34 : decode prog_3_method_6_code 34 = .ok (.istore_n 2, 1) := by decide +kernel
theorem dM_end_35 : decode prog_3_method_6_code 35 = .ok (.aload_n 0, 1) := by decide +kernel
theorem dM_end_36 : decode prog_3_method_6_code 36 = .ok (.iload_n 1, 1) := by decide +kernel
theorem dM_end_37 : decode prog_3_method_6_code 37 = .ok (.putfield 32, 3) := by decide +kernel
theorem dM_end_40 : decode prog_3_method_6_code 40 = .ok (.iload_n 2, 1) := by decide +kernel
theorem dM_end_41 : decode prog_3_method_6_code 41 = .ok (.ireturn, 1) := by decide +kernel
theorem dM_came_0 : decode prog_3_method_7_code 0 = .ok (.aload_n 0, 1) := by decide +kernel
theorem dM_came_1 : decode prog_3_method_7_code 1 = .ok (.iconst 0, 1) := by decide +kernel
theorem dM_came_2 : decode prog_3_method_7_code 2 = .ok (.putfield 19, 3) := by decide +kernel
theorem dM_came_5 : decode prog_3_method_7_code 5 = .ok (.iload_n 1, 1) := by decide +kernel
theorem dM_came_6 : decode prog_3_method_7_code 6 = .ok (.ifCond .lt 20, 3) := by decide +kernel
theorem dM_came_9 : decode prog_3_method_7_code 9 = .ok (.iload_n 1, 1) := by decide +kernel
theorem dM_came_10 : decode prog_3_method_7_code 10 = .ok (.aload_n 0, 1) := by decide +kernel
theorem dM_came_11 : decode prog_3_method_7_code 11 = .ok (.getfield 32, 3) := by decide +kernel
theorem dM_came_14 : decode prog_3_method_7_code 14 = .ok (.if_icmp .ge 12, 3) := by decide +kernel
theorem dM_came_17 : decode prog_3_method_7_code 17 = .ok (.aload_n 0, 1) := by decide +kernel
theorem dM_came_18 : decode prog_3_method_7_code 18 = .ok (.getfield 7, 3) := by decide +kernel
theorem dM_came_21 : decode prog_3_method_7_code 21 = .ok (.iload_n 1, 1) := by decide +kernel
theorem dM_came_22 : decode prog_3_method_7_code 22 = .ok (.iaload, 1) := by decide +kernel
theorem dM_came_23 : decode prog_3_method_7_code 23 = .ok (.goto 4, 3) := by decide +kernel
theorem dM_came_26 : decode prog_3_method_7_code 26 = .ok (.iconst (-1), 1) := by decide +kernel
theorem dM_came_27 : decode prog_3_method_7_code 27 = .ok (.ireturn, 1) := by decide +kernel
theorem dM_change_0 : decode prog_3_method_8_code 0 = .ok (.aload_n 0, 1) := by decide +kernel
theorem dM_change_1 : decode prog_3_method_8_code 1 = .ok (.iconst 0, 1) := by decide +kernel
theorem dM_change_2 : decode prog_3_method_8_code 2 = .ok (.putfield 19, 3) := by decide +kernel
theorem dM_change_5 : decode prog_3_method_8_code 5 = .ok (.iload_n 1, 1) := by decide +kernel
theorem dM_change_6 : decode prog_3_method_8_code 6 = .ok (.ifCond .lt 22, 3) := by decide +kernel
theorem dM_change_9 : decode prog_3_method_8_code 9 = .ok (.iload_n 1, 1) := by decide +kernel
theorem dM_change_10 : decode prog_3_method_8_code 10 = .ok (.aload_n 0, 1) := by decide +kernel
theorem dM_change_11 : decode prog_3_method_8_code 11 = .ok (.getfield 32, 3) := by decide +kernel
theorem dM_change_14 : decode prog_3_method_8_code 14 = .ok (.if_icmp .ge 14, 3) := by decide +kernel
theorem dM_change_17 : decode prog_3_method_8_code 17 = .ok (.iload_n 2, 1) := by decide +kernel
theorem dM_change_18 : decode prog_3_method_8_code 18 = .ok (.ifCond .lt 10, 3) := by decide +kernel
theorem dM_change_21 : decode prog_3_method_8_code 21 = .ok (.iload_n 2, 1) := by decide +kernel
theorem dM_change_22 : decode prog_3_method_8_code 22 = .ok (.sipush 255, 3) := by decide +kernel
theorem dM_change_25 : decode prog_3_method_8_code 25 = .ok (.if_icmp .le 5, 3) := by decide +kernel
theorem dM_change_28 : decode prog_3_method_8_code 28 = .ok (.iconst (-1), 1) := by decide +kernel
theorem dM_change_29 : decode prog_3_method_8_code 29 = .ok (.ireturn, 1) := by decide +kernel
theorem dM_change_30 : decode prog_3_method_8_code 30 = .ok (.aload_n 0, 1) := by decide +kernel
theorem dM_change_31 : decode prog_3_method_8_code 31 = .ok (.getfield 7, 3) := by decide +kernel
theorem dM_change_34 : decode prog_3_method_8_code 34 = .ok (.iload_n 1, 1) := by decide +kernel
theorem dM_change_35 : decode prog_3_method_8_code 35 = .ok (.iaload, 1) := by decide +kernel
theorem dM_change_36 : decode prog_3_method_8_code 36 = .ok (.istore_n 3, 1) := by decide +kernel
theorem dM_change_37 : decode prog_3_method_8_code 37 = .ok (.aload_n 0, 1) := by decide +kernel
theorem dM_change_38 : decode prog_3_method_8_code 38 = .ok (.getfield 7, 3) := by decide +kernel
theorem dM_change_41 : decode prog_3_method_8_code 41 = .ok (.iload_n 1, 1) := by decide +kernel
theorem dM_change_42 : decode prog_3_method_8_code 42 = .ok (.iload_n 2, 1) := by decide +kernel
theorem dM_change_43 : decode prog_3_method_8_code 43 = .ok (.iastore, 1) := by decide +kernel
theorem dM_change_44 : decode prog_3_method_8_code 44 = .ok (.iload_n 3, 1) := by decide +kernel
theorem dM_change_45 : decode prog_3_method_8_code 45 = .ok (.ireturn, 1) := by decide +kernel
theorem dM_read_0 : decode prog_3_method_15_code 0 = .ok (.aload_n 0, 1) := by decide +kernel
theorem dM_read_1 : decode prog_3_method_15_code 1 = .ok (.iconst 0, 1) := by decide +kernel
theorem dM_read_2 : decode prog_3_method_15_code 2 = .ok (.putfield 19, 3) := by decide +kernel
theorem dM_read_5 : decode prog_3_method_15_code 5 = .ok (.aload_n 0, 1) := by decide +kernel
theorem dM_read_6 : decode prog_3_method_15_code 6 = .ok (.invokevirtual 54, 3) := by decide +kernel
theorem dM_read_9 : decode prog_3_method_15_code 9 = .ok (.istore_n 1, 1) := by decide +kernel
theorem dM_read_10 : decode prog_3_method_15_code 10 = .ok (.iload_n 1, 1) := by decide +kernel
theorem dM_read_11 : decode prog_3_method_15_code 11 = .ok (.ifCond .ne 7, 3) := by decide +kernel
theorem dM_read_14 : decode prog_3_method_15_code 14 = .ok (.iconst 0, 1) := by decide +kernel
theorem dM_read_15 : decode prog_3_method_15_code 15 = .ok (.goto 13, 3) := by decide +kernel
theorem dM_read_18 : decode prog_3_method_15_code 18 = .ok (.iload_n 1, 1) := by decide +kernel
theorem dM_read_19 : decode prog_3_method_15_code 19 = .ok (.iconst 3, 1) := by decide +kernel
theorem dM_read_20 : decode prog_3_method_15_code 20 = .ok (.if_icmp .ne 7, 3) := by decide +kernel
theorem dM_read_23 : decode prog_3_method_15_code 23 = .ok (.iconst 3, 1) := by decide +kernel
theorem dM_read_24 : decode prog_3_method_15_code 24 = .ok (.goto 4, 3) := by decide +kernel
theorem dM_read_27 : decode prog_3_method_15_code 27 = .ok (.iconst 2, 1) := by decide +kernel
theorem dM_read_28 : decode prog_3_method_15_code 28 = .ok (.istore_n 2, 1) := by decide +kernel
theorem dM_read_29 : decode prog_3_method_15_code 29 = .ok (.iconst 0, 1) := by decide +kernel
theorem dM_read_30 : decode prog_3_method_15_code 30 = .ok (.istore_n 3, 1) := by decide +kernel
theorem dM_read_31 : decode prog_3_method_15_code 31 = .ok (.iconst 0, 1) := by decide +kernel
theorem dM_read_32 : decode prog_3_method_15_code 32 = .ok (.istore 4, 2) := by decide +kernel
theorem dM_read_34 : decode prog_3_method_15_code 34 = .ok (.iload_n 2, 1) := by decide +kernel
theorem dM_read_35 : decode prog_3_method_15_code 35 = .ok (.aload_n 0, 1) := by decide +kernel
theorem dM_read_36 : decode prog_3_method_15_code 36 = .ok (.getfield 32, 3) := by decide +kernel
theorem dM_read_39 : decode prog_3_method_15_code 39 = .ok (.if_icmp .ge 126, 3) := by decide +kernel
theorem dM_read_42 : decode prog_3_method_15_code 42 = .ok (.iload_n 1, 1) := by decide +kernel
theorem dM_read_43 : decode prog_3_method_15_code 43 = .ok (.iconst 1, 1) := by decide +kernel
theorem dM_read_44 : decode prog_3_method_15_code 44 = .ok (.if_icmp .eq 8, 3) := by decide +kernel
theorem dM_read_47 : decode prog_3_method_15_code 47 = .ok (.iload_n 1, 1) := by decide +kernel
theorem dM_read_48 : decode prog_3_method_15_code 48 = .ok (.iconst 2, 1) := by decide +kernel
theorem dM_read_49 : decode prog_3_method_15_code 49 = .ok (.if_icmp .ne 21, 3) := by decide +kernel
theorem dM_read_52 : decode prog_3_method_15_code 52 = .ok (.aload_n 0, 1) := by decide +kernel
theorem dM_read_53 : decode prog_3_method_15_code 53 = .ok (.iload_n 2, 1) := by decide +kernel
theorem dM_read_54 : decode prog_3_method_15_code 54 = .ok (.iload_n 1, 1) := by decide +kernel
theorem dM_read_55 : decode prog_3_method_15_code 55 = .ok (.iconst 1, 1) := by decide +kernel
theorem dM_read_56 : decode prog_3_method_15_code 56 = .ok (.if_icmp .ne 7, 3) := by decide +kernel
theorem dM_read_59 : decode prog_3_method_15_code 59 = .ok (.iconst 1, 1) := by decide +kernel
theorem dM_read_60 : decode prog_3_method_15_code 60 = .ok (.goto 4, 3) := by decide +kernel
theorem dM_read_63 : decode prog_3_method_15_code 63 = .ok (.iconst 0, 1) := by decide +kernel
theorem dM_read_64 : decode prog_3_method_15_code 64 = .ok (.invokevirtual 58, 3) := by decide +kernel
theorem dM_read_67 : decode prog_3_method_15_code 67 = .ok (.goto 8, 3) := by decide +kernel
theorem dM_read_70 : decode prog_3_method_15_code 70 = .ok (.aload_n 0, 1) := by decide +kernel
theorem dM_read_71 : decode prog_3_method_15_code 71 = .ok (.iload_n 2, 1) := by decide +kernel
theorem dM_read_72 : decode prog_3_method_15_code 72 = .ok (.invokevirtual 61, 3) := by decide +kernel
theorem dM_read_75 : decode prog_3_method_15_code 75 = .ok (.istore 5, 2) := by decide +kernel
theorem dM_read_77 : decode prog_3_method_15_code 77 = .ok (.iload 5, 2) := by decide +kernel
theorem dM_read_79 : decode prog_3_method_15_code 79 = .ok (.ifCond .lt 13, 3) := by decide +kernel
theorem dM_read_82 : decode prog_3_method_15_code 82 = .ok (.aload_n 0, 1) := by decide +kernel
theorem dM_read_83 : decode prog_3_method_15_code 83 = .ok (.getfield 39, 3) := by decide +kernel
theorem dM_read_86 : decode prog_3_method_15_code 86 = .ok (.invokestatic 64, 3) := by decide +kernel
theorem dM_read_89 : decode prog_3_method_15_code 89 = .ok (.ifCond .ne 10, 3) := by decide +kernel
theorem dM_read_92 : decode prog_3_method_15_code 92 = .ok (.aload_n 0, 1) := by decide +kernel
theorem dM_read_93 : decode prog_3_method_15_code 93 = .ok (.iconst 0, 1) := by decide +kernel
theorem dM_read_94 : decode prog_3_method_15_code 94 = .ok (.putfield 32, 3) := by decide +kernel
theorem dM_read_97 : decode prog_3_method_15_code 97 = .ok (.iload_n 2, 1) := by decide +kernel
theorem dM_read_98 : decode prog_3_method_15_code 98 = .ok (.ireturn, 1) := by decide +kernel
theorem dM_read_99 : decode prog_3_method_15_code 99 = .ok (.aload_n 0, 1) := by decide +kernel
theorem dM_read_100 : decode prog_3_method_15_code 100 = .ok (.getfield 39, 3) := by decide +kernel
theorem dM_read_103 : decode prog_3_method_15_code 103 = .ok (.bipush 10, 2) := by decide +kernel
theorem dM_read_105 : decode prog_3_method_15_code 105 = .ok (.if_icmp .ne 8, 3) := by decide +kernel
theorem dM_read_108 : decode prog_3_method_15_code 108 = .ok (.iload 4, 2) := by decide +kernel
theorem dM_read_110 : decode prog_3_method_15_code 110 = .ok (.ifCond .ne 31, 3) := by decide +kernel
theorem dM_read_113 : decode prog_3_method_15_code 113 = .ok (.aload_n 0, 1) := by decide +kernel
theorem dM_read_114 : decode prog_3_method_15_code 114 = .ok (.getfield 16, 3) := by decide +kernel
theorem dM_read_117 : decode prog_3_method_15_code 117 = .ok (.iload_n 3, 1) := by decide +kernel
theorem dM_read_118 : decode prog_3_method_15_code 118 = .ok (.aload_n 0, 1) := by decide +kernel
theorem dM_read_119 : decode prog_3_method_15_code 119 = .ok (.getfield 39, 3) := by decide +kernel
theorem dM_read_122 : decode prog_3_method_15_code 122 = .ok (.bipush 13, 2) := by decide +kernel
theorem dM_read_124 : decode prog_3_method_15_code 124 = .ok (.if_icmp .ne 8, 3) := by decide +kernel
theorem dM_read_127 : decode prog_3_method_15_code 127 = .ok (.bipush 10, 2) := by decide +kernel
theorem dM_read_129 : decode prog_3_method_15_code 129 = .ok (.goto 7, 3) := by decide +kernel
theorem dM_read_132 : decode prog_3_method_15_code 132 = .ok (.aload_n 0, 1) := by decide +kernel
theorem dM_read_133 : decode prog_3_method_15_code 133 = .ok (.getfield 39, 3) := by decide +kernel
theorem dM_read_136 : decode prog_3_method_15_code 136 = .ok (.iastore, 1) := by decide +kernel
theorem dM_read_137 : decode prog_3_method_15_code 137 = .ok (.iload_n 3, 1) := by decide +kernel
theorem dM_read_138 : decode prog_3_method_15_code 138 = .ok (.iconst 1, 1) := by decide +kernel
theorem dM_read_139 : decode prog_3_method_15_code 139 = .ok (.iadd, 1) := by decide +kernel
theorem dM_read_140 : decode prog_3_method_15_code 140 = .ok (.istore_n 3, 1) := by decide +kernel
theorem dM_read_141 : decode prog_3_method_15_code 141 = .ok (.aload_n 0, 1) := by decide +kernel
theorem dM_read_142 : decode prog_3_method_15_code 142 = .ok (.getfield 39, 3) := by decide +kernel
theorem dM_read_145 : decode prog_3_method_15_code 145 = .ok (.bipush 13, 2) := by decide +kernel
theorem dM_read_147 : decode prog_3_method_15_code 147 = .ok (.if_icmp .ne 7, 3) := by decide +kernel
theorem dM_read_150 : decode prog_3_method_15_code 150 = .ok (.iconst 1, 1) := by decide +kernel
theorem dM_read_151 : decode prog_3_method_15_code 151 = .ok (.goto 4, 3) := by decide +kernel
theorem dM_read_154 : decode prog_3_method_15_code 154 = .ok (.iconst 0, 1) := by decide +kernel
theorem dM_read_155 : decode prog_3_method_15_code 155 = .ok (.istore 4, 2) := by decide +kernel
theorem dM_read_157 : decode prog_3_method_15_code 157 = .ok (.iload_n 2, 1) := by decide +kernel
theorem dM_read_158 : decode prog_3_method_15_code 158 = .ok (.iload 5, 2) := by decide +kernel
theorem dM_read_160 : decode prog_3_method_15_code 160 = .ok (.iadd, 1) := by decide +kernel
theorem dM_read_161 : decode prog_3_method_15_code 161 = .ok (.istore_n 2, 1) := by decide +kernel
theorem dM_read_162 : decode prog_3_method_15_code 162 = .ok (.goto (-128), 3) := by decide +kernel
theorem dM_read_165 : decode prog_3_method_15_code 165 = .ok (.iconst 0, 1) := by decide +kernel
theorem dM_read_166 : decode prog_3_method_15_code 166 = .ok (.istore 5, 2) := by decide +kernel
theorem dM_read_168 : decode prog_3_method_15_code 168 = .ok (.iload 5, 2) := by decide +kernel
theorem dM_read_170 : decode prog_3_method_15_code 170 = .ok (.iload_n 3, 1) := by decide +kernel
theorem dM_read_171 : decode prog_3_method_15_code 171 = .ok (.if_icmp .ge 23, 3) := by decide +kernel
theorem dM_read_174 : decode prog_3_method_15_code 174 = .ok (.aload_n 0, 1) := by decide +kernel
theorem dM_read_175 : decode prog_3_method_15_code 175 = .ok (.getfield 13, 3) := by decide +kernel
theorem dM_read_178 : decode prog_3_method_15_code 178 = .ok (.iload 5, 2) := by decide +kernel
theorem dM_read_180 : decode prog_3_method_15_code 180 = .ok (.aload_n 0, 1) := by decide +kernel
theorem dM_read_181 : decode prog_3_method_15_code 181 = .ok (.getfield 16, 3) := by decide +kernel
theorem dM_read_184 : decode prog_3_method_15_code 184 = .ok (.iload 5, 2) := by decide +kernel
theorem dM_read_186 : decode prog_3_method_15_code 186 = .ok (.iaload, 1) := by decide +kernel
theorem dM_read_187 : decode prog_3_method_15_code 187 = .ok (.iastore, 1) := by decide +kernel
theorem dM_read_188 : decode prog_3_method_15_code 188 = .ok (.iinc 5 1, 3) := by decide +kernel
theorem dM_read_191 : decode prog_3_method_15_code 191 = .ok (.goto (-23), 3) := by decide +kernel
theorem dM_read_194 : decode prog_3_method_15_code 194 = .ok (.aload_n 0, 1) := by decide +kernel
theorem dM_read_195 : decode prog_3_method_15_code 195 = .ok (.iload_n 3, 1) := by decide +kernel
theorem dM_read_196 : decode prog_3_method_15_code 196 = .ok (.putfield 68, 3) := by decide +kernel
theorem dM_read_199 : decode prog_3_method_15_code 199 = .ok (.aload_n 0, 1) := by decide +kernel
theorem dM_read_200 : decode prog_3_method_15_code 200 = .ok (.iload_n 1, 1) := by decide +kernel
theorem dM_read_201 : decode prog_3_method_15_code 201 = .ok (.putfield 71, 3) := by decide +kernel
theorem dM_read_204 : decode prog_3_method_15_code 204 = .ok (.aload_n 0, 1) := by decide +kernel
theorem dM_read_205 : decode prog_3_method_15_code 205 = .ok (.iconst 0, 1) := by decide +kernel
theorem dM_read_206 : decode prog_3_method_15_code 206 = .ok (.putfield 32, 3) := by decide +kernel
theorem dM_read_209 : decode prog_3_method_15_code 209 = .ok (.iconst (-1), 1) := by decide +kernel
theorem dM_read_210 : decode prog_3_method_15_code 210 = .ok (.ireturn, 1) := by decide +kernel
theorem dM_wayOfBytes_0 : decode prog_3_method_10_code 0 = .ok (.aload_n 0, 1) := by decide +kernel
theorem dM_wayOfBytes_1 : decode prog_3_method_10_code 1 = .ok (.sipush 254, 3) := by decide +kernel
theorem dM_wayOfBytes_4 : decode prog_3_method_10_code 4 = .ok (.sipush 255, 3) := by decide +kernel
theorem dM_wayOfBytes_7 : decode prog_3_method_10_code 7 = .ok (.invokevirtual 35, 3) := by decide +kernel
theorem dM_wayOfBytes_10 : decode prog_3_method_10_code 10 = .ok (.ifCond .eq 7, 3) := by decide +kernel
theorem dM_wayOfBytes_13 : decode prog_3_method_10_code 13 = .ok (.iconst 1, 1) := by decide +kernel
theorem dM_wayOfBytes_14 : decode prog_3_method_10_code 14 = .ok (.goto 58, 3) := by decide +kernel
theorem dM_wayOfBytes_17 : decode prog_3_method_10_code 17 = .ok (.aload_n 0, 1) := by decide +kernel
theorem dM_wayOfBytes_18 : decode prog_3_method_10_code 18 = .ok (.sipush 255, 3) := by decide +kernel
theorem dM_wayOfBytes_21 : decode prog_3_method_10_code 21 = .ok (.sipush 254, 3) := by decide +kernel
theorem dM_wayOfBytes_24 : decode prog_3_method_10_code 24 = .ok (.invokevirtual 35, 3) := by decide +kernel
theorem dM_wayOfBytes_27 : decode prog_3_method_10_code 27 = .ok (.ifCond .eq 7, 3) := by decide +kernel
theorem dM_wayOfBytes_30 : decode prog_3_method_10_code 30 = .ok (.iconst 2, 1) := by decide +kernel
theorem dM_wayOfBytes_31 : decode prog_3_method_10_code 31 = .ok (.goto 41, 3) := by decide +kernel
theorem dM_wayOfBytes_34 : decode prog_3_method_10_code 34 = .ok (.aload_n 0, 1) := by decide +kernel
theorem dM_wayOfBytes_35 : decode prog_3_method_10_code 35 = .ok (.sipush 239, 3) := by decide +kernel
theorem dM_wayOfBytes_38 : decode prog_3_method_10_code 38 = .ok (.sipush 187, 3) := by decide +kernel
theorem dM_wayOfBytes_41 : decode prog_3_method_10_code 41 = .ok (.invokevirtual 35, 3) := by decide +kernel
theorem dM_wayOfBytes_44 : decode prog_3_method_10_code 44 = .ok (.ifCond .eq 27, 3) := by decide +kernel
theorem dM_wayOfBytes_47 : decode prog_3_method_10_code 47 = .ok (.aload_n 0, 1) := by decide +kernel
theorem dM_wayOfBytes_48 : decode prog_3_method_10_code 48 = .ok (.getfield 32, 3) := by decide +kernel
theorem dM_wayOfBytes_51 : decode prog_3_method_10_code 51 = .ok (.iconst 2, 1) := by decide +kernel
theorem dM_wayOfBytes_52 : decode prog_3_method_10_code 52 = .ok (.if_icmp .le 19, 3) := by decide +kernel
theorem dM_wayOfBytes_55 : decode prog_3_method_10_code 55 = .ok (.aload_n 0, 1) := by decide +kernel
theorem dM_wayOfBytes_56 : decode prog_3_method_10_code 56 = .ok (.getfield 7, 3) := by decide +kernel
theorem dM_wayOfBytes_59 : decode prog_3_method_10_code 59 = .ok (.iconst 2, 1) := by decide +kernel
theorem dM_wayOfBytes_60 : decode prog_3_method_10_code 60 = .ok (.iaload, 1) := by decide +kernel
theorem dM_wayOfBytes_61 : decode prog_3_method_10_code 61 = .ok (.sipush 191, 3) := by decide +kernel
theorem dM_wayOfBytes_64 : decode prog_3_method_10_code 64 = .ok (.if_icmp .ne 7, 3) := by decide +kernel
theorem dM_wayOfBytes_67 : decode prog_3_method_10_code 67 = .ok (.iconst 3, 1) := by decide +kernel
theorem dM_wayOfBytes_68 : decode prog_3_method_10_code 68 = .ok (.goto 4, 3) := by decide +kernel
theorem dM_wayOfBytes_71 : decode prog_3_method_10_code 71 = .ok (.iconst 0, 1) := by decide +kernel
theorem dM_wayOfBytes_72 : decode prog_3_method_10_code 72 = .ok (.ireturn, 1) := by decide +kernel
theorem dM_begins_0 : decode prog_3_method_9_code 0 = .ok (.aload_n 0, 1) := by decide +kernel
theorem dM_begins_1 : decode prog_3_method_9_code 1 = .ok (.getfield 32, 3) := by decide +kernel
theorem dM_begins_4 : decode prog_3_method_9_code 4 = .ok (.iconst 1, 1) := by decide +kernel
theorem dM_begins_5 : decode prog_3_method_9_code 5 = .ok (.if_icmp .le 27, 3) := by decide +kernel
theorem dM_begins_8 : decode prog_3_method_9_code 8 = .ok (.aload_n 0, 1) := by decide +kernel
theorem dM_begins_9 : decode prog_3_method_9_code 9 = .ok (.getfield 7, 3) := by decide +kernel
theorem dM_begins_12 : decode prog_3_method_9_code 12 = .ok (.iconst 0, 1) := by decide +kernel
theorem dM_begins_13 : decode prog_3_method_9_code 13 = .ok (.iaload, 1) := by decide +kernel
theorem dM_begins_14 : decode prog_3_method_9_code 14 = .ok (.iload_n 1, 1) := by decide +kernel
theorem dM_begins_15 : decode prog_3_method_9_code 15 = .ok (.if_icmp .ne 17, 3) := by decide +kernel
theorem dM_begins_18 : decode prog_3_method_9_code 18 = .ok (.aload_n 0, 1) := by decide +kernel
theorem dM_begins_19 : decode prog_3_method_9_code 19 = .ok (.getfield 7, 3) := by decide +kernel
theorem dM_begins_22 : decode prog_3_method_9_code 22 = .ok (.iconst 1, 1) := by decide +kernel
theorem dM_begins_23 : decode prog_3_method_9_code 23 = .ok (.iaload, 1) := by decide +kernel
theorem dM_begins_24 : decode prog_3_method_9_code 24 = .ok (.iload_n 2, 1) := by decide +kernel
theorem dM_begins_25 : decode prog_3_method_9_code 25 = .ok (.if_icmp .ne 7, 3) := by decide +kernel
theorem dM_begins_28 : decode prog_3_method_9_code 28 = .ok (.iconst 1, 1) := by decide +kernel
theorem dM_begins_29 : decode prog_3_method_9_code 29 = .ok (.goto 4, 3) := by decide +kernel
theorem dM_begins_32 : decode prog_3_method_9_code 32 = .ok (.iconst 0, 1) := by decide +kernel
theorem dM_begins_33 : decode prog_3_method_9_code 33 = .ok (.ireturn, 1) := by decide +kernel
theorem dM_takeSixteen_0 : decode prog_3_method_14_code 0 = .ok (.aload_n 0, 1) := by decide +kernel
theorem dM_takeSixteen_1 : decode prog_3_method_14_code 1 = .ok (.aload_n 0, 1) := by decide +kernel
theorem dM_takeSixteen_2 : decode prog_3_method_14_code 2 = .ok (.iload_n 1, 1) := by decide +kernel
theorem dM_takeSixteen_3 : decode prog_3_method_14_code 3 = .ok (.iload_n 2, 1) := by decide +kernel
theorem dM_takeSixteen_4 : decode prog_3_method_14_code 4 = .ok (.invokevirtual 46, 3) := by decide +kernel
theorem dM_takeSixteen_7 : decode prog_3_method_14_code 7 = .ok (.putfield 39, 3) := by decide +kernel
theorem dM_takeSixteen_10 : decode prog_3_method_14_code 10 = .ok (.aload_n 0, 1) := by decide +kernel
theorem dM_takeSixteen_11 : decode prog_3_method_14_code 11 = .ok (.getfield 39, 3) := by decide +kernel
theorem dM_takeSixteen_14 : decode prog_3_method_14_code 14 = .ok (.ifCond .ge 5, 3) := by decide +kernel
theorem dM_takeSixteen_17 : decode prog_3_method_14_code 17 = .ok (.iconst (-1), 1) := by decide +kernel
theorem dM_takeSixteen_18 : decode prog_3_method_14_code 18 = .ok (.ireturn, 1) := by decide +kernel
theorem dM_takeSixteen_19 : decode prog_3_method_14_code 19 = .ok (.aload_n 0, 1) := by decide +kernel
theorem dM_takeSixteen_20 : decode prog_3_method_14_code 20 = .ok (.iload_n 1, 1) := by decide +kernel
theorem dM_takeSixteen_21 : decode prog_3_method_14_code 21 = .ok (.iconst 2, 1) := by decide +kernel
theorem dM_takeSixteen_22 : decode prog_3_method_14_code 22 = .ok (.iadd, 1) := by decide +kernel
theorem dM_takeSixteen_23 : decode prog_3_method_14_code 23 = .ok (.iload_n 2, 1) := by decide +kernel
theorem dM_takeSixteen_24 : decode prog_3_method_14_code 24 = .ok (.invokevirtual 46, 3) := by decide +kernel
theorem dM_takeSixteen_27 : decode prog_3_method_14_code 27 = .ok (.istore_n 3, 1) := by decide +kernel
theorem dM_takeSixteen_28 : decode prog_3_method_14_code 28 = .ok (.aload_n 0, 1) := by decide +kernel
theorem dM_takeSixteen_29 : decode prog_3_method_14_code 29 = .ok (.getfield 39, 3) := by decide +kernel
theorem dM_takeSixteen_32 : decode prog_3_method_14_code 32 = .ok (.ldc 50, 2) := by decide +kernel
theorem dM_takeSixteen_34 : decode prog_3_method_14_code 34 = .ok (.ldc 51, 2) := by decide +kernel
theorem dM_takeSixteen_36 : decode prog_3_method_14_code 36 = .ok (.invokestatic 24, 3) := by decide +kernel
theorem dM_takeSixteen_39 : decode prog_3_method_14_code 39 = .ok (.ifCond .eq 39, 3) := by decide +kernel
theorem dM_takeSixteen_42 : decode prog_3_method_14_code 42 = .ok (.iload_n 3, 1) := by decide +kernel
theorem dM_takeSixteen_43 : decode prog_3_method_14_code 43 = .ok (.ldc 52, 2) := by decide +kernel
theorem dM_takeSixteen_45 : decode prog_3_method_14_code 45 = .ok (.ldc 53, 2) := by decide +kernel
theorem dM_takeSixteen_47 : decode prog_3_method_14_code 47 = .ok (.invokestatic 24, 3) := by decide +kernel
theorem dM_takeSixteen_50 : decode prog_3_method_14_code 50 = .ok (.ifCond .eq 28, 3) := by decide +kernel
theorem dM_takeSixteen_53 : decode prog_3_method_14_code 53 = .ok (.aload_n 0, 1) := by decide +kernel
theorem dM_takeSixteen_54 : decode prog_3_method_14_code 54 = .ok (.ldc 30, 2) := by decide +kernel
theorem dM_takeSixteen_56 : decode prog_3_method_14_code 56 = .ok (.sipush 1024, 3) := by decide +kernel
theorem dM_takeSixteen_59 : decode prog_3_method_14_code 59 = .ok (.aload_n 0, 1) := by decide +kernel
theorem dM_takeSixteen_60 : decode prog_3_method_14_code 60 = .ok (.getfield 39, 3) := by decide +kernel
theorem dM_takeSixteen_63 : decode prog_3_method_14_code 63 = .ok (.ldc 50, 2) := by decide +kernel
theorem dM_takeSixteen_65 : decode prog_3_method_14_code 65 = .ok (.isub, 1) := by decide +kernel
theorem dM_takeSixteen_66 : decode prog_3_method_14_code 66 = .ok (.imul, 1) := by decide +kernel
theorem dM_takeSixteen_67 : decode prog_3_method_14_code 67 = .ok (.iadd, 1) := by decide +kernel
theorem dM_takeSixteen_68 : decode prog_3_method_14_code 68 = .ok (.iload_n 3, 1) := by decide +kernel
theorem dM_takeSixteen_69 : decode prog_3_method_14_code 69 = .ok (.iadd, 1) := by decide +kernel
theorem dM_takeSixteen_70 : decode prog_3_method_14_code 70 = .ok (.ldc 52, 2) := by decide +kernel
theorem dM_takeSixteen_72 : decode prog_3_method_14_code 72 = .ok (.isub, 1) := by decide +kernel
theorem dM_takeSixteen_73 : decode prog_3_method_14_code 73 = .ok (.putfield 39, 3) := by decide +kernel
theorem dM_takeSixteen_76 : decode prog_3_method_14_code 76 = .ok (.iconst 4, 1) := by decide +kernel
theorem dM_takeSixteen_77 : decode prog_3_method_14_code 77 = .ok (.ireturn, 1) := by decide +kernel
theorem dM_takeSixteen_78 : decode prog_3_method_14_code 78 = .ok (.iconst 2, 1) := by decide +kernel
theorem dM_takeSixteen_79 : decode prog_3_method_14_code 79 = .ok (.ireturn, 1) := by decide +kernel
theorem dM_unit_0 : decode prog_3_method_11_code 0 = .ok (.iload_n 1, 1) := by decide +kernel
theorem dM_unit_1 : decode prog_3_method_11_code 1 = .ok (.iconst 1, 1) := by decide +kernel
theorem dM_unit_2 : decode prog_3_method_11_code 2 = .ok (.iadd, 1) := by decide +kernel
theorem dM_unit_3 : decode prog_3_method_11_code 3 = .ok (.aload_n 0, 1) := by decide +kernel
theorem dM_unit_4 : decode prog_3_method_11_code 4 = .ok (.getfield 32, 3) := by decide +kernel
theorem dM_unit_7 : decode prog_3_method_11_code 7 = .ok (.if_icmp .lt 7, 3) := by decide +kernel
theorem dM_unit_10 : decode prog_3_method_11_code 10 = .ok (.iconst (-1), 1) := by decide +kernel
theorem dM_unit_11 : decode prog_3_method_11_code 11 = .ok (.goto 48, 3) := by decide +kernel
theorem dM_unit_14 : decode prog_3_method_11_code 14 = .ok (.iload_n 2, 1) := by decide +kernel
theorem dM_unit_15 : decode prog_3_method_11_code 15 = .ok (.ifCond .eq 25, 3) := by decide +kernel
theorem dM_unit_18 : decode prog_3_method_11_code 18 = .ok (.sipush 256, 3) := by decide +kernel
theorem dM_unit_21 : decode prog_3_method_11_code 21 = .ok (.aload_n 0, 1) := by decide +kernel
theorem dM_unit_22 : decode prog_3_method_11_code 22 = .ok (.getfield 7, 3) := by decide +kernel
theorem dM_unit_25 : decode prog_3_method_11_code 25 = .ok (.iload_n 1, 1) := by decide +kernel
theorem dM_unit_26 : decode prog_3_method_11_code 26 = .ok (.iaload, 1) := by decide +kernel
theorem dM_unit_27 : decode prog_3_method_11_code 27 = .ok (.imul, 1) := by decide +kernel
theorem dM_unit_28 : decode prog_3_method_11_code 28 = .ok (.aload_n 0, 1) := by decide +kernel
theorem dM_unit_29 : decode prog_3_method_11_code 29 = .ok (.getfield 7, 3) := by decide +kernel
theorem dM_unit_32 : decode prog_3_method_11_code 32 = .ok (.iload_n 1, 1) := by decide +kernel
theorem dM_unit_33 : decode prog_3_method_11_code 33 = .ok (.iconst 1, 1) := by decide +kernel
theorem dM_unit_34 : decode prog_3_method_11_code 34 = .ok (.iadd, 1) := by decide +kernel
theorem dM_unit_35 : decode prog_3_method_11_code 35 = .ok (.iaload, 1) := by decide +kernel
theorem dM_unit_36 : decode prog_3_method_11_code 36 = .ok (.iadd, 1) := by decide +kernel
theorem dM_unit_37 : decode prog_3_method_11_code 37 = .ok (.goto 22, 3) := by decide +kernel
theorem dM_unit_40 : decode prog_3_method_11_code 40 = .ok (.sipush 256, 3) := by decide +kernel
theorem dM_unit_43 : decode prog_3_method_11_code 43 = .ok (.aload_n 0, 1) := by decide +kernel
theorem dM_unit_44 : decode prog_3_method_11_code 44 = .ok (.getfield 7, 3) := by decide +kernel
theorem dM_unit_47 : decode prog_3_method_11_code 47 = .ok (.iload_n 1, 1) := by decide +kernel
theorem dM_unit_48 : decode prog_3_method_11_code 48 = .ok (.iconst 1, 1) := by decide +kernel
theorem dM_unit_49 : decode prog_3_method_11_code 49 = .ok (.iadd, 1) := by decide +kernel
theorem dM_unit_50 : decode prog_3_method_11_code 50 = .ok (.iaload, 1) := by decide +kernel
theorem dM_unit_51 : decode prog_3_method_11_code 51 = .ok (.imul, 1) := by decide +kernel
theorem dM_unit_52 : decode prog_3_method_11_code 52 = .ok (.aload_n 0, 1) := by decide +kernel
theorem dM_unit_53 : decode prog_3_method_11_code 53 = .ok (.getfield 7, 3) := by decide +kernel
theorem dM_unit_56 : decode prog_3_method_11_code 56 = .ok (.iload_n 1, 1) := by decide +kernel
theorem dM_unit_57 : decode prog_3_method_11_code 57 = .ok (.iaload, 1) := by decide +kernel
theorem dM_unit_58 : decode prog_3_method_11_code 58 = .ok (.iadd, 1) := by decide +kernel
theorem dM_unit_59 : decode prog_3_method_11_code 59 = .ok (.ireturn, 1) := by decide +kernel
theorem dM_isIn_0 : decode prog_3_method_3_code 0 = .ok (.iload_n 0, 1) := by decide +kernel
theorem dM_isIn_1 : decode prog_3_method_3_code 1 = .ok (.iload_n 1, 1) := by decide +kernel
theorem dM_isIn_2 : decode prog_3_method_3_code 2 = .ok (.if_icmp .lt 12, 3) := by decide +kernel
theorem dM_isIn_5 : decode prog_3_method_3_code 5 = .ok (.iload_n 0, 1) := by decide +kernel
theorem dM_isIn_6 : decode prog_3_method_3_code 6 = .ok (.iload_n 2, 1) := by decide +kernel
theorem dM_isIn_7 : decode prog_3_method_3_code 7 = .ok (.if_icmp .gt 7, 3) := by decide +kernel
theorem dM_isIn_10 : decode prog_3_method_3_code 10 = .ok (.iconst 1, 1) := by decide +kernel
theorem dM_isIn_11 : decode prog_3_method_3_code 11 = .ok (.goto 4, 3) := by decide +kernel
theorem dM_isIn_14 : decode prog_3_method_3_code 14 = .ok (.iconst 0, 1) := by decide +kernel
theorem dM_isIn_15 : decode prog_3_method_3_code 15 = .ok (.ireturn, 1) := by decide +kernel
theorem dM_takeEight_0 : decode prog_3_method_13_code 0 = .ok (.aload_n 0, 1) := by decide +kernel
theorem dM_takeEight_1 : decode prog_3_method_13_code 1 = .ok (.getfield 7, 3) := by decide +kernel
theorem dM_takeEight_4 : decode prog_3_method_13_code 4 = .ok (.iload_n 1, 1) := by decide +kernel
theorem dM_takeEight_5 : decode prog_3_method_13_code 5 = .ok (.iaload, 1) := by decide +kernel
theorem dM_takeEight_6 : decode prog_3_method_13_code 6 = .ok (.istore_n 2, 1) := by decide +kernel
theorem dM_takeEight_7 : decode prog_3_method_13_code 7 = .ok (.aload_n 0, 1) := by decide +kernel
theorem dM_takeEight_8 : decode prog_3_method_13_code 8 = .ok (.iload_n 2, 1) := by decide +kernel
theorem dM_takeEight_9 : decode prog_3_method_13_code 9 = .ok (.putfield 39, 3) := by decide +kernel
theorem dM_takeEight_12 : decode prog_3_method_13_code 12 = .ok (.iload_n 2, 1) := by decide +kernel
theorem dM_takeEight_13 : decode prog_3_method_13_code 13 = .ok (.sipush 128, 3) := by decide +kernel
theorem dM_takeEight_16 : decode prog_3_method_13_code 16 = .ok (.if_icmp .ge 5, 3) := by decide +kernel
theorem dM_takeEight_19 : decode prog_3_method_13_code 19 = .ok (.iconst 1, 1) := by decide +kernel
theorem dM_takeEight_20 : decode prog_3_method_13_code 20 = .ok (.ireturn, 1) := by decide +kernel
theorem dM_takeEight_21 : decode prog_3_method_13_code 21 = .ok (.iload_n 2, 1) := by decide +kernel
theorem dM_takeEight_22 : decode prog_3_method_13_code 22 = .ok (.sipush 192, 3) := by decide +kernel
theorem dM_takeEight_25 : decode prog_3_method_13_code 25 = .ok (.if_icmp .ge 7, 3) := by decide +kernel
theorem dM_takeEight_28 : decode prog_3_method_13_code 28 = .ok (.iconst 0, 1) := by decide +kernel
theorem dM_takeEight_29 : decode prog_3_method_13_code 29 = .ok (.goto 37, 3) := by decide +kernel
theorem dM_takeEight_32 : decode prog_3_method_13_code 32 = .ok (.iload_n 2, 1) := by decide +kernel
theorem dM_takeEight_33 : decode prog_3_method_13_code 33 = .ok (.sipush 224, 3) := by decide +kernel
theorem dM_takeEight_36 : decode prog_3_method_13_code 36 = .ok (.if_icmp .ge 7, 3) := by decide +kernel
theorem dM_takeEight_39 : decode prog_3_method_13_code 39 = .ok (.iconst 2, 1) := by decide +kernel
theorem dM_takeEight_40 : decode prog_3_method_13_code 40 = .ok (.goto 26, 3) := by decide +kernel
theorem dM_takeEight_43 : decode prog_3_method_13_code 43 = .ok (.iload_n 2, 1) := by decide +kernel
theorem dM_takeEight_44 : decode prog_3_method_13_code 44 = .ok (.sipush 240, 3) := by decide +kernel
theorem dM_takeEight_47 : decode prog_3_method_13_code 47 = .ok (.if_icmp .ge 7, 3) := by decide +kernel
theorem dM_takeEight_50 : decode prog_3_method_13_code 50 = .ok (.iconst 3, 1) := by decide +kernel
theorem dM_takeEight_51 : decode prog_3_method_13_code 51 = .ok (.goto 15, 3) := by decide +kernel
theorem dM_takeEight_54 : decode prog_3_method_13_code 54 = .ok (.iload_n 2, 1) := by decide +kernel
theorem dM_takeEight_55 : decode prog_3_method_13_code 55 = .ok (.sipush 248, 3) := by decide +kernel
theorem dM_takeEight_58 : decode prog_3_method_13_code 58 = .ok (.if_icmp .ge 7, 3) := by decide +kernel
theorem dM_takeEight_61 : decode prog_3_method_13_code 61 = .ok (.iconst 4, 1) := by decide +kernel
theorem dM_takeEight_62 : decode prog_3_method_13_code 62 = .ok (.goto 4, 3) := by decide +kernel
theorem dM_takeEight_65 : decode prog_3_method_13_code 65 = .ok (.iconst 0, 1) := by decide +kernel
theorem dM_takeEight_66 : decode prog_3_method_13_code 66 = .ok (.istore_n 3, 1) := by decide +kernel
theorem dM_takeEight_67 : decode prog_3_method_13_code 67 = .ok (.iload_n 3, 1) := by decide +kernel
theorem dM_takeEight_68 : decode prog_3_method_13_code 68 = .ok (.ifCond .eq 13, 3) := by decide +kernel
theorem dM_takeEight_71 : decode prog_3_method_13_code 71 = .ok (.iload_n 1, 1) := by decide +kernel
theorem dM_takeEight_72 : decode prog_3_method_13_code 72 = .ok (.iload_n 3, 1) := by decide +kernel
theorem dM_takeEight_73 : decode prog_3_method_13_code 73 = .ok (.iadd, 1) := by decide +kernel
theorem dM_takeEight_74 : decode prog_3_method_13_code 74 = .ok (.aload_n 0, 1) := by decide +kernel
theorem dM_takeEight_75 : decode prog_3_method_13_code 75 = .ok (.getfield 32, 3) := by decide +kernel
theorem dM_takeEight_78 : decode prog_3_method_13_code 78 = .ok (.if_icmp .le 5, 3) := by decide +kernel
theorem dM_takeEight_81 : decode prog_3_method_13_code 81 = .ok (.iconst (-1), 1) := by decide +kernel
theorem dM_takeEight_82 : decode prog_3_method_13_code 82 = .ok (.ireturn, 1) := by decide +kernel
theorem dM_takeEight_83 : decode prog_3_method_13_code 83 = .ok (.iload_n 2, 1) := by decide +kernel
theorem dM_takeEight_84 : decode prog_3_method_13_code 84 = .ok (.iload_n 3, 1) := by decide +kernel
theorem dM_takeEight_85 : decode prog_3_method_13_code 85 = .ok (.iconst 2, 1) := by decide +kernel
theorem dM_takeEight_86 : decode prog_3_method_13_code 86 = .ok (.if_icmp .ne 8, 3) := by decide +kernel
theorem dM_takeEight_89 : decode prog_3_method_13_code 89 = .ok (.bipush 32, 2) := by decide +kernel
theorem dM_takeEight_91 : decode prog_3_method_13_code 91 = .ok (.goto 15, 3) := by decide +kernel
theorem dM_takeEight_94 : decode prog_3_method_13_code 94 = .ok (.iload_n 3, 1) := by decide +kernel
theorem dM_takeEight_95 : decode prog_3_method_13_code 95 = .ok (.iconst 3, 1) := by decide +kernel
theorem dM_takeEight_96 : decode prog_3_method_13_code 96 = .ok (.if_icmp .ne 8, 3) := by decide +kernel
theorem dM_takeEight_99 : decode prog_3_method_13_code 99 = .ok (.bipush 16, 2) := by decide +kernel
theorem dM_takeEight_101 : decode prog_3_method_13_code 101 = .ok (.goto 5, 3) := by decide +kernel
theorem dM_takeEight_104 : decode prog_3_method_13_code 104 = .ok (.bipush 8, 2) := by decide +kernel
theorem dM_takeEight_106 : decode prog_3_method_13_code 106 = .ok (.irem, 1) := by decide +kernel
theorem dM_takeEight_107 : decode prog_3_method_13_code 107 = .ok (.istore 4, 2) := by decide +kernel
theorem dM_takeEight_109 : decode prog_3_method_13_code 109 = .ok (.iconst 1, 1) := by decide +kernel
theorem dM_takeEight_110 : decode prog_3_method_13_code 110 = .ok (.istore 5, 2) := by decide +kernel
theorem dM_takeEight_112 : decode prog_3_method_13_code 112 = .ok (.iload 5, 2) := by decide +kernel
theorem dM_takeEight_114 : decode prog_3_method_13_code 114 = .ok (.iload_n 3, 1) := by decide +kernel
theorem dM_takeEight_115 : decode prog_3_method_13_code 115 = .ok (.if_icmp .ge 47, 3) := by decide +kernel
theorem dM_takeEight_118 : decode prog_3_method_13_code 118 = .ok (.aload_n 0, 1) := by decide +kernel
theorem dM_takeEight_119 : decode prog_3_method_13_code 119 = .ok (.getfield 7, 3) := by decide +kernel
theorem dM_takeEight_122 : decode prog_3_method_13_code 122 = .ok (.iload_n 1, 1) := by decide +kernel
theorem dM_takeEight_123 : decode prog_3_method_13_code 123 = .ok (.iload 5, 2) := by decide +kernel
theorem dM_takeEight_125 : decode prog_3_method_13_code 125 = .ok (.iadd, 1) := by decide +kernel
theorem dM_takeEight_126 : decode prog_3_method_13_code 126 = .ok (.iaload, 1) := by decide +kernel
theorem dM_takeEight_127 : decode prog_3_method_13_code 127 = .ok (.bipush 64, 2) := by decide +kernel
theorem dM_takeEight_129 : decode prog_3_method_13_code 129 = .ok (.idiv, 1) := by decide +kernel
theorem dM_takeEight_130 : decode prog_3_method_13_code 130 = .ok (.iconst 2, 1) := by decide +kernel
theorem dM_takeEight_131 : decode prog_3_method_13_code 131 = .ok (.if_icmp .eq 5, 3) := by decide +kernel
theorem dM_takeEight_134 : decode prog_3_method_13_code 134 = .ok (.iconst (-1), 1) := by decide +kernel
theorem dM_takeEight_135 : decode prog_3_method_13_code 135 = .ok (.ireturn, 1) := by decide +kernel
theorem dM_takeEight_136 : decode prog_3_method_13_code 136 = .ok (.bipush 64, 2) := by decide +kernel
theorem dM_takeEight_138 : decode prog_3_method_13_code 138 = .ok (.iload 4, 2) := by decide +kernel
theorem dM_takeEight_140 : decode prog_3_method_13_code 140 = .ok (.imul, 1) := by decide +kernel
theorem dM_takeEight_141 : decode prog_3_method_13_code 141 = .ok (.aload_n 0, 1) := by decide +kernel
theorem dM_takeEight_142 : decode prog_3_method_13_code 142 = .ok (.getfield 7, 3) := by decide +kernel
theorem dM_takeEight_145 : decode prog_3_method_13_code 145 = .ok (.iload_n 1, 1) := by decide +kernel
theorem dM_takeEight_146 : decode prog_3_method_13_code 146 = .ok (.iload 5, 2) := by decide +kernel
theorem dM_takeEight_148 : decode prog_3_method_13_code 148 = .ok (.iadd, 1) := by decide +kernel
theorem dM_takeEight_149 : decode prog_3_method_13_code 149 = .ok (.iaload, 1) := by decide +kernel
theorem dM_takeEight_150 : decode prog_3_method_13_code 150 = .ok (.bipush 64, 2) := by decide +kernel
theorem dM_takeEight_152 : decode prog_3_method_13_code 152 = .ok (.irem, 1) := by decide +kernel
theorem dM_takeEight_153 : decode prog_3_method_13_code 153 = .ok (.iadd, 1) := by decide +kernel
theorem dM_takeEight_154 : decode prog_3_method_13_code 154 = .ok (.istore 4, 2) := by decide +kernel
theorem dM_takeEight_156 : decode prog_3_method_13_code 156 = .ok (.iinc 5 1, 3) := by decide +kernel
theorem dM_takeEight_159 : decode prog_3_method_13_code 159 = .ok (.goto (-47), 3) := by decide +kernel
theorem dM_takeEight_162 : decode prog_3_method_13_code 162 = .ok (.aload_n 0, 1) := by decide +kernel
theorem dM_takeEight_163 : decode prog_3_method_13_code 163 = .ok (.iload 4, 2) := by decide +kernel
theorem dM_takeEight_165 : decode prog_3_method_13_code 165 = .ok (.putfield 39, 3) := by decide +kernel
theorem dM_takeEight_168 : decode prog_3_method_13_code 168 = .ok (.iload 4, 2) := by decide +kernel
theorem dM_takeEight_170 : decode prog_3_method_13_code 170 = .ok (.invokestatic 42, 3) := by decide +kernel
theorem dM_takeEight_173 : decode prog_3_method_13_code 173 = .ok (.iload_n 3, 1) := by decide +kernel
theorem dM_takeEight_174 : decode prog_3_method_13_code 174 = .ok (.if_icmp .ne 7, 3) := by decide +kernel
theorem dM_takeEight_177 : decode prog_3_method_13_code 177 = .ok (.iload_n 3, 1) := by decide +kernel
theorem dM_takeEight_178 : decode prog_3_method_13_code 178 = .ok (.goto 4, 3) := by decide +kernel
theorem dM_takeEight_181 : decode prog_3_method_13_code 181 = .ok (.iconst (-1), 1) := by decide +kernel
theorem dM_takeEight_182 : decode prog_3_method_13_code 182 = .ok (.ireturn, 1) := by decide +kernel
theorem dM_bytesOf_0 : decode prog_3_method_12_code 0 = .ok (.iload_n 0, 1) := by decide +kernel
theorem dM_bytesOf_1 : decode prog_3_method_12_code 1 = .ok (.sipush 128, 3) := by decide +kernel
theorem dM_bytesOf_4 : decode prog_3_method_12_code 4 = .ok (.if_icmp .ge 7, 3) := by decide +kernel
theorem dM_bytesOf_7 : decode prog_3_method_12_code 7 = .ok (.iconst 1, 1) := by decide +kernel
theorem dM_bytesOf_8 : decode prog_3_method_12_code 8 = .ok (.goto 25, 3) := by decide +kernel
theorem dM_bytesOf_11 : decode prog_3_method_12_code 11 = .ok (.iload_n 0, 1) := by decide +kernel
theorem dM_bytesOf_12 : decode prog_3_method_12_code 12 = .ok (.sipush 2048, 3) := by decide +kernel
theorem dM_bytesOf_15 : decode prog_3_method_12_code 15 = .ok (.if_icmp .ge 7, 3) := by decide +kernel
theorem dM_bytesOf_18 : decode prog_3_method_12_code 18 = .ok (.iconst 2, 1) := by decide +kernel
theorem dM_bytesOf_19 : decode prog_3_method_12_code 19 = .ok (.goto 14, 3) := by decide +kernel
theorem dM_bytesOf_22 : decode prog_3_method_12_code 22 = .ok (.iload_n 0, 1) := by decide +kernel
theorem dM_bytesOf_23 : decode prog_3_method_12_code 23 = .ok (.ldc 30, 2) := by decide +kernel
theorem dM_bytesOf_25 : decode prog_3_method_12_code 25 = .ok (.if_icmp .ge 7, 3) := by decide +kernel
theorem dM_bytesOf_28 : decode prog_3_method_12_code 28 = .ok (.iconst 3, 1) := by decide +kernel
theorem dM_bytesOf_29 : decode prog_3_method_12_code 29 = .ok (.goto 4, 3) := by decide +kernel
theorem dM_bytesOf_32 : decode prog_3_method_12_code 32 = .ok (.iconst 4, 1) := by decide +kernel
theorem dM_bytesOf_33 : decode prog_3_method_12_code 33 = .ok (.ireturn, 1) := by decide +kernel
theorem dM_isCharacter_0 : decode prog_3_method_4_code 0 = .ok (.iload_n 0, 1) := by decide +kernel
theorem dM_isCharacter_1 : decode prog_3_method_4_code 1 = .ok (.bipush 9, 2) := by decide +kernel
theorem dM_isCharacter_3 : decode prog_3_method_4_code 3 = .ok (.if_icmp .eq 48, 3) := by decide +kernel
theorem dM_isCharacter_6 : decode prog_3_method_4_code 6 = .ok (.iload_n 0, 1) := by decide +kernel
theorem dM_isCharacter_7 : decode prog_3_method_4_code 7 = .ok (.bipush 10, 2) := by decide +kernel
theorem dM_isCharacter_9 : decode prog_3_method_4_code 9 = .ok (.if_icmp .eq 42, 3) := by decide +kernel
theorem dM_isCharacter_12 : decode prog_3_method_4_code 12 = .ok (.iload_n 0, 1) := by decide +kernel
theorem dM_isCharacter_13 : decode prog_3_method_4_code 13 = .ok (.bipush 13, 2) := by decide +kernel
theorem dM_isCharacter_15 : decode prog_3_method_4_code 15 = .ok (.if_icmp .eq 36, 3) := by decide +kernel
theorem dM_isCharacter_18 : decode prog_3_method_4_code 18 = .ok (.iload_n 0, 1) := by decide +kernel
theorem dM_isCharacter_19 : decode prog_3_method_4_code 19 = .ok (.bipush 32, 2) := by decide +kernel
theorem dM_isCharacter_21 : decode prog_3_method_4_code 21 = .ok (.ldc 23, 2) := by decide +kernel
theorem dM_isCharacter_23 : decode prog_3_method_4_code 23 = .ok (.invokestatic 24, 3) := by decide +kernel
theorem dM_isCharacter_26 : decode prog_3_method_4_code 26 = .ok (.ifCond .ne 25, 3) := by decide +kernel
theorem dM_isCharacter_29 : decode prog_3_method_4_code 29 = .ok (.iload_n 0, 1) := by decide +kernel
theorem dM_isCharacter_30 : decode prog_3_method_4_code 30 = .ok (.ldc 28, 2) := by decide +kernel
theorem dM_isCharacter_32 : decode prog_3_method_4_code 32 = .ok (.ldc 29, 2) := by decide +kernel
theorem dM_isCharacter_34 : decode prog_3_method_4_code 34 = .ok (.invokestatic 24, 3) := by decide +kernel
theorem dM_isCharacter_37 : decode prog_3_method_4_code 37 = .ok (.ifCond .ne 14, 3) := by decide +kernel
theorem dM_isCharacter_40 : decode prog_3_method_4_code 40 = .ok (.iload_n 0, 1) := by decide +kernel
theorem dM_isCharacter_41 : decode prog_3_method_4_code 41 = .ok (.ldc 30, 2) := by decide +kernel
theorem dM_isCharacter_43 : decode prog_3_method_4_code 43 = .ok (.ldc 31, 2) := by decide +kernel
theorem dM_isCharacter_45 : decode prog_3_method_4_code 45 = .ok (.invokestatic 24, 3) := by decide +kernel
theorem dM_isCharacter_48 : decode prog_3_method_4_code 48 = .ok (.ifCond .eq 7, 3) := by decide +kernel
theorem dM_isCharacter_51 : decode prog_3_method_4_code 51 = .ok (.iconst 1, 1) := by decide +kernel
theorem dM_isCharacter_52 : decode prog_3_method_4_code 52 = .ok (.goto 4, 3) := by decide +kernel
theorem dM_isCharacter_55 : decode prog_3_method_4_code 55 = .ok (.iconst 0, 1) := by decide +kernel
theorem dM_isCharacter_56 : decode prog_3_method_4_code 56 = .ok (.ireturn, 1) := by decide +kernel
theorem dM_length_0 : decode prog_3_method_16_code 0 = .ok (.aload_n 0, 1) := by decide +kernel
theorem dM_length_1 : decode prog_3_method_16_code 1 = .ok (.iconst 0, 1) := by decide +kernel
theorem dM_length_2 : decode prog_3_method_16_code 2 = .ok (.putfield 19, 3) := by decide +kernel
theorem dM_length_5 : decode prog_3_method_16_code 5 = .ok (.aload_n 0, 1) := by decide +kernel
theorem dM_length_6 : decode prog_3_method_16_code 6 = .ok (.getfield 68, 3) := by decide +kernel
theorem dM_length_9 : decode prog_3_method_16_code 9 = .ok (.ireturn, 1) := by decide +kernel
theorem dM_sign_0 : decode prog_3_method_17_code 0 = .ok (.aload_n 0, 1) := by decide +kernel
theorem dM_sign_1 : decode prog_3_method_17_code 1 = .ok (.iconst 0, 1) := by decide +kernel
theorem dM_sign_2 : decode prog_3_method_17_code 2 = .ok (.putfield 19, 3) := by decide +kernel
theorem dM_sign_5 : decode prog_3_method_17_code 5 = .ok (.iload_n 1, 1) := by decide +kernel
theorem dM_sign_6 : decode prog_3_method_17_code 6 = .ok (.ifCond .lt 20, 3) := by decide +kernel
theorem dM_sign_9 : decode prog_3_method_17_code 9 = .ok (.iload_n 1, 1) := by decide +kernel
theorem dM_sign_10 : decode prog_3_method_17_code 10 = .ok (.aload_n 0, 1) := by decide +kernel
theorem dM_sign_11 : decode prog_3_method_17_code 11 = .ok (.getfield 68, 3) := by decide +kernel
theorem dM_sign_14 : decode prog_3_method_17_code 14 = .ok (.if_icmp .ge 12, 3) := by decide +kernel
theorem dM_sign_17 : decode prog_3_method_17_code 17 = .ok (.aload_n 0, 1) := by decide +kernel
theorem dM_sign_18 : decode prog_3_method_17_code 18 = .ok (.getfield 13, 3) := by decide +kernel
theorem dM_sign_21 : decode prog_3_method_17_code 21 = .ok (.iload_n 1, 1) := by decide +kernel
theorem dM_sign_22 : decode prog_3_method_17_code 22 = .ok (.iaload, 1) := by decide +kernel
theorem dM_sign_23 : decode prog_3_method_17_code 23 = .ok (.goto 4, 3) := by decide +kernel
theorem dM_sign_26 : decode prog_3_method_17_code 26 = .ok (.iconst (-1), 1) := by decide +kernel
theorem dM_sign_27 : decode prog_3_method_17_code 27 = .ok (.ireturn, 1) := by decide +kernel
theorem dM_way_0 : decode prog_3_method_18_code 0 = .ok (.aload_n 0, 1) := by decide +kernel
theorem dM_way_1 : decode prog_3_method_18_code 1 = .ok (.iconst 0, 1) := by decide +kernel
theorem dM_way_2 : decode prog_3_method_18_code 2 = .ok (.putfield 19, 3) := by decide +kernel
theorem dM_way_5 : decode prog_3_method_18_code 5 = .ok (.aload_n 0, 1) := by decide +kernel
theorem dM_way_6 : decode prog_3_method_18_code 6 = .ok (.getfield 71, 3) := by decide +kernel
theorem dM_way_9 : decode prog_3_method_18_code 9 = .ok (.ireturn, 1) := by decide +kernel
theorem dM_kinds_0 : decode prog_3_method_24_code 0 = .ok (.aload_n 0, 1) := by decide +kernel
theorem dM_kinds_1 : decode prog_3_method_24_code 1 = .ok (.iconst 0, 1) := by decide +kernel
theorem dM_kinds_2 : decode prog_3_method_24_code 2 = .ok (.putfield 19, 3) := by decide +kernel
theorem dM_kinds_5 : decode prog_3_method_24_code 5 = .ok (.iload_n 1, 1) := by decide +kernel
theorem dM_kinds_6 : decode prog_3_method_24_code 6 = .ok (.invokestatic 90, 3) := by decide +kernel
theorem dM_kinds_9 : decode prog_3_method_24_code 9 = .ok (.ireturn, 1) := by decide +kernel
theorem dM_kindsOf_0 : decode prog_3_method_23_code 0 = .ok (.iload_n 0, 1) := by decide +kernel
theorem dM_kindsOf_1 : decode prog_3_method_23_code 1 = .ok (.invokestatic 64, 3) := by decide +kernel
theorem dM_kindsOf_4 : decode prog_3_method_23_code 4 = .ok (.ifCond .ne 5, 3) := by decide +kernel
theorem dM_kindsOf_7 : decode prog_3_method_23_code 7 = .ok (.iconst 0, 1) := by decide +kernel
theorem dM_kindsOf_8 : decode prog_3_method_23_code 8 = .ok (.ireturn, 1) := by decide +kernel
theorem dM_kindsOf_9 : decode prog_3_method_23_code 9 = .ok (.iload_n 0, 1) := by decide +kernel
theorem dM_kindsOf_10 : decode prog_3_method_23_code 10 = .ok (.bipush 32, 2) := by decide +kernel
theorem dM_kindsOf_12 : decode prog_3_method_23_code 12 = .ok (.if_icmp .eq 21, 3) := by decide +kernel
theorem dM_kindsOf_15 : decode prog_3_method_23_code 15 = .ok (.iload_n 0, 1) := by decide +kernel
theorem dM_kindsOf_16 : decode prog_3_method_23_code 16 = .ok (.bipush 9, 2) := by decide +kernel
theorem dM_kindsOf_18 : decode prog_3_method_23_code 18 = .ok (.if_icmp .eq 15, 3) := by decide +kernel
theorem dM_kindsOf_21 : decode prog_3_method_23_code 21 = .ok (.iload_n 0, 1) := by decide +kernel
theorem dM_kindsOf_22 : decode prog_3_method_23_code 22 = .ok (.bipush 13, 2) := by decide +kernel
theorem dM_kindsOf_24 : decode prog_3_method_23_code 24 = .ok (.if_icmp .eq 9, 3) := by decide +kernel
theorem dM_kindsOf_27 : decode prog_3_method_23_code 27 = .ok (.iload_n 0, 1) := by decide +kernel
theorem dM_kindsOf_28 : decode prog_3_method_23_code 28 = .ok (.bipush 10, 2) := by decide +kernel
theorem dM_kindsOf_30 : decode prog_3_method_23_code 30 = .ok (.if_icmp .ne 7, 3) := by decide +kernel
theorem dM_kindsOf_33 : decode prog_3_method_23_code 33 = .ok (.iconst 1, 1) := by decide +kernel
theorem dM_kindsOf_34 : decode prog_3_method_23_code 34 = .ok (.goto 4, 3) := by decide +kernel
theorem dM_kindsOf_37 : decode prog_3_method_23_code 37 = .ok (.iconst 0, 1) := by decide +kernel
theorem dM_kindsOf_38 : decode prog_3_method_23_code 38 = .ok (.istore_n 1, 1) := by decide +kernel
theorem dM_kindsOf_39 : decode prog_3_method_23_code 39 = .ok (.iload_n 1, 1) := by decide +kernel
theorem dM_kindsOf_40 : decode prog_3_method_23_code 40 = .ok (.ifCond .eq 7, 3) := by decide +kernel
theorem dM_kindsOf_43 : decode prog_3_method_23_code 43 = .ok (.iconst 1, 1) := by decide +kernel
theorem dM_kindsOf_44 : decode prog_3_method_23_code 44 = .ok (.goto 4, 3) := by decide +kernel
theorem dM_kindsOf_47 : decode prog_3_method_23_code 47 = .ok (.iconst 0, 1) := by decide +kernel
theorem dM_kindsOf_48 : decode prog_3_method_23_code 48 = .ok (.iload_n 0, 1) := by decide +kernel
theorem dM_kindsOf_49 : decode prog_3_method_23_code 49 = .ok (.invokestatic 74, 3) := by decide +kernel
theorem dM_kindsOf_52 : decode prog_3_method_23_code 52 = .ok (.ifCond .eq 7, 3) := by decide +kernel
theorem dM_kindsOf_55 : decode prog_3_method_23_code 55 = .ok (.iconst 2, 1) := by decide +kernel
theorem dM_kindsOf_56 : decode prog_3_method_23_code 56 = .ok (.goto 4, 3) := by decide +kernel
theorem dM_kindsOf_59 : decode prog_3_method_23_code 59 = .ok (.iconst 0, 1) := by decide +kernel
theorem dM_kindsOf_60 : decode prog_3_method_23_code 60 = .ok (.iadd, 1) := by decide +kernel
theorem dM_kindsOf_61 : decode prog_3_method_23_code 61 = .ok (.iload_n 0, 1) := by decide +kernel
theorem dM_kindsOf_62 : decode prog_3_method_23_code 62 = .ok (.bipush 48, 2) := by decide +kernel
theorem dM_kindsOf_64 : decode prog_3_method_23_code 64 = .ok (.bipush 57, 2) := by decide +kernel
theorem dM_kindsOf_66 : decode prog_3_method_23_code 66 = .ok (.invokestatic 24, 3) := by decide +kernel
theorem dM_kindsOf_69 : decode prog_3_method_23_code 69 = .ok (.ifCond .eq 7, 3) := by decide +kernel
theorem dM_kindsOf_72 : decode prog_3_method_23_code 72 = .ok (.iconst 4, 1) := by decide +kernel
theorem dM_kindsOf_73 : decode prog_3_method_23_code 73 = .ok (.goto 4, 3) := by decide +kernel
theorem dM_kindsOf_76 : decode prog_3_method_23_code 76 = .ok (.iconst 0, 1) := by decide +kernel
theorem dM_kindsOf_77 : decode prog_3_method_23_code 77 = .ok (.iadd, 1) := by decide +kernel
theorem dM_kindsOf_78 : decode prog_3_method_23_code 78 = .ok (.iload_n 0, 1) := by decide +kernel
theorem dM_kindsOf_79 : decode prog_3_method_23_code 79 = .ok (.invokestatic 81, 3) := by decide +kernel
theorem dM_kindsOf_82 : decode prog_3_method_23_code 82 = .ok (.ifCond .eq 8, 3) := by decide +kernel
theorem dM_kindsOf_85 : decode prog_3_method_23_code 85 = .ok (.bipush 8, 2) := by decide +kernel
theorem dM_kindsOf_87 : decode prog_3_method_23_code 87 = .ok (.goto 4, 3) := by decide +kernel
theorem dM_kindsOf_90 : decode prog_3_method_23_code 90 = .ok (.iconst 0, 1) := by decide +kernel
theorem dM_kindsOf_91 : decode prog_3_method_23_code 91 = .ok (.iadd, 1) := by decide +kernel
theorem dM_kindsOf_92 : decode prog_3_method_23_code 92 = .ok (.iload_n 0, 1) := by decide +kernel
theorem dM_kindsOf_93 : decode prog_3_method_23_code 93 = .ok (.invokestatic 84, 3) := by decide +kernel
theorem dM_kindsOf_96 : decode prog_3_method_23_code 96 = .ok (.ifCond .eq 8, 3) := by decide +kernel
theorem dM_kindsOf_99 : decode prog_3_method_23_code 99 = .ok (.bipush 16, 2) := by decide +kernel
theorem dM_kindsOf_101 : decode prog_3_method_23_code 101 = .ok (.goto 4, 3) := by decide +kernel
theorem dM_kindsOf_104 : decode prog_3_method_23_code 104 = .ok (.iconst 0, 1) := by decide +kernel
theorem dM_kindsOf_105 : decode prog_3_method_23_code 105 = .ok (.iadd, 1) := by decide +kernel
theorem dM_kindsOf_106 : decode prog_3_method_23_code 106 = .ok (.iload_n 0, 1) := by decide +kernel
theorem dM_kindsOf_107 : decode prog_3_method_23_code 107 = .ok (.invokestatic 87, 3) := by decide +kernel
theorem dM_kindsOf_110 : decode prog_3_method_23_code 110 = .ok (.ifCond .eq 8, 3) := by decide +kernel
theorem dM_kindsOf_113 : decode prog_3_method_23_code 113 = .ok (.bipush 32, 2) := by decide +kernel
theorem dM_kindsOf_115 : decode prog_3_method_23_code 115 = .ok (.goto 4, 3) := by decide +kernel
theorem dM_kindsOf_118 : decode prog_3_method_23_code 118 = .ok (.iconst 0, 1) := by decide +kernel
theorem dM_kindsOf_119 : decode prog_3_method_23_code 119 = .ok (.iadd, 1) := by decide +kernel
theorem dM_kindsOf_120 : decode prog_3_method_23_code 120 = .ok (.ireturn, 1) := by decide +kernel
theorem dM_isLetter_0 : decode prog_3_method_19_code 0 = .ok (.iload_n 0, 1) := by decide +kernel
theorem dM_isLetter_1 : decode prog_3_method_19_code 1 = .ok (.bipush 65, 2) := by decide +kernel
theorem dM_isLetter_3 : decode prog_3_method_19_code 3 = .ok (.bipush 90, 2) := by decide +kernel
theorem dM_isLetter_5 : decode prog_3_method_19_code 5 = .ok (.invokestatic 24, 3) := by decide +kernel
theorem dM_isLetter_8 : decode prog_3_method_19_code 8 = .ok (.ifCond .ne 14, 3) := by decide +kernel
theorem dM_isLetter_11 : decode prog_3_method_19_code 11 = .ok (.iload_n 0, 1) := by decide +kernel
theorem dM_isLetter_12 : decode prog_3_method_19_code 12 = .ok (.bipush 97, 2) := by decide +kernel
theorem dM_isLetter_14 : decode prog_3_method_19_code 14 = .ok (.bipush 122, 2) := by decide +kernel
theorem dM_isLetter_16 : decode prog_3_method_19_code 16 = .ok (.invokestatic 24, 3) := by decide +kernel
theorem dM_isLetter_19 : decode prog_3_method_19_code 19 = .ok (.ifCond .eq 7, 3) := by decide +kernel
theorem dM_isLetter_22 : decode prog_3_method_19_code 22 = .ok (.iconst 1, 1) := by decide +kernel
theorem dM_isLetter_23 : decode prog_3_method_19_code 23 = .ok (.goto 4, 3) := by decide +kernel
theorem dM_isLetter_26 : decode prog_3_method_19_code 26 = .ok (.iconst 0, 1) := by decide +kernel
theorem dM_isLetter_27 : decode prog_3_method_19_code 27 = .ok (.ireturn, 1) := by decide +kernel
theorem dM_isStart_0 : decode prog_3_method_20_code 0 = .ok (.iload_n 0, 1) := by decide +kernel
theorem dM_isStart_1 : decode prog_3_method_20_code 1 = .ok (.invokestatic 74, 3) := by decide +kernel
theorem dM_isStart_4 : decode prog_3_method_20_code 4 = .ok (.ifCond .ne 80, 3) := by decide +kernel
theorem dM_isStart_7 : decode prog_3_method_20_code 7 = .ok (.iload_n 0, 1) := by decide +kernel
theorem dM_isStart_8 : decode prog_3_method_20_code 8 = .ok (.bipush 58, 2) := by decide +kernel
theorem dM_isStart_10 : decode prog_3_method_20_code 10 = .ok (.if_icmp .eq 74, 3) := by decide +kernel
theorem dM_isStart_13 : decode prog_3_method_20_code 13 = .ok (.iload_n 0, 1) := by decide +kernel
theorem dM_isStart_14 : decode prog_3_method_20_code 14 = .ok (.bipush 95, 2) := by decide +kernel
theorem dM_isStart_16 : decode prog_3_method_20_code 16 = .ok (.if_icmp .eq 68, 3) := by decide +kernel
theorem dM_isStart_19 : decode prog_3_method_20_code 19 = .ok (.iload_n 0, 1) := by decide +kernel
theorem dM_isStart_20 : decode prog_3_method_20_code 20 = .ok (.sipush 192, 3) := by decide +kernel
theorem dM_isStart_23 : decode prog_3_method_20_code 23 = .ok (.sipush 214, 3) := by decide +kernel
theorem dM_isStart_26 : decode prog_3_method_20_code 26 = .ok (.invokestatic 24, 3) := by decide +kernel
theorem dM_isStart_29 : decode prog_3_method_20_code 29 = .ok (.ifCond .ne 55, 3) := by decide +kernel
theorem dM_isStart_32 : decode prog_3_method_20_code 32 = .ok (.iload_n 0, 1) := by decide +kernel
theorem dM_isStart_33 : decode prog_3_method_20_code 33 = .ok (.sipush 216, 3) := by decide +kernel
theorem dM_isStart_36 : decode prog_3_method_20_code 36 = .ok (.sipush 246, 3) := by decide +kernel
theorem dM_isStart_39 : decode prog_3_method_20_code 39 = .ok (.invokestatic 24, 3) := by decide +kernel
theorem dM_isStart_42 : decode prog_3_method_20_code 42 = .ok (.ifCond .ne 42, 3) := by decide +kernel
theorem dM_isStart_45 : decode prog_3_method_20_code 45 = .ok (.iload_n 0, 1) := by decide +kernel
theorem dM_isStart_46 : decode prog_3_method_20_code 46 = .ok (.sipush 248, 3) := by decide +kernel
theorem dM_isStart_49 : decode prog_3_method_20_code 49 = .ok (.sipush 767, 3) := by decide +kernel
theorem dM_isStart_52 : decode prog_3_method_20_code 52 = .ok (.invokestatic 24, 3) := by decide +kernel
theorem dM_isStart_55 : decode prog_3_method_20_code 55 = .ok (.ifCond .ne 29, 3) := by decide +kernel
theorem dM_isStart_58 : decode prog_3_method_20_code 58 = .ok (.iload_n 0, 1) := by decide +kernel
theorem dM_isStart_59 : decode prog_3_method_20_code 59 = .ok (.sipush 880, 3) := by decide +kernel
theorem dM_isStart_62 : decode prog_3_method_20_code 62 = .ok (.sipush 893, 3) := by decide +kernel
theorem dM_isStart_65 : decode prog_3_method_20_code 65 = .ok (.invokestatic 24, 3) := by decide +kernel
theorem dM_isStart_68 : decode prog_3_method_20_code 68 = .ok (.ifCond .ne 16, 3) := by decide +kernel
theorem dM_isStart_71 : decode prog_3_method_20_code 71 = .ok (.iload_n 0, 1) := by decide +kernel
theorem dM_isStart_72 : decode prog_3_method_20_code 72 = .ok (.sipush 895, 3) := by decide +kernel
theorem dM_isStart_75 : decode prog_3_method_20_code 75 = .ok (.sipush 8191, 3) := by decide +kernel
theorem dM_isStart_78 : decode prog_3_method_20_code 78 = .ok (.invokestatic 24, 3) := by decide +kernel
theorem dM_isStart_81 : decode prog_3_method_20_code 81 = .ok (.ifCond .eq 7, 3) := by decide +kernel
theorem dM_isStart_84 : decode prog_3_method_20_code 84 = .ok (.iconst 1, 1) := by decide +kernel
theorem dM_isStart_85 : decode prog_3_method_20_code 85 = .ok (.goto 4, 3) := by decide +kernel
theorem dM_isStart_88 : decode prog_3_method_20_code 88 = .ok (.iconst 0, 1) := by decide +kernel
theorem dM_isStart_89 : decode prog_3_method_20_code 89 = .ok (.istore_n 1, 1) := by decide +kernel
theorem dM_isStart_90 : decode prog_3_method_20_code 90 = .ok (.iload_n 1, 1) := by decide +kernel
theorem dM_isStart_91 : decode prog_3_method_20_code 91 = .ok (.ifCond .ne 88, 3) := by decide +kernel
theorem dM_isStart_94 : decode prog_3_method_20_code 94 = .ok (.iload_n 0, 1) := by decide +kernel
theorem dM_isStart_95 : decode prog_3_method_20_code 95 = .ok (.sipush 8204, 3) := by decide +kernel
theorem dM_isStart_98 : decode prog_3_method_20_code 98 = .ok (.if_icmp .eq 81, 3) := by decide +kernel
theorem dM_isStart_101 : decode prog_3_method_20_code 101 = .ok (.iload_n 0, 1) := by decide +kernel
theorem dM_isStart_102 : decode prog_3_method_20_code 102 = .ok (.sipush 8205, 3) := by decide +kernel
theorem dM_isStart_105 : decode prog_3_method_20_code 105 = .ok (.if_icmp .eq 74, 3) := by decide +kernel
theorem dM_isStart_108 : decode prog_3_method_20_code 108 = .ok (.iload_n 0, 1) := by decide +kernel
theorem dM_isStart_109 : decode prog_3_method_20_code 109 = .ok (.sipush 8304, 3) := by decide +kernel
theorem dM_isStart_112 : decode prog_3_method_20_code 112 = .ok (.sipush 8591, 3) := by decide +kernel
theorem dM_isStart_115 : decode prog_3_method_20_code 115 = .ok (.invokestatic 24, 3) := by decide +kernel
theorem dM_isStart_118 : decode prog_3_method_20_code 118 = .ok (.ifCond .ne 61, 3) := by decide +kernel
theorem dM_isStart_121 : decode prog_3_method_20_code 121 = .ok (.iload_n 0, 1) := by decide +kernel
theorem dM_isStart_122 : decode prog_3_method_20_code 122 = .ok (.sipush 11264, 3) := by decide +kernel
theorem dM_isStart_125 : decode prog_3_method_20_code 125 = .ok (.sipush 12271, 3) := by decide +kernel
theorem dM_isStart_128 : decode prog_3_method_20_code 128 = .ok (.invokestatic 24, 3) := by decide +kernel
theorem dM_isStart_131 : decode prog_3_method_20_code 131 = .ok (.ifCond .ne 48, 3) := by decide +kernel
theorem dM_isStart_134 : decode prog_3_method_20_code 134 = .ok (.iload_n 0, 1) := by decide +kernel
theorem dM_isStart_135 : decode prog_3_method_20_code 135 = .ok (.sipush 12289, 3) := by decide +kernel
theorem dM_isStart_138 : decode prog_3_method_20_code 138 = .ok (.ldc 23, 2) := by decide +kernel
theorem dM_isStart_140 : decode prog_3_method_20_code 140 = .ok (.invokestatic 24, 3) := by decide +kernel
theorem dM_isStart_143 : decode prog_3_method_20_code 143 = .ok (.ifCond .ne 36, 3) := by decide +kernel
theorem dM_isStart_146 : decode prog_3_method_20_code 146 = .ok (.iload_n 0, 1) := by decide +kernel
theorem dM_isStart_147 : decode prog_3_method_20_code 147 = .ok (.ldc 77, 2) := by decide +kernel
theorem dM_isStart_149 : decode prog_3_method_20_code 149 = .ok (.ldc 78, 2) := by decide +kernel
theorem dM_isStart_151 : decode prog_3_method_20_code 151 = .ok (.invokestatic 24, 3) := by decide +kernel
theorem dM_isStart_154 : decode prog_3_method_20_code 154 = .ok (.ifCond .ne 25, 3) := by decide +kernel
theorem dM_isStart_157 : decode prog_3_method_20_code 157 = .ok (.iload_n 0, 1) := by decide +kernel
theorem dM_isStart_158 : decode prog_3_method_20_code 158 = .ok (.ldc 79, 2) := by decide +kernel
theorem dM_isStart_160 : decode prog_3_method_20_code 160 = .ok (.ldc 29, 2) := by decide +kernel
theorem dM_isStart_162 : decode prog_3_method_20_code 162 = .ok (.invokestatic 24, 3) := by decide +kernel
theorem dM_isStart_165 : decode prog_3_method_20_code 165 = .ok (.ifCond .ne 14, 3) := by decide +kernel
theorem dM_isStart_168 : decode prog_3_method_20_code 168 = .ok (.iload_n 0, 1) := by decide +kernel
theorem dM_isStart_169 : decode prog_3_method_20_code 169 = .ok (.ldc 30, 2) := by decide +kernel
theorem dM_isStart_171 : decode prog_3_method_20_code 171 = .ok (.ldc 80, 2) := by decide +kernel
theorem dM_isStart_173 : decode prog_3_method_20_code 173 = .ok (.invokestatic 24, 3) := by decide +kernel
theorem dM_isStart_176 : decode prog_3_method_20_code 176 = .ok (.ifCond .eq 7, 3) := by decide +kernel
theorem dM_isStart_179 : decode prog_3_method_20_code 179 = .ok (.iconst 1, 1) := by decide +kernel
theorem dM_isStart_180 : decode prog_3_method_20_code 180 = .ok (.goto 4, 3) := by decide +kernel
theorem dM_isStart_183 : decode prog_3_method_20_code 183 = .ok (.iconst 0, 1) := by decide +kernel
theorem dM_isStart_184 : decode prog_3_method_20_code 184 = .ok (.ireturn, 1) := by decide +kernel
theorem dM_isNaming_0 : decode prog_3_method_21_code 0 = .ok (.iload_n 0, 1) := by decide +kernel
theorem dM_isNaming_1 : decode prog_3_method_21_code 1 = .ok (.invokestatic 81, 3) := by decide +kernel
theorem dM_isNaming_4 : decode prog_3_method_21_code 4 = .ok (.ifCond .ne 60, 3) := by decide +kernel
theorem dM_isNaming_7 : decode prog_3_method_21_code 7 = .ok (.iload_n 0, 1) := by decide +kernel
theorem dM_isNaming_8 : decode prog_3_method_21_code 8 = .ok (.bipush 48, 2) := by decide +kernel
theorem dM_isNaming_10 : decode prog_3_method_21_code 10 = .ok (.bipush 57, 2) := by decide +kernel
theorem dM_isNaming_12 : decode prog_3_method_21_code 12 = .ok (.invokestatic 24, 3) := by decide +kernel
theorem dM_isNaming_15 : decode prog_3_method_21_code 15 = .ok (.ifCond .ne 49, 3) := by decide +kernel
theorem dM_isNaming_18 : decode prog_3_method_21_code 18 = .ok (.iload_n 0, 1) := by decide +kernel
theorem dM_isNaming_19 : decode prog_3_method_21_code 19 = .ok (.bipush 45, 2) := by decide +kernel
theorem dM_isNaming_21 : decode prog_3_method_21_code 21 = .ok (.if_icmp .eq 43, 3) := by decide +kernel
theorem dM_isNaming_24 : decode prog_3_method_21_code 24 = .ok (.iload_n 0, 1) := by decide +kernel
theorem dM_isNaming_25 : decode prog_3_method_21_code 25 = .ok (.bipush 46, 2) := by decide +kernel
theorem dM_isNaming_27 : decode prog_3_method_21_code 27 = .ok (.if_icmp .eq 37, 3) := by decide +kernel
theorem dM_isNaming_30 : decode prog_3_method_21_code 30 = .ok (.iload_n 0, 1) := by decide +kernel
theorem dM_isNaming_31 : decode prog_3_method_21_code 31 = .ok (.sipush 183, 3) := by decide +kernel
theorem dM_isNaming_34 : decode prog_3_method_21_code 34 = .ok (.if_icmp .eq 30, 3) := by decide +kernel
theorem dM_isNaming_37 : decode prog_3_method_21_code 37 = .ok (.iload_n 0, 1) := by decide +kernel
theorem dM_isNaming_38 : decode prog_3_method_21_code 38 = .ok (.sipush 768, 3) := by decide +kernel
theorem dM_isNaming_41 : decode prog_3_method_21_code 41 = .ok (.sipush 879, 3) := by decide +kernel
theorem dM_isNaming_44 : decode prog_3_method_21_code 44 = .ok (.invokestatic 24, 3) := by decide +kernel
theorem dM_isNaming_47 : decode prog_3_method_21_code 47 = .ok (.ifCond .ne 17, 3) := by decide +kernel
theorem dM_isNaming_50 : decode prog_3_method_21_code 50 = .ok (.iload_n 0, 1) := by decide +kernel
theorem dM_isNaming_51 : decode prog_3_method_21_code 51 = .ok (.sipush 8255, 3) := by decide +kernel
theorem dM_isNaming_54 : decode prog_3_method_21_code 54 = .ok (.if_icmp .eq 10, 3) := by decide +kernel
theorem dM_isNaming_57 : decode prog_3_method_21_code 57 = .ok (.iload_n 0, 1) := by decide +kernel
theorem dM_isNaming_58 : decode prog_3_method_21_code 58 = .ok (.sipush 8256, 3) := by decide +kernel
theorem dM_isNaming_61 : decode prog_3_method_21_code 61 = .ok (.if_icmp .ne 7, 3) := by decide +kernel
theorem dM_isNaming_64 : decode prog_3_method_21_code 64 = .ok (.iconst 1, 1) := by decide +kernel
theorem dM_isNaming_65 : decode prog_3_method_21_code 65 = .ok (.goto 4, 3) := by decide +kernel
theorem dM_isNaming_68 : decode prog_3_method_21_code 68 = .ok (.iconst 0, 1) := by decide +kernel
theorem dM_isNaming_69 : decode prog_3_method_21_code 69 = .ok (.ireturn, 1) := by decide +kernel
theorem dM_isPublic_0 : decode prog_3_method_22_code 0 = .ok (.iload_n 0, 1) := by decide +kernel
theorem dM_isPublic_1 : decode prog_3_method_22_code 1 = .ok (.bipush 32, 2) := by decide +kernel
theorem dM_isPublic_3 : decode prog_3_method_22_code 3 = .ok (.if_icmp .eq 73, 3) := by decide +kernel
theorem dM_isPublic_6 : decode prog_3_method_22_code 6 = .ok (.iload_n 0, 1) := by decide +kernel
theorem dM_isPublic_7 : decode prog_3_method_22_code 7 = .ok (.bipush 10, 2) := by decide +kernel
theorem dM_isPublic_9 : decode prog_3_method_22_code 9 = .ok (.if_icmp .eq 67, 3) := by decide +kernel
theorem dM_isPublic_12 : decode prog_3_method_22_code 12 = .ok (.iload_n 0, 1) := by decide +kernel
theorem dM_isPublic_13 : decode prog_3_method_22_code 13 = .ok (.bipush 33, 2) := by decide +kernel
theorem dM_isPublic_15 : decode prog_3_method_22_code 15 = .ok (.if_icmp .eq 61, 3) := by decide +kernel
theorem dM_isPublic_18 : decode prog_3_method_22_code 18 = .ok (.iload_n 0, 1) := by decide +kernel
theorem dM_isPublic_19 : decode prog_3_method_22_code 19 = .ok (.bipush 35, 2) := by decide +kernel
theorem dM_isPublic_21 : decode prog_3_method_22_code 21 = .ok (.bipush 37, 2) := by decide +kernel
theorem dM_isPublic_23 : decode prog_3_method_22_code 23 = .ok (.invokestatic 24, 3) := by decide +kernel
theorem dM_isPublic_26 : decode prog_3_method_22_code 26 = .ok (.ifCond .ne 50, 3) := by decide +kernel
theorem dM_isPublic_29 : decode prog_3_method_22_code 29 = .ok (.iload_n 0, 1) := by decide +kernel
theorem dM_isPublic_30 : decode prog_3_method_22_code 30 = .ok (.bipush 39, 2) := by decide +kernel
theorem dM_isPublic_32 : decode prog_3_method_22_code 32 = .ok (.bipush 47, 2) := by decide +kernel
theorem dM_isPublic_34 : decode prog_3_method_22_code 34 = .ok (.invokestatic 24, 3) := by decide +kernel
theorem dM_isPublic_37 : decode prog_3_method_22_code 37 = .ok (.ifCond .ne 39, 3) := by decide +kernel
theorem dM_isPublic_40 : decode prog_3_method_22_code 40 = .ok (.iload_n 0, 1) := by decide +kernel
theorem dM_isPublic_41 : decode prog_3_method_22_code 41 = .ok (.bipush 58, 2) := by decide +kernel
theorem dM_isPublic_43 : decode prog_3_method_22_code 43 = .ok (.if_icmp .eq 33, 3) := by decide +kernel
theorem dM_isPublic_46 : decode prog_3_method_22_code 46 = .ok (.iload_n 0, 1) := by decide +kernel
theorem dM_isPublic_47 : decode prog_3_method_22_code 47 = .ok (.bipush 59, 2) := by decide +kernel
theorem dM_isPublic_49 : decode prog_3_method_22_code 49 = .ok (.if_icmp .eq 27, 3) := by decide +kernel
theorem dM_isPublic_52 : decode prog_3_method_22_code 52 = .ok (.iload_n 0, 1) := by decide +kernel
theorem dM_isPublic_53 : decode prog_3_method_22_code 53 = .ok (.bipush 61, 2) := by decide +kernel
theorem dM_isPublic_55 : decode prog_3_method_22_code 55 = .ok (.if_icmp .eq 21, 3) := by decide +kernel
theorem dM_isPublic_58 : decode prog_3_method_22_code 58 = .ok (.iload_n 0, 1) := by decide +kernel
theorem dM_isPublic_59 : decode prog_3_method_22_code 59 = .ok (.bipush 63, 2) := by decide +kernel
theorem dM_isPublic_61 : decode prog_3_method_22_code 61 = .ok (.if_icmp .eq 15, 3) := by decide +kernel
theorem dM_isPublic_64 : decode prog_3_method_22_code 64 = .ok (.iload_n 0, 1) := by decide +kernel
theorem dM_isPublic_65 : decode prog_3_method_22_code 65 = .ok (.bipush 64, 2) := by decide +kernel
theorem dM_isPublic_67 : decode prog_3_method_22_code 67 = .ok (.if_icmp .eq 9, 3) := by decide +kernel
theorem dM_isPublic_70 : decode prog_3_method_22_code 70 = .ok (.iload_n 0, 1) := by decide +kernel
theorem dM_isPublic_71 : decode prog_3_method_22_code 71 = .ok (.bipush 95, 2) := by decide +kernel
theorem dM_isPublic_73 : decode prog_3_method_22_code 73 = .ok (.if_icmp .ne 7, 3) := by decide +kernel
theorem dM_isPublic_76 : decode prog_3_method_22_code 76 = .ok (.iconst 1, 1) := by decide +kernel
theorem dM_isPublic_77 : decode prog_3_method_22_code 77 = .ok (.goto 4, 3) := by decide +kernel
theorem dM_isPublic_80 : decode prog_3_method_22_code 80 = .ok (.iconst 0, 1) := by decide +kernel
theorem dM_isPublic_81 : decode prog_3_method_22_code 81 = .ok (.istore_n 1, 1) := by decide +kernel
theorem dM_isPublic_82 : decode prog_3_method_22_code 82 = .ok (.iload_n 1, 1) := by decide +kernel
theorem dM_isPublic_83 : decode prog_3_method_22_code 83 = .ok (.ifCond .ne 21, 3) := by decide +kernel
theorem dM_isPublic_86 : decode prog_3_method_22_code 86 = .ok (.iload_n 0, 1) := by decide +kernel
theorem dM_isPublic_87 : decode prog_3_method_22_code 87 = .ok (.invokestatic 74, 3) := by decide +kernel
theorem dM_isPublic_90 : decode prog_3_method_22_code 90 = .ok (.ifCond .ne 14, 3) := by decide +kernel
theorem dM_isPublic_93 : decode prog_3_method_22_code 93 = .ok (.iload_n 0, 1) := by decide +kernel
theorem dM_isPublic_94 : decode prog_3_method_22_code 94 = .ok (.bipush 48, 2) := by decide +kernel
theorem dM_isPublic_96 : decode prog_3_method_22_code 96 = .ok (.bipush 57, 2) := by decide +kernel
theorem dM_isPublic_98 : decode prog_3_method_22_code 98 = .ok (.invokestatic 24, 3) := by decide +kernel
theorem dM_isPublic_101 : decode prog_3_method_22_code 101 = .ok (.ifCond .eq 7, 3) := by decide +kernel
theorem dM_isPublic_104 : decode prog_3_method_22_code 104 = .ok (.iconst 1, 1) := by decide +kernel
theorem dM_isPublic_105 : decode prog_3_method_22_code 105 = .ok (.goto 4, 3) := by decide +kernel
theorem dM_isPublic_108 : decode prog_3_method_22_code 108 = .ok (.iconst 0, 1) := by decide +kernel
theorem dM_isPublic_109 : decode prog_3_method_22_code 109 = .ok (.ireturn, 1) := by decide +kernel
theorem dM_run_0 : decode prog_3_method_25_code 0 = .ok (.aload_n 0, 1) := by decide +kernel
theorem dM_run_1 : decode prog_3_method_25_code 1 = .ok (.iconst 0, 1) := by decide +kernel
theorem dM_run_2 : decode prog_3_method_25_code 2 = .ok (.putfield 19, 3) := by decide +kernel
theorem dM_run_5 : decode prog_3_method_25_code 5 = .ok (.iconst 0, 1) := by decide +kernel
theorem dM_run_6 : decode prog_3_method_25_code 6 = .ok (.istore_n 3, 1) := by decide +kernel
theorem dM_run_7 : decode prog_3_method_25_code 7 = .ok (.iload_n 1, 1) := by decide +kernel
theorem dM_run_8 : decode prog_3_method_25_code 8 = .ok (.ifCond .lt 44, 3) := by decide +kernel
theorem dM_run_11 : decode prog_3_method_25_code 11 = .ok (.iload_n 1, 1) := by decide +kernel
theorem dM_run_12 : decode prog_3_method_25_code 12 = .ok (.aload_n 0, 1) := by decide +kernel
theorem dM_run_13 : decode prog_3_method_25_code 13 = .ok (.getfield 68, 3) := by decide +kernel
theorem dM_run_16 : decode prog_3_method_25_code 16 = .ok (.if_icmp .ge 36, 3) := by decide +kernel
theorem dM_run_19 : decode prog_3_method_25_code 19 = .ok (.iload_n 1, 1) := by decide +kernel
theorem dM_run_20 : decode prog_3_method_25_code 20 = .ok (.iload_n 3, 1) := by decide +kernel
theorem dM_run_21 : decode prog_3_method_25_code 21 = .ok (.iadd, 1) := by decide +kernel
theorem dM_run_22 : decode prog_3_method_25_code 22 = .ok (.aload_n 0, 1) := by decide +kernel
theorem dM_run_23 : decode prog_3_method_25_code 23 = .ok (.getfield 68, 3) := by decide +kernel
theorem dM_run_26 : decode prog_3_method_25_code 26 = .ok (.if_icmp .ge 26, 3) := by decide +kernel
theorem dM_run_29 : decode prog_3_method_25_code 29 = .ok (.aload_n 0, 1) := by decide +kernel
theorem dM_run_30 : decode prog_3_method_25_code 30 = .ok (.getfield 13, 3) := by decide +kernel
theorem dM_run_33 : decode prog_3_method_25_code 33 = .ok (.iload_n 1, 1) := by decide +kernel
theorem dM_run_34 : decode prog_3_method_25_code 34 = .ok (.iload_n 3, 1) := by decide +kernel
theorem dM_run_35 : decode prog_3_method_25_code 35 = .ok (.iadd, 1) := by decide +kernel
theorem dM_run_36 : decode prog_3_method_25_code 36 = .ok (.iaload, 1) := by decide +kernel
theorem dM_run_37 : decode prog_3_method_25_code 37 = .ok (.invokestatic 90, 3) := by decide +kernel
theorem dM_run_40 : decode prog_3_method_25_code 40 = .ok (.iload_n 2, 1) := by decide +kernel
theorem dM_run_41 : decode prog_3_method_25_code 41 = .ok (.iand, 1) := by decide +kernel
theorem dM_run_42 : decode prog_3_method_25_code 42 = .ok (.ifCond .eq 10, 3) := by decide +kernel
theorem dM_run_45 : decode prog_3_method_25_code 45 = .ok (.iload_n 3, 1) := by decide +kernel
theorem dM_run_46 : decode prog_3_method_25_code 46 = .ok (.iconst 1, 1) := by decide +kernel
theorem dM_run_47 : decode prog_3_method_25_code 47 = .ok (.iadd, 1) := by decide +kernel
theorem dM_run_48 : decode prog_3_method_25_code 48 = .ok (.istore_n 3, 1) := by decide +kernel
theorem dM_run_49 : decode prog_3_method_25_code 49 = .ok (.goto (-30), 3) := by decide +kernel
theorem dM_run_52 : decode prog_3_method_25_code 52 = .ok (.iload_n 3, 1) := by decide +kernel
theorem dM_run_53 : decode prog_3_method_25_code 53 = .ok (.ireturn, 1) := by decide +kernel
theorem dM_write_0 : decode prog_3_method_29_code 0 = .ok (.aload_n 0, 1) := by decide +kernel
theorem dM_write_1 : decode prog_3_method_29_code 1 = .ok (.iconst 0, 1) := by decide +kernel
theorem dM_write_2 : decode prog_3_method_29_code 2 = .ok (.putfield 19, 3) := by decide +kernel
theorem dM_write_5 : decode prog_3_method_29_code 5 = .ok (.iload_n 1, 1) := by decide +kernel
theorem dM_write_6 : decode prog_3_method_29_code 6 = .ok (.ifCond .lt 8, 3) := by decide +kernel
theorem dM_write_9 : decode prog_3_method_29_code 9 = .ok (.iload_n 1, 1) := by decide +kernel
theorem dM_write_10 : decode prog_3_method_29_code 10 = .ok (.iconst 3, 1) := by decide +kernel
theorem dM_write_11 : decode prog_3_method_29_code 11 = .ok (.if_icmp .le 5, 3) := by decide +kernel
theorem dM_write_14 : decode prog_3_method_29_code 14 = .ok (.iconst (-1), 1) := by decide +kernel
theorem dM_write_15 : decode prog_3_method_29_code 15 = .ok (.ireturn, 1) := by decide +kernel
theorem dM_write_16 : decode prog_3_method_29_code 16 = .ok (.aload_n 0, 1) := by decide +kernel
theorem dM_write_17 : decode prog_3_method_29_code 17 = .ok (.iconst 0, 1) := by decide +kernel
theorem dM_write_18 : decode prog_3_method_29_code 18 = .ok (.putfield 93, 3) := by decide +kernel
theorem dM_write_21 : decode prog_3_method_29_code 21 = .ok (.iload_n 1, 1) := by decide +kernel
theorem dM_write_22 : decode prog_3_method_29_code 22 = .ok (.iconst 1, 1) := by decide +kernel
theorem dM_write_23 : decode prog_3_method_29_code 23 = .ok (.if_icmp .eq 8, 3) := by decide +kernel
theorem dM_write_26 : decode prog_3_method_29_code 26 = .ok (.iload_n 1, 1) := by decide +kernel
theorem dM_write_27 : decode prog_3_method_29_code 27 = .ok (.iconst 2, 1) := by decide +kernel
theorem dM_write_28 : decode prog_3_method_29_code 28 = .ok (.if_icmp .ne 22, 3) := by decide +kernel
theorem dM_write_31 : decode prog_3_method_29_code 31 = .ok (.aload_n 0, 1) := by decide +kernel
theorem dM_write_32 : decode prog_3_method_29_code 32 = .ok (.ldc 101, 2) := by decide +kernel
theorem dM_write_34 : decode prog_3_method_29_code 34 = .ok (.iload_n 1, 1) := by decide +kernel
theorem dM_write_35 : decode prog_3_method_29_code 35 = .ok (.iconst 1, 1) := by decide +kernel
theorem dM_write_36 : decode prog_3_method_29_code 36 = .ok (.if_icmp .ne 7, 3) := by decide +kernel
theorem dM_write_39 : decode prog_3_method_29_code 39 = .ok (.iconst 1, 1) := by decide +kernel
theorem dM_write_40 : decode prog_3_method_29_code 40 = .ok (.goto 4, 3) := by decide +kernel
theorem dM_write_43 : decode prog_3_method_29_code 43 = .ok (.iconst 0, 1) := by decide +kernel
theorem dM_write_44 : decode prog_3_method_29_code 44 = .ok (.invokevirtual 102, 3) := by decide +kernel
theorem dM_write_47 : decode prog_3_method_29_code 47 = .ok (.goto 14, 3) := by decide +kernel
theorem dM_write_50 : decode prog_3_method_29_code 50 = .ok (.iload_n 1, 1) := by decide +kernel
theorem dM_write_51 : decode prog_3_method_29_code 51 = .ok (.iconst 3, 1) := by decide +kernel
theorem dM_write_52 : decode prog_3_method_29_code 52 = .ok (.if_icmp .ne 9, 3) := by decide +kernel
theorem dM_write_55 : decode prog_3_method_29_code 55 = .ok (.aload_n 0, 1) := by decide +kernel
theorem dM_write_56 : decode prog_3_method_29_code 56 = .ok (.ldc 101, 2) := by decide +kernel
theorem dM_write_58 : decode prog_3_method_29_code 58 = .ok (.invokevirtual 106, 3) := by decide +kernel
theorem dM_write_61 : decode prog_3_method_29_code 61 = .ok (.iconst 0, 1) := by decide +kernel
theorem dM_write_62 : decode prog_3_method_29_code 62 = .ok (.istore_n 2, 1) := by decide +kernel
theorem dM_write_63 : decode prog_3_method_29_code 63 = .ok (.iload_n 2, 1) := by decide +kernel
theorem dM_write_64 : decode prog_3_method_29_code 64 = .ok (.aload_n 0, 1) := by decide +kernel
theorem dM_write_65 : decode prog_3_method_29_code 65 = .ok (.getfield 68, 3) := by decide +kernel
theorem dM_write_68 : decode prog_3_method_29_code 68 = .ok (.if_icmp .ge 107, 3) := by decide +kernel
theorem dM_write_71 : decode prog_3_method_29_code 71 = .ok (.aload_n 0, 1) := by decide +kernel
theorem dM_write_72 : decode prog_3_method_29_code 72 = .ok (.getfield 13, 3) := by decide +kernel
theorem dM_write_75 : decode prog_3_method_29_code 75 = .ok (.iload_n 2, 1) := by decide +kernel
theorem dM_write_76 : decode prog_3_method_29_code 76 = .ok (.iaload, 1) := by decide +kernel
theorem dM_write_77 : decode prog_3_method_29_code 77 = .ok (.istore_n 3, 1) := by decide +kernel
theorem dM_write_78 : decode prog_3_method_29_code 78 = .ok (.iload_n 1, 1) := by decide +kernel
theorem dM_write_79 : decode prog_3_method_29_code 79 = .ok (.ifCond .eq 8, 3) := by decide +kernel
theorem dM_write_82 : decode prog_3_method_29_code 82 = .ok (.iload_n 1, 1) := by decide +kernel
theorem dM_write_83 : decode prog_3_method_29_code 83 = .ok (.iconst 3, 1) := by decide +kernel
theorem dM_write_84 : decode prog_3_method_29_code 84 = .ok (.if_icmp .ne 11, 3) := by decide +kernel
theorem dM_write_87 : decode prog_3_method_29_code 87 = .ok (.aload_n 0, 1) := by decide +kernel
theorem dM_write_88 : decode prog_3_method_29_code 88 = .ok (.iload_n 3, 1) := by decide +kernel
theorem dM_write_89 : decode prog_3_method_29_code 89 = .ok (.invokevirtual 106, 3) := by decide +kernel
theorem dM_write_92 : decode prog_3_method_29_code 92 = .ok (.goto 77, 3) := by decide +kernel
theorem dM_write_95 : decode prog_3_method_29_code 95 = .ok (.iload_n 3, 1) := by decide +kernel
theorem dM_write_96 : decode prog_3_method_29_code 96 = .ok (.ldc 30, 2) := by decide +kernel
theorem dM_write_98 : decode prog_3_method_29_code 98 = .ok (.if_icmp .ge 21, 3) := by decide +kernel
theorem dM_write_101 : decode prog_3_method_29_code 101 = .ok (.aload_n 0, 1) := by decide +kernel
theorem dM_write_102 : decode prog_3_method_29_code 102 = .ok (.iload_n 3, 1) := by decide +kernel
theorem dM_write_103 : decode prog_3_method_29_code 103 = .ok (.iload_n 1, 1) := by decide +kernel
theorem dM_write_104 : decode prog_3_method_29_code 104 = .ok (.iconst 1, 1) := by decide +kernel
theorem dM_write_105 : decode prog_3_method_29_code 105 = .ok (.if_icmp .ne 7, 3) := by decide +kernel
theorem dM_write_108 : decode prog_3_method_29_code 108 = .ok (.iconst 1, 1) := by decide +kernel
theorem dM_write_109 : decode prog_3_method_29_code 109 = .ok (.goto 4, 3) := by decide +kernel
theorem dM_write_112 : decode prog_3_method_29_code 112 = .ok (.iconst 0, 1) := by decide +kernel
theorem dM_write_113 : decode prog_3_method_29_code 113 = .ok (.invokevirtual 102, 3) := by decide +kernel
theorem dM_write_116 : decode prog_3_method_29_code 116 = .ok (.goto 53, 3) := by decide +kernel
theorem dM_write_119 : decode prog_3_method_29_code 119 = .ok (.aload_n 0, 1) := by decide +kernel
theorem dM_write_120 : decode prog_3_method_29_code 120 = .ok (.ldc 50, 2) := by decide +kernel
theorem dM_write_122 : decode prog_3_method_29_code 122 = .ok (.iload_n 3, 1) := by decide +kernel
theorem dM_write_123 : decode prog_3_method_29_code 123 = .ok (.ldc 30, 2) := by decide +kernel
theorem dM_write_125 : decode prog_3_method_29_code 125 = .ok (.isub, 1) := by decide +kernel
theorem dM_write_126 : decode prog_3_method_29_code 126 = .ok (.sipush 1024, 3) := by decide +kernel
theorem dM_write_129 : decode prog_3_method_29_code 129 = .ok (.idiv, 1) := by decide +kernel
theorem dM_write_130 : decode prog_3_method_29_code 130 = .ok (.iadd, 1) := by decide +kernel
theorem dM_write_131 : decode prog_3_method_29_code 131 = .ok (.iload_n 1, 1) := by decide +kernel
theorem dM_write_132 : decode prog_3_method_29_code 132 = .ok (.iconst 1, 1) := by decide +kernel
theorem dM_write_133 : decode prog_3_method_29_code 133 = .ok (.if_icmp .ne 7, 3) := by decide +kernel
theorem dM_write_136 : decode prog_3_method_29_code 136 = .ok (.iconst 1, 1) := by decide +kernel
theorem dM_write_137 : decode prog_3_method_29_code 137 = .ok (.goto 4, 3) := by decide +kernel
theorem dM_write_140 : decode prog_3_method_29_code 140 = .ok (.iconst 0, 1) := by decide +kernel
theorem dM_write_141 : decode prog_3_method_29_code 141 = .ok (.invokevirtual 102, 3) := by decide +kernel
theorem dM_write_144 : decode prog_3_method_29_code 144 = .ok (.aload_n 0, 1) := by decide +kernel
theorem dM_write_145 : decode prog_3_method_29_code 145 = .ok (.ldc 52, 2) := by decide +kernel
theorem dM_write_147 : decode prog_3_method_29_code 147 = .ok (.iload_n 3, 1) := by decide +kernel
theorem dM_write_148 : decode prog_3_method_29_code 148 = .ok (.ldc 30, 2) := by decide +kernel
theorem dM_write_150 : decode prog_3_method_29_code 150 = .ok (.isub, 1) := by decide +kernel
theorem dM_write_151 : decode prog_3_method_29_code 151 = .ok (.sipush 1024, 3) := by decide +kernel
theorem dM_write_154 : decode prog_3_method_29_code 154 = .ok (.irem, 1) := by decide +kernel
theorem dM_write_155 : decode prog_3_method_29_code 155 = .ok (.iadd, 1) := by decide +kernel
theorem dM_write_156 : decode prog_3_method_29_code 156 = .ok (.iload_n 1, 1) := by decide +kernel
theorem dM_write_157 : decode prog_3_method_29_code 157 = .ok (.iconst 1, 1) := by decide +kernel
theorem dM_write_158 : decode prog_3_method_29_code 158 = .ok (.if_icmp .ne 7, 3) := by decide +kernel
theorem dM_write_161 : decode prog_3_method_29_code 161 = .ok (.iconst 1, 1) := by decide +kernel
theorem dM_write_162 : decode prog_3_method_29_code 162 = .ok (.goto 4, 3) := by decide +kernel
theorem dM_write_165 : decode prog_3_method_29_code 165 = .ok (.iconst 0, 1) := by decide +kernel
theorem dM_write_166 : decode prog_3_method_29_code 166 = .ok (.invokevirtual 102, 3) := by decide +kernel
theorem dM_write_169 : decode prog_3_method_29_code 169 = .ok (.iinc 2 1, 3) := by decide +kernel
theorem dM_write_172 : decode prog_3_method_29_code 172 = .ok (.goto (-109), 3) := by decide +kernel
theorem dM_write_175 : decode prog_3_method_29_code 175 = .ok (.aload_n 0, 1) := by decide +kernel
theorem dM_write_176 : decode prog_3_method_29_code 176 = .ok (.getfield 93, 3) := by decide +kernel
theorem dM_write_179 : decode prog_3_method_29_code 179 = .ok (.sipush 4096, 3) := by decide +kernel
theorem dM_write_182 : decode prog_3_method_29_code 182 = .ok (.if_icmp .le 5, 3) := by decide +kernel
theorem dM_write_185 : decode prog_3_method_29_code 185 = .ok (.iconst (-1), 1) := by decide +kernel
theorem dM_write_186 : decode prog_3_method_29_code 186 = .ok (.ireturn, 1) := by decide +kernel
theorem dM_write_187 : decode prog_3_method_29_code 187 = .ok (.iconst 0, 1) := by decide +kernel
theorem dM_write_188 : decode prog_3_method_29_code 188 = .ok (.istore_n 2, 1) := by decide +kernel
theorem dM_write_189 : decode prog_3_method_29_code 189 = .ok (.iload_n 2, 1) := by decide +kernel
theorem dM_write_190 : decode prog_3_method_29_code 190 = .ok (.aload_n 0, 1) := by decide +kernel
theorem dM_write_191 : decode prog_3_method_29_code 191 = .ok (.getfield 93, 3) := by decide +kernel
theorem dM_write_194 : decode prog_3_method_29_code 194 = .ok (.if_icmp .ge 21, 3) := by decide +kernel
theorem dM_write_197 : decode prog_3_method_29_code 197 = .ok (.aload_n 0, 1) := by decide +kernel
theorem dM_write_198 : decode prog_3_method_29_code 198 = .ok (.getfield 7, 3) := by decide +kernel
theorem dM_write_201 : decode prog_3_method_29_code 201 = .ok (.iload_n 2, 1) := by decide +kernel
theorem dM_write_202 : decode prog_3_method_29_code 202 = .ok (.aload_n 0, 1) := by decide +kernel
theorem dM_write_203 : decode prog_3_method_29_code 203 = .ok (.getfield 16, 3) := by decide +kernel
theorem dM_write_206 : decode prog_3_method_29_code 206 = .ok (.iload_n 2, 1) := by decide +kernel
theorem dM_write_207 : decode prog_3_method_29_code 207 = .ok (.iaload, 1) := by decide +kernel
theorem dM_write_208 : decode prog_3_method_29_code 208 = .ok (.iastore, 1) := by decide +kernel
theorem dM_write_209 : decode prog_3_method_29_code 209 = .ok (.iinc 2 1, 3) := by decide +kernel
theorem dM_write_212 : decode prog_3_method_29_code 212 = .ok (.goto (-23), 3) := by decide +kernel
theorem dM_write_215 : decode prog_3_method_29_code 215 = .ok (.aload_n 0, 1) := by decide +kernel
theorem dM_write_216 : decode prog_3_method_29_code 216 = .ok (.aload_n 0, 1) := by decide +kernel
theorem dM_write_217 : decode prog_3_method_29_code 217 = .ok (.getfield 93, 3) := by decide +kernel
theorem dM_write_220 : decode prog_3_method_29_code 220 = .ok (.putfield 32, 3) := by decide +kernel
theorem dM_write_223 : decode prog_3_method_29_code 223 = .ok (.aload_n 0, 1) := by decide +kernel
theorem dM_write_224 : decode prog_3_method_29_code 224 = .ok (.getfield 93, 3) := by decide +kernel
theorem dM_write_227 : decode prog_3_method_29_code 227 = .ok (.ireturn, 1) := by decide +kernel
theorem dM_pair_0 : decode prog_3_method_27_code 0 = .ok (.aload_n 0, 1) := by decide +kernel
theorem dM_pair_1 : decode prog_3_method_27_code 1 = .ok (.iload_n 2, 1) := by decide +kernel
theorem dM_pair_2 : decode prog_3_method_27_code 2 = .ok (.ifCond .eq 11, 3) := by decide +kernel
theorem dM_pair_5 : decode prog_3_method_27_code 5 = .ok (.iload_n 1, 1) := by decide +kernel
theorem dM_pair_6 : decode prog_3_method_27_code 6 = .ok (.sipush 256, 3) := by decide +kernel
theorem dM_pair_9 : decode prog_3_method_27_code 9 = .ok (.idiv, 1) := by decide +kernel
theorem dM_pair_10 : decode prog_3_method_27_code 10 = .ok (.goto 8, 3) := by decide +kernel
theorem dM_pair_13 : decode prog_3_method_27_code 13 = .ok (.iload_n 1, 1) := by decide +kernel
theorem dM_pair_14 : decode prog_3_method_27_code 14 = .ok (.sipush 256, 3) := by decide +kernel
theorem dM_pair_17 : decode prog_3_method_27_code 17 = .ok (.irem, 1) := by decide +kernel
theorem dM_pair_18 : decode prog_3_method_27_code 18 = .ok (.invokevirtual 96, 3) := by decide +kernel
theorem dM_pair_21 : decode prog_3_method_27_code 21 = .ok (.aload_n 0, 1) := by decide +kernel
theorem dM_pair_22 : decode prog_3_method_27_code 22 = .ok (.iload_n 2, 1) := by decide +kernel
theorem dM_pair_23 : decode prog_3_method_27_code 23 = .ok (.ifCond .eq 11, 3) := by decide +kernel
theorem dM_pair_26 : decode prog_3_method_27_code 26 = .ok (.iload_n 1, 1) := by decide +kernel
theorem dM_pair_27 : decode prog_3_method_27_code 27 = .ok (.sipush 256, 3) := by decide +kernel
theorem dM_pair_30 : decode prog_3_method_27_code 30 = .ok (.irem, 1) := by decide +kernel
theorem dM_pair_31 : decode prog_3_method_27_code 31 = .ok (.goto 8, 3) := by decide +kernel
theorem dM_pair_34 : decode prog_3_method_27_code 34 = .ok (.iload_n 1, 1) := by decide +kernel
theorem dM_pair_35 : decode prog_3_method_27_code 35 = .ok (.sipush 256, 3) := by decide +kernel
theorem dM_pair_38 : decode prog_3_method_27_code 38 = .ok (.idiv, 1) := by decide +kernel
theorem dM_pair_39 : decode prog_3_method_27_code 39 = .ok (.invokevirtual 96, 3) := by decide +kernel
theorem dM_pair_42 : decode prog_3_method_27_code 42 = .ok (.return_, 1) := by decide +kernel
theorem dM_put_0 : decode prog_3_method_26_code 0 = .ok (.aload_n 0, 1) := by decide +kernel
theorem dM_put_1 : decode prog_3_method_26_code 1 = .ok (.getfield 93, 3) := by decide +kernel
theorem dM_put_4 : decode prog_3_method_26_code 4 = .ok (.sipush 4100, 3) := by decide +kernel
theorem dM_put_7 : decode prog_3_method_26_code 7 = .ok (.if_icmp .ge 13, 3) := by decide +kernel
theorem dM_put_10 : decode prog_3_method_26_code 10 = .ok (.aload_n 0, 1) := by decide +kernel
theorem dM_put_11 : decode prog_3_method_26_code 11 = .ok (.getfield 16, 3) := by decide +kernel
theorem dM_put_14 : decode prog_3_method_26_code 14 = .ok (.aload_n 0, 1) := by decide +kernel
theorem dM_put_15 : decode prog_3_method_26_code 15 = .ok (.getfield 93, 3) := by decide +kernel
theorem dM_put_18 : decode prog_3_method_26_code 18 = .ok (.iload_n 1, 1) := by decide +kernel
theorem dM_put_19 : decode prog_3_method_26_code 19 = .ok (.iastore, 1) := by decide +kernel
theorem dM_put_20 : decode prog_3_method_26_code 20 = .ok (.aload_n 0, 1) := by decide +kernel
theorem dM_put_21 : decode prog_3_method_26_code 21 = .ok (.aload_n 0, 1) := by decide +kernel
theorem dM_put_22 : decode prog_3_method_26_code 22 = .ok (.getfield 93, 3) := by decide +kernel
theorem dM_put_25 : decode prog_3_method_26_code 25 = .ok (.iconst 1, 1) := by decide +kernel
theorem dM_put_26 : decode prog_3_method_26_code 26 = .ok (.iadd, 1) := by decide +kernel
theorem dM_put_27 : decode prog_3_method_26_code 27 = .ok (.putfield 93, 3) := by decide +kernel
theorem dM_put_30 : decode prog_3_method_26_code 30 = .ok (.return_, 1) := by decide +kernel
theorem dM_writeEight_0 : decode prog_3_method_28_code 0 = .ok (.iload_n 1, 1) := by decide +kernel
theorem dM_writeEight_1 : decode prog_3_method_28_code 1 = .ok (.invokestatic 42, 3) := by decide +kernel
theorem dM_writeEight_4 : decode prog_3_method_28_code 4 = .ok (.istore_n 2, 1) := by decide +kernel
theorem dM_writeEight_5 : decode prog_3_method_28_code 5 = .ok (.iload_n 2, 1) := by decide +kernel
theorem dM_writeEight_6 : decode prog_3_method_28_code 6 = .ok (.iconst 1, 1) := by decide +kernel
theorem dM_writeEight_7 : decode prog_3_method_28_code 7 = .ok (.if_icmp .ne 9, 3) := by decide +kernel
theorem dM_writeEight_10 : decode prog_3_method_28_code 10 = .ok (.aload_n 0, 1) := by decide +kernel
theorem dM_writeEight_11 : decode prog_3_method_28_code 11 = .ok (.iload_n 1, 1) := by decide +kernel
theorem dM_writeEight_12 : decode prog_3_method_28_code 12 = .ok (.invokevirtual 96, 3) := by decide +kernel
theorem dM_writeEight_15 : decode prog_3_method_28_code 15 = .ok (.return_, 1) := by decide +kernel
theorem dM_writeEight_16 : decode prog_3_method_28_code 16 = .ok (.iload_n 2, 1) := by decide +kernel
theorem dM_writeEight_17 : decode prog_3_method_28_code 17 = .ok (.iconst 2, 1) := by decide +kernel
theorem dM_writeEight_18 : decode prog_3_method_28_code 18 = .ok (.if_icmp .ne 8, 3) := by decide +kernel
theorem dM_writeEight_21 : decode prog_3_method_28_code 21 = .ok (.bipush 64, 2) := by decide +kernel
theorem dM_writeEight_23 : decode prog_3_method_28_code 23 = .ok (.goto 16, 3) := by decide +kernel
theorem dM_writeEight_26 : decode prog_3_method_28_code 26 = .ok (.iload_n 2, 1) := by decide +kernel
theorem dM_writeEight_27 : decode prog_3_method_28_code 27 = .ok (.iconst 3, 1) := by decide +kernel
theorem dM_writeEight_28 : decode prog_3_method_28_code 28 = .ok (.if_icmp .ne 9, 3) := by decide +kernel
theorem dM_writeEight_31 : decode prog_3_method_28_code 31 = .ok (.sipush 4096, 3) := by decide +kernel
theorem dM_writeEight_34 : decode prog_3_method_28_code 34 = .ok (.goto 5, 3) := by decide +kernel
theorem dM_writeEight_37 : decode prog_3_method_28_code 37 = .ok (.ldc 100, 2) := by decide +kernel
theorem dM_writeEight_39 : decode prog_3_method_28_code 39 = .ok (.istore_n 3, 1) := by decide +kernel
theorem dM_writeEight_40 : decode prog_3_method_28_code 40 = .ok (.aload_n 0, 1) := by decide +kernel
theorem dM_writeEight_41 : decode prog_3_method_28_code 41 = .ok (.iload_n 2, 1) := by decide +kernel
theorem dM_writeEight_42 : decode prog_3_method_28_code 42 = .ok (.iconst 2, 1) := by decide +kernel
theorem dM_writeEight_43 : decode prog_3_method_28_code 43 = .ok (.if_icmp .ne 9, 3) := by decide +kernel
theorem dM_writeEight_46 : decode prog_3_method_28_code 46 = .ok (.sipush 192, 3) := by decide +kernel
theorem dM_writeEight_49 : decode prog_3_method_28_code 49 = .ok (.goto 17, 3) := by decide +kernel
theorem dM_writeEight_52 : decode prog_3_method_28_code 52 = .ok (.iload_n 2, 1) := by decide +kernel
theorem dM_writeEight_53 : decode prog_3_method_28_code 53 = .ok (.iconst 3, 1) := by decide +kernel
theorem dM_writeEight_54 : decode prog_3_method_28_code 54 = .ok (.if_icmp .ne 9, 3) := by decide +kernel
theorem dM_writeEight_57 : decode prog_3_method_28_code 57 = .ok (.sipush 224, 3) := by decide +kernel
theorem dM_writeEight_60 : decode prog_3_method_28_code 60 = .ok (.goto 6, 3) := by decide +kernel
theorem dM_writeEight_63 : decode prog_3_method_28_code 63 = .ok (.sipush 240, 3) := by decide +kernel
theorem dM_writeEight_66 : decode prog_3_method_28_code 66 = .ok (.iload_n 1, 1) := by decide +kernel
theorem dM_writeEight_67 : decode prog_3_method_28_code 67 = .ok (.iload_n 3, 1) := by decide +kernel
theorem dM_writeEight_68 : decode prog_3_method_28_code 68 = .ok (.idiv, 1) := by decide +kernel
theorem dM_writeEight_69 : decode prog_3_method_28_code 69 = .ok (.iadd, 1) := by decide +kernel
theorem dM_writeEight_70 : decode prog_3_method_28_code 70 = .ok (.invokevirtual 96, 3) := by decide +kernel
theorem dM_writeEight_73 : decode prog_3_method_28_code 73 = .ok (.iload_n 3, 1) := by decide +kernel
theorem dM_writeEight_74 : decode prog_3_method_28_code 74 = .ok (.iconst 1, 1) := by decide +kernel
theorem dM_writeEight_75 : decode prog_3_method_28_code 75 = .ok (.if_icmp .le 25, 3) := by decide +kernel
theorem dM_writeEight_78 : decode prog_3_method_28_code 78 = .ok (.iload_n 3, 1) := by decide +kernel
theorem dM_writeEight_79 : decode prog_3_method_28_code 79 = .ok (.bipush 64, 2) := by decide +kernel
theorem dM_writeEight_81 : decode prog_3_method_28_code 81 = .ok (.idiv, 1) := by decide +kernel
theorem dM_writeEight_82 : decode prog_3_method_28_code 82 = .ok (.istore_n 3, 1) := by decide +kernel
theorem dM_writeEight_83 : decode prog_3_method_28_code 83 = .ok (.aload_n 0, 1) := by decide +kernel
theorem dM_writeEight_84 : decode prog_3_method_28_code 84 = .ok (.sipush 128, 3) := by decide +kernel
theorem dM_writeEight_87 : decode prog_3_method_28_code 87 = .ok (.iload_n 1, 1) := by decide +kernel
theorem dM_writeEight_88 : decode prog_3_method_28_code 88 = .ok (.iload_n 3, 1) := by decide +kernel
theorem dM_writeEight_89 : decode prog_3_method_28_code 89 = .ok (.idiv, 1) := by decide +kernel
theorem dM_writeEight_90 : decode prog_3_method_28_code 90 = .ok (.bipush 64, 2) := by decide +kernel
theorem dM_writeEight_92 : decode prog_3_method_28_code 92 = .ok (.irem, 1) := by decide +kernel
theorem dM_writeEight_93 : decode prog_3_method_28_code 93 = .ok (.iadd, 1) := by decide +kernel
theorem dM_writeEight_94 : decode prog_3_method_28_code 94 = .ok (.invokevirtual 96, 3) := by decide +kernel
theorem dM_writeEight_97 : decode prog_3_method_28_code 97 = .ok (.goto (-24), 3) := by decide +kernel
theorem dM_writeEight_100 : decode prog_3_method_28_code 100 = .ok (.return_, 1) := by decide +kernel
theorem dM_add_0 : decode prog_3_method_30_code 0 = .ok (.aload_n 0, 1) := by decide +kernel
theorem dM_add_1 : decode prog_3_method_30_code 1 = .ok (.iconst 0, 1) := by decide +kernel
theorem dM_add_2 : decode prog_3_method_30_code 2 = .ok (.putfield 19, 3) := by decide +kernel
theorem dM_add_5 : decode prog_3_method_30_code 5 = .ok (.iload_n 1, 1) := by decide +kernel
theorem dM_add_6 : decode prog_3_method_30_code 6 = .ok (.invokestatic 64, 3) := by decide +kernel
theorem dM_add_9 : decode prog_3_method_30_code 9 = .ok (.ifCond .eq 19, 3) := by decide +kernel
theorem dM_add_12 : decode prog_3_method_30_code 12 = .ok (.iload_n 1, 1) := by decide +kernel
theorem dM_add_13 : decode prog_3_method_30_code 13 = .ok (.bipush 13, 2) := by decide +kernel
theorem dM_add_15 : decode prog_3_method_30_code 15 = .ok (.if_icmp .eq 13, 3) := by decide +kernel
theorem dM_add_18 : decode prog_3_method_30_code 18 = .ok (.aload_n 0, 1) := by decide +kernel
theorem dM_add_19 : decode prog_3_method_30_code 19 = .ok (.getfield 68, 3) := by decide +kernel
theorem dM_add_22 : decode prog_3_method_30_code 22 = .ok (.sipush 4096, 3) := by decide +kernel
theorem dM_add_25 : decode prog_3_method_30_code 25 = .ok (.if_icmp .ne 5, 3) := by decide +kernel
theorem dM_add_28 : decode prog_3_method_30_code 28 = .ok (.iconst (-1), 1) := by decide +kernel
theorem dM_add_29 : decode prog_3_method_30_code 29 = .ok (.ireturn, 1) := by decide +kernel
theorem dM_add_30 : decode prog_3_method_30_code 30 = .ok (.aload_n 0, 1) := by decide +kernel
theorem dM_add_31 : decode prog_3_method_30_code 31 = .ok (.getfield 13, 3) := by decide +kernel
theorem dM_add_34 : decode prog_3_method_30_code 34 = .ok (.aload_n 0, 1) := by decide +kernel
theorem dM_add_35 : decode prog_3_method_30_code 35 = .ok (.getfield 68, 3) := by decide +kernel
theorem dM_add_38 : decode prog_3_method_30_code 38 = .ok (.iload_n 1, 1) := by decide +kernel
theorem dM_add_39 : decode prog_3_method_30_code 39 = .ok (.iastore, 1) := by decide +kernel
theorem dM_add_40 : decode prog_3_method_30_code 40 = .ok (.aload_n 0, 1) := by decide +kernel
theorem dM_add_41 : decode prog_3_method_30_code 41 = .ok (.aload_n 0, 1) := by decide +kernel
theorem dM_add_42 : decode prog_3_method_30_code 42 = .ok (.getfield 68, 3) := by decide +kernel
theorem dM_add_45 : decode prog_3_method_30_code 45 = .ok (.iconst 1, 1) := by decide +kernel
theorem dM_add_46 : decode prog_3_method_30_code 46 = .ok (.iadd, 1) := by decide +kernel
theorem dM_add_47 : decode prog_3_method_30_code 47 = .ok (.putfield 68, 3) := by decide +kernel
theorem dM_add_50 : decode prog_3_method_30_code 50 = .ok (.aload_n 0, 1) := by decide +kernel
theorem dM_add_51 : decode prog_3_method_30_code 51 = .ok (.getfield 68, 3) := by decide +kernel
theorem dM_add_54 : decode prog_3_method_30_code 54 = .ok (.ireturn, 1) := by decide +kernel
