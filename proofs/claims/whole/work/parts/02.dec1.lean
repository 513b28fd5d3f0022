theorem dX0_init_0 : decode cX0_init 0 = .ok (.aload_n 0, 1) := by decide +kernel
theorem dX0_init_1 : decode cX0_init 1 = .ok (.invokespecial 3, 3) := by decide +kernel
theorem dX0_init_4 : decode cX0_init 4 = .ok (.aload_n 0, 1) := by decide +kernel
theorem dX0_init_5 : decode cX0_init 5 = .ok (.iconst 1, 1) := by decide +kernel
theorem dX0_init_6 : decode cX0_init 6 = .ok (.putfield 9, 3) := by decide +kernel
theorem dX0_init_9 : decode cX0_init 9 = .ok (.aload_n 0, 1) := by decide +kernel
theorem dX0_init_10 : decode cX0_init 10 = .ok (.bipush 64, 2) := by decide +kernel
theorem dX0_init_12 : decode cX0_init 12 = .ok (.newarray .int, 2) := by decide +kernel
theorem dX0_init_14 : decode cX0_init 14 = .ok (.putfield 15, 3) := by decide +kernel
theorem dX0_init_17 : decode cX0_init 17 = .ok (.return_, 1) := by decide +kernel
theorem dX0_clear_0 : decode cX0_clear 0 = .ok (.aload_n 0, 1) := by decide +kernel
theorem dX0_clear_1 : decode cX0_clear 1 = .ok (.iconst 1, 1) := by decide +kernel
theorem dX0_clear_2 : decode cX0_clear 2 = .ok (.putfield 9, 3) := by decide +kernel
theorem dX0_clear_5 : decode cX0_clear 5 = .ok (.aload_n 0, 1) := by decide +kernel
theorem dX0_clear_6 : decode cX0_clear 6 = .ok (.getfield 15, 3) := by decide +kernel
theorem dX0_clear_9 : decode cX0_clear 9 = .ok (.sipush 999, 3) := by decide +kernel
theorem dX0_clear_12 : decode cX0_clear 12 = .ok (.invokestatic 19, 3) := by decide +kernel
theorem dX0_clear_15 : decode cX0_clear 15 = .ok (.iconst 0, 1) := by decide +kernel
theorem dX0_clear_16 : decode cX0_clear 16 = .ok (.istore_n 1, 1) := by decide +kernel
theorem dX0_clear_17 : decode cX0_clear 17 = .ok (.iload_n 1, 1) := by decide +kernel
theorem dX0_clear_18 : decode cX0_clear 18 = .ok (.bipush 8, 2) := by decide +kernel
theorem dX0_clear_20 : decode cX0_clear 20 = .ok (.if_icmp .ge 21, 3) := by decide +kernel
theorem dX0_clear_23 : decode cX0_clear 23 = .ok (.aload_n 0, 1) := by decide +kernel
theorem dX0_clear_24 : decode cX0_clear 24 = .ok (.getfield 15, 3) := by decide +kernel
theorem dX0_clear_27 : decode cX0_clear 27 = .ok (.iload_n 1, 1) := by decide +kernel
theorem dX0_clear_28 : decode cX0_clear 28 = .ok (.bipush 8, 2) := by decide +kernel
theorem dX0_clear_30 : decode cX0_clear 30 = .ok (.imul, 1) := by decide +kernel
theorem dX0_clear_31 : decode cX0_clear 31 = .ok (.iload_n 1, 1) := by decide +kernel
theorem dX0_clear_32 : decode cX0_clear 32 = .ok (.iadd, 1) := by decide +kernel
theorem dX0_clear_33 : decode cX0_clear 33 = .ok (.iconst 0, 1) := by decide +kernel
theorem dX0_clear_34 : decode cX0_clear 34 = .ok (.iastore, 1) := by decide +kernel
theorem dX0_clear_35 : decode cX0_clear 35 = .ok (.iinc 1 1, 3) := by decide +kernel
theorem dX0_clear_38 : decode cX0_clear 38 = .ok (.goto (-21), 3) := by decide +kernel
theorem dX0_clear_41 : decode cX0_clear 41 = .ok (.return_, 1) := by decide +kernel
theorem dX0_narrow_0 : decode cX0_narrow 0 = .ok (.aload_n 0, 1) := by decide +kernel
theorem dX0_narrow_1 : decode cX0_narrow 1 = .ok (.iload_n 1, 1) := by decide +kernel
theorem dX0_narrow_2 : decode cX0_narrow 2 = .ok (.iload_n 2, 1) := by decide +kernel
theorem dX0_narrow_3 : decode cX0_narrow 3 = .ok (.iload 4, 2) := by decide +kernel
theorem dX0_narrow_5 : decode cX0_narrow 5 = .ok (.invokevirtual 25, 3) := by decide +kernel
theorem dX0_narrow_8 : decode cX0_narrow 8 = .ok (.aload_n 0, 1) := by decide +kernel
theorem dX0_narrow_9 : decode cX0_narrow 9 = .ok (.iload_n 2, 1) := by decide +kernel
theorem dX0_narrow_10 : decode cX0_narrow 10 = .ok (.iload_n 1, 1) := by decide +kernel
theorem dX0_narrow_11 : decode cX0_narrow 11 = .ok (.iload_n 3, 1) := by decide +kernel
theorem dX0_narrow_12 : decode cX0_narrow 12 = .ok (.ineg, 1) := by decide +kernel
theorem dX0_narrow_13 : decode cX0_narrow 13 = .ok (.invokevirtual 25, 3) := by decide +kernel
theorem dX0_narrow_16 : decode cX0_narrow 16 = .ok (.return_, 1) := by decide +kernel
theorem dX0_limit_0 : decode cX0_limit 0 = .ok (.aload_n 0, 1) := by decide +kernel
theorem dX0_limit_1 : decode cX0_limit 1 = .ok (.getfield 9, 3) := by decide +kernel
theorem dX0_limit_4 : decode cX0_limit 4 = .ok (.ifCond .eq 13, 3) := by decide +kernel
theorem dX0_limit_7 : decode cX0_limit 7 = .ok (.iload_n 3, 1) := by decide +kernel
theorem dX0_limit_8 : decode cX0_limit 8 = .ok (.aload_n 0, 1) := by decide +kernel
theorem dX0_limit_9 : decode cX0_limit 9 = .ok (.iload_n 1, 1) := by decide +kernel
theorem dX0_limit_10 : decode cX0_limit 10 = .ok (.iload_n 2, 1) := by decide +kernel
theorem dX0_limit_11 : decode cX0_limit 11 = .ok (.invokevirtual 29, 3) := by decide +kernel
theorem dX0_limit_14 : decode cX0_limit 14 = .ok (.if_icmp .lt 4, 3) := by decide +kernel
theorem dX0_limit_17 : decode cX0_limit 17 = .ok (.return_, 1) := by decide +kernel
theorem dX0_limit_18 : decode cX0_limit 18 = .ok (.iload_n 3, 1) := by decide +kernel
theorem dX0_limit_19 : decode cX0_limit 19 = .ok (.aload_n 0, 1) := by decide +kernel
theorem dX0_limit_20 : decode cX0_limit 20 = .ok (.iload_n 1, 1) := by decide +kernel
theorem dX0_limit_21 : decode cX0_limit 21 = .ok (.iload_n 2, 1) := by decide +kernel
theorem dX0_limit_22 : decode cX0_limit 22 = .ok (.invokevirtual 33, 3) := by decide +kernel
theorem dX0_limit_25 : decode cX0_limit 25 = .ok (.if_icmp .ge 9, 3) := by decide +kernel
theorem dX0_limit_28 : decode cX0_limit 28 = .ok (.aload_n 0, 1) := by decide +kernel
theorem dX0_limit_29 : decode cX0_limit 29 = .ok (.iconst 0, 1) := by decide +kernel
theorem dX0_limit_30 : decode cX0_limit 30 = .ok (.putfield 9, 3) := by decide +kernel
theorem dX0_limit_33 : decode cX0_limit 33 = .ok (.return_, 1) := by decide +kernel
theorem dX0_limit_34 : decode cX0_limit 34 = .ok (.iconst 0, 1) := by decide +kernel
theorem dX0_limit_35 : decode cX0_limit 35 = .ok (.istore 4, 2) := by decide +kernel
theorem dX0_limit_37 : decode cX0_limit 37 = .ok (.iload 4, 2) := by decide +kernel
theorem dX0_limit_39 : decode cX0_limit 39 = .ok (.bipush 8, 2) := by decide +kernel
theorem dX0_limit_41 : decode cX0_limit 41 = .ok (.if_icmp .ge 76, 3) := by decide +kernel
theorem dX0_limit_44 : decode cX0_limit 44 = .ok (.aload_n 0, 1) := by decide +kernel
theorem dX0_limit_45 : decode cX0_limit 45 = .ok (.iload 4, 2) := by decide +kernel
theorem dX0_limit_47 : decode cX0_limit 47 = .ok (.iload_n 1, 1) := by decide +kernel
theorem dX0_limit_48 : decode cX0_limit 48 = .ok (.invokevirtual 29, 3) := by decide +kernel
theorem dX0_limit_51 : decode cX0_limit 51 = .ok (.iload_n 3, 1) := by decide +kernel
theorem dX0_limit_52 : decode cX0_limit 52 = .ok (.iadd, 1) := by decide +kernel
theorem dX0_limit_53 : decode cX0_limit 53 = .ok (.istore 5, 2) := by decide +kernel
theorem dX0_limit_55 : decode cX0_limit 55 = .ok (.iconst 0, 1) := by decide +kernel
theorem dX0_limit_56 : decode cX0_limit 56 = .ok (.istore 6, 2) := by decide +kernel
theorem dX0_limit_58 : decode cX0_limit 58 = .ok (.iload 6, 2) := by decide +kernel
theorem dX0_limit_60 : decode cX0_limit 60 = .ok (.bipush 8, 2) := by decide +kernel
theorem dX0_limit_62 : decode cX0_limit 62 = .ok (.if_icmp .ge 49, 3) := by decide +kernel
theorem dX0_limit_65 : decode cX0_limit 65 = .ok (.iload 5, 2) := by decide +kernel
theorem dX0_limit_67 : decode cX0_limit 67 = .ok (.aload_n 0, 1) := by decide +kernel
theorem dX0_limit_68 : decode cX0_limit 68 = .ok (.iload_n 2, 1) := by decide +kernel
theorem dX0_limit_69 : decode cX0_limit 69 = .ok (.iload 6, 2) := by decide +kernel
theorem dX0_limit_71 : decode cX0_limit 71 = .ok (.invokevirtual 29, 3) := by decide +kernel
theorem dX0_limit_74 : decode cX0_limit 74 = .ok (.iadd, 1) := by decide +kernel
theorem dX0_limit_75 : decode cX0_limit 75 = .ok (.istore 7, 2) := by decide +kernel
theorem dX0_limit_77 : decode cX0_limit 77 = .ok (.iload 7, 2) := by decide +kernel
theorem dX0_limit_79 : decode cX0_limit 79 = .ok (.aload_n 0, 1) := by decide +kernel
theorem dX0_limit_80 : decode cX0_limit 80 = .ok (.iload 4, 2) := by decide +kernel
theorem dX0_limit_82 : decode cX0_limit 82 = .ok (.iload 6, 2) := by decide +kernel
theorem dX0_limit_84 : decode cX0_limit 84 = .ok (.invokevirtual 29, 3) := by decide +kernel
theorem dX0_limit_87 : decode cX0_limit 87 = .ok (.if_icmp .ge 18, 3) := by decide +kernel
theorem dX0_limit_90 : decode cX0_limit 90 = .ok (.aload_n 0, 1) := by decide +kernel
theorem dX0_limit_91 : decode cX0_limit 91 = .ok (.getfield 15, 3) := by decide +kernel
theorem dX0_limit_94 : decode cX0_limit 94 = .ok (.iload 4, 2) := by decide +kernel
theorem dX0_limit_96 : decode cX0_limit 96 = .ok (.bipush 8, 2) := by decide +kernel
theorem dX0_limit_98 : decode cX0_limit 98 = .ok (.imul, 1) := by decide +kernel
theorem dX0_limit_99 : decode cX0_limit 99 = .ok (.iload 6, 2) := by decide +kernel
theorem dX0_limit_101 : decode cX0_limit 101 = .ok (.iadd, 1) := by decide +kernel
theorem dX0_limit_102 : decode cX0_limit 102 = .ok (.iload 7, 2) := by decide +kernel
theorem dX0_limit_104 : decode cX0_limit 104 = .ok (.iastore, 1) := by decide +kernel
theorem dX0_limit_105 : decode cX0_limit 105 = .ok (.iinc 6 1, 3) := by decide +kernel
theorem dX0_limit_108 : decode cX0_limit 108 = .ok (.goto (-50), 3) := by decide +kernel
theorem dX0_limit_111 : decode cX0_limit 111 = .ok (.iinc 4 1, 3) := by decide +kernel
theorem dX0_limit_114 : decode cX0_limit 114 = .ok (.goto (-77), 3) := by decide +kernel
theorem dX0_limit_117 : decode cX0_limit 117 = .ok (.return_, 1) := by decide +kernel
theorem dX0_mostBelow_0 : decode cX0_mostBelow 0 = .ok (.aload_n 0, 1) := by decide +kernel
theorem dX0_mostBelow_1 : decode cX0_mostBelow 1 = .ok (.getfield 15, 3) := by decide +kernel
theorem dX0_mostBelow_4 : decode cX0_mostBelow 4 = .ok (.iload_n 1, 1) := by decide +kernel
theorem dX0_mostBelow_5 : decode cX0_mostBelow 5 = .ok (.bipush 8, 2) := by decide +kernel
theorem dX0_mostBelow_7 : decode cX0_mostBelow 7 = .ok (.imul, 1) := by decide +kernel
theorem dX0_mostBelow_8 : decode cX0_mostBelow 8 = .ok (.iload_n 2, 1) := by decide +kernel
theorem dX0_mostBelow_9 : decode cX0_mostBelow 9 = .ok (.iadd, 1) := by decide +kernel
theorem dX0_mostBelow_10 : decode cX0_mostBelow 10 = .ok (.iaload, 1) := by decide +kernel
theorem dX0_mostBelow_11 : decode cX0_mostBelow 11 = .ok (.ireturn, 1) := by decide +kernel
theorem dX0_leastBelow_0 : decode cX0_leastBelow 0 = .ok (.aload_n 0, 1) := by decide +kernel
theorem dX0_leastBelow_1 : decode cX0_leastBelow 1 = .ok (.getfield 15, 3) := by decide +kernel
theorem dX0_leastBelow_4 : decode cX0_leastBelow 4 = .ok (.iload_n 2, 1) := by decide +kernel
theorem dX0_leastBelow_5 : decode cX0_leastBelow 5 = .ok (.bipush 8, 2) := by decide +kernel
theorem dX0_leastBelow_7 : decode cX0_leastBelow 7 = .ok (.imul, 1) := by decide +kernel
theorem dX0_leastBelow_8 : decode cX0_leastBelow 8 = .ok (.iload_n 1, 1) := by decide +kernel
theorem dX0_leastBelow_9 : decode cX0_leastBelow 9 = .ok (.iadd, 1) := by decide +kernel
theorem dX0_leastBelow_10 : decode cX0_leastBelow 10 = .ok (.iaload, 1) := by decide +kernel
theorem dX0_leastBelow_11 : decode cX0_leastBelow 11 = .ok (.ineg, 1) := by decide +kernel
theorem dX0_leastBelow_12 : decode cX0_leastBelow 12 = .ok (.ireturn, 1) := by decide +kernel
theorem dX0_width_0 : decode cX0_width 0 = .ok (.aload_n 0, 1) := by decide +kernel
theorem dX0_width_1 : decode cX0_width 1 = .ok (.iload_n 1, 1) := by decide +kernel
theorem dX0_width_2 : decode cX0_width 2 = .ok (.iload_n 2, 1) := by decide +kernel
theorem dX0_width_3 : decode cX0_width 3 = .ok (.invokevirtual 29, 3) := by decide +kernel
theorem dX0_width_6 : decode cX0_width 6 = .ok (.aload_n 0, 1) := by decide +kernel
theorem dX0_width_7 : decode cX0_width 7 = .ok (.iload_n 1, 1) := by decide +kernel
theorem dX0_width_8 : decode cX0_width 8 = .ok (.iload_n 2, 1) := by decide +kernel
theorem dX0_width_9 : decode cX0_width 9 = .ok (.invokevirtual 33, 3) := by decide +kernel
theorem dX0_width_12 : decode cX0_width 12 = .ok (.isub, 1) := by decide +kernel
theorem dX0_width_13 : decode cX0_width 13 = .ok (.iconst 1, 1) := by decide +kernel
theorem dX0_width_14 : decode cX0_width 14 = .ok (.iadd, 1) := by decide +kernel
theorem dX0_width_15 : decode cX0_width 15 = .ok (.ireturn, 1) := by decide +kernel
theorem dX0_widestPair_0 : decode cX0_widestPair 0 = .ok (.iconst 1, 1) := by decide +kernel
theorem dX0_widestPair_1 : decode cX0_widestPair 1 = .ok (.istore_n 1, 1) := by decide +kernel
theorem dX0_widestPair_2 : decode cX0_widestPair 2 = .ok (.iconst 0, 1) := by decide +kernel
theorem dX0_widestPair_3 : decode cX0_widestPair 3 = .ok (.istore_n 2, 1) := by decide +kernel
theorem dX0_widestPair_4 : decode cX0_widestPair 4 = .ok (.iconst 0, 1) := by decide +kernel
theorem dX0_widestPair_5 : decode cX0_widestPair 5 = .ok (.istore_n 3, 1) := by decide +kernel
theorem dX0_widestPair_6 : decode cX0_widestPair 6 = .ok (.iload_n 3, 1) := by decide +kernel
theorem dX0_widestPair_7 : decode cX0_widestPair 7 = .ok (.bipush 8, 2) := by decide +kernel
theorem dX0_widestPair_9 : decode cX0_widestPair 9 = .ok (.if_icmp .ge 54, 3) := by decide +kernel
theorem dX0_widestPair_12 : decode cX0_widestPair 12 = .ok (.iload_n 3, 1) := by decide +kernel
theorem dX0_widestPair_13 : decode cX0_widestPair 13 = .ok (.iconst 1, 1) := by decide +kernel
theorem dX0_widestPair_14 : decode cX0_widestPair 14 = .ok (.iadd, 1) := by decide +kernel
theorem dX0_widestPair_15 : decode cX0_widestPair 15 = .ok (.istore 4, 2) := by decide +kernel
theorem dX0_widestPair_17 : decode cX0_widestPair 17 = .ok (.iload 4, 2) := by decide +kernel
theorem dX0_widestPair_19 : decode cX0_widestPair 19 = .ok (.bipush 8, 2) := by decide +kernel
theorem dX0_widestPair_21 : decode cX0_widestPair 21 = .ok (.if_icmp .ge 36, 3) := by decide +kernel
theorem dX0_widestPair_24 : decode cX0_widestPair 24 = .ok (.aload_n 0, 1) := by decide +kernel
theorem dX0_widestPair_25 : decode cX0_widestPair 25 = .ok (.iload_n 3, 1) := by decide +kernel
theorem dX0_widestPair_26 : decode cX0_widestPair 26 = .ok (.iload 4, 2) := by decide +kernel
theorem dX0_widestPair_28 : decode cX0_widestPair 28 = .ok (.invokevirtual 36, 3) := by decide +kernel
theorem dX0_widestPair_31 : decode cX0_widestPair 31 = .ok (.iload_n 2, 1) := by decide +kernel
theorem dX0_widestPair_32 : decode cX0_widestPair 32 = .ok (.if_icmp .le 19, 3) := by decide +kernel
theorem dX0_widestPair_35 : decode cX0_widestPair 35 = .ok (.aload_n 0, 1) := by decide +kernel
theorem dX0_widestPair_36 : decode cX0_widestPair 36 = .ok (.iload_n 3, 1) := by decide +kernel
theorem dX0_widestPair_37 : decode cX0_widestPair 37 = .ok (.iload 4, 2) := by decide +kernel
theorem dX0_widestPair_39 : decode cX0_widestPair 39 = .ok (.invokevirtual 36, 3) := by decide +kernel
theorem dX0_widestPair_42 : decode cX0_widestPair 42 = .ok (.istore_n 2, 1) := by decide +kernel
theorem dX0_widestPair_43 : decode cX0_widestPair 43 = .ok (.iload_n 3, 1) := by decide +kernel
theorem dX0_widestPair_44 : decode cX0_widestPair 44 = .ok (.bipush 8, 2) := by decide +kernel
theorem dX0_widestPair_46 : decode cX0_widestPair 46 = .ok (.imul, 1) := by decide +kernel
theorem dX0_widestPair_47 : decode cX0_widestPair 47 = .ok (.iload 4, 2) := by decide +kernel
theorem dX0_widestPair_49 : decode cX0_widestPair 49 = .ok (.iadd, 1) := by decide +kernel
theorem dX0_widestPair_50 : decode cX0_widestPair 50 = .ok (.istore_n 1, 1) := by decide +kernel
theorem dX0_widestPair_51 : decode cX0_widestPair 51 = .ok (.iinc 4 1, 3) := by decide +kernel
theorem dX0_widestPair_54 : decode cX0_widestPair 54 = .ok (.goto (-37), 3) := by decide +kernel
theorem dX0_widestPair_57 : decode cX0_widestPair 57 = .ok (.iinc 3 1, 3) := by decide +kernel
theorem dX0_widestPair_60 : decode cX0_widestPair 60 = .ok (.goto (-54), 3) := by decide +kernel
theorem dX0_widestPair_63 : decode cX0_widestPair 63 = .ok (.iload_n 1, 1) := by decide +kernel
theorem dX0_widestPair_64 : decode cX0_widestPair 64 = .ok (.ireturn, 1) := by decide +kernel
theorem dX0_allWidths_0 : decode cX0_allWidths 0 = .ok (.iconst 0, 1) := by decide +kernel
theorem dX0_allWidths_1 : decode cX0_allWidths 1 = .ok (.istore_n 1, 1) := by decide +kernel
theorem dX0_allWidths_2 : decode cX0_allWidths 2 = .ok (.iconst 0, 1) := by decide +kernel
theorem dX0_allWidths_3 : decode cX0_allWidths 3 = .ok (.istore_n 2, 1) := by decide +kernel
theorem dX0_allWidths_4 : decode cX0_allWidths 4 = .ok (.iload_n 2, 1) := by decide +kernel
theorem dX0_allWidths_5 : decode cX0_allWidths 5 = .ok (.bipush 8, 2) := by decide +kernel
theorem dX0_allWidths_7 : decode cX0_allWidths 7 = .ok (.if_icmp .ge 34, 3) := by decide +kernel
theorem dX0_allWidths_10 : decode cX0_allWidths 10 = .ok (.iload_n 2, 1) := by decide +kernel
theorem dX0_allWidths_11 : decode cX0_allWidths 11 = .ok (.iconst 1, 1) := by decide +kernel
theorem dX0_allWidths_12 : decode cX0_allWidths 12 = .ok (.iadd, 1) := by decide +kernel
theorem dX0_allWidths_13 : decode cX0_allWidths 13 = .ok (.istore_n 3, 1) := by decide +kernel
theorem dX0_allWidths_14 : decode cX0_allWidths 14 = .ok (.iload_n 3, 1) := by decide +kernel
theorem dX0_allWidths_15 : decode cX0_allWidths 15 = .ok (.bipush 8, 2) := by decide +kernel
theorem dX0_allWidths_17 : decode cX0_allWidths 17 = .ok (.if_icmp .ge 18, 3) := by decide +kernel
theorem dX0_allWidths_20 : decode cX0_allWidths 20 = .ok (.iload_n 1, 1) := by decide +kernel
theorem dX0_allWidths_21 : decode cX0_allWidths 21 = .ok (.aload_n 0, 1) := by decide +kernel
theorem dX0_allWidths_22 : decode cX0_allWidths 22 = .ok (.iload_n 2, 1) := by decide +kernel
theorem dX0_allWidths_23 : decode cX0_allWidths 23 = .ok (.iload_n 3, 1) := by decide +kernel
theorem dX0_allWidths_24 : decode cX0_allWidths 24 = .ok (.invokevirtual 36, 3) := by decide +kernel
theorem dX0_allWidths_27 : decode cX0_allWidths 27 = .ok (.iadd, 1) := by decide +kernel
theorem dX0_allWidths_28 : decode cX0_allWidths 28 = .ok (.istore_n 1, 1) := by decide +kernel
theorem dX0_allWidths_29 : decode cX0_allWidths 29 = .ok (.iinc 3 1, 3) := by decide +kernel
theorem dX0_allWidths_32 : decode cX0_allWidths 32 = .ok (.goto (-18), 3) := by decide +kernel
theorem dX0_allWidths_35 : decode cX0_allWidths 35 = .ok (.iinc 2 1, 3) := by decide +kernel
theorem dX0_allWidths_38 : decode cX0_allWidths 38 = .ok (.goto (-34), 3) := by decide +kernel
theorem dX0_allWidths_41 : decode cX0_allWidths 41 = .ok (.iload_n 1, 1) := by decide +kernel
theorem dX0_allWidths_42 : decode cX0_allWidths 42 = .ok (.ireturn, 1) := by decide +kernel
theorem dX0_allows_0 : decode cX0_allows 0 = .ok (.iload_n 3, 1) := by decide +kernel
theorem dX0_allows_1 : decode cX0_allows 1 = .ok (.aload_n 0, 1) := by decide +kernel
theorem dX0_allows_2 : decode cX0_allows 2 = .ok (.iload_n 1, 1) := by decide +kernel
theorem dX0_allows_3 : decode cX0_allows 3 = .ok (.iload_n 2, 1) := by decide +kernel
theorem dX0_allows_4 : decode cX0_allows 4 = .ok (.invokevirtual 29, 3) := by decide +kernel
theorem dX0_allows_7 : decode cX0_allows 7 = .ok (.if_icmp .gt 18, 3) := by decide +kernel
theorem dX0_allows_10 : decode cX0_allows 10 = .ok (.iload 4, 2) := by decide +kernel
theorem dX0_allows_12 : decode cX0_allows 12 = .ok (.aload_n 0, 1) := by decide +kernel
theorem dX0_allows_13 : decode cX0_allows 13 = .ok (.iload_n 1, 1) := by decide +kernel
theorem dX0_allows_14 : decode cX0_allows 14 = .ok (.iload_n 2, 1) := by decide +kernel
theorem dX0_allows_15 : decode cX0_allows 15 = .ok (.invokevirtual 33, 3) := by decide +kernel
theorem dX0_allows_18 : decode cX0_allows 18 = .ok (.if_icmp .lt 7, 3) := by decide +kernel
theorem dX0_allows_21 : decode cX0_allows 21 = .ok (.iconst 1, 1) := by decide +kernel
theorem dX0_allows_22 : decode cX0_allows 22 = .ok (.goto 4, 3) := by decide +kernel
theorem dX0_allows_25 : decode cX0_allows 25 = .ok (.iconst 0, 1) := by decide +kernel
theorem dX0_allows_26 : decode cX0_allows 26 = .ok (.ireturn, 1) := by decide +kernel
theorem dX0_implies_0 : decode cX0_implies 0 = .ok (.aload_n 0, 1) := by decide +kernel
theorem dX0_implies_1 : decode cX0_implies 1 = .ok (.aload_n 1, 1) := by decide +kernel
theorem dX0_implies_2 : decode cX0_implies 2 = .ok (.getfield 39, 3) := by decide +kernel
theorem dX0_implies_5 : decode cX0_implies 5 = .ok (.aload_n 1, 1) := by decide +kernel
theorem dX0_implies_6 : decode cX0_implies 6 = .ok (.getfield 45, 3) := by decide +kernel
theorem dX0_implies_9 : decode cX0_implies 9 = .ok (.invokevirtual 33, 3) := by decide +kernel
theorem dX0_implies_12 : decode cX0_implies 12 = .ok (.aload_n 1, 1) := by decide +kernel
theorem dX0_implies_13 : decode cX0_implies 13 = .ok (.iload_n 2, 1) := by decide +kernel
theorem dX0_implies_14 : decode cX0_implies 14 = .ok (.invokevirtual 48, 3) := by decide +kernel
theorem dX0_implies_17 : decode cX0_implies 17 = .ok (.if_icmp .lt 27, 3) := by decide +kernel
theorem dX0_implies_20 : decode cX0_implies 20 = .ok (.aload_n 0, 1) := by decide +kernel
theorem dX0_implies_21 : decode cX0_implies 21 = .ok (.aload_n 1, 1) := by decide +kernel
theorem dX0_implies_22 : decode cX0_implies 22 = .ok (.getfield 39, 3) := by decide +kernel
theorem dX0_implies_25 : decode cX0_implies 25 = .ok (.aload_n 1, 1) := by decide +kernel
theorem dX0_implies_26 : decode cX0_implies 26 = .ok (.getfield 45, 3) := by decide +kernel
theorem dX0_implies_29 : decode cX0_implies 29 = .ok (.invokevirtual 29, 3) := by decide +kernel
theorem dX0_implies_32 : decode cX0_implies 32 = .ok (.aload_n 1, 1) := by decide +kernel
theorem dX0_implies_33 : decode cX0_implies 33 = .ok (.iload_n 2, 1) := by decide +kernel
theorem dX0_implies_34 : decode cX0_implies 34 = .ok (.invokevirtual 52, 3) := by decide +kernel
theorem dX0_implies_37 : decode cX0_implies 37 = .ok (.if_icmp .gt 7, 3) := by decide +kernel
theorem dX0_implies_40 : decode cX0_implies 40 = .ok (.iconst 1, 1) := by decide +kernel
theorem dX0_implies_41 : decode cX0_implies 41 = .ok (.goto 4, 3) := by decide +kernel
theorem dX0_implies_44 : decode cX0_implies 44 = .ok (.iconst 0, 1) := by decide +kernel
theorem dX0_implies_45 : decode cX0_implies 45 = .ok (.ireturn, 1) := by decide +kernel
theorem dX1_init_0 : decode cX1_init 0 = .ok (.aload_n 0, 1) := by decide +kernel
theorem dX1_init_1 : decode cX1_init 1 = .ok (.invokespecial 3, 3) := by decide +kernel
theorem dX1_init_4 : decode cX1_init 4 = .ok (.aload_n 0, 1) := by decide +kernel
theorem dX1_init_5 : decode cX1_init 5 = .ok (.iconst 0, 1) := by decide +kernel
theorem dX1_init_6 : decode cX1_init 6 = .ok (.putfield 11, 3) := by decide +kernel
theorem dX1_init_9 : decode cX1_init 9 = .ok (.aload_n 0, 1) := by decide +kernel
theorem dX1_init_10 : decode cX1_init 10 = .ok (.iconst 0, 1) := by decide +kernel
theorem dX1_init_11 : decode cX1_init 11 = .ok (.putfield 15, 3) := by decide +kernel
theorem dX1_init_14 : decode cX1_init 14 = .ok (.aload_n 0, 1) := by decide +kernel
theorem dX1_init_15 : decode cX1_init 15 = .ok (.iconst 0, 1) := by decide +kernel
theorem dX1_init_16 : decode cX1_init 16 = .ok (.putfield 18, 3) := by decide +kernel
theorem dX1_init_19 : decode cX1_init 19 = .ok (.aload_n 0, 1) := by decide +kernel
theorem dX1_init_20 : decode cX1_init 20 = .ok (.iconst 0, 1) := by decide +kernel
theorem dX1_init_21 : decode cX1_init 21 = .ok (.putfield 21, 3) := by decide +kernel
theorem dX1_init_24 : decode cX1_init 24 = .ok (.aload_n 0, 1) := by decide +kernel
theorem dX1_init_25 : decode cX1_init 25 = .ok (.iconst 0, 1) := by decide +kernel
theorem dX1_init_26 : decode cX1_init 26 = .ok (.putfield 24, 3) := by decide +kernel
theorem dX1_init_29 : decode cX1_init 29 = .ok (.aload_n 0, 1) := by decide +kernel
theorem dX1_init_30 : decode cX1_init 30 = .ok (.iconst 0, 1) := by decide +kernel
theorem dX1_init_31 : decode cX1_init 31 = .ok (.putfield 27, 3) := by decide +kernel
theorem dX1_init_34 : decode cX1_init 34 = .ok (.return_, 1) := by decide +kernel
theorem dX1_kindAbove_0 : decode cX1_kindAbove 0 = .ok (.iload_n 0, 1) := by decide +kernel
theorem dX1_kindAbove_1 : decode cX1_kindAbove 1 = .ok (.tableswitch 47 1 6 #[39, 39, 41, 43, 39, 45], 39) := by decide +kernel
theorem dX1_kindAbove_40 : decode cX1_kindAbove 40 = .ok (.iconst 0, 1) := by decide +kernel
theorem dX1_kindAbove_41 : decode cX1_kindAbove 41 = .ok (.ireturn, 1) := by decide +kernel
theorem dX1_kindAbove_42 : decode cX1_kindAbove 42 = .ok (.iconst 2, 1) := by decide +kernel
theorem dX1_kindAbove_43 : decode cX1_kindAbove 43 = .ok (.ireturn, 1) := by decide +kernel
theorem dX1_kindAbove_44 : decode cX1_kindAbove 44 = .ok (.iconst 3, 1) := by decide +kernel
theorem dX1_kindAbove_45 : decode cX1_kindAbove 45 = .ok (.ireturn, 1) := by decide +kernel
theorem dX1_kindAbove_46 : decode cX1_kindAbove 46 = .ok (.iconst 1, 1) := by decide +kernel
theorem dX1_kindAbove_47 : decode cX1_kindAbove 47 = .ok (.ireturn, 1) := by decide +kernel
theorem dX1_kindAbove_48 : decode cX1_kindAbove 48 = .ok (.iconst (-1), 1) := by decide +kernel
theorem dX1_kindAbove_49 : decode cX1_kindAbove 49 = .ok (.ireturn, 1) := by decide +kernel
theorem dX1_kindName_0 : decode cX1_kindName 0 = .ok (.iload_n 0, 1) := by decide +kernel
theorem dX1_kindName_1 : decode cX1_kindName 1 = .ok (.tableswitch 57 1 6 #[39, 42, 45, 48, 51, 54], 39) := by decide +kernel
theorem dX1_kindName_40 : decode cX1_kindName 40 = .ok (.ldc 30, 2) := by decide +kernel
theorem dX1_kindName_42 : decode cX1_kindName 42 = .ok (.areturn, 1) := by decide +kernel
theorem dX1_kindName_43 : decode cX1_kindName 43 = .ok (.ldc 32, 2) := by decide +kernel
theorem dX1_kindName_45 : decode cX1_kindName 45 = .ok (.areturn, 1) := by decide +kernel
theorem dX1_kindName_46 : decode cX1_kindName 46 = .ok (.ldc 34, 2) := by decide +kernel
theorem dX1_kindName_48 : decode cX1_kindName 48 = .ok (.areturn, 1) := by decide +kernel
theorem dX1_kindName_49 : decode cX1_kindName 49 = .ok (.ldc 36, 2) := by decide +kernel
theorem dX1_kindName_51 : decode cX1_kindName 51 = .ok (.areturn, 1) := by decide +kernel
theorem dX1_kindName_52 : decode cX1_kindName 52 = .ok (.ldc 38, 2) := by decide +kernel
theorem dX1_kindName_54 : decode cX1_kindName 54 = .ok (.areturn, 1) := by decide +kernel
theorem dX1_kindName_55 : decode cX1_kindName 55 = .ok (.ldc 40, 2) := by decide +kernel
theorem dX1_kindName_57 : decode cX1_kindName 57 = .ok (.areturn, 1) := by decide +kernel
theorem dX1_kindName_58 : decode cX1_kindName 58 = .ok (.ldc 42, 2) := by decide +kernel
theorem dX1_kindName_60 : decode cX1_kindName 60 = .ok (.areturn, 1) := by decide +kernel
theorem dX1_part_0 : decode cX1_part 0 = .ok (.iload_n 1, 1) := by decide +kernel
theorem dX1_part_1 : decode cX1_part 1 = .ok (.tableswitch 60 0 4 #[35, 40, 45, 50, 55], 35) := by decide +kernel
theorem dX1_part_36 : decode cX1_part 36 = .ok (.aload_n 0, 1) := by decide +kernel
theorem dX1_part_37 : decode cX1_part 37 = .ok (.getfield 11, 3) := by decide +kernel
theorem dX1_part_40 : decode cX1_part 40 = .ok (.ireturn, 1) := by decide +kernel
theorem dX1_part_41 : decode cX1_part 41 = .ok (.aload_n 0, 1) := by decide +kernel
theorem dX1_part_42 : decode cX1_part 42 = .ok (.getfield 15, 3) := by decide +kernel
theorem dX1_part_45 : decode cX1_part 45 = .ok (.ireturn, 1) := by decide +kernel
theorem dX1_part_46 : decode cX1_part 46 = .ok (.aload_n 0, 1) := by decide +kernel
theorem dX1_part_47 : decode cX1_part 47 = .ok (.getfield 18, 3) := by decide +kernel
theorem dX1_part_50 : decode cX1_part 50 = .ok (.ireturn, 1) := by decide +kernel
theorem dX1_part_51 : decode cX1_part 51 = .ok (.aload_n 0, 1) := by decide +kernel
theorem dX1_part_52 : decode cX1_part 52 = .ok (.getfield 21, 3) := by decide +kernel
theorem dX1_part_55 : decode cX1_part 55 = .ok (.ireturn, 1) := by decide +kernel
theorem dX1_part_56 : decode cX1_part 56 = .ok (.aload_n 0, 1) := by decide +kernel
theorem dX1_part_57 : decode cX1_part 57 = .ok (.getfield 24, 3) := by decide +kernel
theorem dX1_part_60 : decode cX1_part 60 = .ok (.ireturn, 1) := by decide +kernel
theorem dX1_part_61 : decode cX1_part 61 = .ok (.aload_n 0, 1) := by decide +kernel
theorem dX1_part_62 : decode cX1_part 62 = .ok (.getfield 27, 3) := by decide +kernel
theorem dX1_part_65 : decode cX1_part 65 = .ok (.ireturn, 1) := by decide +kernel
theorem dX1_setPart_0 : decode cX1_setPart 0 = .ok (.iload_n 1, 1) := by decide +kernel
theorem dX1_setPart_1 : decode cX1_setPart 1 = .ok (.tableswitch 75 0 4 #[35, 43, 51, 59, 67], 35) := by decide +kernel
theorem dX1_setPart_36 : decode cX1_setPart 36 = .ok (.aload_n 0, 1) := by decide +kernel
theorem dX1_setPart_37 : decode cX1_setPart 37 = .ok (.iload_n 2, 1) := by decide +kernel
theorem dX1_setPart_38 : decode cX1_setPart 38 = .ok (.putfield 11, 3) := by decide +kernel
theorem dX1_setPart_41 : decode cX1_setPart 41 = .ok (.goto 40, 3) := by decide +kernel
theorem dX1_setPart_44 : decode cX1_setPart 44 = .ok (.aload_n 0, 1) := by decide +kernel
theorem dX1_setPart_45 : decode cX1_setPart 45 = .ok (.iload_n 2, 1) := by decide +kernel
theorem dX1_setPart_46 : decode cX1_setPart 46 = .ok (.putfield 15, 3) := by decide +kernel
theorem dX1_setPart_49 : decode cX1_setPart 49 = .ok (.goto 32, 3) := by decide +kernel
theorem dX1_setPart_52 : decode cX1_setPart 52 = .ok (.aload_n 0, 1) := by decide +kernel
theorem dX1_setPart_53 : decode cX1_setPart 53 = .ok (.iload_n 2, 1) := by decide +kernel
theorem dX1_setPart_54 : decode cX1_setPart 54 = .ok (.putfield 18, 3) := by decide +kernel
theorem dX1_setPart_57 : decode cX1_setPart 57 = .ok (.goto 24, 3) := by decide +kernel
theorem dX1_setPart_60 : decode cX1_setPart 60 = .ok (.aload_n 0, 1) := by decide +kernel
theorem dX1_setPart_61 : decode cX1_setPart 61 = .ok (.iload_n 2, 1) := by decide +kernel
theorem dX1_setPart_62 : decode cX1_setPart 62 = .ok (.putfield 21, 3) := by decide +kernel
theorem dX1_setPart_65 : decode cX1_setPart 65 = .ok (.goto 16, 3) := by decide +kernel
theorem dX1_setPart_68 : decode cX1_setPart 68 = .ok (.aload_n 0, 1) := by decide +kernel
theorem dX1_setPart_69 : decode cX1_setPart 69 = .ok (.iload_n 2, 1) := by decide +kernel
theorem dX1_setPart_70 : decode cX1_setPart 70 = .ok (.putfield 24, 3) := by decide +kernel
theorem dX1_setPart_73 : decode cX1_setPart 73 = .ok (.goto 8, 3) := by decide +kernel
theorem dX1_setPart_76 : decode cX1_setPart 76 = .ok (.aload_n 0, 1) := by decide +kernel
theorem dX1_setPart_77 : decode cX1_setPart 77 = .ok (.iload_n 2, 1) := by decide +kernel
theorem dX1_setPart_78 : decode cX1_setPart 78 = .ok (.putfield 27, 3) := by decide +kernel
theorem dX1_setPart_81 : decode cX1_setPart 81 = .ok (.return_, 1) := by decide +kernel
theorem dX1_become_0 : decode cX1_become 0 = .ok (.aload_n 0, 1) := by decide +kernel
theorem dX1_become_1 : decode cX1_become 1 = .ok (.aload_n 1, 1) := by decide +kernel
theorem dX1_become_2 : decode cX1_become 2 = .ok (.getfield 11, 3) := by decide +kernel
theorem dX1_become_5 : decode cX1_become 5 = .ok (.putfield 11, 3) := by decide +kernel
theorem dX1_become_8 : decode cX1_become 8 = .ok (.aload_n 0, 1) := by decide +kernel
theorem dX1_become_9 : decode cX1_become 9 = .ok (.aload_n 1, 1) := by decide +kernel
theorem dX1_become_10 : decode cX1_become 10 = .ok (.getfield 15, 3) := by decide +kernel
theorem dX1_become_13 : decode cX1_become 13 = .ok (.putfield 15, 3) := by decide +kernel
theorem dX1_become_16 : decode cX1_become 16 = .ok (.aload_n 0, 1) := by decide +kernel
theorem dX1_become_17 : decode cX1_become 17 = .ok (.aload_n 1, 1) := by decide +kernel
theorem dX1_become_18 : decode cX1_become 18 = .ok (.getfield 18, 3) := by decide +kernel
theorem dX1_become_21 : decode cX1_become 21 = .ok (.putfield 18, 3) := by decide +kernel
theorem dX1_become_24 : decode cX1_become 24 = .ok (.aload_n 0, 1) := by decide +kernel
theorem dX1_become_25 : decode cX1_become 25 = .ok (.aload_n 1, 1) := by decide +kernel
theorem dX1_become_26 : decode cX1_become 26 = .ok (.getfield 21, 3) := by decide +kernel
theorem dX1_become_29 : decode cX1_become 29 = .ok (.putfield 21, 3) := by decide +kernel
theorem dX1_become_32 : decode cX1_become 32 = .ok (.aload_n 0, 1) := by decide +kernel
theorem dX1_become_33 : decode cX1_become 33 = .ok (.aload_n 1, 1) := by decide +kernel
theorem dX1_become_34 : decode cX1_become 34 = .ok (.getfield 24, 3) := by decide +kernel
theorem dX1_become_37 : decode cX1_become 37 = .ok (.putfield 24, 3) := by decide +kernel
theorem dX1_become_40 : decode cX1_become 40 = .ok (.aload_n 0, 1) := by decide +kernel
theorem dX1_become_41 : decode cX1_become 41 = .ok (.aload_n 1, 1) := by decide +kernel
theorem dX1_become_42 : decode cX1_become 42 = .ok (.getfield 27, 3) := by decide +kernel
theorem dX1_become_45 : decode cX1_become 45 = .ok (.putfield 27, 3) := by decide +kernel
theorem dX1_become_48 : decode cX1_become 48 = .ok (.return_, 1) := by decide +kernel
theorem dX1_least_0 : decode cX1_least 0 = .ok (.aload_n 0, 1) := by decide +kernel
theorem dX1_least_1 : decode cX1_least 1 = .ok (.getfield 11, 3) := by decide +kernel
theorem dX1_least_4 : decode cX1_least 4 = .ok (.tableswitch 72 1 6 #[40, 53, 58, 64, 44, 40], 40) := by decide +kernel
theorem dX1_least_44 : decode cX1_least 44 = .ok (.sipush (-999), 3) := by decide +kernel
theorem dX1_least_47 : decode cX1_least 47 = .ok (.ireturn, 1) := by decide +kernel
theorem dX1_least_48 : decode cX1_least 48 = .ok (.aload_n 0, 1) := by decide +kernel
theorem dX1_least_49 : decode cX1_least 49 = .ok (.getfield 21, 3) := by decide +kernel
theorem dX1_least_52 : decode cX1_least 52 = .ok (.iload_n 1, 1) := by decide +kernel
theorem dX1_least_53 : decode cX1_least 53 = .ok (.isub, 1) := by decide +kernel
theorem dX1_least_54 : decode cX1_least 54 = .ok (.iload_n 1, 1) := by decide +kernel
theorem dX1_least_55 : decode cX1_least 55 = .ok (.isub, 1) := by decide +kernel
theorem dX1_least_56 : decode cX1_least 56 = .ok (.ireturn, 1) := by decide +kernel
theorem dX1_least_57 : decode cX1_least 57 = .ok (.aload_n 0, 1) := by decide +kernel
theorem dX1_least_58 : decode cX1_least 58 = .ok (.getfield 21, 3) := by decide +kernel
theorem dX1_least_61 : decode cX1_least 61 = .ok (.ireturn, 1) := by decide +kernel
theorem dX1_least_62 : decode cX1_least 62 = .ok (.aload_n 0, 1) := by decide +kernel
theorem dX1_least_63 : decode cX1_least 63 = .ok (.getfield 21, 3) := by decide +kernel
theorem dX1_least_66 : decode cX1_least 66 = .ok (.ineg, 1) := by decide +kernel
theorem dX1_least_67 : decode cX1_least 67 = .ok (.ireturn, 1) := by decide +kernel
theorem dX1_least_68 : decode cX1_least 68 = .ok (.aload_n 0, 1) := by decide +kernel
theorem dX1_least_69 : decode cX1_least 69 = .ok (.getfield 21, 3) := by decide +kernel
theorem dX1_least_72 : decode cX1_least 72 = .ok (.ineg, 1) := by decide +kernel
theorem dX1_least_73 : decode cX1_least 73 = .ok (.iconst 1, 1) := by decide +kernel
theorem dX1_least_74 : decode cX1_least 74 = .ok (.isub, 1) := by decide +kernel
theorem dX1_least_75 : decode cX1_least 75 = .ok (.ireturn, 1) := by decide +kernel
theorem dX1_least_76 : decode cX1_least 76 = .ok (.aload_n 0, 1) := by decide +kernel
theorem dX1_least_77 : decode cX1_least 77 = .ok (.getfield 21, 3) := by decide +kernel
theorem dX1_least_80 : decode cX1_least 80 = .ok (.iload_n 1, 1) := by decide +kernel
theorem dX1_least_81 : decode cX1_least 81 = .ok (.isub, 1) := by decide +kernel
theorem dX1_least_82 : decode cX1_least 82 = .ok (.ireturn, 1) := by decide +kernel
theorem dX1_most_0 : decode cX1_most 0 = .ok (.aload_n 0, 1) := by decide +kernel
theorem dX1_most_1 : decode cX1_most 1 = .ok (.getfield 11, 3) := by decide +kernel
theorem dX1_most_4 : decode cX1_most 4 = .ok (.tableswitch 73 2 6 #[54, 59, 65, 45, 36], 36) := by decide +kernel
theorem dX1_most_40 : decode cX1_most 40 = .ok (.aload_n 0, 1) := by decide +kernel
theorem dX1_most_41 : decode cX1_most 41 = .ok (.getfield 21, 3) := by decide +kernel
theorem dX1_most_44 : decode cX1_most 44 = .ok (.iload_n 1, 1) := by decide +kernel
theorem dX1_most_45 : decode cX1_most 45 = .ok (.iadd, 1) := by decide +kernel
theorem dX1_most_46 : decode cX1_most 46 = .ok (.iconst 5, 1) := by decide +kernel
theorem dX1_most_47 : decode cX1_most 47 = .ok (.iadd, 1) := by decide +kernel
theorem dX1_most_48 : decode cX1_most 48 = .ok (.ireturn, 1) := by decide +kernel
theorem dX1_most_49 : decode cX1_most 49 = .ok (.aload_n 0, 1) := by decide +kernel
theorem dX1_most_50 : decode cX1_most 50 = .ok (.getfield 21, 3) := by decide +kernel
theorem dX1_most_53 : decode cX1_most 53 = .ok (.iload_n 1, 1) := by decide +kernel
theorem dX1_most_54 : decode cX1_most 54 = .ok (.iadd, 1) := by decide +kernel
theorem dX1_most_55 : decode cX1_most 55 = .ok (.iload_n 1, 1) := by decide +kernel
theorem dX1_most_56 : decode cX1_most 56 = .ok (.iadd, 1) := by decide +kernel
theorem dX1_most_57 : decode cX1_most 57 = .ok (.ireturn, 1) := by decide +kernel
theorem dX1_most_58 : decode cX1_most 58 = .ok (.aload_n 0, 1) := by decide +kernel
theorem dX1_most_59 : decode cX1_most 59 = .ok (.getfield 21, 3) := by decide +kernel
theorem dX1_most_62 : decode cX1_most 62 = .ok (.ireturn, 1) := by decide +kernel
theorem dX1_most_63 : decode cX1_most 63 = .ok (.aload_n 0, 1) := by decide +kernel
theorem dX1_most_64 : decode cX1_most 64 = .ok (.getfield 21, 3) := by decide +kernel
theorem dX1_most_67 : decode cX1_most 67 = .ok (.ineg, 1) := by decide +kernel
theorem dX1_most_68 : decode cX1_most 68 = .ok (.ireturn, 1) := by decide +kernel
theorem dX1_most_69 : decode cX1_most 69 = .ok (.aload_n 0, 1) := by decide +kernel
theorem dX1_most_70 : decode cX1_most 70 = .ok (.getfield 21, 3) := by decide +kernel
theorem dX1_most_73 : decode cX1_most 73 = .ok (.ineg, 1) := by decide +kernel
theorem dX1_most_74 : decode cX1_most 74 = .ok (.iconst 1, 1) := by decide +kernel
theorem dX1_most_75 : decode cX1_most 75 = .ok (.iadd, 1) := by decide +kernel
theorem dX1_most_76 : decode cX1_most 76 = .ok (.ireturn, 1) := by decide +kernel
theorem dX1_most_77 : decode cX1_most 77 = .ok (.aload_n 0, 1) := by decide +kernel
theorem dX1_most_78 : decode cX1_most 78 = .ok (.getfield 21, 3) := by decide +kernel
theorem dX1_most_81 : decode cX1_most 81 = .ok (.iload_n 1, 1) := by decide +kernel
theorem dX1_most_82 : decode cX1_most 82 = .ok (.iadd, 1) := by decide +kernel
theorem dX1_most_83 : decode cX1_most 83 = .ok (.ireturn, 1) := by decide +kernel
theorem dX1_comes_0 : decode cX1_comes 0 = .ok (.aload_n 0, 1) := by decide +kernel
theorem dX1_comes_1 : decode cX1_comes 1 = .ok (.getfield 21, 3) := by decide +kernel
theorem dX1_comes_4 : decode cX1_comes 4 = .ok (.invokestatic 44, 3) := by decide +kernel
theorem dX1_comes_7 : decode cX1_comes 7 = .ok (.istore_n 2, 1) := by decide +kernel
theorem dX1_comes_8 : decode cX1_comes 8 = .ok (.aload_n 0, 1) := by decide +kernel
theorem dX1_comes_9 : decode cX1_comes 9 = .ok (.getfield 11, 3) := by decide +kernel
theorem dX1_comes_12 : decode cX1_comes 12 = .ok (.tableswitch 84 1 6 #[40, 61, 72, 77, 84, 49], 40) := by decide +kernel
theorem dX1_comes_52 : decode cX1_comes 52 = .ok (.aload_n 0, 1) := by decide +kernel
theorem dX1_comes_53 : decode cX1_comes 53 = .ok (.getfield 24, 3) := by decide +kernel
theorem dX1_comes_56 : decode cX1_comes 56 = .ok (.iload_n 2, 1) := by decide +kernel
theorem dX1_comes_57 : decode cX1_comes 57 = .ok (.iconst 2, 1) := by decide +kernel
theorem dX1_comes_58 : decode cX1_comes 58 = .ok (.idiv, 1) := by decide +kernel
theorem dX1_comes_59 : decode cX1_comes 59 = .ok (.iadd, 1) := by decide +kernel
theorem dX1_comes_60 : decode cX1_comes 60 = .ok (.ireturn, 1) := by decide +kernel
theorem dX1_comes_61 : decode cX1_comes 61 = .ok (.aload_n 0, 1) := by decide +kernel
theorem dX1_comes_62 : decode cX1_comes 62 = .ok (.getfield 24, 3) := by decide +kernel
theorem dX1_comes_65 : decode cX1_comes 65 = .ok (.iload_n 2, 1) := by decide +kernel
theorem dX1_comes_66 : decode cX1_comes 66 = .ok (.iconst 2, 1) := by decide +kernel
theorem dX1_comes_67 : decode cX1_comes 67 = .ok (.idiv, 1) := by decide +kernel
theorem dX1_comes_68 : decode cX1_comes 68 = .ok (.iadd, 1) := by decide +kernel
theorem dX1_comes_69 : decode cX1_comes 69 = .ok (.bipush 10, 2) := by decide +kernel
theorem dX1_comes_71 : decode cX1_comes 71 = .ok (.iadd, 1) := by decide +kernel
theorem dX1_comes_72 : decode cX1_comes 72 = .ok (.ireturn, 1) := by decide +kernel
theorem dX1_comes_73 : decode cX1_comes 73 = .ok (.aload_n 0, 1) := by decide +kernel
theorem dX1_comes_74 : decode cX1_comes 74 = .ok (.getfield 24, 3) := by decide +kernel
theorem dX1_comes_77 : decode cX1_comes 77 = .ok (.iload_n 2, 1) := by decide +kernel
theorem dX1_comes_78 : decode cX1_comes 78 = .ok (.iadd, 1) := by decide +kernel
theorem dX1_comes_79 : decode cX1_comes 79 = .ok (.iload_n 1, 1) := by decide +kernel
theorem dX1_comes_80 : decode cX1_comes 80 = .ok (.iadd, 1) := by decide +kernel
theorem dX1_comes_81 : decode cX1_comes 81 = .ok (.iconst 1, 1) := by decide +kernel
theorem dX1_comes_82 : decode cX1_comes 82 = .ok (.iadd, 1) := by decide +kernel
theorem dX1_comes_83 : decode cX1_comes 83 = .ok (.ireturn, 1) := by decide +kernel
theorem dX1_comes_84 : decode cX1_comes 84 = .ok (.aload_n 0, 1) := by decide +kernel
theorem dX1_comes_85 : decode cX1_comes 85 = .ok (.getfield 24, 3) := by decide +kernel
theorem dX1_comes_88 : decode cX1_comes 88 = .ok (.ireturn, 1) := by decide +kernel
theorem dX1_comes_89 : decode cX1_comes 89 = .ok (.aload_n 0, 1) := by decide +kernel
theorem dX1_comes_90 : decode cX1_comes 90 = .ok (.getfield 24, 3) := by decide +kernel
theorem dX1_comes_93 : decode cX1_comes 93 = .ok (.iconst 2, 1) := by decide +kernel
theorem dX1_comes_94 : decode cX1_comes 94 = .ok (.iadd, 1) := by decide +kernel
theorem dX1_comes_95 : decode cX1_comes 95 = .ok (.ireturn, 1) := by decide +kernel
theorem dX1_comes_96 : decode cX1_comes 96 = .ok (.aload_n 0, 1) := by decide +kernel
theorem dX1_comes_97 : decode cX1_comes 97 = .ok (.getfield 24, 3) := by decide +kernel
theorem dX1_comes_100 : decode cX1_comes 100 = .ok (.iload_n 2, 1) := by decide +kernel
theorem dX1_comes_101 : decode cX1_comes 101 = .ok (.iadd, 1) := by decide +kernel
theorem dX1_comes_102 : decode cX1_comes 102 = .ok (.iload_n 1, 1) := by decide +kernel
theorem dX1_comes_103 : decode cX1_comes 103 = .ok (.iadd, 1) := by decide +kernel
theorem dX1_comes_104 : decode cX1_comes 104 = .ok (.ireturn, 1) := by decide +kernel
theorem dX2_init_0 : decode cX2_init 0 = .ok (.aload_n 0, 1) := by decide +kernel
theorem dX2_init_1 : decode cX2_init 1 = .ok (.invokespecial 3, 3) := by decide +kernel
theorem dX2_init_4 : decode cX2_init 4 = .ok (.aload_n 0, 1) := by decide +kernel
theorem dX2_init_5 : decode cX2_init 5 = .ok (.bipush 8, 2) := by decide +kernel
theorem dX2_init_7 : decode cX2_init 7 = .ok (.anewarray 9, 3) := by decide +kernel
theorem dX2_init_10 : decode cX2_init 10 = .ok (.putfield 11, 3) := by decide +kernel
theorem dX2_init_13 : decode cX2_init 13 = .ok (.aload_n 0, 1) := by decide +kernel
theorem dX2_init_14 : decode cX2_init 14 = .ok (.iconst 0, 1) := by decide +kernel
theorem dX2_init_15 : decode cX2_init 15 = .ok (.putfield 17, 3) := by decide +kernel
theorem dX2_init_18 : decode cX2_init 18 = .ok (.aload_n 0, 1) := by decide +kernel
theorem dX2_init_19 : decode cX2_init 19 = .ok (.iconst 0, 1) := by decide +kernel
theorem dX2_init_20 : decode cX2_init 20 = .ok (.putfield 21, 3) := by decide +kernel
theorem dX2_init_23 : decode cX2_init 23 = .ok (.aload_n 0, 1) := by decide +kernel
theorem dX2_init_24 : decode cX2_init 24 = .ok (.iconst 0, 1) := by decide +kernel
theorem dX2_init_25 : decode cX2_init 25 = .ok (.putfield 24, 3) := by decide +kernel
theorem dX2_init_28 : decode cX2_init 28 = .ok (.aload_n 0, 1) := by decide +kernel
theorem dX2_init_29 : decode cX2_init 29 = .ok (.iconst 0, 1) := by decide +kernel
theorem dX2_init_30 : decode cX2_init 30 = .ok (.putfield 27, 3) := by decide +kernel
theorem dX2_init_33 : decode cX2_init 33 = .ok (.aload_n 0, 1) := by decide +kernel
theorem dX2_init_34 : decode cX2_init 34 = .ok (.iconst 1, 1) := by decide +kernel
theorem dX2_init_35 : decode cX2_init 35 = .ok (.putfield 30, 3) := by decide +kernel
theorem dX2_init_38 : decode cX2_init 38 = .ok (.aload_n 0, 1) := by decide +kernel
theorem dX2_init_39 : decode cX2_init 39 = .ok (.bipush 10, 2) := by decide +kernel
theorem dX2_init_41 : decode cX2_init 41 = .ok (.newarray .int, 2) := by decide +kernel
theorem dX2_init_43 : decode cX2_init 43 = .ok (.putfield 33, 3) := by decide +kernel
theorem dX2_init_46 : decode cX2_init 46 = .ok (.iconst 0, 1) := by decide +kernel
theorem dX2_init_47 : decode cX2_init 47 = .ok (.istore_n 1, 1) := by decide +kernel
theorem dX2_init_48 : decode cX2_init 48 = .ok (.iload_n 1, 1) := by decide +kernel
theorem dX2_init_49 : decode cX2_init 49 = .ok (.bipush 8, 2) := by decide +kernel
theorem dX2_init_51 : decode cX2_init 51 = .ok (.if_icmp .ge 22, 3) := by decide +kernel
theorem dX2_init_54 : decode cX2_init 54 = .ok (.aload_n 0, 1) := by decide +kernel
theorem dX2_init_55 : decode cX2_init 55 = .ok (.getfield 11, 3) := by decide +kernel
theorem dX2_init_58 : decode cX2_init 58 = .ok (.iload_n 1, 1) := by decide +kernel
theorem dX2_init_59 : decode cX2_init 59 = .ok (.new 9, 3) := by decide +kernel
theorem dX2_init_62 : decode cX2_init 62 = .ok (.dup, 1) := by decide +kernel
theorem dX2_init_63 : decode cX2_init 63 = .ok (.invokespecial 37, 3) := by decide +kernel
theorem dX2_init_66 : decode cX2_init 66 = .ok (.aastore, 1) := by decide +kernel
theorem dX2_init_67 : decode cX2_init 67 = .ok (.iinc 1 1, 3) := by decide +kernel
theorem dX2_init_70 : decode cX2_init 70 = .ok (.goto (-22), 3) := by decide +kernel
theorem dX2_init_73 : decode cX2_init 73 = .ok (.aload_n 0, 1) := by decide +kernel
theorem dX2_init_74 : decode cX2_init 74 = .ok (.getfield 33, 3) := by decide +kernel
theorem dX2_init_77 : decode cX2_init 77 = .ok (.iconst (-1), 1) := by decide +kernel
theorem dX2_init_78 : decode cX2_init 78 = .ok (.invokestatic 38, 3) := by decide +kernel
theorem dX2_init_81 : decode cX2_init 81 = .ok (.return_, 1) := by decide +kernel
theorem dX2_become_0 : decode cX2_become 0 = .ok (.iconst 0, 1) := by decide +kernel
theorem dX2_become_1 : decode cX2_become 1 = .ok (.istore_n 2, 1) := by decide +kernel
theorem dX2_become_2 : decode cX2_become 2 = .ok (.iload_n 2, 1) := by decide +kernel
theorem dX2_become_3 : decode cX2_become 3 = .ok (.bipush 8, 2) := by decide +kernel
theorem dX2_become_5 : decode cX2_become 5 = .ok (.if_icmp .ge 24, 3) := by decide +kernel
theorem dX2_become_8 : decode cX2_become 8 = .ok (.aload_n 0, 1) := by decide +kernel
theorem dX2_become_9 : decode cX2_become 9 = .ok (.getfield 11, 3) := by decide +kernel
theorem dX2_become_12 : decode cX2_become 12 = .ok (.iload_n 2, 1) := by decide +kernel
theorem dX2_become_13 : decode cX2_become 13 = .ok (.aaload, 1) := by decide +kernel
theorem dX2_become_14 : decode cX2_become 14 = .ok (.aload_n 1, 1) := by decide +kernel
theorem dX2_become_15 : decode cX2_become 15 = .ok (.getfield 11, 3) := by decide +kernel
theorem dX2_become_18 : decode cX2_become 18 = .ok (.iload_n 2, 1) := by decide +kernel
theorem dX2_become_19 : decode cX2_become 19 = .ok (.aaload, 1) := by decide +kernel
theorem dX2_become_20 : decode cX2_become 20 = .ok (.invokevirtual 44, 3) := by decide +kernel
theorem dX2_become_23 : decode cX2_become 23 = .ok (.iinc 2 1, 3) := by decide +kernel
theorem dX2_become_26 : decode cX2_become 26 = .ok (.goto (-24), 3) := by decide +kernel
theorem dX2_become_29 : decode cX2_become 29 = .ok (.aload_n 0, 1) := by decide +kernel
theorem dX2_become_30 : decode cX2_become 30 = .ok (.aload_n 1, 1) := by decide +kernel
theorem dX2_become_31 : decode cX2_become 31 = .ok (.getfield 17, 3) := by decide +kernel
theorem dX2_become_34 : decode cX2_become 34 = .ok (.putfield 17, 3) := by decide +kernel
theorem dX2_become_37 : decode cX2_become 37 = .ok (.aload_n 0, 1) := by decide +kernel
theorem dX2_become_38 : decode cX2_become 38 = .ok (.aload_n 1, 1) := by decide +kernel
theorem dX2_become_39 : decode cX2_become 39 = .ok (.getfield 21, 3) := by decide +kernel
theorem dX2_become_42 : decode cX2_become 42 = .ok (.putfield 21, 3) := by decide +kernel
theorem dX2_become_45 : decode cX2_become 45 = .ok (.aload_n 0, 1) := by decide +kernel
theorem dX2_become_46 : decode cX2_become 46 = .ok (.aload_n 1, 1) := by decide +kernel
theorem dX2_become_47 : decode cX2_become 47 = .ok (.getfield 24, 3) := by decide +kernel
theorem dX2_become_50 : decode cX2_become 50 = .ok (.putfield 24, 3) := by decide +kernel
theorem dX2_become_53 : decode cX2_become 53 = .ok (.aload_n 0, 1) := by decide +kernel
theorem dX2_become_54 : decode cX2_become 54 = .ok (.aload_n 1, 1) := by decide +kernel
theorem dX2_become_55 : decode cX2_become 55 = .ok (.getfield 27, 3) := by decide +kernel
theorem dX2_become_58 : decode cX2_become 58 = .ok (.putfield 27, 3) := by decide +kernel
theorem dX2_become_61 : decode cX2_become 61 = .ok (.aload_n 0, 1) := by decide +kernel
theorem dX2_become_62 : decode cX2_become 62 = .ok (.aload_n 1, 1) := by decide +kernel
theorem dX2_become_63 : decode cX2_become 63 = .ok (.getfield 30, 3) := by decide +kernel
theorem dX2_become_66 : decode cX2_become 66 = .ok (.putfield 30, 3) := by decide +kernel
theorem dX2_become_69 : decode cX2_become 69 = .ok (.aload_n 1, 1) := by decide +kernel
theorem dX2_become_70 : decode cX2_become 70 = .ok (.getfield 33, 3) := by decide +kernel
theorem dX2_become_73 : decode cX2_become 73 = .ok (.iconst 0, 1) := by decide +kernel
theorem dX2_become_74 : decode cX2_become 74 = .ok (.aload_n 0, 1) := by decide +kernel
theorem dX2_become_75 : decode cX2_become 75 = .ok (.getfield 33, 3) := by decide +kernel
theorem dX2_become_78 : decode cX2_become 78 = .ok (.iconst 0, 1) := by decide +kernel
theorem dX2_become_79 : decode cX2_become 79 = .ok (.bipush 10, 2) := by decide +kernel
theorem dX2_become_81 : decode cX2_become 81 = .ok (.invokestatic 48, 3) := by decide +kernel
theorem dX2_become_84 : decode cX2_become 84 = .ok (.return_, 1) := by decide +kernel
theorem dX2_has_0 : decode cX2_has 0 = .ok (.iload_n 1, 1) := by decide +kernel
theorem dX2_has_1 : decode cX2_has 1 = .ok (.ifCond .lt 15, 3) := by decide +kernel
theorem dX2_has_4 : decode cX2_has 4 = .ok (.iload_n 1, 1) := by decide +kernel
theorem dX2_has_5 : decode cX2_has 5 = .ok (.aload_n 0, 1) := by decide +kernel
theorem dX2_has_6 : decode cX2_has 6 = .ok (.getfield 17, 3) := by decide +kernel
theorem dX2_has_9 : decode cX2_has 9 = .ok (.if_icmp .ge 7, 3) := by decide +kernel
theorem dX2_has_12 : decode cX2_has 12 = .ok (.iconst 1, 1) := by decide +kernel
theorem dX2_has_13 : decode cX2_has 13 = .ok (.goto 4, 3) := by decide +kernel
theorem dX2_has_16 : decode cX2_has 16 = .ok (.iconst 0, 1) := by decide +kernel
theorem dX2_has_17 : decode cX2_has 17 = .ok (.ireturn, 1) := by decide +kernel
theorem dX2_hasAll_0 : decode cX2_hasAll 0 = .ok (.iload_n 1, 1) := by decide +kernel
theorem dX2_hasAll_1 : decode cX2_hasAll 1 = .ok (.ifCond .lt 17, 3) := by decide +kernel
theorem dX2_hasAll_4 : decode cX2_hasAll 4 = .ok (.iload_n 1, 1) := by decide +kernel
theorem dX2_hasAll_5 : decode cX2_hasAll 5 = .ok (.iconst 1, 1) := by decide +kernel
theorem dX2_hasAll_6 : decode cX2_hasAll 6 = .ok (.aload_n 0, 1) := by decide +kernel
theorem dX2_hasAll_7 : decode cX2_hasAll 7 = .ok (.getfield 17, 3) := by decide +kernel
theorem dX2_hasAll_10 : decode cX2_hasAll 10 = .ok (.ishl, 1) := by decide +kernel
theorem dX2_hasAll_11 : decode cX2_hasAll 11 = .ok (.if_icmp .ge 7, 3) := by decide +kernel
theorem dX2_hasAll_14 : decode cX2_hasAll 14 = .ok (.iconst 1, 1) := by decide +kernel
theorem dX2_hasAll_15 : decode cX2_hasAll 15 = .ok (.goto 4, 3) := by decide +kernel
theorem dX2_hasAll_18 : decode cX2_hasAll 18 = .ok (.iconst 0, 1) := by decide +kernel
theorem dX2_hasAll_19 : decode cX2_hasAll 19 = .ok (.ireturn, 1) := by decide +kernel
theorem dX2_receive_0 : decode cX2_receive 0 = .ok (.aload_n 0, 1) := by decide +kernel
theorem dX2_receive_1 : decode cX2_receive 1 = .ok (.getfield 11, 3) := by decide +kernel
theorem dX2_receive_4 : decode cX2_receive 4 = .ok (.aload_n 0, 1) := by decide +kernel
theorem dX2_receive_5 : decode cX2_receive 5 = .ok (.getfield 17, 3) := by decide +kernel
theorem dX2_receive_8 : decode cX2_receive 8 = .ok (.aaload, 1) := by decide +kernel
theorem dX2_receive_9 : decode cX2_receive 9 = .ok (.astore 6, 2) := by decide +kernel
theorem dX2_receive_11 : decode cX2_receive 11 = .ok (.aload 6, 2) := by decide +kernel
theorem dX2_receive_13 : decode cX2_receive 13 = .ok (.iload_n 1, 1) := by decide +kernel
theorem dX2_receive_14 : decode cX2_receive 14 = .ok (.putfield 54, 3) := by decide +kernel
theorem dX2_receive_17 : decode cX2_receive 17 = .ok (.aload 6, 2) := by decide +kernel
theorem dX2_receive_19 : decode cX2_receive 19 = .ok (.iload_n 2, 1) := by decide +kernel
theorem dX2_receive_20 : decode cX2_receive 20 = .ok (.putfield 57, 3) := by decide +kernel
theorem dX2_receive_23 : decode cX2_receive 23 = .ok (.aload 6, 2) := by decide +kernel
theorem dX2_receive_25 : decode cX2_receive 25 = .ok (.iload_n 3, 1) := by decide +kernel
theorem dX2_receive_26 : decode cX2_receive 26 = .ok (.putfield 60, 3) := by decide +kernel
theorem dX2_receive_29 : decode cX2_receive 29 = .ok (.aload 6, 2) := by decide +kernel
theorem dX2_receive_31 : decode cX2_receive 31 = .ok (.iload 4, 2) := by decide +kernel
theorem dX2_receive_33 : decode cX2_receive 33 = .ok (.putfield 63, 3) := by decide +kernel
theorem dX2_receive_36 : decode cX2_receive 36 = .ok (.aload 6, 2) := by decide +kernel
theorem dX2_receive_38 : decode cX2_receive 38 = .ok (.iload 5, 2) := by decide +kernel
theorem dX2_receive_40 : decode cX2_receive 40 = .ok (.putfield 66, 3) := by decide +kernel
theorem dX2_receive_43 : decode cX2_receive 43 = .ok (.aload 6, 2) := by decide +kernel
theorem dX2_receive_45 : decode cX2_receive 45 = .ok (.iconst 0, 1) := by decide +kernel
theorem dX2_receive_46 : decode cX2_receive 46 = .ok (.putfield 69, 3) := by decide +kernel
theorem dX2_receive_49 : decode cX2_receive 49 = .ok (.aload_n 0, 1) := by decide +kernel
theorem dX2_receive_50 : decode cX2_receive 50 = .ok (.dup, 1) := by decide +kernel
theorem dX2_receive_51 : decode cX2_receive 51 = .ok (.getfield 17, 3) := by decide +kernel
theorem dX2_receive_54 : decode cX2_receive 54 = .ok (.iconst 1, 1) := by decide +kernel
theorem dX2_receive_55 : decode cX2_receive 55 = .ok (.iadd, 1) := by decide +kernel
theorem dX2_receive_56 : decode cX2_receive 56 = .ok (.putfield 17, 3) := by decide +kernel
theorem dX2_receive_59 : decode cX2_receive 59 = .ok (.aload_n 0, 1) := by decide +kernel
theorem dX2_receive_60 : decode cX2_receive 60 = .ok (.getfield 17, 3) := by decide +kernel
theorem dX2_receive_63 : decode cX2_receive 63 = .ok (.iconst 1, 1) := by decide +kernel
theorem dX2_receive_64 : decode cX2_receive 64 = .ok (.isub, 1) := by decide +kernel
theorem dX2_receive_65 : decode cX2_receive 65 = .ok (.ireturn, 1) := by decide +kernel
theorem dX2_counts_0 : decode cX2_counts 0 = .ok (.aload_n 1, 1) := by decide +kernel
theorem dX2_counts_1 : decode cX2_counts 1 = .ok (.getfield 69, 3) := by decide +kernel
theorem dX2_counts_4 : decode cX2_counts 4 = .ok (.ifCond .ne 19, 3) := by decide +kernel
theorem dX2_counts_7 : decode cX2_counts 7 = .ok (.aload_n 1, 1) := by decide +kernel
theorem dX2_counts_8 : decode cX2_counts 8 = .ok (.aload_n 0, 1) := by decide +kernel
theorem dX2_counts_9 : decode cX2_counts 9 = .ok (.getfield 24, 3) := by decide +kernel
theorem dX2_counts_12 : decode cX2_counts 12 = .ok (.invokevirtual 72, 3) := by decide +kernel
theorem dX2_counts_15 : decode cX2_counts 15 = .ok (.iload_n 2, 1) := by decide +kernel
theorem dX2_counts_16 : decode cX2_counts 16 = .ok (.if_icmp .gt 7, 3) := by decide +kernel
theorem dX2_counts_19 : decode cX2_counts 19 = .ok (.iconst 1, 1) := by decide +kernel
theorem dX2_counts_20 : decode cX2_counts 20 = .ok (.goto 4, 3) := by decide +kernel
theorem dX2_counts_23 : decode cX2_counts 23 = .ok (.iconst 0, 1) := by decide +kernel
theorem dX2_counts_24 : decode cX2_counts 24 = .ok (.ireturn, 1) := by decide +kernel
theorem dX2_countingOn_0 : decode cX2_countingOn 0 = .ok (.iconst 0, 1) := by decide +kernel
theorem dX2_countingOn_1 : decode cX2_countingOn 1 = .ok (.istore_n 2, 1) := by decide +kernel
theorem dX2_countingOn_2 : decode cX2_countingOn 2 = .ok (.iconst 0, 1) := by decide +kernel
theorem dX2_countingOn_3 : decode cX2_countingOn 3 = .ok (.istore_n 3, 1) := by decide +kernel
theorem dX2_countingOn_4 : decode cX2_countingOn 4 = .ok (.iload_n 3, 1) := by decide +kernel
theorem dX2_countingOn_5 : decode cX2_countingOn 5 = .ok (.aload_n 0, 1) := by decide +kernel
theorem dX2_countingOn_6 : decode cX2_countingOn 6 = .ok (.getfield 17, 3) := by decide +kernel
theorem dX2_countingOn_9 : decode cX2_countingOn 9 = .ok (.if_icmp .ge 29, 3) := by decide +kernel
theorem dX2_countingOn_12 : decode cX2_countingOn 12 = .ok (.aload_n 0, 1) := by decide +kernel
theorem dX2_countingOn_13 : decode cX2_countingOn 13 = .ok (.aload_n 0, 1) := by decide +kernel
theorem dX2_countingOn_14 : decode cX2_countingOn 14 = .ok (.getfield 11, 3) := by decide +kernel
theorem dX2_countingOn_17 : decode cX2_countingOn 17 = .ok (.iload_n 3, 1) := by decide +kernel
theorem dX2_countingOn_18 : decode cX2_countingOn 18 = .ok (.aaload, 1) := by decide +kernel
theorem dX2_countingOn_19 : decode cX2_countingOn 19 = .ok (.iload_n 1, 1) := by decide +kernel
theorem dX2_countingOn_20 : decode cX2_countingOn 20 = .ok (.invokevirtual 76, 3) := by decide +kernel
theorem dX2_countingOn_23 : decode cX2_countingOn 23 = .ok (.ifCond .eq 9, 3) := by decide +kernel
theorem dX2_countingOn_26 : decode cX2_countingOn 26 = .ok (.iload_n 2, 1) := by decide +kernel
theorem dX2_countingOn_27 : decode cX2_countingOn 27 = .ok (.iconst 1, 1) := by decide +kernel
theorem dX2_countingOn_28 : decode cX2_countingOn 28 = .ok (.iload_n 3, 1) := by decide +kernel
theorem dX2_countingOn_29 : decode cX2_countingOn 29 = .ok (.ishl, 1) := by decide +kernel
theorem dX2_countingOn_30 : decode cX2_countingOn 30 = .ok (.ior, 1) := by decide +kernel
theorem dX2_countingOn_31 : decode cX2_countingOn 31 = .ok (.istore_n 2, 1) := by decide +kernel
theorem dX2_countingOn_32 : decode cX2_countingOn 32 = .ok (.iinc 3 1, 3) := by decide +kernel
theorem dX2_countingOn_35 : decode cX2_countingOn 35 = .ok (.goto (-31), 3) := by decide +kernel
theorem dX2_countingOn_38 : decode cX2_countingOn 38 = .ok (.iload_n 2, 1) := by decide +kernel
theorem dX2_countingOn_39 : decode cX2_countingOn 39 = .ok (.ireturn, 1) := by decide +kernel
theorem dX2_toCome_0 : decode cX2_toCome 0 = .ok (.iconst 0, 1) := by decide +kernel
theorem dX2_toCome_1 : decode cX2_toCome 1 = .ok (.istore_n 1, 1) := by decide +kernel
theorem dX2_toCome_2 : decode cX2_toCome 2 = .ok (.iconst 0, 1) := by decide +kernel
theorem dX2_toCome_3 : decode cX2_toCome 3 = .ok (.istore_n 2, 1) := by decide +kernel
theorem dX2_toCome_4 : decode cX2_toCome 4 = .ok (.iload_n 2, 1) := by decide +kernel
theorem dX2_toCome_5 : decode cX2_toCome 5 = .ok (.aload_n 0, 1) := by decide +kernel
theorem dX2_toCome_6 : decode cX2_toCome 6 = .ok (.getfield 17, 3) := by decide +kernel
theorem dX2_toCome_9 : decode cX2_toCome 9 = .ok (.if_icmp .ge 35, 3) := by decide +kernel
theorem dX2_toCome_12 : decode cX2_toCome 12 = .ok (.aload_n 0, 1) := by decide +kernel
theorem dX2_toCome_13 : decode cX2_toCome 13 = .ok (.getfield 11, 3) := by decide +kernel
theorem dX2_toCome_16 : decode cX2_toCome 16 = .ok (.iload_n 2, 1) := by decide +kernel
theorem dX2_toCome_17 : decode cX2_toCome 17 = .ok (.aaload, 1) := by decide +kernel
theorem dX2_toCome_18 : decode cX2_toCome 18 = .ok (.aload_n 0, 1) := by decide +kernel
theorem dX2_toCome_19 : decode cX2_toCome 19 = .ok (.getfield 24, 3) := by decide +kernel
theorem dX2_toCome_22 : decode cX2_toCome 22 = .ok (.invokevirtual 72, 3) := by decide +kernel
theorem dX2_toCome_25 : decode cX2_toCome 25 = .ok (.aload_n 0, 1) := by decide +kernel
theorem dX2_toCome_26 : decode cX2_toCome 26 = .ok (.getfield 27, 3) := by decide +kernel
theorem dX2_toCome_29 : decode cX2_toCome 29 = .ok (.if_icmp .le 9, 3) := by decide +kernel
theorem dX2_toCome_32 : decode cX2_toCome 32 = .ok (.iload_n 1, 1) := by decide +kernel
theorem dX2_toCome_33 : decode cX2_toCome 33 = .ok (.iconst 1, 1) := by decide +kernel
theorem dX2_toCome_34 : decode cX2_toCome 34 = .ok (.iload_n 2, 1) := by decide +kernel
theorem dX2_toCome_35 : decode cX2_toCome 35 = .ok (.ishl, 1) := by decide +kernel
theorem dX2_toCome_36 : decode cX2_toCome 36 = .ok (.ior, 1) := by decide +kernel
theorem dX2_toCome_37 : decode cX2_toCome 37 = .ok (.istore_n 1, 1) := by decide +kernel
theorem dX2_toCome_38 : decode cX2_toCome 38 = .ok (.iinc 2 1, 3) := by decide +kernel
theorem dX2_toCome_41 : decode cX2_toCome 41 = .ok (.goto (-37), 3) := by decide +kernel
theorem dX2_toCome_44 : decode cX2_toCome 44 = .ok (.iload_n 1, 1) := by decide +kernel
theorem dX2_toCome_45 : decode cX2_toCome 45 = .ok (.ireturn, 1) := by decide +kernel
theorem dX2_struckOnes_0 : decode cX2_struckOnes 0 = .ok (.iconst 0, 1) := by decide +kernel
theorem dX2_struckOnes_1 : decode cX2_struckOnes 1 = .ok (.istore_n 1, 1) := by decide +kernel
theorem dX2_struckOnes_2 : decode cX2_struckOnes 2 = .ok (.iconst 0, 1) := by decide +kernel
theorem dX2_struckOnes_3 : decode cX2_struckOnes 3 = .ok (.istore_n 2, 1) := by decide +kernel
theorem dX2_struckOnes_4 : decode cX2_struckOnes 4 = .ok (.iload_n 2, 1) := by decide +kernel
theorem dX2_struckOnes_5 : decode cX2_struckOnes 5 = .ok (.aload_n 0, 1) := by decide +kernel
theorem dX2_struckOnes_6 : decode cX2_struckOnes 6 = .ok (.getfield 17, 3) := by decide +kernel
theorem dX2_struckOnes_9 : decode cX2_struckOnes 9 = .ok (.if_icmp .ge 23, 3) := by decide +kernel
theorem dX2_struckOnes_12 : decode cX2_struckOnes 12 = .ok (.iload_n 1, 1) := by decide +kernel
theorem dX2_struckOnes_13 : decode cX2_struckOnes 13 = .ok (.aload_n 0, 1) := by decide +kernel
theorem dX2_struckOnes_14 : decode cX2_struckOnes 14 = .ok (.getfield 11, 3) := by decide +kernel
theorem dX2_struckOnes_17 : decode cX2_struckOnes 17 = .ok (.iload_n 2, 1) := by decide +kernel
theorem dX2_struckOnes_18 : decode cX2_struckOnes 18 = .ok (.aaload, 1) := by decide +kernel
theorem dX2_struckOnes_19 : decode cX2_struckOnes 19 = .ok (.getfield 69, 3) := by decide +kernel
theorem dX2_struckOnes_22 : decode cX2_struckOnes 22 = .ok (.iload_n 2, 1) := by decide +kernel
theorem dX2_struckOnes_23 : decode cX2_struckOnes 23 = .ok (.ishl, 1) := by decide +kernel
theorem dX2_struckOnes_24 : decode cX2_struckOnes 24 = .ok (.ior, 1) := by decide +kernel
theorem dX2_struckOnes_25 : decode cX2_struckOnes 25 = .ok (.istore_n 1, 1) := by decide +kernel
theorem dX2_struckOnes_26 : decode cX2_struckOnes 26 = .ok (.iinc 2 1, 3) := by decide +kernel
theorem dX2_struckOnes_29 : decode cX2_struckOnes 29 = .ok (.goto (-25), 3) := by decide +kernel
theorem dX2_struckOnes_32 : decode cX2_struckOnes 32 = .ok (.iload_n 1, 1) := by decide +kernel
theorem dX2_struckOnes_33 : decode cX2_struckOnes 33 = .ok (.ireturn, 1) := by decide +kernel
theorem dX2_allDays_0 : decode cX2_allDays 0 = .ok (.iconst 0, 1) := by decide +kernel
theorem dX2_allDays_1 : decode cX2_allDays 1 = .ok (.istore_n 1, 1) := by decide +kernel
theorem dX2_allDays_2 : decode cX2_allDays 2 = .ok (.iconst 0, 1) := by decide +kernel
theorem dX2_allDays_3 : decode cX2_allDays 3 = .ok (.istore_n 2, 1) := by decide +kernel
theorem dX2_allDays_4 : decode cX2_allDays 4 = .ok (.iload_n 2, 1) := by decide +kernel
theorem dX2_allDays_5 : decode cX2_allDays 5 = .ok (.aload_n 0, 1) := by decide +kernel
theorem dX2_allDays_6 : decode cX2_allDays 6 = .ok (.getfield 17, 3) := by decide +kernel
theorem dX2_allDays_9 : decode cX2_allDays 9 = .ok (.if_icmp .ge 21, 3) := by decide +kernel
theorem dX2_allDays_12 : decode cX2_allDays 12 = .ok (.iload_n 1, 1) := by decide +kernel
theorem dX2_allDays_13 : decode cX2_allDays 13 = .ok (.aload_n 0, 1) := by decide +kernel
theorem dX2_allDays_14 : decode cX2_allDays 14 = .ok (.getfield 11, 3) := by decide +kernel
theorem dX2_allDays_17 : decode cX2_allDays 17 = .ok (.iload_n 2, 1) := by decide +kernel
theorem dX2_allDays_18 : decode cX2_allDays 18 = .ok (.aaload, 1) := by decide +kernel
theorem dX2_allDays_19 : decode cX2_allDays 19 = .ok (.getfield 63, 3) := by decide +kernel
theorem dX2_allDays_22 : decode cX2_allDays 22 = .ok (.iadd, 1) := by decide +kernel
theorem dX2_allDays_23 : decode cX2_allDays 23 = .ok (.istore_n 1, 1) := by decide +kernel
theorem dX2_allDays_24 : decode cX2_allDays 24 = .ok (.iinc 2 1, 3) := by decide +kernel
theorem dX2_allDays_27 : decode cX2_allDays 27 = .ok (.goto (-23), 3) := by decide +kernel
theorem dX2_allDays_30 : decode cX2_allDays 30 = .ok (.iload_n 1, 1) := by decide +kernel
theorem dX2_allDays_31 : decode cX2_allDays 31 = .ok (.ireturn, 1) := by decide +kernel
theorem dX2_heldSpots_0 : decode cX2_heldSpots 0 = .ok (.iconst 0, 1) := by decide +kernel
theorem dX2_heldSpots_1 : decode cX2_heldSpots 1 = .ok (.istore_n 1, 1) := by decide +kernel
theorem dX2_heldSpots_2 : decode cX2_heldSpots 2 = .ok (.iconst 0, 1) := by decide +kernel
theorem dX2_heldSpots_3 : decode cX2_heldSpots 3 = .ok (.istore_n 2, 1) := by decide +kernel
theorem dX2_heldSpots_4 : decode cX2_heldSpots 4 = .ok (.iload_n 2, 1) := by decide +kernel
theorem dX2_heldSpots_5 : decode cX2_heldSpots 5 = .ok (.bipush 10, 2) := by decide +kernel
theorem dX2_heldSpots_7 : decode cX2_heldSpots 7 = .ok (.if_icmp .ge 22, 3) := by decide +kernel
theorem dX2_heldSpots_10 : decode cX2_heldSpots 10 = .ok (.aload_n 0, 1) := by decide +kernel
theorem dX2_heldSpots_11 : decode cX2_heldSpots 11 = .ok (.getfield 33, 3) := by decide +kernel
theorem dX2_heldSpots_14 : decode cX2_heldSpots 14 = .ok (.iload_n 2, 1) := by decide +kernel
theorem dX2_heldSpots_15 : decode cX2_heldSpots 15 = .ok (.iaload, 1) := by decide +kernel
theorem dX2_heldSpots_16 : decode cX2_heldSpots 16 = .ok (.iconst (-1), 1) := by decide +kernel
theorem dX2_heldSpots_17 : decode cX2_heldSpots 17 = .ok (.if_icmp .eq 6, 3) := by decide +kernel
theorem dX2_heldSpots_20 : decode cX2_heldSpots 20 = .ok (.iinc 1 1, 3) := by decide +kernel
theorem dX2_heldSpots_23 : decode cX2_heldSpots 23 = .ok (.iinc 2 1, 3) := by decide +kernel
theorem dX2_heldSpots_26 : decode cX2_heldSpots 26 = .ok (.goto (-22), 3) := by decide +kernel
theorem dX2_heldSpots_29 : decode cX2_heldSpots 29 = .ok (.iload_n 1, 1) := by decide +kernel
theorem dX2_heldSpots_30 : decode cX2_heldSpots 30 = .ok (.ireturn, 1) := by decide +kernel
theorem dX2_draw_0 : decode cX2_draw 0 = .ok (.aload_n 0, 1) := by decide +kernel
theorem dX2_draw_1 : decode cX2_draw 1 = .ok (.aload_n 0, 1) := by decide +kernel
theorem dX2_draw_2 : decode cX2_draw 2 = .ok (.getfield 30, 3) := by decide +kernel
theorem dX2_draw_5 : decode cX2_draw 5 = .ok (.ldc 80, 2) := by decide +kernel
theorem dX2_draw_7 : decode cX2_draw 7 = .ok (.imul, 1) := by decide +kernel
theorem dX2_draw_8 : decode cX2_draw 8 = .ok (.sipush 12345, 3) := by decide +kernel
theorem dX2_draw_11 : decode cX2_draw 11 = .ok (.iadd, 1) := by decide +kernel
theorem dX2_draw_12 : decode cX2_draw 12 = .ok (.putfield 30, 3) := by decide +kernel
theorem dX2_draw_15 : decode cX2_draw 15 = .ok (.aload_n 0, 1) := by decide +kernel
theorem dX2_draw_16 : decode cX2_draw 16 = .ok (.getfield 30, 3) := by decide +kernel
theorem dX2_draw_19 : decode cX2_draw 19 = .ok (.bipush 8, 2) := by decide +kernel
theorem dX2_draw_21 : decode cX2_draw 21 = .ok (.iushr, 1) := by decide +kernel
theorem dX2_draw_22 : decode cX2_draw 22 = .ok (.ireturn, 1) := by decide +kernel
theorem dX3_init_0 : decode cX3_init 0 = .ok (.aload_n 0, 1) := by decide +kernel
theorem dX3_init_1 : decode cX3_init 1 = .ok (.invokespecial 3, 3) := by decide +kernel
theorem dX3_init_4 : decode cX3_init 4 = .ok (.aload_n 0, 1) := by decide +kernel
theorem dX3_init_5 : decode cX3_init 5 = .ok (.iconst 0, 1) := by decide +kernel
theorem dX3_init_6 : decode cX3_init 6 = .ok (.putfield 9, 3) := by decide +kernel
theorem dX3_init_9 : decode cX3_init 9 = .ok (.aload_n 0, 1) := by decide +kernel
theorem dX3_init_10 : decode cX3_init 10 = .ok (.iconst 0, 1) := by decide +kernel
theorem dX3_init_11 : decode cX3_init 11 = .ok (.putfield 15, 3) := by decide +kernel
theorem dX3_init_14 : decode cX3_init 14 = .ok (.aload_n 0, 1) := by decide +kernel
theorem dX3_init_15 : decode cX3_init 15 = .ok (.bipush 40, 2) := by decide +kernel
theorem dX3_init_17 : decode cX3_init 17 = .ok (.newarray .int, 2) := by decide +kernel
theorem dX3_init_19 : decode cX3_init 19 = .ok (.putfield 18, 3) := by decide +kernel
theorem dX3_init_22 : decode cX3_init 22 = .ok (.return_, 1) := by decide +kernel
theorem dX3_isMissing_0 : decode cX3_isMissing 0 = .ok (.aload_n 0, 1) := by decide +kernel
theorem dX3_isMissing_1 : decode cX3_isMissing 1 = .ok (.getfield 9, 3) := by decide +kernel
theorem dX3_isMissing_4 : decode cX3_isMissing 4 = .ok (.ifCond .ne 7, 3) := by decide +kernel
theorem dX3_isMissing_7 : decode cX3_isMissing 7 = .ok (.iconst 1, 1) := by decide +kernel
theorem dX3_isMissing_8 : decode cX3_isMissing 8 = .ok (.goto 4, 3) := by decide +kernel
theorem dX3_isMissing_11 : decode cX3_isMissing 11 = .ok (.iconst 0, 1) := by decide +kernel
theorem dX3_isMissing_12 : decode cX3_isMissing 12 = .ok (.ireturn, 1) := by decide +kernel
theorem dX3_renew_0 : decode cX3_renew 0 = .ok (.aload_n 0, 1) := by decide +kernel
theorem dX3_renew_1 : decode cX3_renew 1 = .ok (.iload_n 1, 1) := by decide +kernel
theorem dX3_renew_2 : decode cX3_renew 2 = .ok (.putfield 9, 3) := by decide +kernel
theorem dX3_renew_5 : decode cX3_renew 5 = .ok (.aload_n 0, 1) := by decide +kernel
theorem dX3_renew_6 : decode cX3_renew 6 = .ok (.iload_n 2, 1) := by decide +kernel
theorem dX3_renew_7 : decode cX3_renew 7 = .ok (.putfield 15, 3) := by decide +kernel
theorem dX3_renew_10 : decode cX3_renew 10 = .ok (.aload_n 0, 1) := by decide +kernel
theorem dX3_renew_11 : decode cX3_renew 11 = .ok (.getfield 18, 3) := by decide +kernel
theorem dX3_renew_14 : decode cX3_renew 14 = .ok (.iconst 0, 1) := by decide +kernel
theorem dX3_renew_15 : decode cX3_renew 15 = .ok (.invokestatic 22, 3) := by decide +kernel
theorem dX3_renew_18 : decode cX3_renew 18 = .ok (.return_, 1) := by decide +kernel
theorem dX3_put_0 : decode cX3_put 0 = .ok (.aload_n 0, 1) := by decide +kernel
theorem dX3_put_1 : decode cX3_put 1 = .ok (.getfield 9, 3) := by decide +kernel
theorem dX3_put_4 : decode cX3_put 4 = .ok (.bipush 8, 2) := by decide +kernel
theorem dX3_put_6 : decode cX3_put 6 = .ok (.if_icmp .ne 14, 3) := by decide +kernel
theorem dX3_put_9 : decode cX3_put 9 = .ok (.aload_n 0, 1) := by decide +kernel
theorem dX3_put_10 : decode cX3_put 10 = .ok (.getfield 18, 3) := by decide +kernel
theorem dX3_put_13 : decode cX3_put 13 = .ok (.iload_n 1, 1) := by decide +kernel
theorem dX3_put_14 : decode cX3_put 14 = .ok (.iload_n 2, 1) := by decide +kernel
theorem dX3_put_15 : decode cX3_put 15 = .ok (.i2b, 1) := by decide +kernel
theorem dX3_put_16 : decode cX3_put 16 = .ok (.iastore, 1) := by decide +kernel
theorem dX3_put_17 : decode cX3_put 17 = .ok (.goto 30, 3) := by decide +kernel
theorem dX3_put_20 : decode cX3_put 20 = .ok (.aload_n 0, 1) := by decide +kernel
theorem dX3_put_21 : decode cX3_put 21 = .ok (.getfield 9, 3) := by decide +kernel
theorem dX3_put_24 : decode cX3_put 24 = .ok (.bipush 16, 2) := by decide +kernel
theorem dX3_put_26 : decode cX3_put 26 = .ok (.if_icmp .ne 14, 3) := by decide +kernel
theorem dX3_put_29 : decode cX3_put 29 = .ok (.aload_n 0, 1) := by decide +kernel
theorem dX3_put_30 : decode cX3_put 30 = .ok (.getfield 18, 3) := by decide +kernel
theorem dX3_put_33 : decode cX3_put 33 = .ok (.iload_n 1, 1) := by decide +kernel
theorem dX3_put_34 : decode cX3_put 34 = .ok (.iload_n 2, 1) := by decide +kernel
theorem dX3_put_35 : decode cX3_put 35 = .ok (.i2s, 1) := by decide +kernel
theorem dX3_put_36 : decode cX3_put 36 = .ok (.iastore, 1) := by decide +kernel
theorem dX3_put_37 : decode cX3_put 37 = .ok (.goto 10, 3) := by decide +kernel
theorem dX3_put_40 : decode cX3_put 40 = .ok (.aload_n 0, 1) := by decide +kernel
theorem dX3_put_41 : decode cX3_put 41 = .ok (.getfield 18, 3) := by decide +kernel
theorem dX3_put_44 : decode cX3_put 44 = .ok (.iload_n 1, 1) := by decide +kernel
theorem dX3_put_45 : decode cX3_put 45 = .ok (.iload_n 2, 1) := by decide +kernel
theorem dX3_put_46 : decode cX3_put 46 = .ok (.iastore, 1) := by decide +kernel
theorem dX3_put_47 : decode cX3_put 47 = .ok (.return_, 1) := by decide +kernel
theorem dX3_hasRun_0 : decode cX3_hasRun 0 = .ok (.iload_n 1, 1) := by decide +kernel
theorem dX3_hasRun_1 : decode cX3_hasRun 1 = .ok (.ifCond .lt 29, 3) := by decide +kernel
theorem dX3_hasRun_4 : decode cX3_hasRun 4 = .ok (.iload_n 2, 1) := by decide +kernel
theorem dX3_hasRun_5 : decode cX3_hasRun 5 = .ok (.ifCond .lt 25, 3) := by decide +kernel
theorem dX3_hasRun_8 : decode cX3_hasRun 8 = .ok (.iload_n 2, 1) := by decide +kernel
theorem dX3_hasRun_9 : decode cX3_hasRun 9 = .ok (.aload_n 0, 1) := by decide +kernel
theorem dX3_hasRun_10 : decode cX3_hasRun 10 = .ok (.getfield 15, 3) := by decide +kernel
theorem dX3_hasRun_13 : decode cX3_hasRun 13 = .ok (.if_icmp .gt 17, 3) := by decide +kernel
theorem dX3_hasRun_16 : decode cX3_hasRun 16 = .ok (.iload_n 1, 1) := by decide +kernel
theorem dX3_hasRun_17 : decode cX3_hasRun 17 = .ok (.aload_n 0, 1) := by decide +kernel
theorem dX3_hasRun_18 : decode cX3_hasRun 18 = .ok (.getfield 15, 3) := by decide +kernel
theorem dX3_hasRun_21 : decode cX3_hasRun 21 = .ok (.iload_n 2, 1) := by decide +kernel
theorem dX3_hasRun_22 : decode cX3_hasRun 22 = .ok (.isub, 1) := by decide +kernel
theorem dX3_hasRun_23 : decode cX3_hasRun 23 = .ok (.if_icmp .gt 7, 3) := by decide +kernel
theorem dX3_hasRun_26 : decode cX3_hasRun 26 = .ok (.iconst 1, 1) := by decide +kernel
theorem dX3_hasRun_27 : decode cX3_hasRun 27 = .ok (.goto 4, 3) := by decide +kernel
theorem dX3_hasRun_30 : decode cX3_hasRun 30 = .ok (.iconst 0, 1) := by decide +kernel
theorem dX3_hasRun_31 : decode cX3_hasRun 31 = .ok (.ireturn, 1) := by decide +kernel
theorem dX3_arePlaces_0 : decode cX3_arePlaces 0 = .ok (.aload_n 0, 1) := by decide +kernel
theorem dX3_arePlaces_1 : decode cX3_arePlaces 1 = .ok (.getfield 15, 3) := by decide +kernel
theorem dX3_arePlaces_4 : decode cX3_arePlaces 4 = .ok (.bipush 8, 2) := by decide +kernel
theorem dX3_arePlaces_6 : decode cX3_arePlaces 6 = .ok (.if_icmp .le 5, 3) := by decide +kernel
theorem dX3_arePlaces_9 : decode cX3_arePlaces 9 = .ok (.iconst 0, 1) := by decide +kernel
theorem dX3_arePlaces_10 : decode cX3_arePlaces 10 = .ok (.ireturn, 1) := by decide +kernel
theorem dX3_arePlaces_11 : decode cX3_arePlaces 11 = .ok (.iconst 0, 1) := by decide +kernel
theorem dX3_arePlaces_12 : decode cX3_arePlaces 12 = .ok (.istore_n 1, 1) := by decide +kernel
theorem dX3_arePlaces_13 : decode cX3_arePlaces 13 = .ok (.iload_n 1, 1) := by decide +kernel
theorem dX3_arePlaces_14 : decode cX3_arePlaces 14 = .ok (.aload_n 0, 1) := by decide +kernel
theorem dX3_arePlaces_15 : decode cX3_arePlaces 15 = .ok (.getfield 15, 3) := by decide +kernel
theorem dX3_arePlaces_18 : decode cX3_arePlaces 18 = .ok (.if_icmp .ge 49, 3) := by decide +kernel
theorem dX3_arePlaces_21 : decode cX3_arePlaces 21 = .ok (.iconst 0, 1) := by decide +kernel
theorem dX3_arePlaces_22 : decode cX3_arePlaces 22 = .ok (.istore_n 2, 1) := by decide +kernel
theorem dX3_arePlaces_23 : decode cX3_arePlaces 23 = .ok (.iload_n 2, 1) := by decide +kernel
theorem dX3_arePlaces_24 : decode cX3_arePlaces 24 = .ok (.iload_n 1, 1) := by decide +kernel
theorem dX3_arePlaces_25 : decode cX3_arePlaces 25 = .ok (.if_icmp .ge 36, 3) := by decide +kernel
theorem dX3_arePlaces_28 : decode cX3_arePlaces 28 = .ok (.aload_n 0, 1) := by decide +kernel
theorem dX3_arePlaces_29 : decode cX3_arePlaces 29 = .ok (.getfield 18, 3) := by decide +kernel
theorem dX3_arePlaces_32 : decode cX3_arePlaces 32 = .ok (.iload_n 1, 1) := by decide +kernel
theorem dX3_arePlaces_33 : decode cX3_arePlaces 33 = .ok (.iaload, 1) := by decide +kernel
theorem dX3_arePlaces_34 : decode cX3_arePlaces 34 = .ok (.i2l, 1) := by decide +kernel
theorem dX3_arePlaces_35 : decode cX3_arePlaces 35 = .ok (.aload_n 0, 1) := by decide +kernel
theorem dX3_arePlaces_36 : decode cX3_arePlaces 36 = .ok (.getfield 18, 3) := by decide +kernel
theorem dX3_arePlaces_39 : decode cX3_arePlaces 39 = .ok (.iload_n 2, 1) := by decide +kernel
theorem dX3_arePlaces_40 : decode cX3_arePlaces 40 = .ok (.iaload, 1) := by decide +kernel
theorem dX3_arePlaces_41 : decode cX3_arePlaces 41 = .ok (.i2l, 1) := by decide +kernel
theorem dX3_arePlaces_42 : decode cX3_arePlaces 42 = .ok (.lsub, 1) := by decide +kernel
theorem dX3_arePlaces_43 : decode cX3_arePlaces 43 = .ok (.invokestatic 28, 3) := by decide +kernel
theorem dX3_arePlaces_46 : decode cX3_arePlaces 46 = .ok (.ldc2_w 34, 3) := by decide +kernel
theorem dX3_arePlaces_49 : decode cX3_arePlaces 49 = .ok (.lcmp, 1) := by decide +kernel
theorem dX3_arePlaces_50 : decode cX3_arePlaces 50 = .ok (.ifCond .le 5, 3) := by decide +kernel
theorem dX3_arePlaces_53 : decode cX3_arePlaces 53 = .ok (.iconst 0, 1) := by decide +kernel
theorem dX3_arePlaces_54 : decode cX3_arePlaces 54 = .ok (.ireturn, 1) := by decide +kernel
theorem dX3_arePlaces_55 : decode cX3_arePlaces 55 = .ok (.iinc 2 1, 3) := by decide +kernel
theorem dX3_arePlaces_58 : decode cX3_arePlaces 58 = .ok (.goto (-35), 3) := by decide +kernel
theorem dX3_arePlaces_61 : decode cX3_arePlaces 61 = .ok (.iinc 1 1, 3) := by decide +kernel
theorem dX3_arePlaces_64 : decode cX3_arePlaces 64 = .ok (.goto (-51), 3) := by decide +kernel
theorem dX3_arePlaces_67 : decode cX3_arePlaces 67 = .ok (.iconst 1, 1) := by decide +kernel
theorem dX3_arePlaces_68 : decode cX3_arePlaces 68 = .ok (.ireturn, 1) := by decide +kernel
theorem dX3_denies_0 : decode cX3_denies 0 = .ok (.aload_n 1, 1) := by decide +kernel
theorem dX3_denies_1 : decode cX3_denies 1 = .ok (.getfield 36, 3) := by decide +kernel
theorem dX3_denies_4 : decode cX3_denies 4 = .ok (.aload_n 0, 1) := by decide +kernel
theorem dX3_denies_5 : decode cX3_denies 5 = .ok (.getfield 15, 3) := by decide +kernel
theorem dX3_denies_8 : decode cX3_denies 8 = .ok (.if_icmp .ge 14, 3) := by decide +kernel
theorem dX3_denies_11 : decode cX3_denies 11 = .ok (.aload_n 1, 1) := by decide +kernel
theorem dX3_denies_12 : decode cX3_denies 12 = .ok (.getfield 41, 3) := by decide +kernel
theorem dX3_denies_15 : decode cX3_denies 15 = .ok (.aload_n 0, 1) := by decide +kernel
theorem dX3_denies_16 : decode cX3_denies 16 = .ok (.getfield 15, 3) := by decide +kernel
theorem dX3_denies_19 : decode cX3_denies 19 = .ok (.if_icmp .lt 5, 3) := by decide +kernel
theorem dX3_denies_22 : decode cX3_denies 22 = .ok (.iconst 0, 1) := by decide +kernel
theorem dX3_denies_23 : decode cX3_denies 23 = .ok (.ireturn, 1) := by decide +kernel
theorem dX3_denies_24 : decode cX3_denies 24 = .ok (.aload_n 0, 1) := by decide +kernel
theorem dX3_denies_25 : decode cX3_denies 25 = .ok (.getfield 18, 3) := by decide +kernel
theorem dX3_denies_28 : decode cX3_denies 28 = .ok (.aload_n 1, 1) := by decide +kernel
theorem dX3_denies_29 : decode cX3_denies 29 = .ok (.getfield 41, 3) := by decide +kernel
theorem dX3_denies_32 : decode cX3_denies 32 = .ok (.iaload, 1) := by decide +kernel
theorem dX3_denies_33 : decode cX3_denies 33 = .ok (.aload_n 0, 1) := by decide +kernel
theorem dX3_denies_34 : decode cX3_denies 34 = .ok (.getfield 18, 3) := by decide +kernel
theorem dX3_denies_37 : decode cX3_denies 37 = .ok (.aload_n 1, 1) := by decide +kernel
theorem dX3_denies_38 : decode cX3_denies 38 = .ok (.getfield 36, 3) := by decide +kernel
theorem dX3_denies_41 : decode cX3_denies 41 = .ok (.iaload, 1) := by decide +kernel
theorem dX3_denies_42 : decode cX3_denies 42 = .ok (.isub, 1) := by decide +kernel
theorem dX3_denies_43 : decode cX3_denies 43 = .ok (.istore_n 3, 1) := by decide +kernel
theorem dX3_denies_44 : decode cX3_denies 44 = .ok (.iload_n 3, 1) := by decide +kernel
theorem dX3_denies_45 : decode cX3_denies 45 = .ok (.aload_n 1, 1) := by decide +kernel
theorem dX3_denies_46 : decode cX3_denies 46 = .ok (.iload_n 2, 1) := by decide +kernel
theorem dX3_denies_47 : decode cX3_denies 47 = .ok (.invokevirtual 44, 3) := by decide +kernel
theorem dX3_denies_50 : decode cX3_denies 50 = .ok (.if_icmp .lt 12, 3) := by decide +kernel
theorem dX3_denies_53 : decode cX3_denies 53 = .ok (.iload_n 3, 1) := by decide +kernel
theorem dX3_denies_54 : decode cX3_denies 54 = .ok (.aload_n 1, 1) := by decide +kernel
theorem dX3_denies_55 : decode cX3_denies 55 = .ok (.iload_n 2, 1) := by decide +kernel
theorem dX3_denies_56 : decode cX3_denies 56 = .ok (.invokevirtual 48, 3) := by decide +kernel
theorem dX3_denies_59 : decode cX3_denies 59 = .ok (.if_icmp .le 7, 3) := by decide +kernel
theorem dX3_denies_62 : decode cX3_denies 62 = .ok (.iconst 1, 1) := by decide +kernel
theorem dX3_denies_63 : decode cX3_denies 63 = .ok (.goto 4, 3) := by decide +kernel
theorem dX3_denies_66 : decode cX3_denies 66 = .ok (.iconst 0, 1) := by decide +kernel
theorem dX3_denies_67 : decode cX3_denies 67 = .ok (.ireturn, 1) := by decide +kernel
theorem dX4_init_0 : decode cX4_init 0 = .ok (.aload_n 0, 1) := by decide +kernel
theorem dX4_init_1 : decode cX4_init 1 = .ok (.invokespecial 3, 3) := by decide +kernel
theorem dX4_init_4 : decode cX4_init 4 = .ok (.aload_n 0, 1) := by decide +kernel
theorem dX4_init_5 : decode cX4_init 5 = .ok (.iconst 0, 1) := by decide +kernel
theorem dX4_init_6 : decode cX4_init 6 = .ok (.putfield 9, 3) := by decide +kernel
theorem dX4_init_9 : decode cX4_init 9 = .ok (.aload_n 0, 1) := by decide +kernel
theorem dX4_init_10 : decode cX4_init 10 = .ok (.bipush 120, 2) := by decide +kernel
theorem dX4_init_12 : decode cX4_init 12 = .ok (.newarray .int, 2) := by decide +kernel
theorem dX4_init_14 : decode cX4_init 14 = .ok (.putfield 15, 3) := by decide +kernel
theorem dX4_init_17 : decode cX4_init 17 = .ok (.aload_n 0, 1) := by decide +kernel
theorem dX4_init_18 : decode cX4_init 18 = .ok (.iconst 0, 1) := by decide +kernel
theorem dX4_init_19 : decode cX4_init 19 = .ok (.putfield 19, 3) := by decide +kernel
theorem dX4_init_22 : decode cX4_init 22 = .ok (.aload_n 0, 1) := by decide +kernel
theorem dX4_init_23 : decode cX4_init 23 = .ok (.iconst 0, 1) := by decide +kernel
theorem dX4_init_24 : decode cX4_init 24 = .ok (.putfield 22, 3) := by decide +kernel
theorem dX4_init_27 : decode cX4_init 27 = .ok (.aload_n 0, 1) := by decide +kernel
theorem dX4_init_28 : decode cX4_init 28 = .ok (.iconst 0, 1) := by decide +kernel
theorem dX4_init_29 : decode cX4_init 29 = .ok (.putfield 25, 3) := by decide +kernel
theorem dX4_init_32 : decode cX4_init 32 = .ok (.return_, 1) := by decide +kernel
theorem dX4_append_0 : decode cX4_append 0 = .ok (.aload_n 0, 1) := by decide +kernel
theorem dX4_append_1 : decode cX4_append 1 = .ok (.getfield 9, 3) := by decide +kernel
theorem dX4_append_4 : decode cX4_append 4 = .ok (.bipush 120, 2) := by decide +kernel
theorem dX4_append_6 : decode cX4_append 6 = .ok (.if_icmp .ge 23, 3) := by decide +kernel
theorem dX4_append_9 : decode cX4_append 9 = .ok (.aload_n 0, 1) := by decide +kernel
theorem dX4_append_10 : decode cX4_append 10 = .ok (.getfield 15, 3) := by decide +kernel
theorem dX4_append_13 : decode cX4_append 13 = .ok (.aload_n 0, 1) := by decide +kernel
theorem dX4_append_14 : decode cX4_append 14 = .ok (.getfield 9, 3) := by decide +kernel
theorem dX4_append_17 : decode cX4_append 17 = .ok (.iload_n 1, 1) := by decide +kernel
theorem dX4_append_18 : decode cX4_append 18 = .ok (.iastore, 1) := by decide +kernel
theorem dX4_append_19 : decode cX4_append 19 = .ok (.aload_n 0, 1) := by decide +kernel
theorem dX4_append_20 : decode cX4_append 20 = .ok (.dup, 1) := by decide +kernel
theorem dX4_append_21 : decode cX4_append 21 = .ok (.getfield 9, 3) := by decide +kernel
theorem dX4_append_24 : decode cX4_append 24 = .ok (.iconst 1, 1) := by decide +kernel
theorem dX4_append_25 : decode cX4_append 25 = .ok (.iadd, 1) := by decide +kernel
theorem dX4_append_26 : decode cX4_append 26 = .ok (.putfield 9, 3) := by decide +kernel
theorem dX4_append_29 : decode cX4_append 29 = .ok (.return_, 1) := by decide +kernel
theorem dX4_readOnto_0 : decode cX4_readOnto 0 = .ok (.aload_n 0, 1) := by decide +kernel
theorem dX4_readOnto_1 : decode cX4_readOnto 1 = .ok (.iconst 0, 1) := by decide +kernel
theorem dX4_readOnto_2 : decode cX4_readOnto 2 = .ok (.putfield 25, 3) := by decide +kernel
theorem dX4_readOnto_5 : decode cX4_readOnto 5 = .ok (.aload_n 0, 1) := by decide +kernel
theorem dX4_readOnto_6 : decode cX4_readOnto 6 = .ok (.invokevirtual 28, 3) := by decide +kernel
theorem dX4_readOnto_9 : decode cX4_readOnto 9 = .ok (.iconst 1, 1) := by decide +kernel
theorem dX4_readOnto_10 : decode cX4_readOnto 10 = .ok (.istore_n 2, 1) := by decide +kernel
theorem dX4_readOnto_11 : decode cX4_readOnto 11 = .ok (.iload_n 2, 1) := by decide +kernel
theorem dX4_readOnto_12 : decode cX4_readOnto 12 = .ok (.bipush 120, 2) := by decide +kernel
theorem dX4_readOnto_14 : decode cX4_readOnto 14 = .ok (.if_icmp .gt 44, 3) := by decide +kernel
theorem dX4_readOnto_17 : decode cX4_readOnto 17 = .ok (.aload_n 0, 1) := by decide +kernel
theorem dX4_readOnto_18 : decode cX4_readOnto 18 = .ok (.aload_n 1, 1) := by decide +kernel
theorem dX4_readOnto_19 : decode cX4_readOnto 19 = .ok (.invokevirtual 31, 3) := by decide +kernel
theorem dX4_readOnto_22 : decode cX4_readOnto 22 = .ok (.ifCond .ne 6, 3) := by decide +kernel
theorem dX4_readOnto_25 : decode cX4_readOnto 25 = .ok (.goto 33, 3) := by decide +kernel
theorem dX4_readOnto_28 : decode cX4_readOnto 28 = .ok (.aload_n 0, 1) := by decide +kernel
theorem dX4_readOnto_29 : decode cX4_readOnto 29 = .ok (.getfield 19, 3) := by decide +kernel
theorem dX4_readOnto_32 : decode cX4_readOnto 32 = .ok (.ifCond .ne 5, 3) := by decide +kernel
theorem dX4_readOnto_35 : decode cX4_readOnto 35 = .ok (.iload_n 2, 1) := by decide +kernel
theorem dX4_readOnto_36 : decode cX4_readOnto 36 = .ok (.ireturn, 1) := by decide +kernel
theorem dX4_readOnto_37 : decode cX4_readOnto 37 = .ok (.aload_n 0, 1) := by decide +kernel
theorem dX4_readOnto_38 : decode cX4_readOnto 38 = .ok (.getfield 19, 3) := by decide +kernel
theorem dX4_readOnto_41 : decode cX4_readOnto 41 = .ok (.iconst 3, 1) := by decide +kernel
theorem dX4_readOnto_42 : decode cX4_readOnto 42 = .ok (.if_icmp .eq 6, 3) := by decide +kernel
theorem dX4_readOnto_45 : decode cX4_readOnto 45 = .ok (.goto 13, 3) := by decide +kernel
theorem dX4_readOnto_48 : decode cX4_readOnto 48 = .ok (.aload_n 0, 1) := by decide +kernel
theorem dX4_readOnto_49 : decode cX4_readOnto 49 = .ok (.invokevirtual 28, 3) := by decide +kernel
theorem dX4_readOnto_52 : decode cX4_readOnto 52 = .ok (.iinc 2 1, 3) := by decide +kernel
theorem dX4_readOnto_55 : decode cX4_readOnto 55 = .ok (.goto (-44), 3) := by decide +kernel
theorem dX4_readOnto_58 : decode cX4_readOnto 58 = .ok (.iconst (-1), 1) := by decide +kernel
theorem dX4_readOnto_59 : decode cX4_readOnto 59 = .ok (.aload_n 0, 1) := by decide +kernel
theorem dX4_readOnto_60 : decode cX4_readOnto 60 = .ok (.getfield 22, 3) := by decide +kernel
theorem dX4_readOnto_63 : decode cX4_readOnto 63 = .ok (.isub, 1) := by decide +kernel
theorem dX4_readOnto_64 : decode cX4_readOnto 64 = .ok (.ireturn, 1) := by decide +kernel
theorem dX4_readItem_0 : decode cX4_readItem 0 = .ok (.aload_n 0, 1) := by decide +kernel
theorem dX4_readItem_1 : decode cX4_readItem 1 = .ok (.ldc 35, 2) := by decide +kernel
theorem dX4_readItem_3 : decode cX4_readItem 3 = .ok (.invokevirtual 37, 3) := by decide +kernel
theorem dX4_readItem_6 : decode cX4_readItem 6 = .ok (.ifCond .ne 12, 3) := by decide +kernel
theorem dX4_readItem_9 : decode cX4_readItem 9 = .ok (.aload_n 0, 1) := by decide +kernel
theorem dX4_readItem_10 : decode cX4_readItem 10 = .ok (.ldc 41, 2) := by decide +kernel
theorem dX4_readItem_12 : decode cX4_readItem 12 = .ok (.invokevirtual 37, 3) := by decide +kernel
theorem dX4_readItem_15 : decode cX4_readItem 15 = .ok (.ifCond .eq 9, 3) := by decide +kernel
theorem dX4_readItem_18 : decode cX4_readItem 18 = .ok (.aload_n 0, 1) := by decide +kernel
theorem dX4_readItem_19 : decode cX4_readItem 19 = .ok (.aload_n 1, 1) := by decide +kernel
theorem dX4_readItem_20 : decode cX4_readItem 20 = .ok (.invokevirtual 43, 3) := by decide +kernel
theorem dX4_readItem_23 : decode cX4_readItem 23 = .ok (.ireturn, 1) := by decide +kernel
theorem dX4_readItem_24 : decode cX4_readItem 24 = .ok (.aload_n 0, 1) := by decide +kernel
theorem dX4_readItem_25 : decode cX4_readItem 25 = .ok (.invokevirtual 46, 3) := by decide +kernel
theorem dX4_readItem_28 : decode cX4_readItem 28 = .ok (.istore_n 2, 1) := by decide +kernel
theorem dX4_readItem_29 : decode cX4_readItem 29 = .ok (.iload_n 2, 1) := by decide +kernel
theorem dX4_readItem_30 : decode cX4_readItem 30 = .ok (.iconst (-1), 1) := by decide +kernel
theorem dX4_readItem_31 : decode cX4_readItem 31 = .ok (.if_icmp .eq 25, 3) := by decide +kernel
theorem dX4_readItem_34 : decode cX4_readItem 34 = .ok (.aload_n 1, 1) := by decide +kernel
theorem dX4_readItem_35 : decode cX4_readItem 35 = .ok (.getfield 50, 3) := by decide +kernel
theorem dX4_readItem_38 : decode cX4_readItem 38 = .ok (.bipush 8, 2) := by decide +kernel
theorem dX4_readItem_40 : decode cX4_readItem 40 = .ok (.if_icmp .ge 16, 3) := by decide +kernel
theorem dX4_readItem_43 : decode cX4_readItem 43 = .ok (.aload_n 0, 1) := by decide +kernel
theorem dX4_readItem_44 : decode cX4_readItem 44 = .ok (.aload_n 1, 1) := by decide +kernel
theorem dX4_readItem_45 : decode cX4_readItem 45 = .ok (.iload_n 2, 1) := by decide +kernel
theorem dX4_readItem_46 : decode cX4_readItem 46 = .ok (.invokevirtual 55, 3) := by decide +kernel
theorem dX4_readItem_49 : decode cX4_readItem 49 = .ok (.ifCond .eq 7, 3) := by decide +kernel
theorem dX4_readItem_52 : decode cX4_readItem 52 = .ok (.iconst 1, 1) := by decide +kernel
theorem dX4_readItem_53 : decode cX4_readItem 53 = .ok (.goto 4, 3) := by decide +kernel
theorem dX4_readItem_56 : decode cX4_readItem 56 = .ok (.iconst 0, 1) := by decide +kernel
theorem dX4_readItem_57 : decode cX4_readItem 57 = .ok (.ireturn, 1) := by decide +kernel
theorem dX4_readLaw_0 : decode cX4_readLaw 0 = .ok (.aload_n 0, 1) := by decide +kernel
theorem dX4_readLaw_1 : decode cX4_readLaw 1 = .ok (.ldc 35, 2) := by decide +kernel
theorem dX4_readLaw_3 : decode cX4_readLaw 3 = .ok (.invokevirtual 37, 3) := by decide +kernel
theorem dX4_readLaw_6 : decode cX4_readLaw 6 = .ok (.istore_n 2, 1) := by decide +kernel
theorem dX4_readLaw_7 : decode cX4_readLaw 7 = .ok (.aload_n 0, 1) := by decide +kernel
theorem dX4_readLaw_8 : decode cX4_readLaw 8 = .ok (.invokevirtual 28, 3) := by decide +kernel
theorem dX4_readLaw_11 : decode cX4_readLaw 11 = .ok (.aload_n 0, 1) := by decide +kernel
theorem dX4_readLaw_12 : decode cX4_readLaw 12 = .ok (.bipush 9, 2) := by decide +kernel
theorem dX4_readLaw_14 : decode cX4_readLaw 14 = .ok (.invokevirtual 59, 3) := by decide +kernel
theorem dX4_readLaw_17 : decode cX4_readLaw 17 = .ok (.istore_n 3, 1) := by decide +kernel
theorem dX4_readLaw_18 : decode cX4_readLaw 18 = .ok (.iload_n 3, 1) := by decide +kernel
theorem dX4_readLaw_19 : decode cX4_readLaw 19 = .ok (.iconst (-1), 1) := by decide +kernel
theorem dX4_readLaw_20 : decode cX4_readLaw 20 = .ok (.if_icmp .ne 5, 3) := by decide +kernel
theorem dX4_readLaw_23 : decode cX4_readLaw 23 = .ok (.iconst 0, 1) := by decide +kernel
theorem dX4_readLaw_24 : decode cX4_readLaw 24 = .ok (.ireturn, 1) := by decide +kernel
theorem dX4_readLaw_25 : decode cX4_readLaw 25 = .ok (.iload_n 2, 1) := by decide +kernel
theorem dX4_readLaw_26 : decode cX4_readLaw 26 = .ok (.ifCond .eq 11, 3) := by decide +kernel
theorem dX4_readLaw_29 : decode cX4_readLaw 29 = .ok (.aload_n 1, 1) := by decide +kernel
theorem dX4_readLaw_30 : decode cX4_readLaw 30 = .ok (.iload_n 3, 1) := by decide +kernel
theorem dX4_readLaw_31 : decode cX4_readLaw 31 = .ok (.putfield 63, 3) := by decide +kernel
theorem dX4_readLaw_34 : decode cX4_readLaw 34 = .ok (.goto 8, 3) := by decide +kernel
theorem dX4_readLaw_37 : decode cX4_readLaw 37 = .ok (.aload_n 1, 1) := by decide +kernel
theorem dX4_readLaw_38 : decode cX4_readLaw 38 = .ok (.iload_n 3, 1) := by decide +kernel
theorem dX4_readLaw_39 : decode cX4_readLaw 39 = .ok (.putfield 65, 3) := by decide +kernel
theorem dX4_readLaw_42 : decode cX4_readLaw 42 = .ok (.aload_n 0, 1) := by decide +kernel
theorem dX4_readLaw_43 : decode cX4_readLaw 43 = .ok (.invokevirtual 28, 3) := by decide +kernel
theorem dX4_readLaw_46 : decode cX4_readLaw 46 = .ok (.iconst 1, 1) := by decide +kernel
theorem dX4_readLaw_47 : decode cX4_readLaw 47 = .ok (.ireturn, 1) := by decide +kernel
theorem dX4_readLetter_0 : decode cX4_readLetter 0 = .ok (.aload_n 0, 1) := by decide +kernel
theorem dX4_readLetter_1 : decode cX4_readLetter 1 = .ok (.invokevirtual 28, 3) := by decide +kernel
theorem dX4_readLetter_4 : decode cX4_readLetter 4 = .ok (.aload_n 0, 1) := by decide +kernel
theorem dX4_readLetter_5 : decode cX4_readLetter 5 = .ok (.bipush 7, 2) := by decide +kernel
theorem dX4_readLetter_7 : decode cX4_readLetter 7 = .ok (.invokevirtual 59, 3) := by decide +kernel
theorem dX4_readLetter_10 : decode cX4_readLetter 10 = .ok (.istore_n 3, 1) := by decide +kernel
theorem dX4_readLetter_11 : decode cX4_readLetter 11 = .ok (.iload_n 3, 1) := by decide +kernel
theorem dX4_readLetter_12 : decode cX4_readLetter 12 = .ok (.iconst (-1), 1) := by decide +kernel
theorem dX4_readLetter_13 : decode cX4_readLetter 13 = .ok (.if_icmp .ne 5, 3) := by decide +kernel
theorem dX4_readLetter_16 : decode cX4_readLetter 16 = .ok (.iconst 0, 1) := by decide +kernel
theorem dX4_readLetter_17 : decode cX4_readLetter 17 = .ok (.ireturn, 1) := by decide +kernel
theorem dX4_readLetter_18 : decode cX4_readLetter 18 = .ok (.aload_n 0, 1) := by decide +kernel
theorem dX4_readLetter_19 : decode cX4_readLetter 19 = .ok (.invokevirtual 28, 3) := by decide +kernel
theorem dX4_readLetter_22 : decode cX4_readLetter 22 = .ok (.aload_n 0, 1) := by decide +kernel
theorem dX4_readLetter_23 : decode cX4_readLetter 23 = .ok (.bipush 7, 2) := by decide +kernel
theorem dX4_readLetter_25 : decode cX4_readLetter 25 = .ok (.invokevirtual 59, 3) := by decide +kernel
theorem dX4_readLetter_28 : decode cX4_readLetter 28 = .ok (.istore 4, 2) := by decide +kernel
theorem dX4_readLetter_30 : decode cX4_readLetter 30 = .ok (.iload 4, 2) := by decide +kernel
theorem dX4_readLetter_32 : decode cX4_readLetter 32 = .ok (.iconst (-1), 1) := by decide +kernel
theorem dX4_readLetter_33 : decode cX4_readLetter 33 = .ok (.if_icmp .eq 9, 3) := by decide +kernel
theorem dX4_readLetter_36 : decode cX4_readLetter 36 = .ok (.iload 4, 2) := by decide +kernel
theorem dX4_readLetter_38 : decode cX4_readLetter 38 = .ok (.iload_n 3, 1) := by decide +kernel
theorem dX4_readLetter_39 : decode cX4_readLetter 39 = .ok (.if_icmp .ne 5, 3) := by decide +kernel
theorem dX4_readLetter_42 : decode cX4_readLetter 42 = .ok (.iconst 0, 1) := by decide +kernel
theorem dX4_readLetter_43 : decode cX4_readLetter 43 = .ok (.ireturn, 1) := by decide +kernel
theorem dX4_readLetter_44 : decode cX4_readLetter 44 = .ok (.aload_n 0, 1) := by decide +kernel
theorem dX4_readLetter_45 : decode cX4_readLetter 45 = .ok (.invokevirtual 28, 3) := by decide +kernel
theorem dX4_readLetter_48 : decode cX4_readLetter 48 = .ok (.aload_n 1, 1) := by decide +kernel
theorem dX4_readLetter_49 : decode cX4_readLetter 49 = .ok (.getfield 67, 3) := by decide +kernel
theorem dX4_readLetter_52 : decode cX4_readLetter 52 = .ok (.aload_n 1, 1) := by decide +kernel
theorem dX4_readLetter_53 : decode cX4_readLetter 53 = .ok (.iload_n 2, 1) := by decide +kernel
theorem dX4_readLetter_54 : decode cX4_readLetter 54 = .ok (.iload_n 3, 1) := by decide +kernel
theorem dX4_readLetter_55 : decode cX4_readLetter 55 = .ok (.iload 4, 2) := by decide +kernel
theorem dX4_readLetter_57 : decode cX4_readLetter 57 = .ok (.iconst 0, 1) := by decide +kernel
theorem dX4_readLetter_58 : decode cX4_readLetter 58 = .ok (.iconst 0, 1) := by decide +kernel
theorem dX4_readLetter_59 : decode cX4_readLetter 59 = .ok (.invokevirtual 71, 3) := by decide +kernel
theorem dX4_readLetter_62 : decode cX4_readLetter 62 = .ok (.aaload, 1) := by decide +kernel
theorem dX4_readLetter_63 : decode cX4_readLetter 63 = .ok (.astore 5, 2) := by decide +kernel
theorem dX4_readLetter_65 : decode cX4_readLetter 65 = .ok (.aload_n 0, 1) := by decide +kernel
theorem dX4_readLetter_66 : decode cX4_readLetter 66 = .ok (.aload 5, 2) := by decide +kernel
theorem dX4_readLetter_68 : decode cX4_readLetter 68 = .ok (.invokevirtual 75, 3) := by decide +kernel
theorem dX4_readLetter_71 : decode cX4_readLetter 71 = .ok (.ifCond .eq 25, 3) := by decide +kernel
theorem dX4_readLetter_74 : decode cX4_readLetter 74 = .ok (.aload_n 0, 1) := by decide +kernel
theorem dX4_readLetter_75 : decode cX4_readLetter 75 = .ok (.aload 5, 2) := by decide +kernel
theorem dX4_readLetter_77 : decode cX4_readLetter 77 = .ok (.invokevirtual 79, 3) := by decide +kernel
theorem dX4_readLetter_80 : decode cX4_readLetter 80 = .ok (.ifCond .eq 16, 3) := by decide +kernel
theorem dX4_readLetter_83 : decode cX4_readLetter 83 = .ok (.aload_n 0, 1) := by decide +kernel
theorem dX4_readLetter_84 : decode cX4_readLetter 84 = .ok (.aload 5, 2) := by decide +kernel
theorem dX4_readLetter_86 : decode cX4_readLetter 86 = .ok (.invokevirtual 82, 3) := by decide +kernel
theorem dX4_readLetter_89 : decode cX4_readLetter 89 = .ok (.ifCond .eq 7, 3) := by decide +kernel
theorem dX4_readLetter_92 : decode cX4_readLetter 92 = .ok (.iconst 1, 1) := by decide +kernel
theorem dX4_readLetter_93 : decode cX4_readLetter 93 = .ok (.goto 4, 3) := by decide +kernel
theorem dX4_readLetter_96 : decode cX4_readLetter 96 = .ok (.iconst 0, 1) := by decide +kernel
theorem dX4_readLetter_97 : decode cX4_readLetter 97 = .ok (.ireturn, 1) := by decide +kernel
theorem dX4_readDays_0 : decode cX4_readDays 0 = .ok (.aload_n 0, 1) := by decide +kernel
theorem dX4_readDays_1 : decode cX4_readDays 1 = .ok (.ldc 85, 2) := by decide +kernel
theorem dX4_readDays_3 : decode cX4_readDays 3 = .ok (.invokevirtual 37, 3) := by decide +kernel
theorem dX4_readDays_6 : decode cX4_readDays 6 = .ok (.ifCond .ne 5, 3) := by decide +kernel
theorem dX4_readDays_9 : decode cX4_readDays 9 = .ok (.iconst 0, 1) := by decide +kernel
theorem dX4_readDays_10 : decode cX4_readDays 10 = .ok (.ireturn, 1) := by decide +kernel
theorem dX4_readDays_11 : decode cX4_readDays 11 = .ok (.aload_n 0, 1) := by decide +kernel
theorem dX4_readDays_12 : decode cX4_readDays 12 = .ok (.invokevirtual 28, 3) := by decide +kernel
theorem dX4_readDays_15 : decode cX4_readDays 15 = .ok (.aload_n 0, 1) := by decide +kernel
theorem dX4_readDays_16 : decode cX4_readDays 16 = .ok (.getfield 19, 3) := by decide +kernel
theorem dX4_readDays_19 : decode cX4_readDays 19 = .ok (.iconst 4, 1) := by decide +kernel
theorem dX4_readDays_20 : decode cX4_readDays 20 = .ok (.if_icmp .ne 7, 3) := by decide +kernel
theorem dX4_readDays_23 : decode cX4_readDays 23 = .ok (.iconst 1, 1) := by decide +kernel
theorem dX4_readDays_24 : decode cX4_readDays 24 = .ok (.goto 4, 3) := by decide +kernel
theorem dX4_readDays_27 : decode cX4_readDays 27 = .ok (.iconst 0, 1) := by decide +kernel
theorem dX4_readDays_28 : decode cX4_readDays 28 = .ok (.istore_n 2, 1) := by decide +kernel
theorem dX4_readDays_29 : decode cX4_readDays 29 = .ok (.iload_n 2, 1) := by decide +kernel
theorem dX4_readDays_30 : decode cX4_readDays 30 = .ok (.ifCond .eq 7, 3) := by decide +kernel
theorem dX4_readDays_33 : decode cX4_readDays 33 = .ok (.aload_n 0, 1) := by decide +kernel
theorem dX4_readDays_34 : decode cX4_readDays 34 = .ok (.invokevirtual 28, 3) := by decide +kernel
theorem dX4_readDays_37 : decode cX4_readDays 37 = .ok (.aload_n 0, 1) := by decide +kernel
theorem dX4_readDays_38 : decode cX4_readDays 38 = .ok (.bipush 99, 2) := by decide +kernel
theorem dX4_readDays_40 : decode cX4_readDays 40 = .ok (.invokevirtual 59, 3) := by decide +kernel
theorem dX4_readDays_43 : decode cX4_readDays 43 = .ok (.istore_n 3, 1) := by decide +kernel
theorem dX4_readDays_44 : decode cX4_readDays 44 = .ok (.iload_n 3, 1) := by decide +kernel
theorem dX4_readDays_45 : decode cX4_readDays 45 = .ok (.iconst (-1), 1) := by decide +kernel
theorem dX4_readDays_46 : decode cX4_readDays 46 = .ok (.if_icmp .ne 5, 3) := by decide +kernel
theorem dX4_readDays_49 : decode cX4_readDays 49 = .ok (.iconst 0, 1) := by decide +kernel
theorem dX4_readDays_50 : decode cX4_readDays 50 = .ok (.ireturn, 1) := by decide +kernel
theorem dX4_readDays_51 : decode cX4_readDays 51 = .ok (.aload_n 1, 1) := by decide +kernel
theorem dX4_readDays_52 : decode cX4_readDays 52 = .ok (.iload_n 2, 1) := by decide +kernel
theorem dX4_readDays_53 : decode cX4_readDays 53 = .ok (.ifCond .eq 8, 3) := by decide +kernel
theorem dX4_readDays_56 : decode cX4_readDays 56 = .ok (.iload_n 3, 1) := by decide +kernel
theorem dX4_readDays_57 : decode cX4_readDays 57 = .ok (.ineg, 1) := by decide +kernel
theorem dX4_readDays_58 : decode cX4_readDays 58 = .ok (.goto 4, 3) := by decide +kernel
theorem dX4_readDays_61 : decode cX4_readDays 61 = .ok (.iload_n 3, 1) := by decide +kernel
theorem dX4_readDays_62 : decode cX4_readDays 62 = .ok (.putfield 87, 3) := by decide +kernel
theorem dX4_readDays_65 : decode cX4_readDays 65 = .ok (.aload_n 0, 1) := by decide +kernel
theorem dX4_readDays_66 : decode cX4_readDays 66 = .ok (.invokevirtual 28, 3) := by decide +kernel
theorem dX4_readDays_69 : decode cX4_readDays 69 = .ok (.iconst 1, 1) := by decide +kernel
theorem dX4_readDays_70 : decode cX4_readDays 70 = .ok (.ireturn, 1) := by decide +kernel
theorem dX4_readMark_0 : decode cX4_readMark 0 = .ok (.aload_n 0, 1) := by decide +kernel
theorem dX4_readMark_1 : decode cX4_readMark 1 = .ok (.ldc 91, 2) := by decide +kernel
theorem dX4_readMark_3 : decode cX4_readMark 3 = .ok (.invokevirtual 37, 3) := by decide +kernel
theorem dX4_readMark_6 : decode cX4_readMark 6 = .ok (.ifCond .ne 5, 3) := by decide +kernel
theorem dX4_readMark_9 : decode cX4_readMark 9 = .ok (.iconst 1, 1) := by decide +kernel
theorem dX4_readMark_10 : decode cX4_readMark 10 = .ok (.ireturn, 1) := by decide +kernel
theorem dX4_readMark_11 : decode cX4_readMark 11 = .ok (.aload_n 0, 1) := by decide +kernel
theorem dX4_readMark_12 : decode cX4_readMark 12 = .ok (.invokevirtual 28, 3) := by decide +kernel
theorem dX4_readMark_15 : decode cX4_readMark 15 = .ok (.aload_n 0, 1) := by decide +kernel
theorem dX4_readMark_16 : decode cX4_readMark 16 = .ok (.sipush 999, 3) := by decide +kernel
theorem dX4_readMark_19 : decode cX4_readMark 19 = .ok (.invokevirtual 59, 3) := by decide +kernel
theorem dX4_readMark_22 : decode cX4_readMark 22 = .ok (.istore_n 2, 1) := by decide +kernel
theorem dX4_readMark_23 : decode cX4_readMark 23 = .ok (.iload_n 2, 1) := by decide +kernel
theorem dX4_readMark_24 : decode cX4_readMark 24 = .ok (.iconst (-1), 1) := by decide +kernel
theorem dX4_readMark_25 : decode cX4_readMark 25 = .ok (.if_icmp .ne 5, 3) := by decide +kernel
theorem dX4_readMark_28 : decode cX4_readMark 28 = .ok (.iconst 0, 1) := by decide +kernel
theorem dX4_readMark_29 : decode cX4_readMark 29 = .ok (.ireturn, 1) := by decide +kernel
theorem dX4_readMark_30 : decode cX4_readMark 30 = .ok (.aload_n 1, 1) := by decide +kernel
theorem dX4_readMark_31 : decode cX4_readMark 31 = .ok (.iload_n 2, 1) := by decide +kernel
theorem dX4_readMark_32 : decode cX4_readMark 32 = .ok (.putfield 93, 3) := by decide +kernel
theorem dX4_readMark_35 : decode cX4_readMark 35 = .ok (.aload_n 0, 1) := by decide +kernel
theorem dX4_readMark_36 : decode cX4_readMark 36 = .ok (.invokevirtual 28, 3) := by decide +kernel
theorem dX4_readMark_39 : decode cX4_readMark 39 = .ok (.iconst 1, 1) := by decide +kernel
theorem dX4_readMark_40 : decode cX4_readMark 40 = .ok (.ireturn, 1) := by decide +kernel
theorem dX4_readStruck_0 : decode cX4_readStruck 0 = .ok (.aload_n 0, 1) := by decide +kernel
theorem dX4_readStruck_1 : decode cX4_readStruck 1 = .ok (.ldc 95, 2) := by decide +kernel
theorem dX4_readStruck_3 : decode cX4_readStruck 3 = .ok (.invokevirtual 37, 3) := by decide +kernel
theorem dX4_readStruck_6 : decode cX4_readStruck 6 = .ok (.ifCond .eq 12, 3) := by decide +kernel
theorem dX4_readStruck_9 : decode cX4_readStruck 9 = .ok (.aload_n 1, 1) := by decide +kernel
theorem dX4_readStruck_10 : decode cX4_readStruck 10 = .ok (.iconst 1, 1) := by decide +kernel
theorem dX4_readStruck_11 : decode cX4_readStruck 11 = .ok (.putfield 97, 3) := by decide +kernel
theorem dX4_readStruck_14 : decode cX4_readStruck 14 = .ok (.aload_n 0, 1) := by decide +kernel
theorem dX4_readStruck_15 : decode cX4_readStruck 15 = .ok (.invokevirtual 28, 3) := by decide +kernel
theorem dX4_readStruck_18 : decode cX4_readStruck 18 = .ok (.iconst 1, 1) := by decide +kernel
theorem dX4_readStruck_19 : decode cX4_readStruck 19 = .ok (.ireturn, 1) := by decide +kernel
theorem dX4_step_0 : decode cX4_step 0 = .ok (.aload_n 0, 1) := by decide +kernel
theorem dX4_step_1 : decode cX4_step 1 = .ok (.getfield 25, 3) := by decide +kernel
theorem dX4_step_4 : decode cX4_step 4 = .ok (.aload_n 0, 1) := by decide +kernel
theorem dX4_step_5 : decode cX4_step 5 = .ok (.getfield 9, 3) := by decide +kernel
theorem dX4_step_8 : decode cX4_step 8 = .ok (.if_icmp .ge 30, 3) := by decide +kernel
theorem dX4_step_11 : decode cX4_step 11 = .ok (.aload_n 0, 1) := by decide +kernel
theorem dX4_step_12 : decode cX4_step 12 = .ok (.getfield 15, 3) := by decide +kernel
theorem dX4_step_15 : decode cX4_step 15 = .ok (.aload_n 0, 1) := by decide +kernel
theorem dX4_step_16 : decode cX4_step 16 = .ok (.getfield 25, 3) := by decide +kernel
theorem dX4_step_19 : decode cX4_step 19 = .ok (.iaload, 1) := by decide +kernel
theorem dX4_step_20 : decode cX4_step 20 = .ok (.bipush 32, 2) := by decide +kernel
theorem dX4_step_22 : decode cX4_step 22 = .ok (.if_icmp .ne 16, 3) := by decide +kernel
theorem dX4_step_25 : decode cX4_step 25 = .ok (.aload_n 0, 1) := by decide +kernel
theorem dX4_step_26 : decode cX4_step 26 = .ok (.dup, 1) := by decide +kernel
theorem dX4_step_27 : decode cX4_step 27 = .ok (.getfield 25, 3) := by decide +kernel
theorem dX4_step_30 : decode cX4_step 30 = .ok (.iconst 1, 1) := by decide +kernel
theorem dX4_step_31 : decode cX4_step 31 = .ok (.iadd, 1) := by decide +kernel
theorem dX4_step_32 : decode cX4_step 32 = .ok (.putfield 25, 3) := by decide +kernel
theorem dX4_step_35 : decode cX4_step 35 = .ok (.goto (-35), 3) := by decide +kernel
theorem dX4_step_38 : decode cX4_step 38 = .ok (.aload_n 0, 1) := by decide +kernel
theorem dX4_step_39 : decode cX4_step 39 = .ok (.aload_n 0, 1) := by decide +kernel
theorem dX4_step_40 : decode cX4_step 40 = .ok (.getfield 25, 3) := by decide +kernel
theorem dX4_step_43 : decode cX4_step 43 = .ok (.putfield 22, 3) := by decide +kernel
theorem dX4_step_46 : decode cX4_step 46 = .ok (.aload_n 0, 1) := by decide +kernel
theorem dX4_step_47 : decode cX4_step 47 = .ok (.getfield 22, 3) := by decide +kernel
theorem dX4_step_50 : decode cX4_step 50 = .ok (.aload_n 0, 1) := by decide +kernel
theorem dX4_step_51 : decode cX4_step 51 = .ok (.getfield 9, 3) := by decide +kernel
theorem dX4_step_54 : decode cX4_step 54 = .ok (.if_icmp .lt 9, 3) := by decide +kernel
theorem dX4_step_57 : decode cX4_step 57 = .ok (.aload_n 0, 1) := by decide +kernel
theorem dX4_step_58 : decode cX4_step 58 = .ok (.iconst 0, 1) := by decide +kernel
theorem dX4_step_59 : decode cX4_step 59 = .ok (.putfield 19, 3) := by decide +kernel
theorem dX4_step_62 : decode cX4_step 62 = .ok (.return_, 1) := by decide +kernel
theorem dX4_step_63 : decode cX4_step 63 = .ok (.aload_n 0, 1) := by decide +kernel
theorem dX4_step_64 : decode cX4_step 64 = .ok (.aload_n 0, 1) := by decide +kernel
theorem dX4_step_65 : decode cX4_step 65 = .ok (.getfield 15, 3) := by decide +kernel
theorem dX4_step_68 : decode cX4_step 68 = .ok (.aload_n 0, 1) := by decide +kernel
theorem dX4_step_69 : decode cX4_step 69 = .ok (.getfield 22, 3) := by decide +kernel
theorem dX4_step_72 : decode cX4_step 72 = .ok (.iaload, 1) := by decide +kernel
theorem dX4_step_73 : decode cX4_step 73 = .ok (.invokestatic 99, 3) := by decide +kernel
theorem dX4_step_76 : decode cX4_step 76 = .ok (.putfield 19, 3) := by decide +kernel
theorem dX4_step_79 : decode cX4_step 79 = .ok (.aload_n 0, 1) := by decide +kernel
theorem dX4_step_80 : decode cX4_step 80 = .ok (.dup, 1) := by decide +kernel
theorem dX4_step_81 : decode cX4_step 81 = .ok (.getfield 25, 3) := by decide +kernel
theorem dX4_step_84 : decode cX4_step 84 = .ok (.iconst 1, 1) := by decide +kernel
theorem dX4_step_85 : decode cX4_step 85 = .ok (.iadd, 1) := by decide +kernel
theorem dX4_step_86 : decode cX4_step 86 = .ok (.putfield 25, 3) := by decide +kernel
theorem dX4_step_89 : decode cX4_step 89 = .ok (.aload_n 0, 1) := by decide +kernel
theorem dX4_step_90 : decode cX4_step 90 = .ok (.getfield 19, 3) := by decide +kernel
theorem dX4_step_93 : decode cX4_step 93 = .ok (.iconst 1, 1) := by decide +kernel
theorem dX4_step_94 : decode cX4_step 94 = .ok (.if_icmp .eq 12, 3) := by decide +kernel
theorem dX4_step_97 : decode cX4_step 97 = .ok (.aload_n 0, 1) := by decide +kernel
theorem dX4_step_98 : decode cX4_step 98 = .ok (.getfield 19, 3) := by decide +kernel
theorem dX4_step_101 : decode cX4_step 101 = .ok (.iconst 2, 1) := by decide +kernel
theorem dX4_step_102 : decode cX4_step 102 = .ok (.if_icmp .eq 4, 3) := by decide +kernel
theorem dX4_step_105 : decode cX4_step 105 = .ok (.return_, 1) := by decide +kernel
theorem dX4_step_106 : decode cX4_step 106 = .ok (.aload_n 0, 1) := by decide +kernel
theorem dX4_step_107 : decode cX4_step 107 = .ok (.getfield 25, 3) := by decide +kernel
theorem dX4_step_110 : decode cX4_step 110 = .ok (.aload_n 0, 1) := by decide +kernel
theorem dX4_step_111 : decode cX4_step 111 = .ok (.getfield 9, 3) := by decide +kernel
theorem dX4_step_114 : decode cX4_step 114 = .ok (.if_icmp .ge 35, 3) := by decide +kernel
theorem dX4_step_117 : decode cX4_step 117 = .ok (.aload_n 0, 1) := by decide +kernel
theorem dX4_step_118 : decode cX4_step 118 = .ok (.getfield 15, 3) := by decide +kernel
theorem dX4_step_121 : decode cX4_step 121 = .ok (.aload_n 0, 1) := by decide +kernel
theorem dX4_step_122 : decode cX4_step 122 = .ok (.getfield 25, 3) := by decide +kernel
theorem dX4_step_125 : decode cX4_step 125 = .ok (.iaload, 1) := by decide +kernel
theorem dX4_step_126 : decode cX4_step 126 = .ok (.invokestatic 99, 3) := by decide +kernel
theorem dX4_step_129 : decode cX4_step 129 = .ok (.aload_n 0, 1) := by decide +kernel
theorem dX4_step_130 : decode cX4_step 130 = .ok (.getfield 19, 3) := by decide +kernel
theorem dX4_step_133 : decode cX4_step 133 = .ok (.if_icmp .ne 16, 3) := by decide +kernel
theorem dX4_step_136 : decode cX4_step 136 = .ok (.aload_n 0, 1) := by decide +kernel
theorem dX4_step_137 : decode cX4_step 137 = .ok (.dup, 1) := by decide +kernel
theorem dX4_step_138 : decode cX4_step 138 = .ok (.getfield 25, 3) := by decide +kernel
theorem dX4_step_141 : decode cX4_step 141 = .ok (.iconst 1, 1) := by decide +kernel
theorem dX4_step_142 : decode cX4_step 142 = .ok (.iadd, 1) := by decide +kernel
theorem dX4_step_143 : decode cX4_step 143 = .ok (.putfield 25, 3) := by decide +kernel
theorem dX4_step_146 : decode cX4_step 146 = .ok (.goto (-40), 3) := by decide +kernel
theorem dX4_step_149 : decode cX4_step 149 = .ok (.return_, 1) := by decide +kernel
theorem dX4_tokenBegunBy_0 : decode cX4_tokenBegunBy 0 = .ok (.iload_n 0, 1) := by decide +kernel
theorem dX4_tokenBegunBy_1 : decode cX4_tokenBegunBy 1 = .ok (.bipush 97, 2) := by decide +kernel
theorem dX4_tokenBegunBy_3 : decode cX4_tokenBegunBy 3 = .ok (.if_icmp .lt 11, 3) := by decide +kernel
theorem dX4_tokenBegunBy_6 : decode cX4_tokenBegunBy 6 = .ok (.iload_n 0, 1) := by decide +kernel
theorem dX4_tokenBegunBy_7 : decode cX4_tokenBegunBy 7 = .ok (.bipush 122, 2) := by decide +kernel
theorem dX4_tokenBegunBy_9 : decode cX4_tokenBegunBy 9 = .ok (.if_icmp .gt 5, 3) := by decide +kernel
theorem dX4_tokenBegunBy_12 : decode cX4_tokenBegunBy 12 = .ok (.iconst 1, 1) := by decide +kernel
theorem dX4_tokenBegunBy_13 : decode cX4_tokenBegunBy 13 = .ok (.ireturn, 1) := by decide +kernel
theorem dX4_tokenBegunBy_14 : decode cX4_tokenBegunBy 14 = .ok (.iload_n 0, 1) := by decide +kernel
theorem dX4_tokenBegunBy_15 : decode cX4_tokenBegunBy 15 = .ok (.bipush 48, 2) := by decide +kernel
theorem dX4_tokenBegunBy_17 : decode cX4_tokenBegunBy 17 = .ok (.if_icmp .lt 11, 3) := by decide +kernel
theorem dX4_tokenBegunBy_20 : decode cX4_tokenBegunBy 20 = .ok (.iload_n 0, 1) := by decide +kernel
theorem dX4_tokenBegunBy_21 : decode cX4_tokenBegunBy 21 = .ok (.bipush 57, 2) := by decide +kernel
theorem dX4_tokenBegunBy_23 : decode cX4_tokenBegunBy 23 = .ok (.if_icmp .gt 5, 3) := by decide +kernel
theorem dX4_tokenBegunBy_26 : decode cX4_tokenBegunBy 26 = .ok (.iconst 2, 1) := by decide +kernel
theorem dX4_tokenBegunBy_27 : decode cX4_tokenBegunBy 27 = .ok (.ireturn, 1) := by decide +kernel
theorem dX4_tokenBegunBy_28 : decode cX4_tokenBegunBy 28 = .ok (.iload_n 0, 1) := by decide +kernel
theorem dX4_tokenBegunBy_29 : decode cX4_tokenBegunBy 29 = .ok (.bipush 59, 2) := by decide +kernel
theorem dX4_tokenBegunBy_31 : decode cX4_tokenBegunBy 31 = .ok (.if_icmp .ne 5, 3) := by decide +kernel
theorem dX4_tokenBegunBy_34 : decode cX4_tokenBegunBy 34 = .ok (.iconst 3, 1) := by decide +kernel
theorem dX4_tokenBegunBy_35 : decode cX4_tokenBegunBy 35 = .ok (.ireturn, 1) := by decide +kernel
theorem dX4_tokenBegunBy_36 : decode cX4_tokenBegunBy 36 = .ok (.iload_n 0, 1) := by decide +kernel
theorem dX4_tokenBegunBy_37 : decode cX4_tokenBegunBy 37 = .ok (.bipush 45, 2) := by decide +kernel
theorem dX4_tokenBegunBy_39 : decode cX4_tokenBegunBy 39 = .ok (.if_icmp .ne 7, 3) := by decide +kernel
theorem dX4_tokenBegunBy_42 : decode cX4_tokenBegunBy 42 = .ok (.iconst 4, 1) := by decide +kernel
theorem dX4_tokenBegunBy_43 : decode cX4_tokenBegunBy 43 = .ok (.goto 4, 3) := by decide +kernel
theorem dX4_tokenBegunBy_46 : decode cX4_tokenBegunBy 46 = .ok (.iconst 5, 1) := by decide +kernel
theorem dX4_tokenBegunBy_47 : decode cX4_tokenBegunBy 47 = .ok (.ireturn, 1) := by decide +kernel
theorem dX4_isWord_0 : decode cX4_isWord 0 = .ok (.aload_n 0, 1) := by decide +kernel
theorem dX4_isWord_1 : decode cX4_isWord 1 = .ok (.getfield 19, 3) := by decide +kernel
theorem dX4_isWord_4 : decode cX4_isWord 4 = .ok (.iconst 1, 1) := by decide +kernel
theorem dX4_isWord_5 : decode cX4_isWord 5 = .ok (.if_icmp .ne 19, 3) := by decide +kernel
theorem dX4_isWord_8 : decode cX4_isWord 8 = .ok (.aload_n 0, 1) := by decide +kernel
theorem dX4_isWord_9 : decode cX4_isWord 9 = .ok (.getfield 25, 3) := by decide +kernel
theorem dX4_isWord_12 : decode cX4_isWord 12 = .ok (.aload_n 0, 1) := by decide +kernel
theorem dX4_isWord_13 : decode cX4_isWord 13 = .ok (.getfield 22, 3) := by decide +kernel
theorem dX4_isWord_16 : decode cX4_isWord 16 = .ok (.isub, 1) := by decide +kernel
theorem dX4_isWord_17 : decode cX4_isWord 17 = .ok (.aload_n 1, 1) := by decide +kernel
theorem dX4_isWord_18 : decode cX4_isWord 18 = .ok (.invokevirtual 102, 3) := by decide +kernel
theorem dX4_isWord_21 : decode cX4_isWord 21 = .ok (.if_icmp .eq 5, 3) := by decide +kernel
theorem dX4_isWord_24 : decode cX4_isWord 24 = .ok (.iconst 0, 1) := by decide +kernel
theorem dX4_isWord_25 : decode cX4_isWord 25 = .ok (.ireturn, 1) := by decide +kernel
theorem dX4_isWord_26 : decode cX4_isWord 26 = .ok (.iconst 0, 1) := by decide +kernel
theorem dX4_isWord_27 : decode cX4_isWord 27 = .ok (.istore_n 2, 1) := by decide +kernel
theorem dX4_isWord_28 : decode cX4_isWord 28 = .ok (.iload_n 2, 1) := by decide +kernel
theorem dX4_isWord_29 : decode cX4_isWord 29 = .ok (.aload_n 1, 1) := by decide +kernel
theorem dX4_isWord_30 : decode cX4_isWord 30 = .ok (.invokevirtual 102, 3) := by decide +kernel
theorem dX4_isWord_33 : decode cX4_isWord 33 = .ok (.if_icmp .ge 30, 3) := by decide +kernel
theorem dX4_isWord_36 : decode cX4_isWord 36 = .ok (.aload_n 1, 1) := by decide +kernel
theorem dX4_isWord_37 : decode cX4_isWord 37 = .ok (.iload_n 2, 1) := by decide +kernel
theorem dX4_isWord_38 : decode cX4_isWord 38 = .ok (.invokevirtual 107, 3) := by decide +kernel
theorem dX4_isWord_41 : decode cX4_isWord 41 = .ok (.aload_n 0, 1) := by decide +kernel
theorem dX4_isWord_42 : decode cX4_isWord 42 = .ok (.getfield 15, 3) := by decide +kernel
theorem dX4_isWord_45 : decode cX4_isWord 45 = .ok (.aload_n 0, 1) := by decide +kernel
theorem dX4_isWord_46 : decode cX4_isWord 46 = .ok (.getfield 22, 3) := by decide +kernel
theorem dX4_isWord_49 : decode cX4_isWord 49 = .ok (.iload_n 2, 1) := by decide +kernel
theorem dX4_isWord_50 : decode cX4_isWord 50 = .ok (.iadd, 1) := by decide +kernel
theorem dX4_isWord_51 : decode cX4_isWord 51 = .ok (.iaload, 1) := by decide +kernel
theorem dX4_isWord_52 : decode cX4_isWord 52 = .ok (.if_icmp .eq 5, 3) := by decide +kernel
theorem dX4_isWord_55 : decode cX4_isWord 55 = .ok (.iconst 0, 1) := by decide +kernel
theorem dX4_isWord_56 : decode cX4_isWord 56 = .ok (.ireturn, 1) := by decide +kernel
theorem dX4_isWord_57 : decode cX4_isWord 57 = .ok (.iinc 2 1, 3) := by decide +kernel
theorem dX4_isWord_60 : decode cX4_isWord 60 = .ok (.goto (-32), 3) := by decide +kernel
theorem dX4_isWord_63 : decode cX4_isWord 63 = .ok (.iconst 1, 1) := by decide +kernel
theorem dX4_isWord_64 : decode cX4_isWord 64 = .ok (.ireturn, 1) := by decide +kernel
theorem dX4_kindTold_0 : decode cX4_kindTold 0 = .ok (.iconst 0, 1) := by decide +kernel
theorem dX4_kindTold_1 : decode cX4_kindTold 1 = .ok (.istore_n 1, 1) := by decide +kernel
theorem dX4_kindTold_2 : decode cX4_kindTold 2 = .ok (.iload_n 1, 1) := by decide +kernel
theorem dX4_kindTold_3 : decode cX4_kindTold 3 = .ok (.bipush 7, 2) := by decide +kernel
theorem dX4_kindTold_5 : decode cX4_kindTold 5 = .ok (.if_icmp .ge 22, 3) := by decide +kernel
theorem dX4_kindTold_8 : decode cX4_kindTold 8 = .ok (.aload_n 0, 1) := by decide +kernel
theorem dX4_kindTold_9 : decode cX4_kindTold 9 = .ok (.iload_n 1, 1) := by decide +kernel
theorem dX4_kindTold_10 : decode cX4_kindTold 10 = .ok (.invokestatic 111, 3) := by decide +kernel
theorem dX4_kindTold_13 : decode cX4_kindTold 13 = .ok (.invokevirtual 37, 3) := by decide +kernel
theorem dX4_kindTold_16 : decode cX4_kindTold 16 = .ok (.ifCond .eq 5, 3) := by decide +kernel
theorem dX4_kindTold_19 : decode cX4_kindTold 19 = .ok (.iload_n 1, 1) := by decide +kernel
theorem dX4_kindTold_20 : decode cX4_kindTold 20 = .ok (.ireturn, 1) := by decide +kernel
theorem dX4_kindTold_21 : decode cX4_kindTold 21 = .ok (.iinc 1 1, 3) := by decide +kernel
theorem dX4_kindTold_24 : decode cX4_kindTold 24 = .ok (.goto (-22), 3) := by decide +kernel
theorem dX4_kindTold_27 : decode cX4_kindTold 27 = .ok (.iconst (-1), 1) := by decide +kernel
theorem dX4_kindTold_28 : decode cX4_kindTold 28 = .ok (.ireturn, 1) := by decide +kernel
theorem dX4_numberTold_0 : decode cX4_numberTold 0 = .ok (.aload_n 0, 1) := by decide +kernel
theorem dX4_numberTold_1 : decode cX4_numberTold 1 = .ok (.getfield 19, 3) := by decide +kernel
theorem dX4_numberTold_4 : decode cX4_numberTold 4 = .ok (.iconst 2, 1) := by decide +kernel
theorem dX4_numberTold_5 : decode cX4_numberTold 5 = .ok (.if_icmp .eq 5, 3) := by decide +kernel
theorem dX4_numberTold_8 : decode cX4_numberTold 8 = .ok (.iconst (-1), 1) := by decide +kernel
theorem dX4_numberTold_9 : decode cX4_numberTold 9 = .ok (.ireturn, 1) := by decide +kernel
theorem dX4_numberTold_10 : decode cX4_numberTold 10 = .ok (.iconst 0, 1) := by decide +kernel
theorem dX4_numberTold_11 : decode cX4_numberTold 11 = .ok (.istore_n 2, 1) := by decide +kernel
theorem dX4_numberTold_12 : decode cX4_numberTold 12 = .ok (.aload_n 0, 1) := by decide +kernel
theorem dX4_numberTold_13 : decode cX4_numberTold 13 = .ok (.getfield 22, 3) := by decide +kernel
theorem dX4_numberTold_16 : decode cX4_numberTold 16 = .ok (.istore_n 3, 1) := by decide +kernel
theorem dX4_numberTold_17 : decode cX4_numberTold 17 = .ok (.iload_n 3, 1) := by decide +kernel
theorem dX4_numberTold_18 : decode cX4_numberTold 18 = .ok (.aload_n 0, 1) := by decide +kernel
theorem dX4_numberTold_19 : decode cX4_numberTold 19 = .ok (.getfield 25, 3) := by decide +kernel
theorem dX4_numberTold_22 : decode cX4_numberTold 22 = .ok (.if_icmp .ge 31, 3) := by decide +kernel
theorem dX4_numberTold_25 : decode cX4_numberTold 25 = .ok (.iload_n 2, 1) := by decide +kernel
theorem dX4_numberTold_26 : decode cX4_numberTold 26 = .ok (.bipush 10, 2) := by decide +kernel
theorem dX4_numberTold_28 : decode cX4_numberTold 28 = .ok (.imul, 1) := by decide +kernel
theorem dX4_numberTold_29 : decode cX4_numberTold 29 = .ok (.aload_n 0, 1) := by decide +kernel
theorem dX4_numberTold_30 : decode cX4_numberTold 30 = .ok (.getfield 15, 3) := by decide +kernel
theorem dX4_numberTold_33 : decode cX4_numberTold 33 = .ok (.iload_n 3, 1) := by decide +kernel
theorem dX4_numberTold_34 : decode cX4_numberTold 34 = .ok (.iaload, 1) := by decide +kernel
theorem dX4_numberTold_35 : decode cX4_numberTold 35 = .ok (.iadd, 1) := by decide +kernel
theorem dX4_numberTold_36 : decode cX4_numberTold 36 = .ok (.bipush 48, 2) := by decide +kernel
theorem dX4_numberTold_38 : decode cX4_numberTold 38 = .ok (.isub, 1) := by decide +kernel
theorem dX4_numberTold_39 : decode cX4_numberTold 39 = .ok (.istore_n 2, 1) := by decide +kernel
theorem dX4_numberTold_40 : decode cX4_numberTold 40 = .ok (.iload_n 2, 1) := by decide +kernel
theorem dX4_numberTold_41 : decode cX4_numberTold 41 = .ok (.iload_n 1, 1) := by decide +kernel
theorem dX4_numberTold_42 : decode cX4_numberTold 42 = .ok (.if_icmp .le 5, 3) := by decide +kernel
theorem dX4_numberTold_45 : decode cX4_numberTold 45 = .ok (.iconst (-1), 1) := by decide +kernel
theorem dX4_numberTold_46 : decode cX4_numberTold 46 = .ok (.ireturn, 1) := by decide +kernel
theorem dX4_numberTold_47 : decode cX4_numberTold 47 = .ok (.iinc 3 1, 3) := by decide +kernel
theorem dX4_numberTold_50 : decode cX4_numberTold 50 = .ok (.goto (-33), 3) := by decide +kernel
theorem dX4_numberTold_53 : decode cX4_numberTold 53 = .ok (.iload_n 2, 1) := by decide +kernel
theorem dX4_numberTold_54 : decode cX4_numberTold 54 = .ok (.ireturn, 1) := by decide +kernel
