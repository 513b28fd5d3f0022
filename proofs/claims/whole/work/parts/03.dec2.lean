theorem dX5_init_0 : decode cX5_init 0 = .ok (.aload_n 0, 1) := by decide +kernel
theorem dX5_init_1 : decode cX5_init 1 = .ok (.invokespecial 1, 3) := by decide +kernel
theorem dX5_init_4 : decode cX5_init 4 = .ok (.aload_n 0, 1) := by decide +kernel
theorem dX5_init_5 : decode cX5_init 5 = .ok (.new 7, 3) := by decide +kernel
theorem dX5_init_8 : decode cX5_init 8 = .ok (.dup, 1) := by decide +kernel
theorem dX5_init_9 : decode cX5_init 9 = .ok (.invokespecial 9, 3) := by decide +kernel
theorem dX5_init_12 : decode cX5_init 12 = .ok (.putfield 10, 3) := by decide +kernel
theorem dX5_init_15 : decode cX5_init 15 = .ok (.aload_n 0, 1) := by decide +kernel
theorem dX5_init_16 : decode cX5_init 16 = .ok (.new 7, 3) := by decide +kernel
theorem dX5_init_19 : decode cX5_init 19 = .ok (.dup, 1) := by decide +kernel
theorem dX5_init_20 : decode cX5_init 20 = .ok (.invokespecial 9, 3) := by decide +kernel
theorem dX5_init_23 : decode cX5_init 23 = .ok (.putfield 16, 3) := by decide +kernel
theorem dX5_init_26 : decode cX5_init 26 = .ok (.aload_n 0, 1) := by decide +kernel
theorem dX5_init_27 : decode cX5_init 27 = .ok (.new 7, 3) := by decide +kernel
theorem dX5_init_30 : decode cX5_init 30 = .ok (.dup, 1) := by decide +kernel
theorem dX5_init_31 : decode cX5_init 31 = .ok (.invokespecial 9, 3) := by decide +kernel
theorem dX5_init_34 : decode cX5_init 34 = .ok (.putfield 19, 3) := by decide +kernel
theorem dX5_init_37 : decode cX5_init 37 = .ok (.aload_n 0, 1) := by decide +kernel
theorem dX5_init_38 : decode cX5_init 38 = .ok (.iconst 0, 1) := by decide +kernel
theorem dX5_init_39 : decode cX5_init 39 = .ok (.putfield 22, 3) := by decide +kernel
theorem dX5_init_42 : decode cX5_init 42 = .ok (.aload_n 0, 1) := by decide +kernel
theorem dX5_init_43 : decode cX5_init 43 = .ok (.new 26, 3) := by decide +kernel
theorem dX5_init_46 : decode cX5_init 46 = .ok (.dup, 1) := by decide +kernel
theorem dX5_init_47 : decode cX5_init 47 = .ok (.invokespecial 28, 3) := by decide +kernel
theorem dX5_init_50 : decode cX5_init 50 = .ok (.putfield 29, 3) := by decide +kernel
theorem dX5_init_53 : decode cX5_init 53 = .ok (.aload_n 0, 1) := by decide +kernel
theorem dX5_init_54 : decode cX5_init 54 = .ok (.new 33, 3) := by decide +kernel
theorem dX5_init_57 : decode cX5_init 57 = .ok (.dup, 1) := by decide +kernel
theorem dX5_init_58 : decode cX5_init 58 = .ok (.invokespecial 35, 3) := by decide +kernel
theorem dX5_init_61 : decode cX5_init 61 = .ok (.putfield 36, 3) := by decide +kernel
theorem dX5_init_64 : decode cX5_init 64 = .ok (.aload_n 0, 1) := by decide +kernel
theorem dX5_init_65 : decode cX5_init 65 = .ok (.new 40, 3) := by decide +kernel
theorem dX5_init_68 : decode cX5_init 68 = .ok (.dup, 1) := by decide +kernel
theorem dX5_init_69 : decode cX5_init 69 = .ok (.invokespecial 42, 3) := by decide +kernel
theorem dX5_init_72 : decode cX5_init 72 = .ok (.putfield 43, 3) := by decide +kernel
theorem dX5_init_75 : decode cX5_init 75 = .ok (.aload_n 0, 1) := by decide +kernel
theorem dX5_init_76 : decode cX5_init 76 = .ok (.iconst 4, 1) := by decide +kernel
theorem dX5_init_77 : decode cX5_init 77 = .ok (.anewarray 47, 3) := by decide +kernel
theorem dX5_init_80 : decode cX5_init 80 = .ok (.putfield 49, 3) := by decide +kernel
theorem dX5_init_83 : decode cX5_init 83 = .ok (.aload_n 0, 1) := by decide +kernel
theorem dX5_init_84 : decode cX5_init 84 = .ok (.bipush 7, 2) := by decide +kernel
theorem dX5_init_86 : decode cX5_init 86 = .ok (.newarray .int, 2) := by decide +kernel
theorem dX5_init_88 : decode cX5_init 88 = .ok (.putfield 53, 3) := by decide +kernel
theorem dX5_init_91 : decode cX5_init 91 = .ok (.iconst 0, 1) := by decide +kernel
theorem dX5_init_92 : decode cX5_init 92 = .ok (.istore_n 1, 1) := by decide +kernel
theorem dX5_init_93 : decode cX5_init 93 = .ok (.iload_n 1, 1) := by decide +kernel
theorem dX5_init_94 : decode cX5_init 94 = .ok (.iconst 4, 1) := by decide +kernel
theorem dX5_init_95 : decode cX5_init 95 = .ok (.if_icmp .ge 22, 3) := by decide +kernel
theorem dX5_init_98 : decode cX5_init 98 = .ok (.aload_n 0, 1) := by decide +kernel
theorem dX5_init_99 : decode cX5_init 99 = .ok (.getfield 49, 3) := by decide +kernel
theorem dX5_init_102 : decode cX5_init 102 = .ok (.iload_n 1, 1) := by decide +kernel
theorem dX5_init_103 : decode cX5_init 103 = .ok (.new 47, 3) := by decide +kernel
theorem dX5_init_106 : decode cX5_init 106 = .ok (.dup, 1) := by decide +kernel
theorem dX5_init_107 : decode cX5_init 107 = .ok (.invokespecial 57, 3) := by decide +kernel
theorem dX5_init_110 : decode cX5_init 110 = .ok (.aastore, 1) := by decide +kernel
theorem dX5_init_111 : decode cX5_init 111 = .ok (.iinc 1 1, 3) := by decide +kernel
theorem dX5_init_114 : decode cX5_init 114 = .ok (.goto (-21), 3) := by decide +kernel
theorem dX5_init_117 : decode cX5_init 117 = .ok (.return_, 1) := by decide +kernel
theorem dX5_letter_0 : decode cX5_letter 0 = .ok (.iload_n 1, 1) := by decide +kernel
theorem dX5_letter_1 : decode cX5_letter 1 = .ok (.invokestatic 58, 3) := by decide +kernel
theorem dX5_letter_4 : decode cX5_letter 4 = .ok (.ifCond .eq 31, 3) := by decide +kernel
theorem dX5_letter_7 : decode cX5_letter 7 = .ok (.iload_n 2, 1) := by decide +kernel
theorem dX5_letter_8 : decode cX5_letter 8 = .ok (.iload_n 3, 1) := by decide +kernel
theorem dX5_letter_9 : decode cX5_letter 9 = .ok (.invokestatic 62, 3) := by decide +kernel
theorem dX5_letter_12 : decode cX5_letter 12 = .ok (.ifCond .eq 23, 3) := by decide +kernel
theorem dX5_letter_15 : decode cX5_letter 15 = .ok (.iload 4, 2) := by decide +kernel
theorem dX5_letter_17 : decode cX5_letter 17 = .ok (.invokestatic 66, 3) := by decide +kernel
theorem dX5_letter_20 : decode cX5_letter 20 = .ok (.ifCond .eq 15, 3) := by decide +kernel
theorem dX5_letter_23 : decode cX5_letter 23 = .ok (.iload 5, 2) := by decide +kernel
theorem dX5_letter_25 : decode cX5_letter 25 = .ok (.iconst 0, 1) := by decide +kernel
theorem dX5_letter_26 : decode cX5_letter 26 = .ok (.sipush 999, 3) := by decide +kernel
theorem dX5_letter_29 : decode cX5_letter 29 = .ok (.invokestatic 69, 3) := by decide +kernel
theorem dX5_letter_32 : decode cX5_letter 32 = .ok (.ifCond .ne 9, 3) := by decide +kernel
theorem dX5_letter_35 : decode cX5_letter 35 = .ok (.aload_n 0, 1) := by decide +kernel
theorem dX5_letter_36 : decode cX5_letter 36 = .ok (.iconst 0, 1) := by decide +kernel
theorem dX5_letter_37 : decode cX5_letter 37 = .ok (.invokevirtual 73, 3) := by decide +kernel
theorem dX5_letter_40 : decode cX5_letter 40 = .ok (.ireturn, 1) := by decide +kernel
theorem dX5_letter_41 : decode cX5_letter 41 = .ok (.aload_n 0, 1) := by decide +kernel
theorem dX5_letter_42 : decode cX5_letter 42 = .ok (.getfield 10, 3) := by decide +kernel
theorem dX5_letter_45 : decode cX5_letter 45 = .ok (.getfield 77, 3) := by decide +kernel
theorem dX5_letter_48 : decode cX5_letter 48 = .ok (.bipush 8, 2) := by decide +kernel
theorem dX5_letter_50 : decode cX5_letter 50 = .ok (.if_icmp .lt 9, 3) := by decide +kernel
theorem dX5_letter_53 : decode cX5_letter 53 = .ok (.aload_n 0, 1) := by decide +kernel
theorem dX5_letter_54 : decode cX5_letter 54 = .ok (.iconst 1, 1) := by decide +kernel
theorem dX5_letter_55 : decode cX5_letter 55 = .ok (.invokevirtual 73, 3) := by decide +kernel
theorem dX5_letter_58 : decode cX5_letter 58 = .ok (.ireturn, 1) := by decide +kernel
theorem dX5_letter_59 : decode cX5_letter 59 = .ok (.aload_n 0, 1) := by decide +kernel
theorem dX5_letter_60 : decode cX5_letter 60 = .ok (.getfield 10, 3) := by decide +kernel
theorem dX5_letter_63 : decode cX5_letter 63 = .ok (.iload_n 1, 1) := by decide +kernel
theorem dX5_letter_64 : decode cX5_letter 64 = .ok (.iload_n 2, 1) := by decide +kernel
theorem dX5_letter_65 : decode cX5_letter 65 = .ok (.iload_n 3, 1) := by decide +kernel
theorem dX5_letter_66 : decode cX5_letter 66 = .ok (.iload 4, 2) := by decide +kernel
theorem dX5_letter_68 : decode cX5_letter 68 = .ok (.iload 5, 2) := by decide +kernel
theorem dX5_letter_70 : decode cX5_letter 70 = .ok (.invokevirtual 81, 3) := by decide +kernel
theorem dX5_letter_73 : decode cX5_letter 73 = .ok (.ireturn, 1) := by decide +kernel
theorem dX5_of_0 : decode cX5_of 0 = .ok (.aload_n 0, 1) := by decide +kernel
theorem dX5_of_1 : decode cX5_of 1 = .ok (.getfield 10, 3) := by decide +kernel
theorem dX5_of_4 : decode cX5_of 4 = .ok (.iload_n 1, 1) := by decide +kernel
theorem dX5_of_5 : decode cX5_of 5 = .ok (.invokevirtual 85, 3) := by decide +kernel
theorem dX5_of_8 : decode cX5_of 8 = .ok (.ifCond .eq 13, 3) := by decide +kernel
theorem dX5_of_11 : decode cX5_of 11 = .ok (.iload_n 2, 1) := by decide +kernel
theorem dX5_of_12 : decode cX5_of 12 = .ok (.iconst 0, 1) := by decide +kernel
theorem dX5_of_13 : decode cX5_of 13 = .ok (.bipush 9, 2) := by decide +kernel
theorem dX5_of_15 : decode cX5_of 15 = .ok (.invokestatic 69, 3) := by decide +kernel
theorem dX5_of_18 : decode cX5_of 18 = .ok (.ifCond .ne 9, 3) := by decide +kernel
theorem dX5_of_21 : decode cX5_of 21 = .ok (.aload_n 0, 1) := by decide +kernel
theorem dX5_of_22 : decode cX5_of 22 = .ok (.iconst 0, 1) := by decide +kernel
theorem dX5_of_23 : decode cX5_of 23 = .ok (.invokevirtual 73, 3) := by decide +kernel
theorem dX5_of_26 : decode cX5_of 26 = .ok (.ireturn, 1) := by decide +kernel
theorem dX5_of_27 : decode cX5_of 27 = .ok (.aload_n 0, 1) := by decide +kernel
theorem dX5_of_28 : decode cX5_of 28 = .ok (.getfield 10, 3) := by decide +kernel
theorem dX5_of_31 : decode cX5_of 31 = .ok (.getfield 88, 3) := by decide +kernel
theorem dX5_of_34 : decode cX5_of 34 = .ok (.iload_n 1, 1) := by decide +kernel
theorem dX5_of_35 : decode cX5_of 35 = .ok (.aaload, 1) := by decide +kernel
theorem dX5_of_36 : decode cX5_of 36 = .ok (.astore_n 3, 1) := by decide +kernel
theorem dX5_of_37 : decode cX5_of 37 = .ok (.iload_n 2, 1) := by decide +kernel
theorem dX5_of_38 : decode cX5_of 38 = .ok (.tableswitch 90 6 9 #[30, 42, 54, 66], 30) := by decide +kernel
theorem dX5_of_68 : decode cX5_of 68 = .ok (.aload_n 3, 1) := by decide +kernel
theorem dX5_of_69 : decode cX5_of 69 = .ok (.aload_n 0, 1) := by decide +kernel
theorem dX5_of_70 : decode cX5_of 70 = .ok (.getfield 10, 3) := by decide +kernel
theorem dX5_of_73 : decode cX5_of 73 = .ok (.getfield 92, 3) := by decide +kernel
theorem dX5_of_76 : decode cX5_of 76 = .ok (.invokevirtual 95, 3) := by decide +kernel
theorem dX5_of_79 : decode cX5_of 79 = .ok (.ireturn, 1) := by decide +kernel
theorem dX5_of_80 : decode cX5_of 80 = .ok (.aload_n 3, 1) := by decide +kernel
theorem dX5_of_81 : decode cX5_of 81 = .ok (.aload_n 0, 1) := by decide +kernel
theorem dX5_of_82 : decode cX5_of 82 = .ok (.getfield 10, 3) := by decide +kernel
theorem dX5_of_85 : decode cX5_of 85 = .ok (.getfield 92, 3) := by decide +kernel
theorem dX5_of_88 : decode cX5_of 88 = .ok (.invokevirtual 98, 3) := by decide +kernel
theorem dX5_of_91 : decode cX5_of 91 = .ok (.ireturn, 1) := by decide +kernel
theorem dX5_of_92 : decode cX5_of 92 = .ok (.aload_n 3, 1) := by decide +kernel
theorem dX5_of_93 : decode cX5_of 93 = .ok (.aload_n 0, 1) := by decide +kernel
theorem dX5_of_94 : decode cX5_of 94 = .ok (.getfield 10, 3) := by decide +kernel
theorem dX5_of_97 : decode cX5_of 97 = .ok (.getfield 101, 3) := by decide +kernel
theorem dX5_of_100 : decode cX5_of 100 = .ok (.invokevirtual 104, 3) := by decide +kernel
theorem dX5_of_103 : decode cX5_of 103 = .ok (.ireturn, 1) := by decide +kernel
theorem dX5_of_104 : decode cX5_of 104 = .ok (.aload_n 0, 1) := by decide +kernel
theorem dX5_of_105 : decode cX5_of 105 = .ok (.getfield 10, 3) := by decide +kernel
theorem dX5_of_108 : decode cX5_of 108 = .ok (.aload_n 3, 1) := by decide +kernel
theorem dX5_of_109 : decode cX5_of 109 = .ok (.aload_n 0, 1) := by decide +kernel
theorem dX5_of_110 : decode cX5_of 110 = .ok (.getfield 10, 3) := by decide +kernel
theorem dX5_of_113 : decode cX5_of 113 = .ok (.getfield 107, 3) := by decide +kernel
theorem dX5_of_116 : decode cX5_of 116 = .ok (.invokevirtual 110, 3) := by decide +kernel
theorem dX5_of_119 : decode cX5_of 119 = .ok (.ifCond .eq 7, 3) := by decide +kernel
theorem dX5_of_122 : decode cX5_of 122 = .ok (.iconst 1, 1) := by decide +kernel
theorem dX5_of_123 : decode cX5_of 123 = .ok (.goto 4, 3) := by decide +kernel
theorem dX5_of_126 : decode cX5_of 126 = .ok (.iconst 0, 1) := by decide +kernel
theorem dX5_of_127 : decode cX5_of 127 = .ok (.ireturn, 1) := by decide +kernel
theorem dX5_of_128 : decode cX5_of 128 = .ok (.aload_n 3, 1) := by decide +kernel
theorem dX5_of_129 : decode cX5_of 129 = .ok (.iload_n 2, 1) := by decide +kernel
theorem dX5_of_130 : decode cX5_of 130 = .ok (.invokevirtual 114, 3) := by decide +kernel
theorem dX5_of_133 : decode cX5_of 133 = .ok (.ireturn, 1) := by decide +kernel
theorem dX5_change_0 : decode cX5_change 0 = .ok (.aload_n 0, 1) := by decide +kernel
theorem dX5_change_1 : decode cX5_change 1 = .ok (.getfield 10, 3) := by decide +kernel
theorem dX5_change_4 : decode cX5_change 4 = .ok (.iload_n 1, 1) := by decide +kernel
theorem dX5_change_5 : decode cX5_change 5 = .ok (.invokevirtual 85, 3) := by decide +kernel
theorem dX5_change_8 : decode cX5_change 8 = .ok (.ifCond .eq 20, 3) := by decide +kernel
theorem dX5_change_11 : decode cX5_change 11 = .ok (.aload_n 0, 1) := by decide +kernel
theorem dX5_change_12 : decode cX5_change 12 = .ok (.getfield 10, 3) := by decide +kernel
theorem dX5_change_15 : decode cX5_change 15 = .ok (.getfield 88, 3) := by decide +kernel
theorem dX5_change_18 : decode cX5_change 18 = .ok (.iload_n 1, 1) := by decide +kernel
theorem dX5_change_19 : decode cX5_change 19 = .ok (.aaload, 1) := by decide +kernel
theorem dX5_change_20 : decode cX5_change 20 = .ok (.iload_n 2, 1) := by decide +kernel
theorem dX5_change_21 : decode cX5_change 21 = .ok (.iload_n 3, 1) := by decide +kernel
theorem dX5_change_22 : decode cX5_change 22 = .ok (.invokestatic 117, 3) := by decide +kernel
theorem dX5_change_25 : decode cX5_change 25 = .ok (.ifCond .ne 9, 3) := by decide +kernel
theorem dX5_change_28 : decode cX5_change 28 = .ok (.aload_n 0, 1) := by decide +kernel
theorem dX5_change_29 : decode cX5_change 29 = .ok (.iconst 0, 1) := by decide +kernel
theorem dX5_change_30 : decode cX5_change 30 = .ok (.invokevirtual 73, 3) := by decide +kernel
theorem dX5_change_33 : decode cX5_change 33 = .ok (.ireturn, 1) := by decide +kernel
theorem dX5_change_34 : decode cX5_change 34 = .ok (.aload_n 0, 1) := by decide +kernel
theorem dX5_change_35 : decode cX5_change 35 = .ok (.getfield 10, 3) := by decide +kernel
theorem dX5_change_38 : decode cX5_change 38 = .ok (.getfield 88, 3) := by decide +kernel
theorem dX5_change_41 : decode cX5_change 41 = .ok (.iload_n 1, 1) := by decide +kernel
theorem dX5_change_42 : decode cX5_change 42 = .ok (.aaload, 1) := by decide +kernel
theorem dX5_change_43 : decode cX5_change 43 = .ok (.iload_n 2, 1) := by decide +kernel
theorem dX5_change_44 : decode cX5_change 44 = .ok (.invokevirtual 114, 3) := by decide +kernel
theorem dX5_change_47 : decode cX5_change 47 = .ok (.istore 4, 2) := by decide +kernel
theorem dX5_change_49 : decode cX5_change 49 = .ok (.aload_n 0, 1) := by decide +kernel
theorem dX5_change_50 : decode cX5_change 50 = .ok (.getfield 10, 3) := by decide +kernel
theorem dX5_change_53 : decode cX5_change 53 = .ok (.getfield 88, 3) := by decide +kernel
theorem dX5_change_56 : decode cX5_change 56 = .ok (.iload_n 1, 1) := by decide +kernel
theorem dX5_change_57 : decode cX5_change 57 = .ok (.aaload, 1) := by decide +kernel
theorem dX5_change_58 : decode cX5_change 58 = .ok (.iload_n 2, 1) := by decide +kernel
theorem dX5_change_59 : decode cX5_change 59 = .ok (.iload_n 3, 1) := by decide +kernel
theorem dX5_change_60 : decode cX5_change 60 = .ok (.invokevirtual 121, 3) := by decide +kernel
theorem dX5_change_63 : decode cX5_change 63 = .ok (.iload 4, 2) := by decide +kernel
theorem dX5_change_65 : decode cX5_change 65 = .ok (.ireturn, 1) := by decide +kernel
theorem dX5_law_0 : decode cX5_law 0 = .ok (.iload_n 1, 1) := by decide +kernel
theorem dX5_law_1 : decode cX5_law 1 = .ok (.iconst 0, 1) := by decide +kernel
theorem dX5_law_2 : decode cX5_law 2 = .ok (.iconst 1, 1) := by decide +kernel
theorem dX5_law_3 : decode cX5_law 3 = .ok (.invokestatic 69, 3) := by decide +kernel
theorem dX5_law_6 : decode cX5_law 6 = .ok (.ifCond .eq 13, 3) := by decide +kernel
theorem dX5_law_9 : decode cX5_law 9 = .ok (.iload_n 2, 1) := by decide +kernel
theorem dX5_law_10 : decode cX5_law 10 = .ok (.iconst 0, 1) := by decide +kernel
theorem dX5_law_11 : decode cX5_law 11 = .ok (.bipush 9, 2) := by decide +kernel
theorem dX5_law_13 : decode cX5_law 13 = .ok (.invokestatic 69, 3) := by decide +kernel
theorem dX5_law_16 : decode cX5_law 16 = .ok (.ifCond .ne 9, 3) := by decide +kernel
theorem dX5_law_19 : decode cX5_law 19 = .ok (.aload_n 0, 1) := by decide +kernel
theorem dX5_law_20 : decode cX5_law 20 = .ok (.iconst 0, 1) := by decide +kernel
theorem dX5_law_21 : decode cX5_law 21 = .ok (.invokevirtual 73, 3) := by decide +kernel
theorem dX5_law_24 : decode cX5_law 24 = .ok (.ireturn, 1) := by decide +kernel
theorem dX5_law_25 : decode cX5_law 25 = .ok (.iload_n 1, 1) := by decide +kernel
theorem dX5_law_26 : decode cX5_law 26 = .ok (.ifCond .ne 22, 3) := by decide +kernel
theorem dX5_law_29 : decode cX5_law 29 = .ok (.aload_n 0, 1) := by decide +kernel
theorem dX5_law_30 : decode cX5_law 30 = .ok (.getfield 10, 3) := by decide +kernel
theorem dX5_law_33 : decode cX5_law 33 = .ok (.getfield 92, 3) := by decide +kernel
theorem dX5_law_36 : decode cX5_law 36 = .ok (.istore_n 3, 1) := by decide +kernel
theorem dX5_law_37 : decode cX5_law 37 = .ok (.aload_n 0, 1) := by decide +kernel
theorem dX5_law_38 : decode cX5_law 38 = .ok (.getfield 10, 3) := by decide +kernel
theorem dX5_law_41 : decode cX5_law 41 = .ok (.iload_n 2, 1) := by decide +kernel
theorem dX5_law_42 : decode cX5_law 42 = .ok (.putfield 92, 3) := by decide +kernel
theorem dX5_law_45 : decode cX5_law 45 = .ok (.goto 19, 3) := by decide +kernel
theorem dX5_law_48 : decode cX5_law 48 = .ok (.aload_n 0, 1) := by decide +kernel
theorem dX5_law_49 : decode cX5_law 49 = .ok (.getfield 10, 3) := by decide +kernel
theorem dX5_law_52 : decode cX5_law 52 = .ok (.getfield 101, 3) := by decide +kernel
theorem dX5_law_55 : decode cX5_law 55 = .ok (.istore_n 3, 1) := by decide +kernel
theorem dX5_law_56 : decode cX5_law 56 = .ok (.aload_n 0, 1) := by decide +kernel
theorem dX5_law_57 : decode cX5_law 57 = .ok (.getfield 10, 3) := by decide +kernel
theorem dX5_law_60 : decode cX5_law 60 = .ok (.iload_n 2, 1) := by decide +kernel
theorem dX5_law_61 : decode cX5_law 61 = .ok (.putfield 101, 3) := by decide +kernel
theorem dX5_law_64 : decode cX5_law 64 = .ok (.iload_n 3, 1) := by decide +kernel
theorem dX5_law_65 : decode cX5_law 65 = .ok (.ireturn, 1) := by decide +kernel
theorem dX5_go_0 : decode cX5_go 0 = .ok (.iload_n 1, 1) := by decide +kernel
theorem dX5_go_1 : decode cX5_go 1 = .ok (.iconst 1, 1) := by decide +kernel
theorem dX5_go_2 : decode cX5_go 2 = .ok (.sipush 200, 3) := by decide +kernel
theorem dX5_go_5 : decode cX5_go 5 = .ok (.invokestatic 69, 3) := by decide +kernel
theorem dX5_go_8 : decode cX5_go 8 = .ok (.ifCond .ne 9, 3) := by decide +kernel
theorem dX5_go_11 : decode cX5_go 11 = .ok (.aload_n 0, 1) := by decide +kernel
theorem dX5_go_12 : decode cX5_go 12 = .ok (.iconst 0, 1) := by decide +kernel
theorem dX5_go_13 : decode cX5_go 13 = .ok (.invokevirtual 73, 3) := by decide +kernel
theorem dX5_go_16 : decode cX5_go 16 = .ok (.ireturn, 1) := by decide +kernel
theorem dX5_go_17 : decode cX5_go 17 = .ok (.aload_n 0, 1) := by decide +kernel
theorem dX5_go_18 : decode cX5_go 18 = .ok (.getfield 10, 3) := by decide +kernel
theorem dX5_go_21 : decode cX5_go 21 = .ok (.getfield 107, 3) := by decide +kernel
theorem dX5_go_24 : decode cX5_go 24 = .ok (.iload_n 1, 1) := by decide +kernel
theorem dX5_go_25 : decode cX5_go 25 = .ok (.iadd, 1) := by decide +kernel
theorem dX5_go_26 : decode cX5_go 26 = .ok (.ldc 125, 2) := by decide +kernel
theorem dX5_go_28 : decode cX5_go 28 = .ok (.if_icmp .le 9, 3) := by decide +kernel
theorem dX5_go_31 : decode cX5_go 31 = .ok (.aload_n 0, 1) := by decide +kernel
theorem dX5_go_32 : decode cX5_go 32 = .ok (.iconst 4, 1) := by decide +kernel
theorem dX5_go_33 : decode cX5_go 33 = .ok (.invokevirtual 73, 3) := by decide +kernel
theorem dX5_go_36 : decode cX5_go 36 = .ok (.ireturn, 1) := by decide +kernel
theorem dX5_go_37 : decode cX5_go 37 = .ok (.aload_n 0, 1) := by decide +kernel
theorem dX5_go_38 : decode cX5_go 38 = .ok (.getfield 10, 3) := by decide +kernel
theorem dX5_go_41 : decode cX5_go 41 = .ok (.dup, 1) := by decide +kernel
theorem dX5_go_42 : decode cX5_go 42 = .ok (.getfield 107, 3) := by decide +kernel
theorem dX5_go_45 : decode cX5_go 45 = .ok (.iload_n 1, 1) := by decide +kernel
theorem dX5_go_46 : decode cX5_go 46 = .ok (.iadd, 1) := by decide +kernel
theorem dX5_go_47 : decode cX5_go 47 = .ok (.putfield 107, 3) := by decide +kernel
theorem dX5_go_50 : decode cX5_go 50 = .ok (.aload_n 0, 1) := by decide +kernel
theorem dX5_go_51 : decode cX5_go 51 = .ok (.invokevirtual 126, 3) := by decide +kernel
theorem dX5_go_54 : decode cX5_go 54 = .ok (.ireturn, 1) := by decide +kernel
theorem dX5_now_0 : decode cX5_now 0 = .ok (.iload_n 1, 1) := by decide +kernel
theorem dX5_now_1 : decode cX5_now 1 = .ok (.tableswitch 84 0 5 #[39, 47, 52, 60, 68, 76], 39) := by decide +kernel
theorem dX5_now_40 : decode cX5_now 40 = .ok (.aload_n 0, 1) := by decide +kernel
theorem dX5_now_41 : decode cX5_now 41 = .ok (.getfield 10, 3) := by decide +kernel
theorem dX5_now_44 : decode cX5_now 44 = .ok (.getfield 107, 3) := by decide +kernel
theorem dX5_now_47 : decode cX5_now 47 = .ok (.ireturn, 1) := by decide +kernel
theorem dX5_now_48 : decode cX5_now 48 = .ok (.aload_n 0, 1) := by decide +kernel
theorem dX5_now_49 : decode cX5_now 49 = .ok (.invokevirtual 126, 3) := by decide +kernel
theorem dX5_now_52 : decode cX5_now 52 = .ok (.ireturn, 1) := by decide +kernel
theorem dX5_now_53 : decode cX5_now 53 = .ok (.aload_n 0, 1) := by decide +kernel
theorem dX5_now_54 : decode cX5_now 54 = .ok (.getfield 10, 3) := by decide +kernel
theorem dX5_now_57 : decode cX5_now 57 = .ok (.invokevirtual 130, 3) := by decide +kernel
theorem dX5_now_60 : decode cX5_now 60 = .ok (.ireturn, 1) := by decide +kernel
theorem dX5_now_61 : decode cX5_now 61 = .ok (.aload_n 0, 1) := by decide +kernel
theorem dX5_now_62 : decode cX5_now 62 = .ok (.getfield 10, 3) := by decide +kernel
theorem dX5_now_65 : decode cX5_now 65 = .ok (.invokevirtual 133, 3) := by decide +kernel
theorem dX5_now_68 : decode cX5_now 68 = .ok (.ireturn, 1) := by decide +kernel
theorem dX5_now_69 : decode cX5_now 69 = .ok (.aload_n 0, 1) := by decide +kernel
theorem dX5_now_70 : decode cX5_now 70 = .ok (.getfield 10, 3) := by decide +kernel
theorem dX5_now_73 : decode cX5_now 73 = .ok (.getfield 92, 3) := by decide +kernel
theorem dX5_now_76 : decode cX5_now 76 = .ok (.ireturn, 1) := by decide +kernel
theorem dX5_now_77 : decode cX5_now 77 = .ok (.aload_n 0, 1) := by decide +kernel
theorem dX5_now_78 : decode cX5_now 78 = .ok (.getfield 10, 3) := by decide +kernel
theorem dX5_now_81 : decode cX5_now 81 = .ok (.getfield 101, 3) := by decide +kernel
theorem dX5_now_84 : decode cX5_now 84 = .ok (.ireturn, 1) := by decide +kernel
theorem dX5_now_85 : decode cX5_now 85 = .ok (.aload_n 0, 1) := by decide +kernel
theorem dX5_now_86 : decode cX5_now 86 = .ok (.iconst 0, 1) := by decide +kernel
theorem dX5_now_87 : decode cX5_now 87 = .ok (.invokevirtual 73, 3) := by decide +kernel
theorem dX5_now_90 : decode cX5_now 90 = .ok (.ireturn, 1) := by decide +kernel
theorem dX5_fits_0 : decode cX5_fits 0 = .ok (.aload_n 0, 1) := by decide +kernel
theorem dX5_fits_1 : decode cX5_fits 1 = .ok (.aload_n 0, 1) := by decide +kernel
theorem dX5_fits_2 : decode cX5_fits 2 = .ok (.invokevirtual 126, 3) := by decide +kernel
theorem dX5_fits_5 : decode cX5_fits 5 = .ok (.invokevirtual 136, 3) := by decide +kernel
theorem dX5_fits_8 : decode cX5_fits 8 = .ok (.ifCond .eq 7, 3) := by decide +kernel
theorem dX5_fits_11 : decode cX5_fits 11 = .ok (.iconst 1, 1) := by decide +kernel
theorem dX5_fits_12 : decode cX5_fits 12 = .ok (.goto 4, 3) := by decide +kernel
theorem dX5_fits_15 : decode cX5_fits 15 = .ok (.iconst 0, 1) := by decide +kernel
theorem dX5_fits_16 : decode cX5_fits 16 = .ok (.ireturn, 1) := by decide +kernel
theorem dX5_span_0 : decode cX5_span 0 = .ok (.iload_n 1, 1) := by decide +kernel
theorem dX5_span_1 : decode cX5_span 1 = .ok (.iload_n 2, 1) := by decide +kernel
theorem dX5_span_2 : decode cX5_span 2 = .ok (.invokestatic 62, 3) := by decide +kernel
theorem dX5_span_5 : decode cX5_span 5 = .ok (.ifCond .eq 12, 3) := by decide +kernel
theorem dX5_span_8 : decode cX5_span 8 = .ok (.iload_n 3, 1) := by decide +kernel
theorem dX5_span_9 : decode cX5_span 9 = .ok (.iconst 0, 1) := by decide +kernel
theorem dX5_span_10 : decode cX5_span 10 = .ok (.iconst 2, 1) := by decide +kernel
theorem dX5_span_11 : decode cX5_span 11 = .ok (.invokestatic 69, 3) := by decide +kernel
theorem dX5_span_14 : decode cX5_span 14 = .ok (.ifCond .ne 9, 3) := by decide +kernel
theorem dX5_span_17 : decode cX5_span 17 = .ok (.aload_n 0, 1) := by decide +kernel
theorem dX5_span_18 : decode cX5_span 18 = .ok (.iconst 0, 1) := by decide +kernel
theorem dX5_span_19 : decode cX5_span 19 = .ok (.invokevirtual 73, 3) := by decide +kernel
theorem dX5_span_22 : decode cX5_span 22 = .ok (.ireturn, 1) := by decide +kernel
theorem dX5_span_23 : decode cX5_span 23 = .ok (.aload_n 0, 1) := by decide +kernel
theorem dX5_span_24 : decode cX5_span 24 = .ok (.aload_n 0, 1) := by decide +kernel
theorem dX5_span_25 : decode cX5_span 25 = .ok (.invokevirtual 126, 3) := by decide +kernel
theorem dX5_span_28 : decode cX5_span 28 = .ok (.invokevirtual 136, 3) := by decide +kernel
theorem dX5_span_31 : decode cX5_span 31 = .ok (.ifCond .ne 9, 3) := by decide +kernel
theorem dX5_span_34 : decode cX5_span 34 = .ok (.aload_n 0, 1) := by decide +kernel
theorem dX5_span_35 : decode cX5_span 35 = .ok (.iconst 3, 1) := by decide +kernel
theorem dX5_span_36 : decode cX5_span 36 = .ok (.invokevirtual 73, 3) := by decide +kernel
theorem dX5_span_39 : decode cX5_span 39 = .ok (.ireturn, 1) := by decide +kernel
theorem dX5_span_40 : decode cX5_span 40 = .ok (.iload_n 3, 1) := by decide +kernel
theorem dX5_span_41 : decode cX5_span 41 = .ok (.ifCond .ne 13, 3) := by decide +kernel
theorem dX5_span_44 : decode cX5_span 44 = .ok (.aload_n 0, 1) := by decide +kernel
theorem dX5_span_45 : decode cX5_span 45 = .ok (.getfield 29, 3) := by decide +kernel
theorem dX5_span_48 : decode cX5_span 48 = .ok (.iload_n 1, 1) := by decide +kernel
theorem dX5_span_49 : decode cX5_span 49 = .ok (.iload_n 2, 1) := by decide +kernel
theorem dX5_span_50 : decode cX5_span 50 = .ok (.invokevirtual 139, 3) := by decide +kernel
theorem dX5_span_53 : decode cX5_span 53 = .ok (.ireturn, 1) := by decide +kernel
theorem dX5_span_54 : decode cX5_span 54 = .ok (.iload_n 3, 1) := by decide +kernel
theorem dX5_span_55 : decode cX5_span 55 = .ok (.iconst 1, 1) := by decide +kernel
theorem dX5_span_56 : decode cX5_span 56 = .ok (.if_icmp .ne 15, 3) := by decide +kernel
theorem dX5_span_59 : decode cX5_span 59 = .ok (.aload_n 0, 1) := by decide +kernel
theorem dX5_span_60 : decode cX5_span 60 = .ok (.getfield 29, 3) := by decide +kernel
theorem dX5_span_63 : decode cX5_span 63 = .ok (.iload_n 1, 1) := by decide +kernel
theorem dX5_span_64 : decode cX5_span 64 = .ok (.iload_n 2, 1) := by decide +kernel
theorem dX5_span_65 : decode cX5_span 65 = .ok (.invokevirtual 143, 3) := by decide +kernel
theorem dX5_span_68 : decode cX5_span 68 = .ok (.goto 12, 3) := by decide +kernel
theorem dX5_span_71 : decode cX5_span 71 = .ok (.aload_n 0, 1) := by decide +kernel
theorem dX5_span_72 : decode cX5_span 72 = .ok (.getfield 29, 3) := by decide +kernel
theorem dX5_span_75 : decode cX5_span 75 = .ok (.iload_n 1, 1) := by decide +kernel
theorem dX5_span_76 : decode cX5_span 76 = .ok (.iload_n 2, 1) := by decide +kernel
theorem dX5_span_77 : decode cX5_span 77 = .ok (.invokevirtual 146, 3) := by decide +kernel
theorem dX5_span_80 : decode cX5_span 80 = .ok (.ireturn, 1) := by decide +kernel
theorem dX5_sure_0 : decode cX5_sure 0 = .ok (.iload_n 1, 1) := by decide +kernel
theorem dX5_sure_1 : decode cX5_sure 1 = .ok (.invokestatic 149, 3) := by decide +kernel
theorem dX5_sure_4 : decode cX5_sure 4 = .ok (.ifCond .ne 9, 3) := by decide +kernel
theorem dX5_sure_7 : decode cX5_sure 7 = .ok (.aload_n 0, 1) := by decide +kernel
theorem dX5_sure_8 : decode cX5_sure 8 = .ok (.iconst 0, 1) := by decide +kernel
theorem dX5_sure_9 : decode cX5_sure 9 = .ok (.invokevirtual 73, 3) := by decide +kernel
theorem dX5_sure_12 : decode cX5_sure 12 = .ok (.ireturn, 1) := by decide +kernel
theorem dX5_sure_13 : decode cX5_sure 13 = .ok (.aload_n 0, 1) := by decide +kernel
theorem dX5_sure_14 : decode cX5_sure 14 = .ok (.aload_n 0, 1) := by decide +kernel
theorem dX5_sure_15 : decode cX5_sure 15 = .ok (.invokevirtual 126, 3) := by decide +kernel
theorem dX5_sure_18 : decode cX5_sure 18 = .ok (.invokevirtual 136, 3) := by decide +kernel
theorem dX5_sure_21 : decode cX5_sure 21 = .ok (.ifCond .ne 9, 3) := by decide +kernel
theorem dX5_sure_24 : decode cX5_sure 24 = .ok (.aload_n 0, 1) := by decide +kernel
theorem dX5_sure_25 : decode cX5_sure 25 = .ok (.iconst 3, 1) := by decide +kernel
theorem dX5_sure_26 : decode cX5_sure 26 = .ok (.invokevirtual 73, 3) := by decide +kernel
theorem dX5_sure_29 : decode cX5_sure 29 = .ok (.ireturn, 1) := by decide +kernel
theorem dX5_sure_30 : decode cX5_sure 30 = .ok (.iconst 0, 1) := by decide +kernel
theorem dX5_sure_31 : decode cX5_sure 31 = .ok (.istore_n 2, 1) := by decide +kernel
theorem dX5_sure_32 : decode cX5_sure 32 = .ok (.iconst 0, 1) := by decide +kernel
theorem dX5_sure_33 : decode cX5_sure 33 = .ok (.istore_n 3, 1) := by decide +kernel
theorem dX5_sure_34 : decode cX5_sure 34 = .ok (.iload_n 3, 1) := by decide +kernel
theorem dX5_sure_35 : decode cX5_sure 35 = .ok (.bipush 8, 2) := by decide +kernel
theorem dX5_sure_37 : decode cX5_sure 37 = .ok (.if_icmp .ge 28, 3) := by decide +kernel
theorem dX5_sure_40 : decode cX5_sure 40 = .ok (.aload_n 0, 1) := by decide +kernel
theorem dX5_sure_41 : decode cX5_sure 41 = .ok (.getfield 29, 3) := by decide +kernel
theorem dX5_sure_44 : decode cX5_sure 44 = .ok (.iload_n 1, 1) := by decide +kernel
theorem dX5_sure_45 : decode cX5_sure 45 = .ok (.iload_n 3, 1) := by decide +kernel
theorem dX5_sure_46 : decode cX5_sure 46 = .ok (.invokevirtual 146, 3) := by decide +kernel
theorem dX5_sure_49 : decode cX5_sure 49 = .ok (.iconst 1, 1) := by decide +kernel
theorem dX5_sure_50 : decode cX5_sure 50 = .ok (.if_icmp .ne 9, 3) := by decide +kernel
theorem dX5_sure_53 : decode cX5_sure 53 = .ok (.iload_n 2, 1) := by decide +kernel
theorem dX5_sure_54 : decode cX5_sure 54 = .ok (.iconst 1, 1) := by decide +kernel
theorem dX5_sure_55 : decode cX5_sure 55 = .ok (.iload_n 3, 1) := by decide +kernel
theorem dX5_sure_56 : decode cX5_sure 56 = .ok (.ishl, 1) := by decide +kernel
theorem dX5_sure_57 : decode cX5_sure 57 = .ok (.ior, 1) := by decide +kernel
theorem dX5_sure_58 : decode cX5_sure 58 = .ok (.istore_n 2, 1) := by decide +kernel
theorem dX5_sure_59 : decode cX5_sure 59 = .ok (.iinc 3 1, 3) := by decide +kernel
theorem dX5_sure_62 : decode cX5_sure 62 = .ok (.goto (-28), 3) := by decide +kernel
theorem dX5_sure_65 : decode cX5_sure 65 = .ok (.iload_n 2, 1) := by decide +kernel
theorem dX5_sure_66 : decode cX5_sure 66 = .ok (.ireturn, 1) := by decide +kernel
theorem dX5_below_0 : decode cX5_below 0 = .ok (.iload_n 1, 1) := by decide +kernel
theorem dX5_below_1 : decode cX5_below 1 = .ok (.invokestatic 149, 3) := by decide +kernel
theorem dX5_below_4 : decode cX5_below 4 = .ok (.ifCond .ne 9, 3) := by decide +kernel
theorem dX5_below_7 : decode cX5_below 7 = .ok (.aload_n 0, 1) := by decide +kernel
theorem dX5_below_8 : decode cX5_below 8 = .ok (.iconst 0, 1) := by decide +kernel
theorem dX5_below_9 : decode cX5_below 9 = .ok (.invokevirtual 73, 3) := by decide +kernel
theorem dX5_below_12 : decode cX5_below 12 = .ok (.ireturn, 1) := by decide +kernel
theorem dX5_below_13 : decode cX5_below 13 = .ok (.aload_n 0, 1) := by decide +kernel
theorem dX5_below_14 : decode cX5_below 14 = .ok (.aload_n 0, 1) := by decide +kernel
theorem dX5_below_15 : decode cX5_below 15 = .ok (.invokevirtual 126, 3) := by decide +kernel
theorem dX5_below_18 : decode cX5_below 18 = .ok (.invokevirtual 136, 3) := by decide +kernel
theorem dX5_below_21 : decode cX5_below 21 = .ok (.ifCond .ne 9, 3) := by decide +kernel
theorem dX5_below_24 : decode cX5_below 24 = .ok (.aload_n 0, 1) := by decide +kernel
theorem dX5_below_25 : decode cX5_below 25 = .ok (.iconst 3, 1) := by decide +kernel
theorem dX5_below_26 : decode cX5_below 26 = .ok (.invokevirtual 73, 3) := by decide +kernel
theorem dX5_below_29 : decode cX5_below 29 = .ok (.ireturn, 1) := by decide +kernel
theorem dX5_below_30 : decode cX5_below 30 = .ok (.iconst 0, 1) := by decide +kernel
theorem dX5_below_31 : decode cX5_below 31 = .ok (.istore_n 2, 1) := by decide +kernel
theorem dX5_below_32 : decode cX5_below 32 = .ok (.iconst 0, 1) := by decide +kernel
theorem dX5_below_33 : decode cX5_below 33 = .ok (.istore_n 3, 1) := by decide +kernel
theorem dX5_below_34 : decode cX5_below 34 = .ok (.iload_n 3, 1) := by decide +kernel
theorem dX5_below_35 : decode cX5_below 35 = .ok (.bipush 8, 2) := by decide +kernel
theorem dX5_below_37 : decode cX5_below 37 = .ok (.if_icmp .ge 27, 3) := by decide +kernel
theorem dX5_below_40 : decode cX5_below 40 = .ok (.aload_n 0, 1) := by decide +kernel
theorem dX5_below_41 : decode cX5_below 41 = .ok (.getfield 29, 3) := by decide +kernel
theorem dX5_below_44 : decode cX5_below 44 = .ok (.iload_n 1, 1) := by decide +kernel
theorem dX5_below_45 : decode cX5_below 45 = .ok (.iload_n 3, 1) := by decide +kernel
theorem dX5_below_46 : decode cX5_below 46 = .ok (.invokevirtual 139, 3) := by decide +kernel
theorem dX5_below_49 : decode cX5_below 49 = .ok (.ifCond .le 9, 3) := by decide +kernel
theorem dX5_below_52 : decode cX5_below 52 = .ok (.iload_n 2, 1) := by decide +kernel
theorem dX5_below_53 : decode cX5_below 53 = .ok (.iconst 1, 1) := by decide +kernel
theorem dX5_below_54 : decode cX5_below 54 = .ok (.iload_n 3, 1) := by decide +kernel
theorem dX5_below_55 : decode cX5_below 55 = .ok (.ishl, 1) := by decide +kernel
theorem dX5_below_56 : decode cX5_below 56 = .ok (.ior, 1) := by decide +kernel
theorem dX5_below_57 : decode cX5_below 57 = .ok (.istore_n 2, 1) := by decide +kernel
theorem dX5_below_58 : decode cX5_below 58 = .ok (.iinc 3 1, 3) := by decide +kernel
theorem dX5_below_61 : decode cX5_below 61 = .ok (.goto (-27), 3) := by decide +kernel
theorem dX5_below_64 : decode cX5_below 64 = .ok (.iload_n 2, 1) := by decide +kernel
theorem dX5_below_65 : decode cX5_below 65 = .ok (.ireturn, 1) := by decide +kernel
theorem dX5_widest_0 : decode cX5_widest 0 = .ok (.aload_n 0, 1) := by decide +kernel
theorem dX5_widest_1 : decode cX5_widest 1 = .ok (.aload_n 0, 1) := by decide +kernel
theorem dX5_widest_2 : decode cX5_widest 2 = .ok (.invokevirtual 126, 3) := by decide +kernel
theorem dX5_widest_5 : decode cX5_widest 5 = .ok (.invokevirtual 136, 3) := by decide +kernel
theorem dX5_widest_8 : decode cX5_widest 8 = .ok (.ifCond .ne 9, 3) := by decide +kernel
theorem dX5_widest_11 : decode cX5_widest 11 = .ok (.aload_n 0, 1) := by decide +kernel
theorem dX5_widest_12 : decode cX5_widest 12 = .ok (.iconst 3, 1) := by decide +kernel
theorem dX5_widest_13 : decode cX5_widest 13 = .ok (.invokevirtual 73, 3) := by decide +kernel
theorem dX5_widest_16 : decode cX5_widest 16 = .ok (.ireturn, 1) := by decide +kernel
theorem dX5_widest_17 : decode cX5_widest 17 = .ok (.aload_n 0, 1) := by decide +kernel
theorem dX5_widest_18 : decode cX5_widest 18 = .ok (.getfield 29, 3) := by decide +kernel
theorem dX5_widest_21 : decode cX5_widest 21 = .ok (.invokevirtual 152, 3) := by decide +kernel
theorem dX5_widest_24 : decode cX5_widest 24 = .ok (.ireturn, 1) := by decide +kernel
theorem dX5_unknown_0 : decode cX5_unknown 0 = .ok (.aload_n 0, 1) := by decide +kernel
theorem dX5_unknown_1 : decode cX5_unknown 1 = .ok (.aload_n 0, 1) := by decide +kernel
theorem dX5_unknown_2 : decode cX5_unknown 2 = .ok (.invokevirtual 126, 3) := by decide +kernel
theorem dX5_unknown_5 : decode cX5_unknown 5 = .ok (.invokevirtual 136, 3) := by decide +kernel
theorem dX5_unknown_8 : decode cX5_unknown 8 = .ok (.ifCond .ne 9, 3) := by decide +kernel
theorem dX5_unknown_11 : decode cX5_unknown 11 = .ok (.aload_n 0, 1) := by decide +kernel
theorem dX5_unknown_12 : decode cX5_unknown 12 = .ok (.iconst 3, 1) := by decide +kernel
theorem dX5_unknown_13 : decode cX5_unknown 13 = .ok (.invokevirtual 73, 3) := by decide +kernel
theorem dX5_unknown_16 : decode cX5_unknown 16 = .ok (.ireturn, 1) := by decide +kernel
theorem dX5_unknown_17 : decode cX5_unknown 17 = .ok (.aload_n 0, 1) := by decide +kernel
theorem dX5_unknown_18 : decode cX5_unknown 18 = .ok (.getfield 29, 3) := by decide +kernel
theorem dX5_unknown_21 : decode cX5_unknown 21 = .ok (.invokevirtual 155, 3) := by decide +kernel
theorem dX5_unknown_24 : decode cX5_unknown 24 = .ok (.ireturn, 1) := by decide +kernel
theorem dX5_can_0 : decode cX5_can 0 = .ok (.iload_n 1, 1) := by decide +kernel
theorem dX5_can_1 : decode cX5_can 1 = .ok (.iload_n 2, 1) := by decide +kernel
theorem dX5_can_2 : decode cX5_can 2 = .ok (.invokestatic 62, 3) := by decide +kernel
theorem dX5_can_5 : decode cX5_can 5 = .ok (.ifCond .eq 16, 3) := by decide +kernel
theorem dX5_can_8 : decode cX5_can 8 = .ok (.iload_n 3, 1) := by decide +kernel
theorem dX5_can_9 : decode cX5_can 9 = .ok (.sipush (-999), 3) := by decide +kernel
theorem dX5_can_12 : decode cX5_can 12 = .ok (.sipush 999, 3) := by decide +kernel
theorem dX5_can_15 : decode cX5_can 15 = .ok (.invokestatic 69, 3) := by decide +kernel
theorem dX5_can_18 : decode cX5_can 18 = .ok (.ifCond .ne 9, 3) := by decide +kernel
theorem dX5_can_21 : decode cX5_can 21 = .ok (.aload_n 0, 1) := by decide +kernel
theorem dX5_can_22 : decode cX5_can 22 = .ok (.iconst 0, 1) := by decide +kernel
theorem dX5_can_23 : decode cX5_can 23 = .ok (.invokevirtual 73, 3) := by decide +kernel
theorem dX5_can_26 : decode cX5_can 26 = .ok (.ireturn, 1) := by decide +kernel
theorem dX5_can_27 : decode cX5_can 27 = .ok (.aload_n 0, 1) := by decide +kernel
theorem dX5_can_28 : decode cX5_can 28 = .ok (.aload_n 0, 1) := by decide +kernel
theorem dX5_can_29 : decode cX5_can 29 = .ok (.invokevirtual 126, 3) := by decide +kernel
theorem dX5_can_32 : decode cX5_can 32 = .ok (.invokevirtual 136, 3) := by decide +kernel
theorem dX5_can_35 : decode cX5_can 35 = .ok (.ifCond .eq 21, 3) := by decide +kernel
theorem dX5_can_38 : decode cX5_can 38 = .ok (.aload_n 0, 1) := by decide +kernel
theorem dX5_can_39 : decode cX5_can 39 = .ok (.getfield 29, 3) := by decide +kernel
theorem dX5_can_42 : decode cX5_can 42 = .ok (.iload_n 1, 1) := by decide +kernel
theorem dX5_can_43 : decode cX5_can 43 = .ok (.iload_n 2, 1) := by decide +kernel
theorem dX5_can_44 : decode cX5_can 44 = .ok (.iload_n 3, 1) := by decide +kernel
theorem dX5_can_45 : decode cX5_can 45 = .ok (.iload_n 3, 1) := by decide +kernel
theorem dX5_can_46 : decode cX5_can 46 = .ok (.invokevirtual 158, 3) := by decide +kernel
theorem dX5_can_49 : decode cX5_can 49 = .ok (.ifCond .eq 7, 3) := by decide +kernel
theorem dX5_can_52 : decode cX5_can 52 = .ok (.iconst 1, 1) := by decide +kernel
theorem dX5_can_53 : decode cX5_can 53 = .ok (.goto 4, 3) := by decide +kernel
theorem dX5_can_56 : decode cX5_can 56 = .ok (.iconst 0, 1) := by decide +kernel
theorem dX5_can_57 : decode cX5_can 57 = .ok (.ireturn, 1) := by decide +kernel
theorem dX5_when_0 : decode cX5_when 0 = .ok (.iconst 0, 1) := by decide +kernel
theorem dX5_when_1 : decode cX5_when 1 = .ok (.istore_n 1, 1) := by decide +kernel
theorem dX5_when_2 : decode cX5_when 2 = .ok (.iconst 0, 1) := by decide +kernel
theorem dX5_when_3 : decode cX5_when 3 = .ok (.istore_n 2, 1) := by decide +kernel
theorem dX5_when_4 : decode cX5_when 4 = .ok (.iload_n 2, 1) := by decide +kernel
theorem dX5_when_5 : decode cX5_when 5 = .ok (.sipush 500, 3) := by decide +kernel
theorem dX5_when_8 : decode cX5_when 8 = .ok (.if_icmp .gt 43, 3) := by decide +kernel
theorem dX5_when_11 : decode cX5_when 11 = .ok (.aload_n 0, 1) := by decide +kernel
theorem dX5_when_12 : decode cX5_when 12 = .ok (.getfield 10, 3) := by decide +kernel
theorem dX5_when_15 : decode cX5_when 15 = .ok (.aload_n 0, 1) := by decide +kernel
theorem dX5_when_16 : decode cX5_when 16 = .ok (.getfield 10, 3) := by decide +kernel
theorem dX5_when_19 : decode cX5_when 19 = .ok (.getfield 107, 3) := by decide +kernel
theorem dX5_when_22 : decode cX5_when 22 = .ok (.iload_n 2, 1) := by decide +kernel
theorem dX5_when_23 : decode cX5_when 23 = .ok (.iadd, 1) := by decide +kernel
theorem dX5_when_24 : decode cX5_when 24 = .ok (.invokevirtual 162, 3) := by decide +kernel
theorem dX5_when_27 : decode cX5_when 27 = .ok (.istore_n 3, 1) := by decide +kernel
theorem dX5_when_28 : decode cX5_when 28 = .ok (.iload_n 3, 1) := by decide +kernel
theorem dX5_when_29 : decode cX5_when 29 = .ok (.iload_n 1, 1) := by decide +kernel
theorem dX5_when_30 : decode cX5_when 30 = .ok (.if_icmp .eq 13, 3) := by decide +kernel
theorem dX5_when_33 : decode cX5_when 33 = .ok (.aload_n 0, 1) := by decide +kernel
theorem dX5_when_34 : decode cX5_when 34 = .ok (.iload_n 3, 1) := by decide +kernel
theorem dX5_when_35 : decode cX5_when 35 = .ok (.invokevirtual 136, 3) := by decide +kernel
theorem dX5_when_38 : decode cX5_when 38 = .ok (.ifCond .ne 5, 3) := by decide +kernel
theorem dX5_when_41 : decode cX5_when 41 = .ok (.iload_n 2, 1) := by decide +kernel
theorem dX5_when_42 : decode cX5_when 42 = .ok (.ireturn, 1) := by decide +kernel
theorem dX5_when_43 : decode cX5_when 43 = .ok (.iload_n 3, 1) := by decide +kernel
theorem dX5_when_44 : decode cX5_when 44 = .ok (.istore_n 1, 1) := by decide +kernel
theorem dX5_when_45 : decode cX5_when 45 = .ok (.iinc 2 1, 3) := by decide +kernel
theorem dX5_when_48 : decode cX5_when 48 = .ok (.goto (-44), 3) := by decide +kernel
theorem dX5_when_51 : decode cX5_when 51 = .ok (.aload_n 0, 1) := by decide +kernel
theorem dX5_when_52 : decode cX5_when 52 = .ok (.iconst 3, 1) := by decide +kernel
theorem dX5_when_53 : decode cX5_when 53 = .ok (.invokevirtual 73, 3) := by decide +kernel
theorem dX5_when_56 : decode cX5_when 56 = .ok (.ireturn, 1) := by decide +kernel
theorem dX5_ahead_0 : decode cX5_ahead 0 = .ok (.iload_n 1, 1) := by decide +kernel
theorem dX5_ahead_1 : decode cX5_ahead 1 = .ok (.iconst 0, 1) := by decide +kernel
theorem dX5_ahead_2 : decode cX5_ahead 2 = .ok (.sipush 500, 3) := by decide +kernel
theorem dX5_ahead_5 : decode cX5_ahead 5 = .ok (.invokestatic 69, 3) := by decide +kernel
theorem dX5_ahead_8 : decode cX5_ahead 8 = .ok (.ifCond .ne 9, 3) := by decide +kernel
theorem dX5_ahead_11 : decode cX5_ahead 11 = .ok (.aload_n 0, 1) := by decide +kernel
theorem dX5_ahead_12 : decode cX5_ahead 12 = .ok (.iconst 0, 1) := by decide +kernel
theorem dX5_ahead_13 : decode cX5_ahead 13 = .ok (.invokevirtual 73, 3) := by decide +kernel
theorem dX5_ahead_16 : decode cX5_ahead 16 = .ok (.ireturn, 1) := by decide +kernel
theorem dX5_ahead_17 : decode cX5_ahead 17 = .ok (.aload_n 0, 1) := by decide +kernel
theorem dX5_ahead_18 : decode cX5_ahead 18 = .ok (.getfield 10, 3) := by decide +kernel
theorem dX5_ahead_21 : decode cX5_ahead 21 = .ok (.aload_n 0, 1) := by decide +kernel
theorem dX5_ahead_22 : decode cX5_ahead 22 = .ok (.getfield 10, 3) := by decide +kernel
theorem dX5_ahead_25 : decode cX5_ahead 25 = .ok (.getfield 107, 3) := by decide +kernel
theorem dX5_ahead_28 : decode cX5_ahead 28 = .ok (.iload_n 1, 1) := by decide +kernel
theorem dX5_ahead_29 : decode cX5_ahead 29 = .ok (.iadd, 1) := by decide +kernel
theorem dX5_ahead_30 : decode cX5_ahead 30 = .ok (.invokevirtual 162, 3) := by decide +kernel
theorem dX5_ahead_33 : decode cX5_ahead 33 = .ok (.ireturn, 1) := by decide +kernel
theorem dX5_known_0 : decode cX5_known 0 = .ok (.iload_n 1, 1) := by decide +kernel
theorem dX5_known_1 : decode cX5_known 1 = .ok (.iload_n 2, 1) := by decide +kernel
theorem dX5_known_2 : decode cX5_known 2 = .ok (.invokestatic 62, 3) := by decide +kernel
theorem dX5_known_5 : decode cX5_known 5 = .ok (.ifCond .ne 9, 3) := by decide +kernel
theorem dX5_known_8 : decode cX5_known 8 = .ok (.aload_n 0, 1) := by decide +kernel
theorem dX5_known_9 : decode cX5_known 9 = .ok (.iconst 0, 1) := by decide +kernel
theorem dX5_known_10 : decode cX5_known 10 = .ok (.invokevirtual 73, 3) := by decide +kernel
theorem dX5_known_13 : decode cX5_known 13 = .ok (.ireturn, 1) := by decide +kernel
theorem dX5_known_14 : decode cX5_known 14 = .ok (.iconst 0, 1) := by decide +kernel
theorem dX5_known_15 : decode cX5_known 15 = .ok (.istore_n 3, 1) := by decide +kernel
theorem dX5_known_16 : decode cX5_known 16 = .ok (.iconst 0, 1) := by decide +kernel
theorem dX5_known_17 : decode cX5_known 17 = .ok (.istore 4, 2) := by decide +kernel
theorem dX5_known_19 : decode cX5_known 19 = .ok (.iload 4, 2) := by decide +kernel
theorem dX5_known_21 : decode cX5_known 21 = .ok (.sipush 500, 3) := by decide +kernel
theorem dX5_known_24 : decode cX5_known 24 = .ok (.if_icmp .gt 62, 3) := by decide +kernel
theorem dX5_known_27 : decode cX5_known 27 = .ok (.aload_n 0, 1) := by decide +kernel
theorem dX5_known_28 : decode cX5_known 28 = .ok (.getfield 10, 3) := by decide +kernel
theorem dX5_known_31 : decode cX5_known 31 = .ok (.aload_n 0, 1) := by decide +kernel
theorem dX5_known_32 : decode cX5_known 32 = .ok (.getfield 10, 3) := by decide +kernel
theorem dX5_known_35 : decode cX5_known 35 = .ok (.getfield 107, 3) := by decide +kernel
theorem dX5_known_38 : decode cX5_known 38 = .ok (.iload 4, 2) := by decide +kernel
theorem dX5_known_40 : decode cX5_known 40 = .ok (.iadd, 1) := by decide +kernel
theorem dX5_known_41 : decode cX5_known 41 = .ok (.invokevirtual 162, 3) := by decide +kernel
theorem dX5_known_44 : decode cX5_known 44 = .ok (.istore 5, 2) := by decide +kernel
theorem dX5_known_46 : decode cX5_known 46 = .ok (.iload 5, 2) := by decide +kernel
theorem dX5_known_48 : decode cX5_known 48 = .ok (.iload_n 3, 1) := by decide +kernel
theorem dX5_known_49 : decode cX5_known 49 = .ok (.if_icmp .eq 28, 3) := by decide +kernel
theorem dX5_known_52 : decode cX5_known 52 = .ok (.aload_n 0, 1) := by decide +kernel
theorem dX5_known_53 : decode cX5_known 53 = .ok (.iload 5, 2) := by decide +kernel
theorem dX5_known_55 : decode cX5_known 55 = .ok (.invokevirtual 136, 3) := by decide +kernel
theorem dX5_known_58 : decode cX5_known 58 = .ok (.ifCond .eq 19, 3) := by decide +kernel
theorem dX5_known_61 : decode cX5_known 61 = .ok (.aload_n 0, 1) := by decide +kernel
theorem dX5_known_62 : decode cX5_known 62 = .ok (.getfield 29, 3) := by decide +kernel
theorem dX5_known_65 : decode cX5_known 65 = .ok (.iload_n 1, 1) := by decide +kernel
theorem dX5_known_66 : decode cX5_known 66 = .ok (.iload_n 2, 1) := by decide +kernel
theorem dX5_known_67 : decode cX5_known 67 = .ok (.invokevirtual 146, 3) := by decide +kernel
theorem dX5_known_70 : decode cX5_known 70 = .ok (.iconst 1, 1) := by decide +kernel
theorem dX5_known_71 : decode cX5_known 71 = .ok (.if_icmp .ne 6, 3) := by decide +kernel
theorem dX5_known_74 : decode cX5_known 74 = .ok (.iload 4, 2) := by decide +kernel
theorem dX5_known_76 : decode cX5_known 76 = .ok (.ireturn, 1) := by decide +kernel
theorem dX5_known_77 : decode cX5_known 77 = .ok (.iload 5, 2) := by decide +kernel
theorem dX5_known_79 : decode cX5_known 79 = .ok (.istore_n 3, 1) := by decide +kernel
theorem dX5_known_80 : decode cX5_known 80 = .ok (.iinc 4 1, 3) := by decide +kernel
theorem dX5_known_83 : decode cX5_known 83 = .ok (.goto (-64), 3) := by decide +kernel
theorem dX5_known_86 : decode cX5_known 86 = .ok (.aload_n 0, 1) := by decide +kernel
theorem dX5_known_87 : decode cX5_known 87 = .ok (.iconst 3, 1) := by decide +kernel
theorem dX5_known_88 : decode cX5_known 88 = .ok (.invokevirtual 73, 3) := by decide +kernel
theorem dX5_known_91 : decode cX5_known 91 = .ok (.ireturn, 1) := by decide +kernel
theorem dX5_agree_0 : decode cX5_agree 0 = .ok (.aload_n 0, 1) := by decide +kernel
theorem dX5_agree_1 : decode cX5_agree 1 = .ok (.getfield 10, 3) := by decide +kernel
theorem dX5_agree_4 : decode cX5_agree 4 = .ok (.iload_n 1, 1) := by decide +kernel
theorem dX5_agree_5 : decode cX5_agree 5 = .ok (.invokevirtual 165, 3) := by decide +kernel
theorem dX5_agree_8 : decode cX5_agree 8 = .ok (.ifCond .ne 9, 3) := by decide +kernel
theorem dX5_agree_11 : decode cX5_agree 11 = .ok (.aload_n 0, 1) := by decide +kernel
theorem dX5_agree_12 : decode cX5_agree 12 = .ok (.iconst 0, 1) := by decide +kernel
theorem dX5_agree_13 : decode cX5_agree 13 = .ok (.invokevirtual 73, 3) := by decide +kernel
theorem dX5_agree_16 : decode cX5_agree 16 = .ok (.ireturn, 1) := by decide +kernel
theorem dX5_agree_17 : decode cX5_agree 17 = .ok (.aload_n 0, 1) := by decide +kernel
theorem dX5_agree_18 : decode cX5_agree 18 = .ok (.iload_n 1, 1) := by decide +kernel
theorem dX5_agree_19 : decode cX5_agree 19 = .ok (.invokevirtual 136, 3) := by decide +kernel
theorem dX5_agree_22 : decode cX5_agree 22 = .ok (.ifCond .eq 7, 3) := by decide +kernel
theorem dX5_agree_25 : decode cX5_agree 25 = .ok (.iconst 1, 1) := by decide +kernel
theorem dX5_agree_26 : decode cX5_agree 26 = .ok (.goto 4, 3) := by decide +kernel
theorem dX5_agree_29 : decode cX5_agree 29 = .ok (.iconst 0, 1) := by decide +kernel
theorem dX5_agree_30 : decode cX5_agree 30 = .ok (.ireturn, 1) := by decide +kernel
theorem dX5_strike_0 : decode cX5_strike 0 = .ok (.aload_n 0, 1) := by decide +kernel
theorem dX5_strike_1 : decode cX5_strike 1 = .ok (.iconst 0, 1) := by decide +kernel
theorem dX5_strike_2 : decode cX5_strike 2 = .ok (.aload_n 0, 1) := by decide +kernel
theorem dX5_strike_3 : decode cX5_strike 3 = .ok (.invokevirtual 126, 3) := by decide +kernel
theorem dX5_strike_6 : decode cX5_strike 6 = .ok (.invokevirtual 168, 3) := by decide +kernel
theorem dX5_strike_9 : decode cX5_strike 9 = .ok (.ireturn, 1) := by decide +kernel
theorem dX5_strikes_0 : decode cX5_strikes 0 = .ok (.aload_n 0, 1) := by decide +kernel
theorem dX5_strikes_1 : decode cX5_strikes 1 = .ok (.invokevirtual 126, 3) := by decide +kernel
theorem dX5_strikes_4 : decode cX5_strikes 4 = .ok (.istore_n 1, 1) := by decide +kernel
theorem dX5_strikes_5 : decode cX5_strikes 5 = .ok (.aload_n 0, 1) := by decide +kernel
theorem dX5_strikes_6 : decode cX5_strikes 6 = .ok (.iconst 0, 1) := by decide +kernel
theorem dX5_strikes_7 : decode cX5_strikes 7 = .ok (.iload_n 1, 1) := by decide +kernel
theorem dX5_strikes_8 : decode cX5_strikes 8 = .ok (.invokevirtual 168, 3) := by decide +kernel
theorem dX5_strikes_11 : decode cX5_strikes 11 = .ok (.invokestatic 171, 3) := by decide +kernel
theorem dX5_strikes_14 : decode cX5_strikes 14 = .ok (.istore_n 2, 1) := by decide +kernel
theorem dX5_strikes_15 : decode cX5_strikes 15 = .ok (.iconst 0, 1) := by decide +kernel
theorem dX5_strikes_16 : decode cX5_strikes 16 = .ok (.istore_n 3, 1) := by decide +kernel
theorem dX5_strikes_17 : decode cX5_strikes 17 = .ok (.iconst 0, 1) := by decide +kernel
theorem dX5_strikes_18 : decode cX5_strikes 18 = .ok (.istore 4, 2) := by decide +kernel
theorem dX5_strikes_20 : decode cX5_strikes 20 = .ok (.iload 4, 2) := by decide +kernel
theorem dX5_strikes_22 : decode cX5_strikes 22 = .ok (.iload_n 1, 1) := by decide +kernel
theorem dX5_strikes_23 : decode cX5_strikes 23 = .ok (.if_icmp .gt 35, 3) := by decide +kernel
theorem dX5_strikes_26 : decode cX5_strikes 26 = .ok (.iload 4, 2) := by decide +kernel
theorem dX5_strikes_28 : decode cX5_strikes 28 = .ok (.iload_n 1, 1) := by decide +kernel
theorem dX5_strikes_29 : decode cX5_strikes 29 = .ok (.iload_n 2, 1) := by decide +kernel
theorem dX5_strikes_30 : decode cX5_strikes 30 = .ok (.invokestatic 176, 3) := by decide +kernel
theorem dX5_strikes_33 : decode cX5_strikes 33 = .ok (.ifCond .eq 19, 3) := by decide +kernel
theorem dX5_strikes_36 : decode cX5_strikes 36 = .ok (.aload_n 0, 1) := by decide +kernel
theorem dX5_strikes_37 : decode cX5_strikes 37 = .ok (.iload_n 1, 1) := by decide +kernel
theorem dX5_strikes_38 : decode cX5_strikes 38 = .ok (.iload 4, 2) := by decide +kernel
theorem dX5_strikes_40 : decode cX5_strikes 40 = .ok (.iconst (-1), 1) := by decide +kernel
theorem dX5_strikes_41 : decode cX5_strikes 41 = .ok (.ixor, 1) := by decide +kernel
theorem dX5_strikes_42 : decode cX5_strikes 42 = .ok (.iand, 1) := by decide +kernel
theorem dX5_strikes_43 : decode cX5_strikes 43 = .ok (.invokevirtual 136, 3) := by decide +kernel
theorem dX5_strikes_46 : decode cX5_strikes 46 = .ok (.ifCond .eq 6, 3) := by decide +kernel
theorem dX5_strikes_49 : decode cX5_strikes 49 = .ok (.iinc 3 1, 3) := by decide +kernel
theorem dX5_strikes_52 : decode cX5_strikes 52 = .ok (.iinc 4 1, 3) := by decide +kernel
theorem dX5_strikes_55 : decode cX5_strikes 55 = .ok (.goto (-35), 3) := by decide +kernel
theorem dX5_strikes_58 : decode cX5_strikes 58 = .ok (.iload_n 3, 1) := by decide +kernel
theorem dX5_strikes_59 : decode cX5_strikes 59 = .ok (.ireturn, 1) := by decide +kernel
theorem dX5_implied_0 : decode cX5_implied 0 = .ok (.aload_n 0, 1) := by decide +kernel
theorem dX5_implied_1 : decode cX5_implied 1 = .ok (.invokevirtual 126, 3) := by decide +kernel
theorem dX5_implied_4 : decode cX5_implied 4 = .ok (.istore_n 1, 1) := by decide +kernel
theorem dX5_implied_5 : decode cX5_implied 5 = .ok (.aload_n 0, 1) := by decide +kernel
theorem dX5_implied_6 : decode cX5_implied 6 = .ok (.iload_n 1, 1) := by decide +kernel
theorem dX5_implied_7 : decode cX5_implied 7 = .ok (.invokevirtual 136, 3) := by decide +kernel
theorem dX5_implied_10 : decode cX5_implied 10 = .ok (.ifCond .ne 9, 3) := by decide +kernel
theorem dX5_implied_13 : decode cX5_implied 13 = .ok (.aload_n 0, 1) := by decide +kernel
theorem dX5_implied_14 : decode cX5_implied 14 = .ok (.iconst 3, 1) := by decide +kernel
theorem dX5_implied_15 : decode cX5_implied 15 = .ok (.invokevirtual 73, 3) := by decide +kernel
theorem dX5_implied_18 : decode cX5_implied 18 = .ok (.ireturn, 1) := by decide +kernel
theorem dX5_implied_19 : decode cX5_implied 19 = .ok (.iconst 0, 1) := by decide +kernel
theorem dX5_implied_20 : decode cX5_implied 20 = .ok (.istore_n 2, 1) := by decide +kernel
theorem dX5_implied_21 : decode cX5_implied 21 = .ok (.iconst 0, 1) := by decide +kernel
theorem dX5_implied_22 : decode cX5_implied 22 = .ok (.istore_n 3, 1) := by decide +kernel
theorem dX5_implied_23 : decode cX5_implied 23 = .ok (.iload_n 3, 1) := by decide +kernel
theorem dX5_implied_24 : decode cX5_implied 24 = .ok (.aload_n 0, 1) := by decide +kernel
theorem dX5_implied_25 : decode cX5_implied 25 = .ok (.getfield 10, 3) := by decide +kernel
theorem dX5_implied_28 : decode cX5_implied 28 = .ok (.getfield 77, 3) := by decide +kernel
theorem dX5_implied_31 : decode cX5_implied 31 = .ok (.if_icmp .ge 61, 3) := by decide +kernel
theorem dX5_implied_34 : decode cX5_implied 34 = .ok (.iload_n 3, 1) := by decide +kernel
theorem dX5_implied_35 : decode cX5_implied 35 = .ok (.iload_n 1, 1) := by decide +kernel
theorem dX5_implied_36 : decode cX5_implied 36 = .ok (.invokestatic 179, 3) := by decide +kernel
theorem dX5_implied_39 : decode cX5_implied 39 = .ok (.ifCond .eq 47, 3) := by decide +kernel
theorem dX5_implied_42 : decode cX5_implied 42 = .ok (.aload_n 0, 1) := by decide +kernel
theorem dX5_implied_43 : decode cX5_implied 43 = .ok (.iload_n 3, 1) := by decide +kernel
theorem dX5_implied_44 : decode cX5_implied 44 = .ok (.iload_n 1, 1) := by decide +kernel
theorem dX5_implied_45 : decode cX5_implied 45 = .ok (.invokestatic 182, 3) := by decide +kernel
theorem dX5_implied_48 : decode cX5_implied 48 = .ok (.invokevirtual 136, 3) := by decide +kernel
theorem dX5_implied_51 : decode cX5_implied 51 = .ok (.ifCond .eq 35, 3) := by decide +kernel
theorem dX5_implied_54 : decode cX5_implied 54 = .ok (.aload_n 0, 1) := by decide +kernel
theorem dX5_implied_55 : decode cX5_implied 55 = .ok (.getfield 29, 3) := by decide +kernel
theorem dX5_implied_58 : decode cX5_implied 58 = .ok (.aload_n 0, 1) := by decide +kernel
theorem dX5_implied_59 : decode cX5_implied 59 = .ok (.getfield 10, 3) := by decide +kernel
theorem dX5_implied_62 : decode cX5_implied 62 = .ok (.getfield 88, 3) := by decide +kernel
theorem dX5_implied_65 : decode cX5_implied 65 = .ok (.iload_n 3, 1) := by decide +kernel
theorem dX5_implied_66 : decode cX5_implied 66 = .ok (.aaload, 1) := by decide +kernel
theorem dX5_implied_67 : decode cX5_implied 67 = .ok (.aload_n 0, 1) := by decide +kernel
theorem dX5_implied_68 : decode cX5_implied 68 = .ok (.getfield 10, 3) := by decide +kernel
theorem dX5_implied_71 : decode cX5_implied 71 = .ok (.getfield 92, 3) := by decide +kernel
theorem dX5_implied_74 : decode cX5_implied 74 = .ok (.invokevirtual 185, 3) := by decide +kernel
theorem dX5_implied_77 : decode cX5_implied 77 = .ok (.ifCond .eq 9, 3) := by decide +kernel
theorem dX5_implied_80 : decode cX5_implied 80 = .ok (.iload_n 2, 1) := by decide +kernel
theorem dX5_implied_81 : decode cX5_implied 81 = .ok (.iconst 1, 1) := by decide +kernel
theorem dX5_implied_82 : decode cX5_implied 82 = .ok (.iload_n 3, 1) := by decide +kernel
theorem dX5_implied_83 : decode cX5_implied 83 = .ok (.ishl, 1) := by decide +kernel
theorem dX5_implied_84 : decode cX5_implied 84 = .ok (.ior, 1) := by decide +kernel
theorem dX5_implied_85 : decode cX5_implied 85 = .ok (.istore_n 2, 1) := by decide +kernel
theorem dX5_implied_86 : decode cX5_implied 86 = .ok (.iinc 3 1, 3) := by decide +kernel
theorem dX5_implied_89 : decode cX5_implied 89 = .ok (.goto (-66), 3) := by decide +kernel
theorem dX5_implied_92 : decode cX5_implied 92 = .ok (.iload_n 2, 1) := by decide +kernel
theorem dX5_implied_93 : decode cX5_implied 93 = .ok (.ireturn, 1) := by decide +kernel
theorem dX5_suspects_0 : decode cX5_suspects 0 = .ok (.aload_n 0, 1) := by decide +kernel
theorem dX5_suspects_1 : decode cX5_suspects 1 = .ok (.invokevirtual 126, 3) := by decide +kernel
theorem dX5_suspects_4 : decode cX5_suspects 4 = .ok (.istore_n 1, 1) := by decide +kernel
theorem dX5_suspects_5 : decode cX5_suspects 5 = .ok (.iconst 0, 1) := by decide +kernel
theorem dX5_suspects_6 : decode cX5_suspects 6 = .ok (.istore_n 2, 1) := by decide +kernel
theorem dX5_suspects_7 : decode cX5_suspects 7 = .ok (.iconst 0, 1) := by decide +kernel
theorem dX5_suspects_8 : decode cX5_suspects 8 = .ok (.istore_n 3, 1) := by decide +kernel
theorem dX5_suspects_9 : decode cX5_suspects 9 = .ok (.iload_n 3, 1) := by decide +kernel
theorem dX5_suspects_10 : decode cX5_suspects 10 = .ok (.aload_n 0, 1) := by decide +kernel
theorem dX5_suspects_11 : decode cX5_suspects 11 = .ok (.getfield 10, 3) := by decide +kernel
theorem dX5_suspects_14 : decode cX5_suspects 14 = .ok (.getfield 77, 3) := by decide +kernel
theorem dX5_suspects_17 : decode cX5_suspects 17 = .ok (.if_icmp .ge 35, 3) := by decide +kernel
theorem dX5_suspects_20 : decode cX5_suspects 20 = .ok (.iload_n 3, 1) := by decide +kernel
theorem dX5_suspects_21 : decode cX5_suspects 21 = .ok (.iload_n 1, 1) := by decide +kernel
theorem dX5_suspects_22 : decode cX5_suspects 22 = .ok (.invokestatic 179, 3) := by decide +kernel
theorem dX5_suspects_25 : decode cX5_suspects 25 = .ok (.ifCond .eq 21, 3) := by decide +kernel
theorem dX5_suspects_28 : decode cX5_suspects 28 = .ok (.aload_n 0, 1) := by decide +kernel
theorem dX5_suspects_29 : decode cX5_suspects 29 = .ok (.iload_n 3, 1) := by decide +kernel
theorem dX5_suspects_30 : decode cX5_suspects 30 = .ok (.iload_n 1, 1) := by decide +kernel
theorem dX5_suspects_31 : decode cX5_suspects 31 = .ok (.invokestatic 182, 3) := by decide +kernel
theorem dX5_suspects_34 : decode cX5_suspects 34 = .ok (.invokevirtual 136, 3) := by decide +kernel
theorem dX5_suspects_37 : decode cX5_suspects 37 = .ok (.ifCond .eq 9, 3) := by decide +kernel
theorem dX5_suspects_40 : decode cX5_suspects 40 = .ok (.iload_n 2, 1) := by decide +kernel
theorem dX5_suspects_41 : decode cX5_suspects 41 = .ok (.iconst 1, 1) := by decide +kernel
theorem dX5_suspects_42 : decode cX5_suspects 42 = .ok (.iload_n 3, 1) := by decide +kernel
theorem dX5_suspects_43 : decode cX5_suspects 43 = .ok (.ishl, 1) := by decide +kernel
theorem dX5_suspects_44 : decode cX5_suspects 44 = .ok (.ior, 1) := by decide +kernel
theorem dX5_suspects_45 : decode cX5_suspects 45 = .ok (.istore_n 2, 1) := by decide +kernel
theorem dX5_suspects_46 : decode cX5_suspects 46 = .ok (.iinc 3 1, 3) := by decide +kernel
theorem dX5_suspects_49 : decode cX5_suspects 49 = .ok (.goto (-40), 3) := by decide +kernel
theorem dX5_suspects_52 : decode cX5_suspects 52 = .ok (.iload_n 2, 1) := by decide +kernel
theorem dX5_suspects_53 : decode cX5_suspects 53 = .ok (.ireturn, 1) := by decide +kernel
theorem dX5_dearest_0 : decode cX5_dearest 0 = .ok (.aload_n 0, 1) := by decide +kernel
theorem dX5_dearest_1 : decode cX5_dearest 1 = .ok (.invokevirtual 126, 3) := by decide +kernel
theorem dX5_dearest_4 : decode cX5_dearest 4 = .ok (.istore_n 1, 1) := by decide +kernel
theorem dX5_dearest_5 : decode cX5_dearest 5 = .ok (.iload_n 1, 1) := by decide +kernel
theorem dX5_dearest_6 : decode cX5_dearest 6 = .ok (.ifCond .eq 11, 3) := by decide +kernel
theorem dX5_dearest_9 : decode cX5_dearest 9 = .ok (.aload_n 0, 1) := by decide +kernel
theorem dX5_dearest_10 : decode cX5_dearest 10 = .ok (.iload_n 1, 1) := by decide +kernel
theorem dX5_dearest_11 : decode cX5_dearest 11 = .ok (.invokevirtual 136, 3) := by decide +kernel
theorem dX5_dearest_14 : decode cX5_dearest 14 = .ok (.ifCond .ne 9, 3) := by decide +kernel
theorem dX5_dearest_17 : decode cX5_dearest 17 = .ok (.aload_n 0, 1) := by decide +kernel
theorem dX5_dearest_18 : decode cX5_dearest 18 = .ok (.iconst 3, 1) := by decide +kernel
theorem dX5_dearest_19 : decode cX5_dearest 19 = .ok (.invokevirtual 73, 3) := by decide +kernel
theorem dX5_dearest_22 : decode cX5_dearest 22 = .ok (.ireturn, 1) := by decide +kernel
theorem dX5_dearest_23 : decode cX5_dearest 23 = .ok (.iconst 0, 1) := by decide +kernel
theorem dX5_dearest_24 : decode cX5_dearest 24 = .ok (.istore_n 2, 1) := by decide +kernel
theorem dX5_dearest_25 : decode cX5_dearest 25 = .ok (.iconst (-1), 1) := by decide +kernel
theorem dX5_dearest_26 : decode cX5_dearest 26 = .ok (.istore_n 3, 1) := by decide +kernel
theorem dX5_dearest_27 : decode cX5_dearest 27 = .ok (.iconst 0, 1) := by decide +kernel
theorem dX5_dearest_28 : decode cX5_dearest 28 = .ok (.istore 4, 2) := by decide +kernel
theorem dX5_dearest_30 : decode cX5_dearest 30 = .ok (.iload 4, 2) := by decide +kernel
theorem dX5_dearest_32 : decode cX5_dearest 32 = .ok (.aload_n 0, 1) := by decide +kernel
theorem dX5_dearest_33 : decode cX5_dearest 33 = .ok (.getfield 10, 3) := by decide +kernel
theorem dX5_dearest_36 : decode cX5_dearest 36 = .ok (.getfield 77, 3) := by decide +kernel
theorem dX5_dearest_39 : decode cX5_dearest 39 = .ok (.if_icmp .ge 53, 3) := by decide +kernel
theorem dX5_dearest_42 : decode cX5_dearest 42 = .ok (.iload 4, 2) := by decide +kernel
theorem dX5_dearest_44 : decode cX5_dearest 44 = .ok (.iload_n 1, 1) := by decide +kernel
theorem dX5_dearest_45 : decode cX5_dearest 45 = .ok (.invokestatic 179, 3) := by decide +kernel
theorem dX5_dearest_48 : decode cX5_dearest 48 = .ok (.ifCond .eq 38, 3) := by decide +kernel
theorem dX5_dearest_51 : decode cX5_dearest 51 = .ok (.aload_n 0, 1) := by decide +kernel
theorem dX5_dearest_52 : decode cX5_dearest 52 = .ok (.iload 4, 2) := by decide +kernel
theorem dX5_dearest_54 : decode cX5_dearest 54 = .ok (.iload_n 1, 1) := by decide +kernel
theorem dX5_dearest_55 : decode cX5_dearest 55 = .ok (.invokestatic 182, 3) := by decide +kernel
theorem dX5_dearest_58 : decode cX5_dearest 58 = .ok (.invokevirtual 136, 3) := by decide +kernel
theorem dX5_dearest_61 : decode cX5_dearest 61 = .ok (.ifCond .eq 25, 3) := by decide +kernel
theorem dX5_dearest_64 : decode cX5_dearest 64 = .ok (.aload_n 0, 1) := by decide +kernel
theorem dX5_dearest_65 : decode cX5_dearest 65 = .ok (.getfield 29, 3) := by decide +kernel
theorem dX5_dearest_68 : decode cX5_dearest 68 = .ok (.invokevirtual 155, 3) := by decide +kernel
theorem dX5_dearest_71 : decode cX5_dearest 71 = .ok (.iload_n 3, 1) := by decide +kernel
theorem dX5_dearest_72 : decode cX5_dearest 72 = .ok (.if_icmp .le 14, 3) := by decide +kernel
theorem dX5_dearest_75 : decode cX5_dearest 75 = .ok (.aload_n 0, 1) := by decide +kernel
theorem dX5_dearest_76 : decode cX5_dearest 76 = .ok (.getfield 29, 3) := by decide +kernel
theorem dX5_dearest_79 : decode cX5_dearest 79 = .ok (.invokevirtual 155, 3) := by decide +kernel
theorem dX5_dearest_82 : decode cX5_dearest 82 = .ok (.istore_n 3, 1) := by decide +kernel
theorem dX5_dearest_83 : decode cX5_dearest 83 = .ok (.iload 4, 2) := by decide +kernel
theorem dX5_dearest_85 : decode cX5_dearest 85 = .ok (.istore_n 2, 1) := by decide +kernel
theorem dX5_dearest_86 : decode cX5_dearest 86 = .ok (.iinc 4 1, 3) := by decide +kernel
theorem dX5_dearest_89 : decode cX5_dearest 89 = .ok (.goto (-59), 3) := by decide +kernel
theorem dX5_dearest_92 : decode cX5_dearest 92 = .ok (.iload_n 2, 1) := by decide +kernel
theorem dX5_dearest_93 : decode cX5_dearest 93 = .ok (.ireturn, 1) := by decide +kernel
theorem dX5_merge_0 : decode cX5_merge 0 = .ok (.aload_n 0, 1) := by decide +kernel
theorem dX5_merge_1 : decode cX5_merge 1 = .ok (.getfield 10, 3) := by decide +kernel
theorem dX5_merge_4 : decode cX5_merge 4 = .ok (.iload_n 1, 1) := by decide +kernel
theorem dX5_merge_5 : decode cX5_merge 5 = .ok (.invokevirtual 165, 3) := by decide +kernel
theorem dX5_merge_8 : decode cX5_merge 8 = .ok (.ifCond .eq 14, 3) := by decide +kernel
theorem dX5_merge_11 : decode cX5_merge 11 = .ok (.aload_n 0, 1) := by decide +kernel
theorem dX5_merge_12 : decode cX5_merge 12 = .ok (.getfield 10, 3) := by decide +kernel
theorem dX5_merge_15 : decode cX5_merge 15 = .ok (.iload_n 2, 1) := by decide +kernel
theorem dX5_merge_16 : decode cX5_merge 16 = .ok (.invokevirtual 165, 3) := by decide +kernel
theorem dX5_merge_19 : decode cX5_merge 19 = .ok (.ifCond .ne 9, 3) := by decide +kernel
theorem dX5_merge_22 : decode cX5_merge 22 = .ok (.aload_n 0, 1) := by decide +kernel
theorem dX5_merge_23 : decode cX5_merge 23 = .ok (.iconst 0, 1) := by decide +kernel
theorem dX5_merge_24 : decode cX5_merge 24 = .ok (.invokevirtual 73, 3) := by decide +kernel
theorem dX5_merge_27 : decode cX5_merge 27 = .ok (.ireturn, 1) := by decide +kernel
theorem dX5_merge_28 : decode cX5_merge 28 = .ok (.aload_n 0, 1) := by decide +kernel
theorem dX5_merge_29 : decode cX5_merge 29 = .ok (.iload_n 1, 1) := by decide +kernel
theorem dX5_merge_30 : decode cX5_merge 30 = .ok (.invokevirtual 136, 3) := by decide +kernel
theorem dX5_merge_33 : decode cX5_merge 33 = .ok (.ifCond .ne 9, 3) := by decide +kernel
theorem dX5_merge_36 : decode cX5_merge 36 = .ok (.aload_n 0, 1) := by decide +kernel
theorem dX5_merge_37 : decode cX5_merge 37 = .ok (.iconst 3, 1) := by decide +kernel
theorem dX5_merge_38 : decode cX5_merge 38 = .ok (.invokevirtual 73, 3) := by decide +kernel
theorem dX5_merge_41 : decode cX5_merge 41 = .ok (.ireturn, 1) := by decide +kernel
theorem dX5_merge_42 : decode cX5_merge 42 = .ok (.aload_n 0, 1) := by decide +kernel
theorem dX5_merge_43 : decode cX5_merge 43 = .ok (.iload_n 1, 1) := by decide +kernel
theorem dX5_merge_44 : decode cX5_merge 44 = .ok (.iload_n 2, 1) := by decide +kernel
theorem dX5_merge_45 : decode cX5_merge 45 = .ok (.iload_n 1, 1) := by decide +kernel
theorem dX5_merge_46 : decode cX5_merge 46 = .ok (.iconst (-1), 1) := by decide +kernel
theorem dX5_merge_47 : decode cX5_merge 47 = .ok (.ixor, 1) := by decide +kernel
theorem dX5_merge_48 : decode cX5_merge 48 = .ok (.iand, 1) := by decide +kernel
theorem dX5_merge_49 : decode cX5_merge 49 = .ok (.invokevirtual 168, 3) := by decide +kernel
theorem dX5_merge_52 : decode cX5_merge 52 = .ok (.ireturn, 1) := by decide +kernel
theorem dX5_kinds_0 : decode cX5_kinds 0 = .ok (.aload_n 0, 1) := by decide +kernel
theorem dX5_kinds_1 : decode cX5_kinds 1 = .ok (.getfield 10, 3) := by decide +kernel
theorem dX5_kinds_4 : decode cX5_kinds 4 = .ok (.iload_n 1, 1) := by decide +kernel
theorem dX5_kinds_5 : decode cX5_kinds 5 = .ok (.invokevirtual 85, 3) := by decide +kernel
theorem dX5_kinds_8 : decode cX5_kinds 8 = .ok (.ifCond .ne 9, 3) := by decide +kernel
theorem dX5_kinds_11 : decode cX5_kinds 11 = .ok (.aload_n 0, 1) := by decide +kernel
theorem dX5_kinds_12 : decode cX5_kinds 12 = .ok (.iconst 0, 1) := by decide +kernel
theorem dX5_kinds_13 : decode cX5_kinds 13 = .ok (.invokevirtual 73, 3) := by decide +kernel
theorem dX5_kinds_16 : decode cX5_kinds 16 = .ok (.ireturn, 1) := by decide +kernel
theorem dX5_kinds_17 : decode cX5_kinds 17 = .ok (.aload_n 0, 1) := by decide +kernel
theorem dX5_kinds_18 : decode cX5_kinds 18 = .ok (.iload_n 1, 1) := by decide +kernel
theorem dX5_kinds_19 : decode cX5_kinds 19 = .ok (.invokevirtual 188, 3) := by decide +kernel
theorem dX5_kinds_22 : decode cX5_kinds 22 = .ok (.iconst 0, 1) := by decide +kernel
theorem dX5_kinds_23 : decode cX5_kinds 23 = .ok (.istore_n 2, 1) := by decide +kernel
theorem dX5_kinds_24 : decode cX5_kinds 24 = .ok (.iconst 0, 1) := by decide +kernel
theorem dX5_kinds_25 : decode cX5_kinds 25 = .ok (.istore_n 3, 1) := by decide +kernel
theorem dX5_kinds_26 : decode cX5_kinds 26 = .ok (.iload_n 3, 1) := by decide +kernel
theorem dX5_kinds_27 : decode cX5_kinds 27 = .ok (.bipush 7, 2) := by decide +kernel
theorem dX5_kinds_29 : decode cX5_kinds 29 = .ok (.if_icmp .ge 30, 3) := by decide +kernel
theorem dX5_kinds_32 : decode cX5_kinds 32 = .ok (.aload_n 0, 1) := by decide +kernel
theorem dX5_kinds_33 : decode cX5_kinds 33 = .ok (.getfield 36, 3) := by decide +kernel
theorem dX5_kinds_36 : decode cX5_kinds 36 = .ok (.iload_n 3, 1) := by decide +kernel
theorem dX5_kinds_37 : decode cX5_kinds 37 = .ok (.putfield 192, 3) := by decide +kernel
theorem dX5_kinds_40 : decode cX5_kinds 40 = .ok (.aload_n 0, 1) := by decide +kernel
theorem dX5_kinds_41 : decode cX5_kinds 41 = .ok (.invokevirtual 195, 3) := by decide +kernel
theorem dX5_kinds_44 : decode cX5_kinds 44 = .ok (.ifCond .eq 9, 3) := by decide +kernel
theorem dX5_kinds_47 : decode cX5_kinds 47 = .ok (.iload_n 2, 1) := by decide +kernel
theorem dX5_kinds_48 : decode cX5_kinds 48 = .ok (.iconst 1, 1) := by decide +kernel
theorem dX5_kinds_49 : decode cX5_kinds 49 = .ok (.iload_n 3, 1) := by decide +kernel
theorem dX5_kinds_50 : decode cX5_kinds 50 = .ok (.ishl, 1) := by decide +kernel
theorem dX5_kinds_51 : decode cX5_kinds 51 = .ok (.ior, 1) := by decide +kernel
theorem dX5_kinds_52 : decode cX5_kinds 52 = .ok (.istore_n 2, 1) := by decide +kernel
theorem dX5_kinds_53 : decode cX5_kinds 53 = .ok (.iinc 3 1, 3) := by decide +kernel
theorem dX5_kinds_56 : decode cX5_kinds 56 = .ok (.goto (-30), 3) := by decide +kernel
theorem dX5_kinds_59 : decode cX5_kinds 59 = .ok (.iload_n 2, 1) := by decide +kernel
theorem dX5_kinds_60 : decode cX5_kinds 60 = .ok (.ireturn, 1) := by decide +kernel
theorem dX5_days_0 : decode cX5_days 0 = .ok (.aload_n 0, 1) := by decide +kernel
theorem dX5_days_1 : decode cX5_days 1 = .ok (.getfield 10, 3) := by decide +kernel
theorem dX5_days_4 : decode cX5_days 4 = .ok (.iload_n 1, 1) := by decide +kernel
theorem dX5_days_5 : decode cX5_days 5 = .ok (.invokevirtual 85, 3) := by decide +kernel
theorem dX5_days_8 : decode cX5_days 8 = .ok (.ifCond .ne 9, 3) := by decide +kernel
theorem dX5_days_11 : decode cX5_days 11 = .ok (.aload_n 0, 1) := by decide +kernel
theorem dX5_days_12 : decode cX5_days 12 = .ok (.iconst 0, 1) := by decide +kernel
theorem dX5_days_13 : decode cX5_days 13 = .ok (.invokevirtual 73, 3) := by decide +kernel
theorem dX5_days_16 : decode cX5_days 16 = .ok (.ireturn, 1) := by decide +kernel
theorem dX5_days_17 : decode cX5_days 17 = .ok (.aload_n 0, 1) := by decide +kernel
theorem dX5_days_18 : decode cX5_days 18 = .ok (.iload_n 1, 1) := by decide +kernel
theorem dX5_days_19 : decode cX5_days 19 = .ok (.invokevirtual 188, 3) := by decide +kernel
theorem dX5_days_22 : decode cX5_days 22 = .ok (.iconst 0, 1) := by decide +kernel
theorem dX5_days_23 : decode cX5_days 23 = .ok (.istore_n 2, 1) := by decide +kernel
theorem dX5_days_24 : decode cX5_days 24 = .ok (.bipush (-99), 2) := by decide +kernel
theorem dX5_days_26 : decode cX5_days 26 = .ok (.istore_n 3, 1) := by decide +kernel
theorem dX5_days_27 : decode cX5_days 27 = .ok (.iload_n 3, 1) := by decide +kernel
theorem dX5_days_28 : decode cX5_days 28 = .ok (.bipush 99, 2) := by decide +kernel
theorem dX5_days_30 : decode cX5_days 30 = .ok (.if_icmp .gt 27, 3) := by decide +kernel
theorem dX5_days_33 : decode cX5_days 33 = .ok (.aload_n 0, 1) := by decide +kernel
theorem dX5_days_34 : decode cX5_days 34 = .ok (.getfield 36, 3) := by decide +kernel
theorem dX5_days_37 : decode cX5_days 37 = .ok (.iload_n 3, 1) := by decide +kernel
theorem dX5_days_38 : decode cX5_days 38 = .ok (.putfield 199, 3) := by decide +kernel
theorem dX5_days_41 : decode cX5_days 41 = .ok (.aload_n 0, 1) := by decide +kernel
theorem dX5_days_42 : decode cX5_days 42 = .ok (.invokevirtual 195, 3) := by decide +kernel
theorem dX5_days_45 : decode cX5_days 45 = .ok (.ifCond .eq 6, 3) := by decide +kernel
theorem dX5_days_48 : decode cX5_days 48 = .ok (.iinc 2 1, 3) := by decide +kernel
theorem dX5_days_51 : decode cX5_days 51 = .ok (.iinc 3 1, 3) := by decide +kernel
theorem dX5_days_54 : decode cX5_days 54 = .ok (.goto (-27), 3) := by decide +kernel
theorem dX5_days_57 : decode cX5_days 57 = .ok (.iload_n 2, 1) := by decide +kernel
theorem dX5_days_58 : decode cX5_days 58 = .ok (.ireturn, 1) := by decide +kernel
theorem dX5_fewest_0 : decode cX5_fewest 0 = .ok (.aload_n 0, 1) := by decide +kernel
theorem dX5_fewest_1 : decode cX5_fewest 1 = .ok (.getfield 10, 3) := by decide +kernel
theorem dX5_fewest_4 : decode cX5_fewest 4 = .ok (.iload_n 1, 1) := by decide +kernel
theorem dX5_fewest_5 : decode cX5_fewest 5 = .ok (.invokevirtual 85, 3) := by decide +kernel
theorem dX5_fewest_8 : decode cX5_fewest 8 = .ok (.ifCond .ne 9, 3) := by decide +kernel
theorem dX5_fewest_11 : decode cX5_fewest 11 = .ok (.aload_n 0, 1) := by decide +kernel
theorem dX5_fewest_12 : decode cX5_fewest 12 = .ok (.iconst 0, 1) := by decide +kernel
theorem dX5_fewest_13 : decode cX5_fewest 13 = .ok (.invokevirtual 73, 3) := by decide +kernel
theorem dX5_fewest_16 : decode cX5_fewest 16 = .ok (.ireturn, 1) := by decide +kernel
theorem dX5_fewest_17 : decode cX5_fewest 17 = .ok (.aload_n 0, 1) := by decide +kernel
theorem dX5_fewest_18 : decode cX5_fewest 18 = .ok (.iload_n 1, 1) := by decide +kernel
theorem dX5_fewest_19 : decode cX5_fewest 19 = .ok (.invokevirtual 188, 3) := by decide +kernel
theorem dX5_fewest_22 : decode cX5_fewest 22 = .ok (.bipush (-99), 2) := by decide +kernel
theorem dX5_fewest_24 : decode cX5_fewest 24 = .ok (.istore_n 2, 1) := by decide +kernel
theorem dX5_fewest_25 : decode cX5_fewest 25 = .ok (.iload_n 2, 1) := by decide +kernel
theorem dX5_fewest_26 : decode cX5_fewest 26 = .ok (.bipush 99, 2) := by decide +kernel
theorem dX5_fewest_28 : decode cX5_fewest 28 = .ok (.if_icmp .gt 26, 3) := by decide +kernel
theorem dX5_fewest_31 : decode cX5_fewest 31 = .ok (.aload_n 0, 1) := by decide +kernel
theorem dX5_fewest_32 : decode cX5_fewest 32 = .ok (.getfield 36, 3) := by decide +kernel
theorem dX5_fewest_35 : decode cX5_fewest 35 = .ok (.iload_n 2, 1) := by decide +kernel
theorem dX5_fewest_36 : decode cX5_fewest 36 = .ok (.putfield 199, 3) := by decide +kernel
theorem dX5_fewest_39 : decode cX5_fewest 39 = .ok (.aload_n 0, 1) := by decide +kernel
theorem dX5_fewest_40 : decode cX5_fewest 40 = .ok (.invokevirtual 195, 3) := by decide +kernel
theorem dX5_fewest_43 : decode cX5_fewest 43 = .ok (.ifCond .eq 5, 3) := by decide +kernel
theorem dX5_fewest_46 : decode cX5_fewest 46 = .ok (.iload_n 2, 1) := by decide +kernel
theorem dX5_fewest_47 : decode cX5_fewest 47 = .ok (.ireturn, 1) := by decide +kernel
theorem dX5_fewest_48 : decode cX5_fewest 48 = .ok (.iinc 2 1, 3) := by decide +kernel
theorem dX5_fewest_51 : decode cX5_fewest 51 = .ok (.goto (-26), 3) := by decide +kernel
theorem dX5_fewest_54 : decode cX5_fewest 54 = .ok (.aload_n 0, 1) := by decide +kernel
theorem dX5_fewest_55 : decode cX5_fewest 55 = .ok (.iconst 3, 1) := by decide +kernel
theorem dX5_fewest_56 : decode cX5_fewest 56 = .ok (.invokevirtual 73, 3) := by decide +kernel
theorem dX5_fewest_59 : decode cX5_fewest 59 = .ok (.ireturn, 1) := by decide +kernel
theorem dX5_tight_0 : decode cX5_tight 0 = .ok (.aload_n 0, 1) := by decide +kernel
theorem dX5_tight_1 : decode cX5_tight 1 = .ok (.invokevirtual 126, 3) := by decide +kernel
theorem dX5_tight_4 : decode cX5_tight 4 = .ok (.istore_n 1, 1) := by decide +kernel
theorem dX5_tight_5 : decode cX5_tight 5 = .ok (.bipush 9, 2) := by decide +kernel
theorem dX5_tight_7 : decode cX5_tight 7 = .ok (.istore_n 2, 1) := by decide +kernel
theorem dX5_tight_8 : decode cX5_tight 8 = .ok (.iload_n 2, 1) := by decide +kernel
theorem dX5_tight_9 : decode cX5_tight 9 = .ok (.ifCond .lt 27, 3) := by decide +kernel
theorem dX5_tight_12 : decode cX5_tight 12 = .ok (.aload_n 0, 1) := by decide +kernel
theorem dX5_tight_13 : decode cX5_tight 13 = .ok (.iload_n 1, 1) := by decide +kernel
theorem dX5_tight_14 : decode cX5_tight 14 = .ok (.iload_n 2, 1) := by decide +kernel
theorem dX5_tight_15 : decode cX5_tight 15 = .ok (.invokevirtual 202, 3) := by decide +kernel
theorem dX5_tight_18 : decode cX5_tight 18 = .ok (.aload_n 0, 1) := by decide +kernel
theorem dX5_tight_19 : decode cX5_tight 19 = .ok (.getfield 29, 3) := by decide +kernel
theorem dX5_tight_22 : decode cX5_tight 22 = .ok (.getfield 205, 3) := by decide +kernel
theorem dX5_tight_25 : decode cX5_tight 25 = .ok (.ifCond .ne 5, 3) := by decide +kernel
theorem dX5_tight_28 : decode cX5_tight 28 = .ok (.iload_n 2, 1) := by decide +kernel
theorem dX5_tight_29 : decode cX5_tight 29 = .ok (.ireturn, 1) := by decide +kernel
theorem dX5_tight_30 : decode cX5_tight 30 = .ok (.iinc 2 (-1), 3) := by decide +kernel
theorem dX5_tight_33 : decode cX5_tight 33 = .ok (.goto (-25), 3) := by decide +kernel
theorem dX5_tight_36 : decode cX5_tight 36 = .ok (.aload_n 0, 1) := by decide +kernel
theorem dX5_tight_37 : decode cX5_tight 37 = .ok (.iconst 3, 1) := by decide +kernel
theorem dX5_tight_38 : decode cX5_tight 38 = .ok (.invokevirtual 73, 3) := by decide +kernel
theorem dX5_tight_41 : decode cX5_tight 41 = .ok (.ireturn, 1) := by decide +kernel
theorem dX5_loses_0 : decode cX5_loses 0 = .ok (.iload_n 1, 1) := by decide +kernel
theorem dX5_loses_1 : decode cX5_loses 1 = .ok (.iconst 1, 1) := by decide +kernel
theorem dX5_loses_2 : decode cX5_loses 2 = .ok (.bipush 20, 2) := by decide +kernel
theorem dX5_loses_4 : decode cX5_loses 4 = .ok (.invokestatic 69, 3) := by decide +kernel
theorem dX5_loses_7 : decode cX5_loses 7 = .ok (.ifCond .ne 9, 3) := by decide +kernel
theorem dX5_loses_10 : decode cX5_loses 10 = .ok (.aload_n 0, 1) := by decide +kernel
theorem dX5_loses_11 : decode cX5_loses 11 = .ok (.iconst 0, 1) := by decide +kernel
theorem dX5_loses_12 : decode cX5_loses 12 = .ok (.invokevirtual 73, 3) := by decide +kernel
theorem dX5_loses_15 : decode cX5_loses 15 = .ok (.ireturn, 1) := by decide +kernel
theorem dX5_loses_16 : decode cX5_loses 16 = .ok (.iconst 0, 1) := by decide +kernel
theorem dX5_loses_17 : decode cX5_loses 17 = .ok (.istore_n 2, 1) := by decide +kernel
theorem dX5_loses_18 : decode cX5_loses 18 = .ok (.iload_n 2, 1) := by decide +kernel
theorem dX5_loses_19 : decode cX5_loses 19 = .ok (.iload_n 1, 1) := by decide +kernel
theorem dX5_loses_20 : decode cX5_loses 20 = .ok (.if_icmp .ge 44, 3) := by decide +kernel
theorem dX5_loses_23 : decode cX5_loses 23 = .ok (.aload_n 0, 1) := by decide +kernel
theorem dX5_loses_24 : decode cX5_loses 24 = .ok (.getfield 10, 3) := by decide +kernel
theorem dX5_loses_27 : decode cX5_loses 27 = .ok (.invokevirtual 208, 3) := by decide +kernel
theorem dX5_loses_30 : decode cX5_loses 30 = .ok (.bipush 16, 2) := by decide +kernel
theorem dX5_loses_32 : decode cX5_loses 32 = .ok (.irem, 1) := by decide +kernel
theorem dX5_loses_33 : decode cX5_loses 33 = .ok (.istore_n 3, 1) := by decide +kernel
theorem dX5_loses_34 : decode cX5_loses 34 = .ok (.aload_n 0, 1) := by decide +kernel
theorem dX5_loses_35 : decode cX5_loses 35 = .ok (.getfield 10, 3) := by decide +kernel
theorem dX5_loses_38 : decode cX5_loses 38 = .ok (.iload_n 3, 1) := by decide +kernel
theorem dX5_loses_39 : decode cX5_loses 39 = .ok (.invokevirtual 85, 3) := by decide +kernel
theorem dX5_loses_42 : decode cX5_loses 42 = .ok (.ifCond .eq 16, 3) := by decide +kernel
theorem dX5_loses_45 : decode cX5_loses 45 = .ok (.aload_n 0, 1) := by decide +kernel
theorem dX5_loses_46 : decode cX5_loses 46 = .ok (.getfield 10, 3) := by decide +kernel
theorem dX5_loses_49 : decode cX5_loses 49 = .ok (.getfield 88, 3) := by decide +kernel
theorem dX5_loses_52 : decode cX5_loses 52 = .ok (.iload_n 3, 1) := by decide +kernel
theorem dX5_loses_53 : decode cX5_loses 53 = .ok (.aaload, 1) := by decide +kernel
theorem dX5_loses_54 : decode cX5_loses 54 = .ok (.iconst 1, 1) := by decide +kernel
theorem dX5_loses_55 : decode cX5_loses 55 = .ok (.putfield 211, 3) := by decide +kernel
theorem dX5_loses_58 : decode cX5_loses 58 = .ok (.iinc 2 1, 3) := by decide +kernel
theorem dX5_loses_61 : decode cX5_loses 61 = .ok (.goto (-43), 3) := by decide +kernel
theorem dX5_loses_64 : decode cX5_loses 64 = .ok (.aload_n 0, 1) := by decide +kernel
theorem dX5_loses_65 : decode cX5_loses 65 = .ok (.getfield 10, 3) := by decide +kernel
theorem dX5_loses_68 : decode cX5_loses 68 = .ok (.invokevirtual 133, 3) := by decide +kernel
theorem dX5_loses_71 : decode cX5_loses 71 = .ok (.invokestatic 171, 3) := by decide +kernel
theorem dX5_loses_74 : decode cX5_loses 74 = .ok (.ireturn, 1) := by decide +kernel
theorem dX5_odds_0 : decode cX5_odds 0 = .ok (.iload_n 1, 1) := by decide +kernel
theorem dX5_odds_1 : decode cX5_odds 1 = .ok (.iconst 0, 1) := by decide +kernel
theorem dX5_odds_2 : decode cX5_odds 2 = .ok (.bipush 14, 2) := by decide +kernel
theorem dX5_odds_4 : decode cX5_odds 4 = .ok (.invokestatic 69, 3) := by decide +kernel
theorem dX5_odds_7 : decode cX5_odds 7 = .ok (.ifCond .eq 12, 3) := by decide +kernel
theorem dX5_odds_10 : decode cX5_odds 10 = .ok (.iload_n 2, 1) := by decide +kernel
theorem dX5_odds_11 : decode cX5_odds 11 = .ok (.iconst 0, 1) := by decide +kernel
theorem dX5_odds_12 : decode cX5_odds 12 = .ok (.iconst 1, 1) := by decide +kernel
theorem dX5_odds_13 : decode cX5_odds 13 = .ok (.invokestatic 69, 3) := by decide +kernel
theorem dX5_odds_16 : decode cX5_odds 16 = .ok (.ifCond .ne 10, 3) := by decide +kernel
theorem dX5_odds_19 : decode cX5_odds 19 = .ok (.aload_n 0, 1) := by decide +kernel
theorem dX5_odds_20 : decode cX5_odds 20 = .ok (.iconst 0, 1) := by decide +kernel
theorem dX5_odds_21 : decode cX5_odds 21 = .ok (.invokevirtual 73, 3) := by decide +kernel
theorem dX5_odds_24 : decode cX5_odds 24 = .ok (.i2l, 1) := by decide +kernel
theorem dX5_odds_25 : decode cX5_odds 25 = .ok (.lreturn, 1) := by decide +kernel
theorem dX5_odds_26 : decode cX5_odds 26 = .ok (.bipush 16, 2) := by decide +kernel
theorem dX5_odds_28 : decode cX5_odds 28 = .ok (.aload_n 0, 1) := by decide +kernel
theorem dX5_odds_29 : decode cX5_odds 29 = .ok (.invokevirtual 126, 3) := by decide +kernel
theorem dX5_odds_32 : decode cX5_odds 32 = .ok (.invokestatic 171, 3) := by decide +kernel
theorem dX5_odds_35 : decode cX5_odds 35 = .ok (.isub, 1) := by decide +kernel
theorem dX5_odds_36 : decode cX5_odds 36 = .ok (.istore_n 3, 1) := by decide +kernel
theorem dX5_odds_37 : decode cX5_odds 37 = .ok (.bipush 16, 2) := by decide +kernel
theorem dX5_odds_39 : decode cX5_odds 39 = .ok (.istore 4, 2) := by decide +kernel
theorem dX5_odds_41 : decode cX5_odds 41 = .ok (.iconst 0, 1) := by decide +kernel
theorem dX5_odds_42 : decode cX5_odds 42 = .ok (.istore 5, 2) := by decide +kernel
theorem dX5_odds_44 : decode cX5_odds 44 = .ok (.iload 5, 2) := by decide +kernel
theorem dX5_odds_46 : decode cX5_odds 46 = .ok (.iconst 4, 1) := by decide +kernel
theorem dX5_odds_47 : decode cX5_odds 47 = .ok (.if_icmp .ge 25, 3) := by decide +kernel
theorem dX5_odds_50 : decode cX5_odds 50 = .ok (.iload_n 3, 1) := by decide +kernel
theorem dX5_odds_51 : decode cX5_odds 51 = .ok (.iconst 2, 1) := by decide +kernel
theorem dX5_odds_52 : decode cX5_odds 52 = .ok (.irem, 1) := by decide +kernel
theorem dX5_odds_53 : decode cX5_odds 53 = .ok (.ifCond .ne 19, 3) := by decide +kernel
theorem dX5_odds_56 : decode cX5_odds 56 = .ok (.iload_n 3, 1) := by decide +kernel
theorem dX5_odds_57 : decode cX5_odds 57 = .ok (.iconst 2, 1) := by decide +kernel
theorem dX5_odds_58 : decode cX5_odds 58 = .ok (.idiv, 1) := by decide +kernel
theorem dX5_odds_59 : decode cX5_odds 59 = .ok (.istore_n 3, 1) := by decide +kernel
theorem dX5_odds_60 : decode cX5_odds 60 = .ok (.iload 4, 2) := by decide +kernel
theorem dX5_odds_62 : decode cX5_odds 62 = .ok (.iconst 2, 1) := by decide +kernel
theorem dX5_odds_63 : decode cX5_odds 63 = .ok (.idiv, 1) := by decide +kernel
theorem dX5_odds_64 : decode cX5_odds 64 = .ok (.istore 4, 2) := by decide +kernel
theorem dX5_odds_66 : decode cX5_odds 66 = .ok (.iinc 5 1, 3) := by decide +kernel
theorem dX5_odds_69 : decode cX5_odds 69 = .ok (.goto (-25), 3) := by decide +kernel
theorem dX5_odds_72 : decode cX5_odds 72 = .ok (.lconst 1, 1) := by decide +kernel
theorem dX5_odds_73 : decode cX5_odds 73 = .ok (.lstore 5, 2) := by decide +kernel
theorem dX5_odds_75 : decode cX5_odds 75 = .ok (.iconst 0, 1) := by decide +kernel
theorem dX5_odds_76 : decode cX5_odds 76 = .ok (.istore 7, 2) := by decide +kernel
theorem dX5_odds_78 : decode cX5_odds 78 = .ok (.iload 7, 2) := by decide +kernel
theorem dX5_odds_80 : decode cX5_odds 80 = .ok (.iload_n 1, 1) := by decide +kernel
theorem dX5_odds_81 : decode cX5_odds 81 = .ok (.if_icmp .ge 26, 3) := by decide +kernel
theorem dX5_odds_84 : decode cX5_odds 84 = .ok (.lload 5, 2) := by decide +kernel
theorem dX5_odds_86 : decode cX5_odds 86 = .ok (.iload_n 2, 1) := by decide +kernel
theorem dX5_odds_87 : decode cX5_odds 87 = .ok (.ifCond .ne 8, 3) := by decide +kernel
theorem dX5_odds_90 : decode cX5_odds 90 = .ok (.iload_n 3, 1) := by decide +kernel
theorem dX5_odds_91 : decode cX5_odds 91 = .ok (.i2l, 1) := by decide +kernel
theorem dX5_odds_92 : decode cX5_odds 92 = .ok (.goto 6, 3) := by decide +kernel
theorem dX5_odds_95 : decode cX5_odds 95 = .ok (.iload 4, 2) := by decide +kernel
theorem dX5_odds_97 : decode cX5_odds 97 = .ok (.i2l, 1) := by decide +kernel
theorem dX5_odds_98 : decode cX5_odds 98 = .ok (.lmul, 1) := by decide +kernel
theorem dX5_odds_99 : decode cX5_odds 99 = .ok (.lstore 5, 2) := by decide +kernel
theorem dX5_odds_101 : decode cX5_odds 101 = .ok (.iinc 7 1, 3) := by decide +kernel
theorem dX5_odds_104 : decode cX5_odds 104 = .ok (.goto (-26), 3) := by decide +kernel
theorem dX5_odds_107 : decode cX5_odds 107 = .ok (.lload 5, 2) := by decide +kernel
theorem dX5_odds_109 : decode cX5_odds 109 = .ok (.lreturn, 1) := by decide +kernel
theorem dX5_seed_0 : decode cX5_seed 0 = .ok (.aload_n 0, 1) := by decide +kernel
theorem dX5_seed_1 : decode cX5_seed 1 = .ok (.getfield 10, 3) := by decide +kernel
theorem dX5_seed_4 : decode cX5_seed 4 = .ok (.getfield 214, 3) := by decide +kernel
theorem dX5_seed_7 : decode cX5_seed 7 = .ok (.istore_n 2, 1) := by decide +kernel
theorem dX5_seed_8 : decode cX5_seed 8 = .ok (.aload_n 0, 1) := by decide +kernel
theorem dX5_seed_9 : decode cX5_seed 9 = .ok (.getfield 10, 3) := by decide +kernel
theorem dX5_seed_12 : decode cX5_seed 12 = .ok (.iload_n 1, 1) := by decide +kernel
theorem dX5_seed_13 : decode cX5_seed 13 = .ok (.putfield 214, 3) := by decide +kernel
theorem dX5_seed_16 : decode cX5_seed 16 = .ok (.iload_n 2, 1) := by decide +kernel
theorem dX5_seed_17 : decode cX5_seed 17 = .ok (.ireturn, 1) := by decide +kernel
theorem dX5_feed_0 : decode cX5_feed 0 = .ok (.iload_n 2, 1) := by decide +kernel
theorem dX5_feed_1 : decode cX5_feed 1 = .ok (.iconst 1, 1) := by decide +kernel
theorem dX5_feed_2 : decode cX5_feed 2 = .ok (.iconst 4, 1) := by decide +kernel
theorem dX5_feed_3 : decode cX5_feed 3 = .ok (.invokestatic 69, 3) := by decide +kernel
theorem dX5_feed_6 : decode cX5_feed 6 = .ok (.ifCond .ne 9, 3) := by decide +kernel
theorem dX5_feed_9 : decode cX5_feed 9 = .ok (.aload_n 0, 1) := by decide +kernel
theorem dX5_feed_10 : decode cX5_feed 10 = .ok (.iconst 0, 1) := by decide +kernel
theorem dX5_feed_11 : decode cX5_feed 11 = .ok (.invokevirtual 73, 3) := by decide +kernel
theorem dX5_feed_14 : decode cX5_feed 14 = .ok (.ireturn, 1) := by decide +kernel
theorem dX5_feed_15 : decode cX5_feed 15 = .ok (.aload_n 0, 1) := by decide +kernel
theorem dX5_feed_16 : decode cX5_feed 16 = .ok (.getfield 43, 3) := by decide +kernel
theorem dX5_feed_19 : decode cX5_feed 19 = .ok (.getfield 217, 3) := by decide +kernel
theorem dX5_feed_22 : decode cX5_feed 22 = .ok (.iload_n 2, 1) := by decide +kernel
theorem dX5_feed_23 : decode cX5_feed 23 = .ok (.iadd, 1) := by decide +kernel
theorem dX5_feed_24 : decode cX5_feed 24 = .ok (.bipush 120, 2) := by decide +kernel
theorem dX5_feed_26 : decode cX5_feed 26 = .ok (.if_icmp .le 9, 3) := by decide +kernel
theorem dX5_feed_29 : decode cX5_feed 29 = .ok (.aload_n 0, 1) := by decide +kernel
theorem dX5_feed_30 : decode cX5_feed 30 = .ok (.iconst 1, 1) := by decide +kernel
theorem dX5_feed_31 : decode cX5_feed 31 = .ok (.invokevirtual 73, 3) := by decide +kernel
theorem dX5_feed_34 : decode cX5_feed 34 = .ok (.ireturn, 1) := by decide +kernel
theorem dX5_feed_35 : decode cX5_feed 35 = .ok (.iload_n 2, 1) := by decide +kernel
theorem dX5_feed_36 : decode cX5_feed 36 = .ok (.iconst 1, 1) := by decide +kernel
theorem dX5_feed_37 : decode cX5_feed 37 = .ok (.isub, 1) := by decide +kernel
theorem dX5_feed_38 : decode cX5_feed 38 = .ok (.istore_n 3, 1) := by decide +kernel
theorem dX5_feed_39 : decode cX5_feed 39 = .ok (.iload_n 3, 1) := by decide +kernel
theorem dX5_feed_40 : decode cX5_feed 40 = .ok (.ifCond .lt 26, 3) := by decide +kernel
theorem dX5_feed_43 : decode cX5_feed 43 = .ok (.aload_n 0, 1) := by decide +kernel
theorem dX5_feed_44 : decode cX5_feed 44 = .ok (.getfield 43, 3) := by decide +kernel
theorem dX5_feed_47 : decode cX5_feed 47 = .ok (.iload_n 1, 1) := by decide +kernel
theorem dX5_feed_48 : decode cX5_feed 48 = .ok (.bipush 8, 2) := by decide +kernel
theorem dX5_feed_50 : decode cX5_feed 50 = .ok (.iload_n 3, 1) := by decide +kernel
theorem dX5_feed_51 : decode cX5_feed 51 = .ok (.imul, 1) := by decide +kernel
theorem dX5_feed_52 : decode cX5_feed 52 = .ok (.iushr, 1) := by decide +kernel
theorem dX5_feed_53 : decode cX5_feed 53 = .ok (.sipush 255, 3) := by decide +kernel
theorem dX5_feed_56 : decode cX5_feed 56 = .ok (.iand, 1) := by decide +kernel
theorem dX5_feed_57 : decode cX5_feed 57 = .ok (.invokevirtual 220, 3) := by decide +kernel
theorem dX5_feed_60 : decode cX5_feed 60 = .ok (.iinc 3 (-1), 3) := by decide +kernel
theorem dX5_feed_63 : decode cX5_feed 63 = .ok (.goto (-24), 3) := by decide +kernel
theorem dX5_feed_66 : decode cX5_feed 66 = .ok (.aload_n 0, 1) := by decide +kernel
theorem dX5_feed_67 : decode cX5_feed 67 = .ok (.getfield 43, 3) := by decide +kernel
theorem dX5_feed_70 : decode cX5_feed 70 = .ok (.getfield 217, 3) := by decide +kernel
theorem dX5_feed_73 : decode cX5_feed 73 = .ok (.ireturn, 1) := by decide +kernel
theorem dX5_wipe_0 : decode cX5_wipe 0 = .ok (.aload_n 0, 1) := by decide +kernel
theorem dX5_wipe_1 : decode cX5_wipe 1 = .ok (.getfield 43, 3) := by decide +kernel
theorem dX5_wipe_4 : decode cX5_wipe 4 = .ok (.getfield 217, 3) := by decide +kernel
theorem dX5_wipe_7 : decode cX5_wipe 7 = .ok (.istore_n 1, 1) := by decide +kernel
theorem dX5_wipe_8 : decode cX5_wipe 8 = .ok (.aload_n 0, 1) := by decide +kernel
theorem dX5_wipe_9 : decode cX5_wipe 9 = .ok (.getfield 43, 3) := by decide +kernel
theorem dX5_wipe_12 : decode cX5_wipe 12 = .ok (.iconst 0, 1) := by decide +kernel
theorem dX5_wipe_13 : decode cX5_wipe 13 = .ok (.putfield 217, 3) := by decide +kernel
theorem dX5_wipe_16 : decode cX5_wipe 16 = .ok (.iload_n 1, 1) := by decide +kernel
theorem dX5_wipe_17 : decode cX5_wipe 17 = .ok (.ireturn, 1) := by decide +kernel
theorem dX5_text_0 : decode cX5_text 0 = .ok (.aload_n 0, 1) := by decide +kernel
theorem dX5_text_1 : decode cX5_text 1 = .ok (.getfield 16, 3) := by decide +kernel
theorem dX5_text_4 : decode cX5_text 4 = .ok (.aload_n 0, 1) := by decide +kernel
theorem dX5_text_5 : decode cX5_text 5 = .ok (.getfield 10, 3) := by decide +kernel
theorem dX5_text_8 : decode cX5_text 8 = .ok (.invokevirtual 223, 3) := by decide +kernel
theorem dX5_text_11 : decode cX5_text 11 = .ok (.aload_n 0, 1) := by decide +kernel
theorem dX5_text_12 : decode cX5_text 12 = .ok (.getfield 43, 3) := by decide +kernel
theorem dX5_text_15 : decode cX5_text 15 = .ok (.aload_n 0, 1) := by decide +kernel
theorem dX5_text_16 : decode cX5_text 16 = .ok (.getfield 16, 3) := by decide +kernel
theorem dX5_text_19 : decode cX5_text 19 = .ok (.invokevirtual 227, 3) := by decide +kernel
theorem dX5_text_22 : decode cX5_text 22 = .ok (.istore_n 1, 1) := by decide +kernel
theorem dX5_text_23 : decode cX5_text 23 = .ok (.iload_n 1, 1) := by decide +kernel
theorem dX5_text_24 : decode cX5_text 24 = .ok (.ifCond .lt 14, 3) := by decide +kernel
theorem dX5_text_27 : decode cX5_text 27 = .ok (.aload_n 0, 1) := by decide +kernel
theorem dX5_text_28 : decode cX5_text 28 = .ok (.getfield 10, 3) := by decide +kernel
theorem dX5_text_31 : decode cX5_text 31 = .ok (.aload_n 0, 1) := by decide +kernel
theorem dX5_text_32 : decode cX5_text 32 = .ok (.getfield 16, 3) := by decide +kernel
theorem dX5_text_35 : decode cX5_text 35 = .ok (.invokevirtual 223, 3) := by decide +kernel
theorem dX5_text_38 : decode cX5_text 38 = .ok (.aload_n 0, 1) := by decide +kernel
theorem dX5_text_39 : decode cX5_text 39 = .ok (.getfield 43, 3) := by decide +kernel
theorem dX5_text_42 : decode cX5_text 42 = .ok (.iconst 0, 1) := by decide +kernel
theorem dX5_text_43 : decode cX5_text 43 = .ok (.putfield 217, 3) := by decide +kernel
theorem dX5_text_46 : decode cX5_text 46 = .ok (.iload_n 1, 1) := by decide +kernel
theorem dX5_text_47 : decode cX5_text 47 = .ok (.ireturn, 1) := by decide +kernel
theorem dX5_hold_0 : decode cX5_hold 0 = .ok (.iload_n 1, 1) := by decide +kernel
theorem dX5_hold_1 : decode cX5_hold 1 = .ok (.iconst 0, 1) := by decide +kernel
theorem dX5_hold_2 : decode cX5_hold 2 = .ok (.bipush 9, 2) := by decide +kernel
theorem dX5_hold_4 : decode cX5_hold 4 = .ok (.invokestatic 69, 3) := by decide +kernel
theorem dX5_hold_7 : decode cX5_hold 7 = .ok (.ifCond .eq 19, 3) := by decide +kernel
theorem dX5_hold_10 : decode cX5_hold 10 = .ok (.iload_n 2, 1) := by decide +kernel
theorem dX5_hold_11 : decode cX5_hold 11 = .ok (.iconst (-1), 1) := by decide +kernel
theorem dX5_hold_12 : decode cX5_hold 12 = .ok (.if_icmp .eq 20, 3) := by decide +kernel
theorem dX5_hold_15 : decode cX5_hold 15 = .ok (.aload_n 0, 1) := by decide +kernel
theorem dX5_hold_16 : decode cX5_hold 16 = .ok (.getfield 10, 3) := by decide +kernel
theorem dX5_hold_19 : decode cX5_hold 19 = .ok (.iload_n 2, 1) := by decide +kernel
theorem dX5_hold_20 : decode cX5_hold 20 = .ok (.invokevirtual 85, 3) := by decide +kernel
theorem dX5_hold_23 : decode cX5_hold 23 = .ok (.ifCond .ne 9, 3) := by decide +kernel
theorem dX5_hold_26 : decode cX5_hold 26 = .ok (.aload_n 0, 1) := by decide +kernel
theorem dX5_hold_27 : decode cX5_hold 27 = .ok (.iconst 0, 1) := by decide +kernel
theorem dX5_hold_28 : decode cX5_hold 28 = .ok (.invokevirtual 73, 3) := by decide +kernel
theorem dX5_hold_31 : decode cX5_hold 31 = .ok (.ireturn, 1) := by decide +kernel
theorem dX5_hold_32 : decode cX5_hold 32 = .ok (.aload_n 0, 1) := by decide +kernel
theorem dX5_hold_33 : decode cX5_hold 33 = .ok (.getfield 10, 3) := by decide +kernel
theorem dX5_hold_36 : decode cX5_hold 36 = .ok (.getfield 231, 3) := by decide +kernel
theorem dX5_hold_39 : decode cX5_hold 39 = .ok (.iload_n 1, 1) := by decide +kernel
theorem dX5_hold_40 : decode cX5_hold 40 = .ok (.iload_n 2, 1) := by decide +kernel
theorem dX5_hold_41 : decode cX5_hold 41 = .ok (.iastore, 1) := by decide +kernel
theorem dX5_hold_42 : decode cX5_hold 42 = .ok (.iconst 1, 1) := by decide +kernel
theorem dX5_hold_43 : decode cX5_hold 43 = .ok (.ireturn, 1) := by decide +kernel
theorem dX5_as_0 : decode cX5_as 0 = .ok (.iload_n 1, 1) := by decide +kernel
theorem dX5_as_1 : decode cX5_as 1 = .ok (.iconst 0, 1) := by decide +kernel
theorem dX5_as_2 : decode cX5_as 2 = .ok (.bipush 9, 2) := by decide +kernel
theorem dX5_as_4 : decode cX5_as 4 = .ok (.invokestatic 69, 3) := by decide +kernel
theorem dX5_as_7 : decode cX5_as 7 = .ok (.ifCond .eq 10, 3) := by decide +kernel
theorem dX5_as_10 : decode cX5_as 10 = .ok (.iload_n 2, 1) := by decide +kernel
theorem dX5_as_11 : decode cX5_as 11 = .ok (.invokestatic 58, 3) := by decide +kernel
theorem dX5_as_14 : decode cX5_as 14 = .ok (.ifCond .ne 9, 3) := by decide +kernel
theorem dX5_as_17 : decode cX5_as 17 = .ok (.aload_n 0, 1) := by decide +kernel
theorem dX5_as_18 : decode cX5_as 18 = .ok (.iconst 0, 1) := by decide +kernel
theorem dX5_as_19 : decode cX5_as 19 = .ok (.invokevirtual 73, 3) := by decide +kernel
theorem dX5_as_22 : decode cX5_as 22 = .ok (.ireturn, 1) := by decide +kernel
theorem dX5_as_23 : decode cX5_as 23 = .ok (.aload_n 0, 1) := by decide +kernel
theorem dX5_as_24 : decode cX5_as 24 = .ok (.getfield 10, 3) := by decide +kernel
theorem dX5_as_27 : decode cX5_as 27 = .ok (.getfield 231, 3) := by decide +kernel
theorem dX5_as_30 : decode cX5_as 30 = .ok (.iload_n 1, 1) := by decide +kernel
theorem dX5_as_31 : decode cX5_as 31 = .ok (.iaload, 1) := by decide +kernel
theorem dX5_as_32 : decode cX5_as 32 = .ok (.istore_n 3, 1) := by decide +kernel
theorem dX5_as_33 : decode cX5_as 33 = .ok (.aload_n 0, 1) := by decide +kernel
theorem dX5_as_34 : decode cX5_as 34 = .ok (.getfield 10, 3) := by decide +kernel
theorem dX5_as_37 : decode cX5_as 37 = .ok (.iload_n 3, 1) := by decide +kernel
theorem dX5_as_38 : decode cX5_as 38 = .ok (.invokevirtual 85, 3) := by decide +kernel
theorem dX5_as_41 : decode cX5_as 41 = .ok (.ifCond .ne 9, 3) := by decide +kernel
theorem dX5_as_44 : decode cX5_as 44 = .ok (.aload_n 0, 1) := by decide +kernel
theorem dX5_as_45 : decode cX5_as 45 = .ok (.iconst 5, 1) := by decide +kernel
theorem dX5_as_46 : decode cX5_as 46 = .ok (.invokevirtual 73, 3) := by decide +kernel
theorem dX5_as_49 : decode cX5_as 49 = .ok (.ireturn, 1) := by decide +kernel
theorem dX5_as_50 : decode cX5_as 50 = .ok (.aload_n 0, 1) := by decide +kernel
theorem dX5_as_51 : decode cX5_as 51 = .ok (.getfield 10, 3) := by decide +kernel
theorem dX5_as_54 : decode cX5_as 54 = .ok (.getfield 88, 3) := by decide +kernel
theorem dX5_as_57 : decode cX5_as 57 = .ok (.iload_n 3, 1) := by decide +kernel
theorem dX5_as_58 : decode cX5_as 58 = .ok (.aaload, 1) := by decide +kernel
theorem dX5_as_59 : decode cX5_as 59 = .ok (.getfield 192, 3) := by decide +kernel
theorem dX5_as_62 : decode cX5_as 62 = .ok (.iload_n 2, 1) := by decide +kernel
theorem dX5_as_63 : decode cX5_as 63 = .ok (.invokestatic 234, 3) := by decide +kernel
theorem dX5_as_66 : decode cX5_as 66 = .ok (.ifCond .ne 9, 3) := by decide +kernel
theorem dX5_as_69 : decode cX5_as 69 = .ok (.aload_n 0, 1) := by decide +kernel
theorem dX5_as_70 : decode cX5_as 70 = .ok (.iconst 2, 1) := by decide +kernel
theorem dX5_as_71 : decode cX5_as 71 = .ok (.invokevirtual 73, 3) := by decide +kernel
theorem dX5_as_74 : decode cX5_as 74 = .ok (.ireturn, 1) := by decide +kernel
theorem dX5_as_75 : decode cX5_as 75 = .ok (.iload_n 3, 1) := by decide +kernel
theorem dX5_as_76 : decode cX5_as 76 = .ok (.ireturn, 1) := by decide +kernel
theorem dX5_sheet_0 : decode cX5_sheet 0 = .ok (.iload_n 1, 1) := by decide +kernel
theorem dX5_sheet_1 : decode cX5_sheet 1 = .ok (.invokestatic 237, 3) := by decide +kernel
theorem dX5_sheet_4 : decode cX5_sheet 4 = .ok (.ifCond .eq 25, 3) := by decide +kernel
theorem dX5_sheet_7 : decode cX5_sheet 7 = .ok (.iload_n 2, 1) := by decide +kernel
theorem dX5_sheet_8 : decode cX5_sheet 8 = .ok (.ifCond .eq 27, 3) := by decide +kernel
theorem dX5_sheet_11 : decode cX5_sheet 11 = .ok (.iload_n 2, 1) := by decide +kernel
theorem dX5_sheet_12 : decode cX5_sheet 12 = .ok (.bipush 8, 2) := by decide +kernel
theorem dX5_sheet_14 : decode cX5_sheet 14 = .ok (.if_icmp .eq 21, 3) := by decide +kernel
theorem dX5_sheet_17 : decode cX5_sheet 17 = .ok (.iload_n 2, 1) := by decide +kernel
theorem dX5_sheet_18 : decode cX5_sheet 18 = .ok (.bipush 16, 2) := by decide +kernel
theorem dX5_sheet_20 : decode cX5_sheet 20 = .ok (.if_icmp .eq 15, 3) := by decide +kernel
theorem dX5_sheet_23 : decode cX5_sheet 23 = .ok (.iload_n 2, 1) := by decide +kernel
theorem dX5_sheet_24 : decode cX5_sheet 24 = .ok (.bipush 32, 2) := by decide +kernel
theorem dX5_sheet_26 : decode cX5_sheet 26 = .ok (.if_icmp .eq 9, 3) := by decide +kernel
theorem dX5_sheet_29 : decode cX5_sheet 29 = .ok (.aload_n 0, 1) := by decide +kernel
theorem dX5_sheet_30 : decode cX5_sheet 30 = .ok (.iconst 0, 1) := by decide +kernel
theorem dX5_sheet_31 : decode cX5_sheet 31 = .ok (.invokevirtual 73, 3) := by decide +kernel
theorem dX5_sheet_34 : decode cX5_sheet 34 = .ok (.ireturn, 1) := by decide +kernel
theorem dX5_sheet_35 : decode cX5_sheet 35 = .ok (.iload_n 3, 1) := by decide +kernel
theorem dX5_sheet_36 : decode cX5_sheet 36 = .ok (.ifCond .ge 10, 3) := by decide +kernel
theorem dX5_sheet_39 : decode cX5_sheet 39 = .ok (.aload_n 0, 1) := by decide +kernel
theorem dX5_sheet_40 : decode cX5_sheet 40 = .ok (.bipush 6, 2) := by decide +kernel
theorem dX5_sheet_42 : decode cX5_sheet 42 = .ok (.invokevirtual 73, 3) := by decide +kernel
theorem dX5_sheet_45 : decode cX5_sheet 45 = .ok (.ireturn, 1) := by decide +kernel
theorem dX5_sheet_46 : decode cX5_sheet 46 = .ok (.iload_n 3, 1) := by decide +kernel
theorem dX5_sheet_47 : decode cX5_sheet 47 = .ok (.bipush 40, 2) := by decide +kernel
theorem dX5_sheet_49 : decode cX5_sheet 49 = .ok (.if_icmp .le 9, 3) := by decide +kernel
theorem dX5_sheet_52 : decode cX5_sheet 52 = .ok (.aload_n 0, 1) := by decide +kernel
theorem dX5_sheet_53 : decode cX5_sheet 53 = .ok (.iconst 0, 1) := by decide +kernel
theorem dX5_sheet_54 : decode cX5_sheet 54 = .ok (.invokevirtual 73, 3) := by decide +kernel
theorem dX5_sheet_57 : decode cX5_sheet 57 = .ok (.ireturn, 1) := by decide +kernel
theorem dX5_sheet_58 : decode cX5_sheet 58 = .ok (.aload_n 0, 1) := by decide +kernel
theorem dX5_sheet_59 : decode cX5_sheet 59 = .ok (.getfield 49, 3) := by decide +kernel
theorem dX5_sheet_62 : decode cX5_sheet 62 = .ok (.iload_n 1, 1) := by decide +kernel
theorem dX5_sheet_63 : decode cX5_sheet 63 = .ok (.aaload, 1) := by decide +kernel
theorem dX5_sheet_64 : decode cX5_sheet 64 = .ok (.iload_n 2, 1) := by decide +kernel
theorem dX5_sheet_65 : decode cX5_sheet 65 = .ok (.iload_n 2, 1) := by decide +kernel
theorem dX5_sheet_66 : decode cX5_sheet 66 = .ok (.ifCond .ne 7, 3) := by decide +kernel
theorem dX5_sheet_69 : decode cX5_sheet 69 = .ok (.iconst 0, 1) := by decide +kernel
theorem dX5_sheet_70 : decode cX5_sheet 70 = .ok (.goto 4, 3) := by decide +kernel
theorem dX5_sheet_73 : decode cX5_sheet 73 = .ok (.iload_n 3, 1) := by decide +kernel
theorem dX5_sheet_74 : decode cX5_sheet 74 = .ok (.invokevirtual 240, 3) := by decide +kernel
theorem dX5_sheet_77 : decode cX5_sheet 77 = .ok (.aload_n 0, 1) := by decide +kernel
theorem dX5_sheet_78 : decode cX5_sheet 78 = .ok (.getfield 49, 3) := by decide +kernel
theorem dX5_sheet_81 : decode cX5_sheet 81 = .ok (.iload_n 1, 1) := by decide +kernel
theorem dX5_sheet_82 : decode cX5_sheet 82 = .ok (.aaload, 1) := by decide +kernel
theorem dX5_sheet_83 : decode cX5_sheet 83 = .ok (.getfield 243, 3) := by decide +kernel
theorem dX5_sheet_86 : decode cX5_sheet 86 = .ok (.ireturn, 1) := by decide +kernel
theorem dX5_write_0 : decode cX5_write 0 = .ok (.aload_n 0, 1) := by decide +kernel
theorem dX5_write_1 : decode cX5_write 1 = .ok (.iload_n 1, 1) := by decide +kernel
theorem dX5_write_2 : decode cX5_write 2 = .ok (.invokevirtual 244, 3) := by decide +kernel
theorem dX5_write_5 : decode cX5_write 5 = .ok (.istore 4, 2) := by decide +kernel
theorem dX5_write_7 : decode cX5_write 7 = .ok (.iload 4, 2) := by decide +kernel
theorem dX5_write_9 : decode cX5_write 9 = .ok (.iconst (-1), 1) := by decide +kernel
theorem dX5_write_10 : decode cX5_write 10 = .ok (.if_icmp .eq 10, 3) := by decide +kernel
theorem dX5_write_13 : decode cX5_write 13 = .ok (.aload_n 0, 1) := by decide +kernel
theorem dX5_write_14 : decode cX5_write 14 = .ok (.iload 4, 2) := by decide +kernel
theorem dX5_write_16 : decode cX5_write 16 = .ok (.invokevirtual 73, 3) := by decide +kernel
theorem dX5_write_19 : decode cX5_write 19 = .ok (.ireturn, 1) := by decide +kernel
theorem dX5_write_20 : decode cX5_write 20 = .ok (.iload_n 2, 1) := by decide +kernel
theorem dX5_write_21 : decode cX5_write 21 = .ok (.iconst 0, 1) := by decide +kernel
theorem dX5_write_22 : decode cX5_write 22 = .ok (.aload_n 0, 1) := by decide +kernel
theorem dX5_write_23 : decode cX5_write 23 = .ok (.getfield 49, 3) := by decide +kernel
theorem dX5_write_26 : decode cX5_write 26 = .ok (.iload_n 1, 1) := by decide +kernel
theorem dX5_write_27 : decode cX5_write 27 = .ok (.aaload, 1) := by decide +kernel
theorem dX5_write_28 : decode cX5_write 28 = .ok (.getfield 243, 3) := by decide +kernel
theorem dX5_write_31 : decode cX5_write 31 = .ok (.iconst 1, 1) := by decide +kernel
theorem dX5_write_32 : decode cX5_write 32 = .ok (.isub, 1) := by decide +kernel
theorem dX5_write_33 : decode cX5_write 33 = .ok (.invokestatic 69, 3) := by decide +kernel
theorem dX5_write_36 : decode cX5_write 36 = .ok (.ifCond .ne 9, 3) := by decide +kernel
theorem dX5_write_39 : decode cX5_write 39 = .ok (.aload_n 0, 1) := by decide +kernel
theorem dX5_write_40 : decode cX5_write 40 = .ok (.iconst 0, 1) := by decide +kernel
theorem dX5_write_41 : decode cX5_write 41 = .ok (.invokevirtual 73, 3) := by decide +kernel
theorem dX5_write_44 : decode cX5_write 44 = .ok (.ireturn, 1) := by decide +kernel
theorem dX5_write_45 : decode cX5_write 45 = .ok (.aload_n 0, 1) := by decide +kernel
theorem dX5_write_46 : decode cX5_write 46 = .ok (.getfield 49, 3) := by decide +kernel
theorem dX5_write_49 : decode cX5_write 49 = .ok (.iload_n 1, 1) := by decide +kernel
theorem dX5_write_50 : decode cX5_write 50 = .ok (.aaload, 1) := by decide +kernel
theorem dX5_write_51 : decode cX5_write 51 = .ok (.iload_n 2, 1) := by decide +kernel
theorem dX5_write_52 : decode cX5_write 52 = .ok (.iload_n 3, 1) := by decide +kernel
theorem dX5_write_53 : decode cX5_write 53 = .ok (.invokevirtual 247, 3) := by decide +kernel
theorem dX5_write_56 : decode cX5_write 56 = .ok (.iconst 1, 1) := by decide +kernel
theorem dX5_write_57 : decode cX5_write 57 = .ok (.ireturn, 1) := by decide +kernel
theorem dX5_copy_0 : decode cX5_copy 0 = .ok (.iload_n 1, 1) := by decide +kernel
theorem dX5_copy_1 : decode cX5_copy 1 = .ok (.invokestatic 237, 3) := by decide +kernel
theorem dX5_copy_4 : decode cX5_copy 4 = .ok (.ifCond .eq 10, 3) := by decide +kernel
theorem dX5_copy_7 : decode cX5_copy 7 = .ok (.iload_n 3, 1) := by decide +kernel
theorem dX5_copy_8 : decode cX5_copy 8 = .ok (.invokestatic 237, 3) := by decide +kernel
theorem dX5_copy_11 : decode cX5_copy 11 = .ok (.ifCond .ne 9, 3) := by decide +kernel
theorem dX5_copy_14 : decode cX5_copy 14 = .ok (.aload_n 0, 1) := by decide +kernel
theorem dX5_copy_15 : decode cX5_copy 15 = .ok (.iconst 0, 1) := by decide +kernel
theorem dX5_copy_16 : decode cX5_copy 16 = .ok (.invokevirtual 73, 3) := by decide +kernel
theorem dX5_copy_19 : decode cX5_copy 19 = .ok (.ireturn, 1) := by decide +kernel
theorem dX5_copy_20 : decode cX5_copy 20 = .ok (.aload_n 0, 1) := by decide +kernel
theorem dX5_copy_21 : decode cX5_copy 21 = .ok (.getfield 49, 3) := by decide +kernel
theorem dX5_copy_24 : decode cX5_copy 24 = .ok (.iload_n 1, 1) := by decide +kernel
theorem dX5_copy_25 : decode cX5_copy 25 = .ok (.aaload, 1) := by decide +kernel
theorem dX5_copy_26 : decode cX5_copy 26 = .ok (.invokevirtual 250, 3) := by decide +kernel
theorem dX5_copy_29 : decode cX5_copy 29 = .ok (.ifCond .ne 15, 3) := by decide +kernel
theorem dX5_copy_32 : decode cX5_copy 32 = .ok (.aload_n 0, 1) := by decide +kernel
theorem dX5_copy_33 : decode cX5_copy 33 = .ok (.getfield 49, 3) := by decide +kernel
theorem dX5_copy_36 : decode cX5_copy 36 = .ok (.iload_n 3, 1) := by decide +kernel
theorem dX5_copy_37 : decode cX5_copy 37 = .ok (.aaload, 1) := by decide +kernel
theorem dX5_copy_38 : decode cX5_copy 38 = .ok (.invokevirtual 250, 3) := by decide +kernel
theorem dX5_copy_41 : decode cX5_copy 41 = .ok (.ifCond .eq 9, 3) := by decide +kernel
theorem dX5_copy_44 : decode cX5_copy 44 = .ok (.aload_n 0, 1) := by decide +kernel
theorem dX5_copy_45 : decode cX5_copy 45 = .ok (.iconst 5, 1) := by decide +kernel
theorem dX5_copy_46 : decode cX5_copy 46 = .ok (.invokevirtual 73, 3) := by decide +kernel
theorem dX5_copy_49 : decode cX5_copy 49 = .ok (.ireturn, 1) := by decide +kernel
theorem dX5_copy_50 : decode cX5_copy 50 = .ok (.aload_n 0, 1) := by decide +kernel
theorem dX5_copy_51 : decode cX5_copy 51 = .ok (.getfield 49, 3) := by decide +kernel
theorem dX5_copy_54 : decode cX5_copy 54 = .ok (.iload_n 1, 1) := by decide +kernel
theorem dX5_copy_55 : decode cX5_copy 55 = .ok (.aaload, 1) := by decide +kernel
theorem dX5_copy_56 : decode cX5_copy 56 = .ok (.getfield 253, 3) := by decide +kernel
theorem dX5_copy_59 : decode cX5_copy 59 = .ok (.aload_n 0, 1) := by decide +kernel
theorem dX5_copy_60 : decode cX5_copy 60 = .ok (.getfield 49, 3) := by decide +kernel
theorem dX5_copy_63 : decode cX5_copy 63 = .ok (.iload_n 3, 1) := by decide +kernel
theorem dX5_copy_64 : decode cX5_copy 64 = .ok (.aaload, 1) := by decide +kernel
theorem dX5_copy_65 : decode cX5_copy 65 = .ok (.getfield 253, 3) := by decide +kernel
theorem dX5_copy_68 : decode cX5_copy 68 = .ok (.if_icmp .eq 9, 3) := by decide +kernel
theorem dX5_copy_71 : decode cX5_copy 71 = .ok (.aload_n 0, 1) := by decide +kernel
theorem dX5_copy_72 : decode cX5_copy 72 = .ok (.iconst 2, 1) := by decide +kernel
theorem dX5_copy_73 : decode cX5_copy 73 = .ok (.invokevirtual 73, 3) := by decide +kernel
theorem dX5_copy_76 : decode cX5_copy 76 = .ok (.ireturn, 1) := by decide +kernel
theorem dX5_copy_77 : decode cX5_copy 77 = .ok (.aload_n 0, 1) := by decide +kernel
theorem dX5_copy_78 : decode cX5_copy 78 = .ok (.getfield 49, 3) := by decide +kernel
theorem dX5_copy_81 : decode cX5_copy 81 = .ok (.iload_n 1, 1) := by decide +kernel
theorem dX5_copy_82 : decode cX5_copy 82 = .ok (.aaload, 1) := by decide +kernel
theorem dX5_copy_83 : decode cX5_copy 83 = .ok (.iload_n 2, 1) := by decide +kernel
theorem dX5_copy_84 : decode cX5_copy 84 = .ok (.iload 5, 2) := by decide +kernel
theorem dX5_copy_86 : decode cX5_copy 86 = .ok (.invokevirtual 256, 3) := by decide +kernel
theorem dX5_copy_89 : decode cX5_copy 89 = .ok (.ifCond .eq 19, 3) := by decide +kernel
theorem dX5_copy_92 : decode cX5_copy 92 = .ok (.aload_n 0, 1) := by decide +kernel
theorem dX5_copy_93 : decode cX5_copy 93 = .ok (.getfield 49, 3) := by decide +kernel
theorem dX5_copy_96 : decode cX5_copy 96 = .ok (.iload_n 3, 1) := by decide +kernel
theorem dX5_copy_97 : decode cX5_copy 97 = .ok (.aaload, 1) := by decide +kernel
theorem dX5_copy_98 : decode cX5_copy 98 = .ok (.iload 4, 2) := by decide +kernel
theorem dX5_copy_100 : decode cX5_copy 100 = .ok (.iload 5, 2) := by decide +kernel
theorem dX5_copy_102 : decode cX5_copy 102 = .ok (.invokevirtual 256, 3) := by decide +kernel
theorem dX5_copy_105 : decode cX5_copy 105 = .ok (.ifCond .ne 9, 3) := by decide +kernel
theorem dX5_copy_108 : decode cX5_copy 108 = .ok (.aload_n 0, 1) := by decide +kernel
theorem dX5_copy_109 : decode cX5_copy 109 = .ok (.iconst 0, 1) := by decide +kernel
theorem dX5_copy_110 : decode cX5_copy 110 = .ok (.invokevirtual 73, 3) := by decide +kernel
theorem dX5_copy_113 : decode cX5_copy 113 = .ok (.ireturn, 1) := by decide +kernel
theorem dX5_copy_114 : decode cX5_copy 114 = .ok (.aload_n 0, 1) := by decide +kernel
theorem dX5_copy_115 : decode cX5_copy 115 = .ok (.getfield 49, 3) := by decide +kernel
theorem dX5_copy_118 : decode cX5_copy 118 = .ok (.iload_n 1, 1) := by decide +kernel
theorem dX5_copy_119 : decode cX5_copy 119 = .ok (.aaload, 1) := by decide +kernel
theorem dX5_copy_120 : decode cX5_copy 120 = .ok (.getfield 259, 3) := by decide +kernel
theorem dX5_copy_123 : decode cX5_copy 123 = .ok (.iload_n 2, 1) := by decide +kernel
theorem dX5_copy_124 : decode cX5_copy 124 = .ok (.aload_n 0, 1) := by decide +kernel
theorem dX5_copy_125 : decode cX5_copy 125 = .ok (.getfield 49, 3) := by decide +kernel
theorem dX5_copy_128 : decode cX5_copy 128 = .ok (.iload_n 3, 1) := by decide +kernel
theorem dX5_copy_129 : decode cX5_copy 129 = .ok (.aaload, 1) := by decide +kernel
theorem dX5_copy_130 : decode cX5_copy 130 = .ok (.getfield 259, 3) := by decide +kernel
theorem dX5_copy_133 : decode cX5_copy 133 = .ok (.iload 4, 2) := by decide +kernel
theorem dX5_copy_135 : decode cX5_copy 135 = .ok (.iload 5, 2) := by decide +kernel
theorem dX5_copy_137 : decode cX5_copy 137 = .ok (.invokestatic 262, 3) := by decide +kernel
theorem dX5_copy_140 : decode cX5_copy 140 = .ok (.iload 5, 2) := by decide +kernel
theorem dX5_copy_142 : decode cX5_copy 142 = .ok (.ireturn, 1) := by decide +kernel
theorem dX5_load_0 : decode cX5_load 0 = .ok (.aload_n 0, 1) := by decide +kernel
theorem dX5_load_1 : decode cX5_load 1 = .ok (.iload_n 1, 1) := by decide +kernel
theorem dX5_load_2 : decode cX5_load 2 = .ok (.invokevirtual 244, 3) := by decide +kernel
theorem dX5_load_5 : decode cX5_load 5 = .ok (.istore_n 2, 1) := by decide +kernel
theorem dX5_load_6 : decode cX5_load 6 = .ok (.iload_n 2, 1) := by decide +kernel
theorem dX5_load_7 : decode cX5_load 7 = .ok (.iconst (-1), 1) := by decide +kernel
theorem dX5_load_8 : decode cX5_load 8 = .ok (.if_icmp .eq 9, 3) := by decide +kernel
theorem dX5_load_11 : decode cX5_load 11 = .ok (.aload_n 0, 1) := by decide +kernel
theorem dX5_load_12 : decode cX5_load 12 = .ok (.iload_n 2, 1) := by decide +kernel
theorem dX5_load_13 : decode cX5_load 13 = .ok (.invokevirtual 73, 3) := by decide +kernel
theorem dX5_load_16 : decode cX5_load 16 = .ok (.ireturn, 1) := by decide +kernel
theorem dX5_load_17 : decode cX5_load 17 = .ok (.iconst 0, 1) := by decide +kernel
theorem dX5_load_18 : decode cX5_load 18 = .ok (.istore_n 3, 1) := by decide +kernel
theorem dX5_load_19 : decode cX5_load 19 = .ok (.iconst 0, 1) := by decide +kernel
theorem dX5_load_20 : decode cX5_load 20 = .ok (.istore 4, 2) := by decide +kernel
theorem dX5_load_22 : decode cX5_load 22 = .ok (.iload 4, 2) := by decide +kernel
theorem dX5_load_24 : decode cX5_load 24 = .ok (.aload_n 0, 1) := by decide +kernel
theorem dX5_load_25 : decode cX5_load 25 = .ok (.getfield 49, 3) := by decide +kernel
theorem dX5_load_28 : decode cX5_load 28 = .ok (.iload_n 1, 1) := by decide +kernel
theorem dX5_load_29 : decode cX5_load 29 = .ok (.aaload, 1) := by decide +kernel
theorem dX5_load_30 : decode cX5_load 30 = .ok (.getfield 243, 3) := by decide +kernel
theorem dX5_load_33 : decode cX5_load 33 = .ok (.if_icmp .ge 64, 3) := by decide +kernel
theorem dX5_load_36 : decode cX5_load 36 = .ok (.aload_n 0, 1) := by decide +kernel
theorem dX5_load_37 : decode cX5_load 37 = .ok (.getfield 49, 3) := by decide +kernel
theorem dX5_load_40 : decode cX5_load 40 = .ok (.iload_n 1, 1) := by decide +kernel
theorem dX5_load_41 : decode cX5_load 41 = .ok (.aaload, 1) := by decide +kernel
theorem dX5_load_42 : decode cX5_load 42 = .ok (.getfield 259, 3) := by decide +kernel
theorem dX5_load_45 : decode cX5_load 45 = .ok (.iload 4, 2) := by decide +kernel
theorem dX5_load_47 : decode cX5_load 47 = .ok (.iaload, 1) := by decide +kernel
theorem dX5_load_48 : decode cX5_load 48 = .ok (.istore 5, 2) := by decide +kernel
theorem dX5_load_50 : decode cX5_load 50 = .ok (.iload 5, 2) := by decide +kernel
theorem dX5_load_52 : decode cX5_load 52 = .ok (.invokestatic 66, 3) := by decide +kernel
theorem dX5_load_55 : decode cX5_load 55 = .ok (.ifCond .eq 42, 3) := by decide +kernel
theorem dX5_load_58 : decode cX5_load 58 = .ok (.aload_n 0, 1) := by decide +kernel
theorem dX5_load_59 : decode cX5_load 59 = .ok (.getfield 10, 3) := by decide +kernel
theorem dX5_load_62 : decode cX5_load 62 = .ok (.iload 4, 2) := by decide +kernel
theorem dX5_load_64 : decode cX5_load 64 = .ok (.invokevirtual 85, 3) := by decide +kernel
theorem dX5_load_67 : decode cX5_load 67 = .ok (.ifCond .ne 6, 3) := by decide +kernel
theorem dX5_load_70 : decode cX5_load 70 = .ok (.goto 27, 3) := by decide +kernel
theorem dX5_load_73 : decode cX5_load 73 = .ok (.aload_n 0, 1) := by decide +kernel
theorem dX5_load_74 : decode cX5_load 74 = .ok (.getfield 10, 3) := by decide +kernel
theorem dX5_load_77 : decode cX5_load 77 = .ok (.getfield 88, 3) := by decide +kernel
theorem dX5_load_80 : decode cX5_load 80 = .ok (.iload 4, 2) := by decide +kernel
theorem dX5_load_82 : decode cX5_load 82 = .ok (.aaload, 1) := by decide +kernel
theorem dX5_load_83 : decode cX5_load 83 = .ok (.iload 5, 2) := by decide +kernel
theorem dX5_load_85 : decode cX5_load 85 = .ok (.putfield 199, 3) := by decide +kernel
theorem dX5_load_88 : decode cX5_load 88 = .ok (.iinc 3 1, 3) := by decide +kernel
theorem dX5_load_91 : decode cX5_load 91 = .ok (.iinc 4 1, 3) := by decide +kernel
theorem dX5_load_94 : decode cX5_load 94 = .ok (.goto (-72), 3) := by decide +kernel
theorem dX5_load_97 : decode cX5_load 97 = .ok (.iload_n 3, 1) := by decide +kernel
theorem dX5_load_98 : decode cX5_load 98 = .ok (.ireturn, 1) := by decide +kernel
theorem dX5_judge_0 : decode cX5_judge 0 = .ok (.aload_n 0, 1) := by decide +kernel
theorem dX5_judge_1 : decode cX5_judge 1 = .ok (.iload_n 1, 1) := by decide +kernel
theorem dX5_judge_2 : decode cX5_judge 2 = .ok (.invokevirtual 268, 3) := by decide +kernel
theorem dX5_judge_5 : decode cX5_judge 5 = .ok (.istore_n 2, 1) := by decide +kernel
theorem dX5_judge_6 : decode cX5_judge 6 = .ok (.iload_n 2, 1) := by decide +kernel
theorem dX5_judge_7 : decode cX5_judge 7 = .ok (.iconst (-1), 1) := by decide +kernel
theorem dX5_judge_8 : decode cX5_judge 8 = .ok (.if_icmp .eq 9, 3) := by decide +kernel
theorem dX5_judge_11 : decode cX5_judge 11 = .ok (.aload_n 0, 1) := by decide +kernel
theorem dX5_judge_12 : decode cX5_judge 12 = .ok (.iload_n 2, 1) := by decide +kernel
theorem dX5_judge_13 : decode cX5_judge 13 = .ok (.invokevirtual 73, 3) := by decide +kernel
theorem dX5_judge_16 : decode cX5_judge 16 = .ok (.ireturn, 1) := by decide +kernel
theorem dX5_judge_17 : decode cX5_judge 17 = .ok (.aload_n 0, 1) := by decide +kernel
theorem dX5_judge_18 : decode cX5_judge 18 = .ok (.invokevirtual 126, 3) := by decide +kernel
theorem dX5_judge_21 : decode cX5_judge 21 = .ok (.istore_n 3, 1) := by decide +kernel
theorem dX5_judge_22 : decode cX5_judge 22 = .ok (.iconst 0, 1) := by decide +kernel
theorem dX5_judge_23 : decode cX5_judge 23 = .ok (.istore 4, 2) := by decide +kernel
theorem dX5_judge_25 : decode cX5_judge 25 = .ok (.iconst 0, 1) := by decide +kernel
theorem dX5_judge_26 : decode cX5_judge 26 = .ok (.istore 5, 2) := by decide +kernel
theorem dX5_judge_28 : decode cX5_judge 28 = .ok (.iload 5, 2) := by decide +kernel
theorem dX5_judge_30 : decode cX5_judge 30 = .ok (.aload_n 0, 1) := by decide +kernel
theorem dX5_judge_31 : decode cX5_judge 31 = .ok (.getfield 10, 3) := by decide +kernel
theorem dX5_judge_34 : decode cX5_judge 34 = .ok (.getfield 77, 3) := by decide +kernel
theorem dX5_judge_37 : decode cX5_judge 37 = .ok (.if_icmp .ge 56, 3) := by decide +kernel
theorem dX5_judge_40 : decode cX5_judge 40 = .ok (.iload 5, 2) := by decide +kernel
theorem dX5_judge_42 : decode cX5_judge 42 = .ok (.iload_n 3, 1) := by decide +kernel
theorem dX5_judge_43 : decode cX5_judge 43 = .ok (.invokestatic 179, 3) := by decide +kernel
theorem dX5_judge_46 : decode cX5_judge 46 = .ok (.ifCond .eq 41, 3) := by decide +kernel
theorem dX5_judge_49 : decode cX5_judge 49 = .ok (.aload_n 0, 1) := by decide +kernel
theorem dX5_judge_50 : decode cX5_judge 50 = .ok (.getfield 49, 3) := by decide +kernel
theorem dX5_judge_53 : decode cX5_judge 53 = .ok (.iload_n 1, 1) := by decide +kernel
theorem dX5_judge_54 : decode cX5_judge 54 = .ok (.aaload, 1) := by decide +kernel
theorem dX5_judge_55 : decode cX5_judge 55 = .ok (.aload_n 0, 1) := by decide +kernel
theorem dX5_judge_56 : decode cX5_judge 56 = .ok (.getfield 10, 3) := by decide +kernel
theorem dX5_judge_59 : decode cX5_judge 59 = .ok (.getfield 88, 3) := by decide +kernel
theorem dX5_judge_62 : decode cX5_judge 62 = .ok (.iload 5, 2) := by decide +kernel
theorem dX5_judge_64 : decode cX5_judge 64 = .ok (.aaload, 1) := by decide +kernel
theorem dX5_judge_65 : decode cX5_judge 65 = .ok (.aload_n 0, 1) := by decide +kernel
theorem dX5_judge_66 : decode cX5_judge 66 = .ok (.getfield 10, 3) := by decide +kernel
theorem dX5_judge_69 : decode cX5_judge 69 = .ok (.getfield 92, 3) := by decide +kernel
theorem dX5_judge_72 : decode cX5_judge 72 = .ok (.invokevirtual 271, 3) := by decide +kernel
theorem dX5_judge_75 : decode cX5_judge 75 = .ok (.ifCond .eq 12, 3) := by decide +kernel
theorem dX5_judge_78 : decode cX5_judge 78 = .ok (.iload 4, 2) := by decide +kernel
theorem dX5_judge_80 : decode cX5_judge 80 = .ok (.iconst 1, 1) := by decide +kernel
theorem dX5_judge_81 : decode cX5_judge 81 = .ok (.iload 5, 2) := by decide +kernel
theorem dX5_judge_83 : decode cX5_judge 83 = .ok (.ishl, 1) := by decide +kernel
theorem dX5_judge_84 : decode cX5_judge 84 = .ok (.ior, 1) := by decide +kernel
theorem dX5_judge_85 : decode cX5_judge 85 = .ok (.istore 4, 2) := by decide +kernel
theorem dX5_judge_87 : decode cX5_judge 87 = .ok (.iinc 5 1, 3) := by decide +kernel
theorem dX5_judge_90 : decode cX5_judge 90 = .ok (.goto (-62), 3) := by decide +kernel
theorem dX5_judge_93 : decode cX5_judge 93 = .ok (.iload 4, 2) := by decide +kernel
theorem dX5_judge_95 : decode cX5_judge 95 = .ok (.ireturn, 1) := by decide +kernel
theorem dX5_maps_0 : decode cX5_maps 0 = .ok (.aload_n 0, 1) := by decide +kernel
theorem dX5_maps_1 : decode cX5_maps 1 = .ok (.iload_n 1, 1) := by decide +kernel
theorem dX5_maps_2 : decode cX5_maps 2 = .ok (.invokevirtual 268, 3) := by decide +kernel
theorem dX5_maps_5 : decode cX5_maps 5 = .ok (.istore_n 2, 1) := by decide +kernel
theorem dX5_maps_6 : decode cX5_maps 6 = .ok (.iload_n 2, 1) := by decide +kernel
theorem dX5_maps_7 : decode cX5_maps 7 = .ok (.iconst (-1), 1) := by decide +kernel
theorem dX5_maps_8 : decode cX5_maps 8 = .ok (.if_icmp .eq 9, 3) := by decide +kernel
theorem dX5_maps_11 : decode cX5_maps 11 = .ok (.aload_n 0, 1) := by decide +kernel
theorem dX5_maps_12 : decode cX5_maps 12 = .ok (.iload_n 2, 1) := by decide +kernel
theorem dX5_maps_13 : decode cX5_maps 13 = .ok (.invokevirtual 73, 3) := by decide +kernel
theorem dX5_maps_16 : decode cX5_maps 16 = .ok (.ireturn, 1) := by decide +kernel
theorem dX5_maps_17 : decode cX5_maps 17 = .ok (.aload_n 0, 1) := by decide +kernel
theorem dX5_maps_18 : decode cX5_maps 18 = .ok (.aload_n 0, 1) := by decide +kernel
theorem dX5_maps_19 : decode cX5_maps 19 = .ok (.invokevirtual 126, 3) := by decide +kernel
theorem dX5_maps_22 : decode cX5_maps 22 = .ok (.aload_n 0, 1) := by decide +kernel
theorem dX5_maps_23 : decode cX5_maps 23 = .ok (.getfield 10, 3) := by decide +kernel
theorem dX5_maps_26 : decode cX5_maps 26 = .ok (.getfield 92, 3) := by decide +kernel
theorem dX5_maps_29 : decode cX5_maps 29 = .ok (.invokevirtual 202, 3) := by decide +kernel
theorem dX5_maps_32 : decode cX5_maps 32 = .ok (.iconst 1, 1) := by decide +kernel
theorem dX5_maps_33 : decode cX5_maps 33 = .ok (.istore_n 3, 1) := by decide +kernel
theorem dX5_maps_34 : decode cX5_maps 34 = .ok (.iload_n 3, 1) := by decide +kernel
theorem dX5_maps_35 : decode cX5_maps 35 = .ok (.aload_n 0, 1) := by decide +kernel
theorem dX5_maps_36 : decode cX5_maps 36 = .ok (.getfield 49, 3) := by decide +kernel
theorem dX5_maps_39 : decode cX5_maps 39 = .ok (.iload_n 1, 1) := by decide +kernel
theorem dX5_maps_40 : decode cX5_maps 40 = .ok (.aaload, 1) := by decide +kernel
theorem dX5_maps_41 : decode cX5_maps 41 = .ok (.getfield 243, 3) := by decide +kernel
theorem dX5_maps_44 : decode cX5_maps 44 = .ok (.if_icmp .ge 47, 3) := by decide +kernel
theorem dX5_maps_47 : decode cX5_maps 47 = .ok (.aload_n 0, 1) := by decide +kernel
theorem dX5_maps_48 : decode cX5_maps 48 = .ok (.getfield 49, 3) := by decide +kernel
theorem dX5_maps_51 : decode cX5_maps 51 = .ok (.iload_n 1, 1) := by decide +kernel
theorem dX5_maps_52 : decode cX5_maps 52 = .ok (.aaload, 1) := by decide +kernel
theorem dX5_maps_53 : decode cX5_maps 53 = .ok (.getfield 259, 3) := by decide +kernel
theorem dX5_maps_56 : decode cX5_maps 56 = .ok (.iload_n 3, 1) := by decide +kernel
theorem dX5_maps_57 : decode cX5_maps 57 = .ok (.iaload, 1) := by decide +kernel
theorem dX5_maps_58 : decode cX5_maps 58 = .ok (.aload_n 0, 1) := by decide +kernel
theorem dX5_maps_59 : decode cX5_maps 59 = .ok (.getfield 49, 3) := by decide +kernel
theorem dX5_maps_62 : decode cX5_maps 62 = .ok (.iload_n 1, 1) := by decide +kernel
theorem dX5_maps_63 : decode cX5_maps 63 = .ok (.aaload, 1) := by decide +kernel
theorem dX5_maps_64 : decode cX5_maps 64 = .ok (.getfield 259, 3) := by decide +kernel
theorem dX5_maps_67 : decode cX5_maps 67 = .ok (.iconst 0, 1) := by decide +kernel
theorem dX5_maps_68 : decode cX5_maps 68 = .ok (.iaload, 1) := by decide +kernel
theorem dX5_maps_69 : decode cX5_maps 69 = .ok (.isub, 1) := by decide +kernel
theorem dX5_maps_70 : decode cX5_maps 70 = .ok (.istore 4, 2) := by decide +kernel
theorem dX5_maps_72 : decode cX5_maps 72 = .ok (.aload_n 0, 1) := by decide +kernel
theorem dX5_maps_73 : decode cX5_maps 73 = .ok (.getfield 29, 3) := by decide +kernel
theorem dX5_maps_76 : decode cX5_maps 76 = .ok (.iconst 0, 1) := by decide +kernel
theorem dX5_maps_77 : decode cX5_maps 77 = .ok (.iload_n 3, 1) := by decide +kernel
theorem dX5_maps_78 : decode cX5_maps 78 = .ok (.iload 4, 2) := by decide +kernel
theorem dX5_maps_80 : decode cX5_maps 80 = .ok (.iload 4, 2) := by decide +kernel
theorem dX5_maps_82 : decode cX5_maps 82 = .ok (.invokevirtual 274, 3) := by decide +kernel
theorem dX5_maps_85 : decode cX5_maps 85 = .ok (.iinc 3 1, 3) := by decide +kernel
theorem dX5_maps_88 : decode cX5_maps 88 = .ok (.goto (-54), 3) := by decide +kernel
theorem dX5_maps_91 : decode cX5_maps 91 = .ok (.aload_n 0, 1) := by decide +kernel
theorem dX5_maps_92 : decode cX5_maps 92 = .ok (.getfield 29, 3) := by decide +kernel
theorem dX5_maps_95 : decode cX5_maps 95 = .ok (.getfield 205, 3) := by decide +kernel
theorem dX5_maps_98 : decode cX5_maps 98 = .ok (.ifCond .eq 7, 3) := by decide +kernel
theorem dX5_maps_101 : decode cX5_maps 101 = .ok (.iconst 1, 1) := by decide +kernel
theorem dX5_maps_102 : decode cX5_maps 102 = .ok (.goto 4, 3) := by decide +kernel
theorem dX5_maps_105 : decode cX5_maps 105 = .ok (.iconst 0, 1) := by decide +kernel
theorem dX5_maps_106 : decode cX5_maps 106 = .ok (.ireturn, 1) := by decide +kernel
theorem dX5_image_0 : decode cX5_image 0 = .ok (.aload_n 0, 1) := by decide +kernel
theorem dX5_image_1 : decode cX5_image 1 = .ok (.getfield 19, 3) := by decide +kernel
theorem dX5_image_4 : decode cX5_image 4 = .ok (.aload_n 0, 1) := by decide +kernel
theorem dX5_image_5 : decode cX5_image 5 = .ok (.getfield 10, 3) := by decide +kernel
theorem dX5_image_8 : decode cX5_image 8 = .ok (.invokevirtual 223, 3) := by decide +kernel
theorem dX5_image_11 : decode cX5_image 11 = .ok (.aload_n 0, 1) := by decide +kernel
theorem dX5_image_12 : decode cX5_image 12 = .ok (.iconst 1, 1) := by decide +kernel
theorem dX5_image_13 : decode cX5_image 13 = .ok (.putfield 22, 3) := by decide +kernel
theorem dX5_image_16 : decode cX5_image 16 = .ok (.iconst 1, 1) := by decide +kernel
theorem dX5_image_17 : decode cX5_image 17 = .ok (.ireturn, 1) := by decide +kernel
theorem dX5_undo_0 : decode cX5_undo 0 = .ok (.aload_n 0, 1) := by decide +kernel
theorem dX5_undo_1 : decode cX5_undo 1 = .ok (.getfield 22, 3) := by decide +kernel
theorem dX5_undo_4 : decode cX5_undo 4 = .ok (.ifCond .ne 9, 3) := by decide +kernel
theorem dX5_undo_7 : decode cX5_undo 7 = .ok (.aload_n 0, 1) := by decide +kernel
theorem dX5_undo_8 : decode cX5_undo 8 = .ok (.iconst 3, 1) := by decide +kernel
theorem dX5_undo_9 : decode cX5_undo 9 = .ok (.invokevirtual 73, 3) := by decide +kernel
theorem dX5_undo_12 : decode cX5_undo 12 = .ok (.ireturn, 1) := by decide +kernel
theorem dX5_undo_13 : decode cX5_undo 13 = .ok (.aload_n 0, 1) := by decide +kernel
theorem dX5_undo_14 : decode cX5_undo 14 = .ok (.getfield 10, 3) := by decide +kernel
theorem dX5_undo_17 : decode cX5_undo 17 = .ok (.aload_n 0, 1) := by decide +kernel
theorem dX5_undo_18 : decode cX5_undo 18 = .ok (.getfield 19, 3) := by decide +kernel
theorem dX5_undo_21 : decode cX5_undo 21 = .ok (.invokevirtual 223, 3) := by decide +kernel
theorem dX5_undo_24 : decode cX5_undo 24 = .ok (.aload_n 0, 1) := by decide +kernel
theorem dX5_undo_25 : decode cX5_undo 25 = .ok (.getfield 10, 3) := by decide +kernel
theorem dX5_undo_28 : decode cX5_undo 28 = .ok (.getfield 107, 3) := by decide +kernel
theorem dX5_undo_31 : decode cX5_undo 31 = .ok (.ireturn, 1) := by decide +kernel
theorem dX5_tear_0 : decode cX5_tear 0 = .ok (.aload_n 0, 1) := by decide +kernel
theorem dX5_tear_1 : decode cX5_tear 1 = .ok (.getfield 22, 3) := by decide +kernel
theorem dX5_tear_4 : decode cX5_tear 4 = .ok (.ifCond .eq 7, 3) := by decide +kernel
theorem dX5_tear_7 : decode cX5_tear 7 = .ok (.iconst 1, 1) := by decide +kernel
theorem dX5_tear_8 : decode cX5_tear 8 = .ok (.goto 4, 3) := by decide +kernel
theorem dX5_tear_11 : decode cX5_tear 11 = .ok (.iconst 0, 1) := by decide +kernel
theorem dX5_tear_12 : decode cX5_tear 12 = .ok (.istore_n 1, 1) := by decide +kernel
theorem dX5_tear_13 : decode cX5_tear 13 = .ok (.aload_n 0, 1) := by decide +kernel
theorem dX5_tear_14 : decode cX5_tear 14 = .ok (.iconst 0, 1) := by decide +kernel
theorem dX5_tear_15 : decode cX5_tear 15 = .ok (.putfield 22, 3) := by decide +kernel
theorem dX5_tear_18 : decode cX5_tear 18 = .ok (.iload_n 1, 1) := by decide +kernel
theorem dX5_tear_19 : decode cX5_tear 19 = .ok (.ireturn, 1) := by decide +kernel
theorem dX5_count_0 : decode cX5_count 0 = .ok (.iload_n 1, 1) := by decide +kernel
theorem dX5_count_1 : decode cX5_count 1 = .ok (.tableswitch 114 0 7 #[47, 55, 63, 71, 82, 90, 98, 106], 47) := by decide +kernel
theorem dX5_count_48 : decode cX5_count 48 = .ok (.aload_n 0, 1) := by decide +kernel
theorem dX5_count_49 : decode cX5_count 49 = .ok (.getfield 10, 3) := by decide +kernel
theorem dX5_count_52 : decode cX5_count 52 = .ok (.getfield 107, 3) := by decide +kernel
theorem dX5_count_55 : decode cX5_count 55 = .ok (.ireturn, 1) := by decide +kernel
theorem dX5_count_56 : decode cX5_count 56 = .ok (.aload_n 0, 1) := by decide +kernel
theorem dX5_count_57 : decode cX5_count 57 = .ok (.getfield 10, 3) := by decide +kernel
theorem dX5_count_60 : decode cX5_count 60 = .ok (.getfield 77, 3) := by decide +kernel
theorem dX5_count_63 : decode cX5_count 63 = .ok (.ireturn, 1) := by decide +kernel
theorem dX5_count_64 : decode cX5_count 64 = .ok (.aload_n 0, 1) := by decide +kernel
theorem dX5_count_65 : decode cX5_count 65 = .ok (.invokevirtual 126, 3) := by decide +kernel
theorem dX5_count_68 : decode cX5_count 68 = .ok (.invokestatic 171, 3) := by decide +kernel
theorem dX5_count_71 : decode cX5_count 71 = .ok (.ireturn, 1) := by decide +kernel
theorem dX5_count_72 : decode cX5_count 72 = .ok (.aload_n 0, 1) := by decide +kernel
theorem dX5_count_73 : decode cX5_count 73 = .ok (.getfield 10, 3) := by decide +kernel
theorem dX5_count_76 : decode cX5_count 76 = .ok (.invokevirtual 133, 3) := by decide +kernel
theorem dX5_count_79 : decode cX5_count 79 = .ok (.invokestatic 171, 3) := by decide +kernel
theorem dX5_count_82 : decode cX5_count 82 = .ok (.ireturn, 1) := by decide +kernel
theorem dX5_count_83 : decode cX5_count 83 = .ok (.aload_n 0, 1) := by decide +kernel
theorem dX5_count_84 : decode cX5_count 84 = .ok (.getfield 10, 3) := by decide +kernel
theorem dX5_count_87 : decode cX5_count 87 = .ok (.invokevirtual 278, 3) := by decide +kernel
theorem dX5_count_90 : decode cX5_count 90 = .ok (.ireturn, 1) := by decide +kernel
theorem dX5_count_91 : decode cX5_count 91 = .ok (.aload_n 0, 1) := by decide +kernel
theorem dX5_count_92 : decode cX5_count 92 = .ok (.getfield 43, 3) := by decide +kernel
theorem dX5_count_95 : decode cX5_count 95 = .ok (.getfield 217, 3) := by decide +kernel
theorem dX5_count_98 : decode cX5_count 98 = .ok (.ireturn, 1) := by decide +kernel
theorem dX5_count_99 : decode cX5_count 99 = .ok (.aload_n 0, 1) := by decide +kernel
theorem dX5_count_100 : decode cX5_count 100 = .ok (.getfield 10, 3) := by decide +kernel
theorem dX5_count_103 : decode cX5_count 103 = .ok (.getfield 214, 3) := by decide +kernel
theorem dX5_count_106 : decode cX5_count 106 = .ok (.ireturn, 1) := by decide +kernel
theorem dX5_count_107 : decode cX5_count 107 = .ok (.aload_n 0, 1) := by decide +kernel
theorem dX5_count_108 : decode cX5_count 108 = .ok (.getfield 10, 3) := by decide +kernel
theorem dX5_count_111 : decode cX5_count 111 = .ok (.invokevirtual 281, 3) := by decide +kernel
theorem dX5_count_114 : decode cX5_count 114 = .ok (.ireturn, 1) := by decide +kernel
theorem dX5_count_115 : decode cX5_count 115 = .ok (.aload_n 0, 1) := by decide +kernel
theorem dX5_count_116 : decode cX5_count 116 = .ok (.iconst 0, 1) := by decide +kernel
theorem dX5_count_117 : decode cX5_count 117 = .ok (.invokevirtual 73, 3) := by decide +kernel
theorem dX5_count_120 : decode cX5_count 120 = .ok (.ireturn, 1) := by decide +kernel
theorem dX5_status_0 : decode cX5_status 0 = .ok (.iload_n 1, 1) := by decide +kernel
theorem dX5_status_1 : decode cX5_status 1 = .ok (.iconst (-1), 1) := by decide +kernel
theorem dX5_status_2 : decode cX5_status 2 = .ok (.bipush 6, 2) := by decide +kernel
theorem dX5_status_4 : decode cX5_status 4 = .ok (.invokestatic 69, 3) := by decide +kernel
theorem dX5_status_7 : decode cX5_status 7 = .ok (.ifCond .ne 9, 3) := by decide +kernel
theorem dX5_status_10 : decode cX5_status 10 = .ok (.aload_n 0, 1) := by decide +kernel
theorem dX5_status_11 : decode cX5_status 11 = .ok (.iconst 0, 1) := by decide +kernel
theorem dX5_status_12 : decode cX5_status 12 = .ok (.invokevirtual 73, 3) := by decide +kernel
theorem dX5_status_15 : decode cX5_status 15 = .ok (.ireturn, 1) := by decide +kernel
theorem dX5_status_16 : decode cX5_status 16 = .ok (.iload_n 1, 1) := by decide +kernel
theorem dX5_status_17 : decode cX5_status 17 = .ok (.ifCond .lt 10, 3) := by decide +kernel
theorem dX5_status_20 : decode cX5_status 20 = .ok (.aload_n 0, 1) := by decide +kernel
theorem dX5_status_21 : decode cX5_status 21 = .ok (.getfield 53, 3) := by decide +kernel
theorem dX5_status_24 : decode cX5_status 24 = .ok (.iload_n 1, 1) := by decide +kernel
theorem dX5_status_25 : decode cX5_status 25 = .ok (.iaload, 1) := by decide +kernel
theorem dX5_status_26 : decode cX5_status 26 = .ok (.ireturn, 1) := by decide +kernel
theorem dX5_status_27 : decode cX5_status 27 = .ok (.iconst 0, 1) := by decide +kernel
theorem dX5_status_28 : decode cX5_status 28 = .ok (.istore_n 2, 1) := by decide +kernel
theorem dX5_status_29 : decode cX5_status 29 = .ok (.iconst 0, 1) := by decide +kernel
theorem dX5_status_30 : decode cX5_status 30 = .ok (.istore_n 3, 1) := by decide +kernel
theorem dX5_status_31 : decode cX5_status 31 = .ok (.iload_n 3, 1) := by decide +kernel
theorem dX5_status_32 : decode cX5_status 32 = .ok (.bipush 7, 2) := by decide +kernel
theorem dX5_status_34 : decode cX5_status 34 = .ok (.if_icmp .ge 18, 3) := by decide +kernel
theorem dX5_status_37 : decode cX5_status 37 = .ok (.iload_n 2, 1) := by decide +kernel
theorem dX5_status_38 : decode cX5_status 38 = .ok (.aload_n 0, 1) := by decide +kernel
theorem dX5_status_39 : decode cX5_status 39 = .ok (.getfield 53, 3) := by decide +kernel
theorem dX5_status_42 : decode cX5_status 42 = .ok (.iload_n 3, 1) := by decide +kernel
theorem dX5_status_43 : decode cX5_status 43 = .ok (.iaload, 1) := by decide +kernel
theorem dX5_status_44 : decode cX5_status 44 = .ok (.iadd, 1) := by decide +kernel
theorem dX5_status_45 : decode cX5_status 45 = .ok (.istore_n 2, 1) := by decide +kernel
theorem dX5_status_46 : decode cX5_status 46 = .ok (.iinc 3 1, 3) := by decide +kernel
theorem dX5_status_49 : decode cX5_status 49 = .ok (.goto (-18), 3) := by decide +kernel
theorem dX5_status_52 : decode cX5_status 52 = .ok (.iload_n 2, 1) := by decide +kernel
theorem dX5_status_53 : decode cX5_status 53 = .ok (.ireturn, 1) := by decide +kernel
theorem dX5_finding_0 : decode cX5_finding 0 = .ok (.aload_n 0, 1) := by decide +kernel
theorem dX5_finding_1 : decode cX5_finding 1 = .ok (.getfield 53, 3) := by decide +kernel
theorem dX5_finding_4 : decode cX5_finding 4 = .ok (.iload_n 1, 1) := by decide +kernel
theorem dX5_finding_5 : decode cX5_finding 5 = .ok (.dup2, 1) := by decide +kernel
theorem dX5_finding_6 : decode cX5_finding 6 = .ok (.iaload, 1) := by decide +kernel
theorem dX5_finding_7 : decode cX5_finding 7 = .ok (.iconst 1, 1) := by decide +kernel
theorem dX5_finding_8 : decode cX5_finding 8 = .ok (.iadd, 1) := by decide +kernel
theorem dX5_finding_9 : decode cX5_finding 9 = .ok (.iastore, 1) := by decide +kernel
theorem dX5_finding_10 : decode cX5_finding 10 = .ok (.ldc_w 284, 3) := by decide +kernel
theorem dX5_finding_13 : decode cX5_finding 13 = .ok (.iload_n 1, 1) := by decide +kernel
theorem dX5_finding_14 : decode cX5_finding 14 = .ok (.isub, 1) := by decide +kernel
theorem dX5_finding_15 : decode cX5_finding 15 = .ok (.ireturn, 1) := by decide +kernel
theorem dX5_counting_0 : decode cX5_counting 0 = .ok (.aload_n 0, 1) := by decide +kernel
theorem dX5_counting_1 : decode cX5_counting 1 = .ok (.getfield 10, 3) := by decide +kernel
theorem dX5_counting_4 : decode cX5_counting 4 = .ok (.aload_n 0, 1) := by decide +kernel
theorem dX5_counting_5 : decode cX5_counting 5 = .ok (.getfield 10, 3) := by decide +kernel
theorem dX5_counting_8 : decode cX5_counting 8 = .ok (.getfield 107, 3) := by decide +kernel
theorem dX5_counting_11 : decode cX5_counting 11 = .ok (.invokevirtual 162, 3) := by decide +kernel
theorem dX5_counting_14 : decode cX5_counting 14 = .ok (.ireturn, 1) := by decide +kernel
theorem dX5_canHold_0 : decode cX5_canHold 0 = .ok (.aload_n 0, 1) := by decide +kernel
theorem dX5_canHold_1 : decode cX5_canHold 1 = .ok (.iload_n 1, 1) := by decide +kernel
theorem dX5_canHold_2 : decode cX5_canHold 2 = .ok (.aload_n 0, 1) := by decide +kernel
theorem dX5_canHold_3 : decode cX5_canHold 3 = .ok (.getfield 10, 3) := by decide +kernel
theorem dX5_canHold_6 : decode cX5_canHold 6 = .ok (.getfield 92, 3) := by decide +kernel
theorem dX5_canHold_9 : decode cX5_canHold 9 = .ok (.invokevirtual 202, 3) := by decide +kernel
theorem dX5_canHold_12 : decode cX5_canHold 12 = .ok (.aload_n 0, 1) := by decide +kernel
theorem dX5_canHold_13 : decode cX5_canHold 13 = .ok (.getfield 29, 3) := by decide +kernel
theorem dX5_canHold_16 : decode cX5_canHold 16 = .ok (.getfield 205, 3) := by decide +kernel
theorem dX5_canHold_19 : decode cX5_canHold 19 = .ok (.ireturn, 1) := by decide +kernel
theorem dX5_drawChart_0 : decode cX5_drawChart 0 = .ok (.aload_n 0, 1) := by decide +kernel
theorem dX5_drawChart_1 : decode cX5_drawChart 1 = .ok (.getfield 29, 3) := by decide +kernel
theorem dX5_drawChart_4 : decode cX5_drawChart 4 = .ok (.invokevirtual 285, 3) := by decide +kernel
theorem dX5_drawChart_7 : decode cX5_drawChart 7 = .ok (.iconst 0, 1) := by decide +kernel
theorem dX5_drawChart_8 : decode cX5_drawChart 8 = .ok (.istore_n 3, 1) := by decide +kernel
theorem dX5_drawChart_9 : decode cX5_drawChart 9 = .ok (.iload_n 3, 1) := by decide +kernel
theorem dX5_drawChart_10 : decode cX5_drawChart 10 = .ok (.aload_n 0, 1) := by decide +kernel
theorem dX5_drawChart_11 : decode cX5_drawChart 11 = .ok (.getfield 10, 3) := by decide +kernel
theorem dX5_drawChart_14 : decode cX5_drawChart 14 = .ok (.getfield 77, 3) := by decide +kernel
theorem dX5_drawChart_17 : decode cX5_drawChart 17 = .ok (.if_icmp .ge 67, 3) := by decide +kernel
theorem dX5_drawChart_20 : decode cX5_drawChart 20 = .ok (.aload_n 0, 1) := by decide +kernel
theorem dX5_drawChart_21 : decode cX5_drawChart 21 = .ok (.getfield 29, 3) := by decide +kernel
theorem dX5_drawChart_24 : decode cX5_drawChart 24 = .ok (.getfield 205, 3) := by decide +kernel
theorem dX5_drawChart_27 : decode cX5_drawChart 27 = .ok (.ifCond .eq 57, 3) := by decide +kernel
theorem dX5_drawChart_30 : decode cX5_drawChart 30 = .ok (.iload_n 3, 1) := by decide +kernel
theorem dX5_drawChart_31 : decode cX5_drawChart 31 = .ok (.iload_n 1, 1) := by decide +kernel
theorem dX5_drawChart_32 : decode cX5_drawChart 32 = .ok (.invokestatic 179, 3) := by decide +kernel
theorem dX5_drawChart_35 : decode cX5_drawChart 35 = .ok (.ifCond .eq 43, 3) := by decide +kernel
theorem dX5_drawChart_38 : decode cX5_drawChart 38 = .ok (.aload_n 0, 1) := by decide +kernel
theorem dX5_drawChart_39 : decode cX5_drawChart 39 = .ok (.getfield 10, 3) := by decide +kernel
theorem dX5_drawChart_42 : decode cX5_drawChart 42 = .ok (.getfield 88, 3) := by decide +kernel
theorem dX5_drawChart_45 : decode cX5_drawChart 45 = .ok (.iload_n 3, 1) := by decide +kernel
theorem dX5_drawChart_46 : decode cX5_drawChart 46 = .ok (.aaload, 1) := by decide +kernel
theorem dX5_drawChart_47 : decode cX5_drawChart 47 = .ok (.astore 4, 2) := by decide +kernel
theorem dX5_drawChart_49 : decode cX5_drawChart 49 = .ok (.aload_n 0, 1) := by decide +kernel
theorem dX5_drawChart_50 : decode cX5_drawChart 50 = .ok (.getfield 29, 3) := by decide +kernel
theorem dX5_drawChart_53 : decode cX5_drawChart 53 = .ok (.aload 4, 2) := by decide +kernel
theorem dX5_drawChart_55 : decode cX5_drawChart 55 = .ok (.getfield 288, 3) := by decide +kernel
theorem dX5_drawChart_58 : decode cX5_drawChart 58 = .ok (.aload 4, 2) := by decide +kernel
theorem dX5_drawChart_60 : decode cX5_drawChart 60 = .ok (.getfield 291, 3) := by decide +kernel
theorem dX5_drawChart_63 : decode cX5_drawChart 63 = .ok (.aload 4, 2) := by decide +kernel
theorem dX5_drawChart_65 : decode cX5_drawChart 65 = .ok (.iload_n 2, 1) := by decide +kernel
theorem dX5_drawChart_66 : decode cX5_drawChart 66 = .ok (.invokevirtual 95, 3) := by decide +kernel
theorem dX5_drawChart_69 : decode cX5_drawChart 69 = .ok (.aload 4, 2) := by decide +kernel
theorem dX5_drawChart_71 : decode cX5_drawChart 71 = .ok (.iload_n 2, 1) := by decide +kernel
theorem dX5_drawChart_72 : decode cX5_drawChart 72 = .ok (.invokevirtual 98, 3) := by decide +kernel
theorem dX5_drawChart_75 : decode cX5_drawChart 75 = .ok (.invokevirtual 274, 3) := by decide +kernel
theorem dX5_drawChart_78 : decode cX5_drawChart 78 = .ok (.iinc 3 1, 3) := by decide +kernel
theorem dX5_drawChart_81 : decode cX5_drawChart 81 = .ok (.goto (-72), 3) := by decide +kernel
theorem dX5_drawChart_84 : decode cX5_drawChart 84 = .ok (.return_, 1) := by decide +kernel
theorem dX5_startGuess_0 : decode cX5_startGuess 0 = .ok (.aload_n 0, 1) := by decide +kernel
theorem dX5_startGuess_1 : decode cX5_startGuess 1 = .ok (.getfield 36, 3) := by decide +kernel
theorem dX5_startGuess_4 : decode cX5_startGuess 4 = .ok (.aload_n 0, 1) := by decide +kernel
theorem dX5_startGuess_5 : decode cX5_startGuess 5 = .ok (.getfield 10, 3) := by decide +kernel
theorem dX5_startGuess_8 : decode cX5_startGuess 8 = .ok (.getfield 88, 3) := by decide +kernel
theorem dX5_startGuess_11 : decode cX5_startGuess 11 = .ok (.iload_n 1, 1) := by decide +kernel
theorem dX5_startGuess_12 : decode cX5_startGuess 12 = .ok (.aaload, 1) := by decide +kernel
theorem dX5_startGuess_13 : decode cX5_startGuess 13 = .ok (.invokevirtual 294, 3) := by decide +kernel
theorem dX5_startGuess_16 : decode cX5_startGuess 16 = .ok (.aload_n 0, 1) := by decide +kernel
theorem dX5_startGuess_17 : decode cX5_startGuess 17 = .ok (.iload_n 1, 1) := by decide +kernel
theorem dX5_startGuess_18 : decode cX5_startGuess 18 = .ok (.aload_n 0, 1) := by decide +kernel
theorem dX5_startGuess_19 : decode cX5_startGuess 19 = .ok (.invokevirtual 126, 3) := by decide +kernel
theorem dX5_startGuess_22 : decode cX5_startGuess 22 = .ok (.invokestatic 182, 3) := by decide +kernel
theorem dX5_startGuess_25 : decode cX5_startGuess 25 = .ok (.aload_n 0, 1) := by decide +kernel
theorem dX5_startGuess_26 : decode cX5_startGuess 26 = .ok (.getfield 10, 3) := by decide +kernel
theorem dX5_startGuess_29 : decode cX5_startGuess 29 = .ok (.getfield 92, 3) := by decide +kernel
theorem dX5_startGuess_32 : decode cX5_startGuess 32 = .ok (.invokevirtual 202, 3) := by decide +kernel
theorem dX5_startGuess_35 : decode cX5_startGuess 35 = .ok (.return_, 1) := by decide +kernel
theorem dX5_guessFits_0 : decode cX5_guessFits 0 = .ok (.aload_n 0, 1) := by decide +kernel
theorem dX5_guessFits_1 : decode cX5_guessFits 1 = .ok (.getfield 29, 3) := by decide +kernel
theorem dX5_guessFits_4 : decode cX5_guessFits 4 = .ok (.getfield 205, 3) := by decide +kernel
theorem dX5_guessFits_7 : decode cX5_guessFits 7 = .ok (.ifCond .eq 24, 3) := by decide +kernel
theorem dX5_guessFits_10 : decode cX5_guessFits 10 = .ok (.aload_n 0, 1) := by decide +kernel
theorem dX5_guessFits_11 : decode cX5_guessFits 11 = .ok (.getfield 10, 3) := by decide +kernel
theorem dX5_guessFits_14 : decode cX5_guessFits 14 = .ok (.aload_n 0, 1) := by decide +kernel
theorem dX5_guessFits_15 : decode cX5_guessFits 15 = .ok (.getfield 36, 3) := by decide +kernel
theorem dX5_guessFits_18 : decode cX5_guessFits 18 = .ok (.aload_n 0, 1) := by decide +kernel
theorem dX5_guessFits_19 : decode cX5_guessFits 19 = .ok (.getfield 10, 3) := by decide +kernel
theorem dX5_guessFits_22 : decode cX5_guessFits 22 = .ok (.getfield 107, 3) := by decide +kernel
theorem dX5_guessFits_25 : decode cX5_guessFits 25 = .ok (.invokevirtual 110, 3) := by decide +kernel
theorem dX5_guessFits_28 : decode cX5_guessFits 28 = .ok (.ifCond .ne 11, 3) := by decide +kernel
theorem dX5_guessFits_31 : decode cX5_guessFits 31 = .ok (.aload_n 0, 1) := by decide +kernel
theorem dX5_guessFits_32 : decode cX5_guessFits 32 = .ok (.getfield 29, 3) := by decide +kernel
theorem dX5_guessFits_35 : decode cX5_guessFits 35 = .ok (.getfield 205, 3) := by decide +kernel
theorem dX5_guessFits_38 : decode cX5_guessFits 38 = .ok (.ireturn, 1) := by decide +kernel
theorem dX5_guessFits_39 : decode cX5_guessFits 39 = .ok (.aload_n 0, 1) := by decide +kernel
theorem dX5_guessFits_40 : decode cX5_guessFits 40 = .ok (.getfield 36, 3) := by decide +kernel
theorem dX5_guessFits_43 : decode cX5_guessFits 43 = .ok (.aload_n 0, 1) := by decide +kernel
theorem dX5_guessFits_44 : decode cX5_guessFits 44 = .ok (.getfield 10, 3) := by decide +kernel
theorem dX5_guessFits_47 : decode cX5_guessFits 47 = .ok (.getfield 92, 3) := by decide +kernel
theorem dX5_guessFits_50 : decode cX5_guessFits 50 = .ok (.invokevirtual 95, 3) := by decide +kernel
theorem dX5_guessFits_53 : decode cX5_guessFits 53 = .ok (.istore_n 1, 1) := by decide +kernel
theorem dX5_guessFits_54 : decode cX5_guessFits 54 = .ok (.aload_n 0, 1) := by decide +kernel
theorem dX5_guessFits_55 : decode cX5_guessFits 55 = .ok (.getfield 29, 3) := by decide +kernel
theorem dX5_guessFits_58 : decode cX5_guessFits 58 = .ok (.aload_n 0, 1) := by decide +kernel
theorem dX5_guessFits_59 : decode cX5_guessFits 59 = .ok (.getfield 36, 3) := by decide +kernel
theorem dX5_guessFits_62 : decode cX5_guessFits 62 = .ok (.getfield 288, 3) := by decide +kernel
theorem dX5_guessFits_65 : decode cX5_guessFits 65 = .ok (.aload_n 0, 1) := by decide +kernel
theorem dX5_guessFits_66 : decode cX5_guessFits 66 = .ok (.getfield 36, 3) := by decide +kernel
theorem dX5_guessFits_69 : decode cX5_guessFits 69 = .ok (.getfield 291, 3) := by decide +kernel
theorem dX5_guessFits_72 : decode cX5_guessFits 72 = .ok (.iload_n 1, 1) := by decide +kernel
theorem dX5_guessFits_73 : decode cX5_guessFits 73 = .ok (.aload_n 0, 1) := by decide +kernel
theorem dX5_guessFits_74 : decode cX5_guessFits 74 = .ok (.getfield 36, 3) := by decide +kernel
theorem dX5_guessFits_77 : decode cX5_guessFits 77 = .ok (.aload_n 0, 1) := by decide +kernel
theorem dX5_guessFits_78 : decode cX5_guessFits 78 = .ok (.getfield 10, 3) := by decide +kernel
theorem dX5_guessFits_81 : decode cX5_guessFits 81 = .ok (.getfield 92, 3) := by decide +kernel
theorem dX5_guessFits_84 : decode cX5_guessFits 84 = .ok (.invokevirtual 98, 3) := by decide +kernel
theorem dX5_guessFits_87 : decode cX5_guessFits 87 = .ok (.invokevirtual 158, 3) := by decide +kernel
theorem dX5_guessFits_90 : decode cX5_guessFits 90 = .ok (.ireturn, 1) := by decide +kernel
theorem dX5_fewestOut_0 : decode cX5_fewestOut 0 = .ok (.iconst 0, 1) := by decide +kernel
theorem dX5_fewestOut_1 : decode cX5_fewestOut 1 = .ok (.istore_n 3, 1) := by decide +kernel
theorem dX5_fewestOut_2 : decode cX5_fewestOut 2 = .ok (.iload_n 3, 1) := by decide +kernel
theorem dX5_fewestOut_3 : decode cX5_fewestOut 3 = .ok (.bipush 8, 2) := by decide +kernel
theorem dX5_fewestOut_5 : decode cX5_fewestOut 5 = .ok (.if_icmp .gt 52, 3) := by decide +kernel
theorem dX5_fewestOut_8 : decode cX5_fewestOut 8 = .ok (.iconst 0, 1) := by decide +kernel
theorem dX5_fewestOut_9 : decode cX5_fewestOut 9 = .ok (.istore 4, 2) := by decide +kernel
theorem dX5_fewestOut_11 : decode cX5_fewestOut 11 = .ok (.iload 4, 2) := by decide +kernel
theorem dX5_fewestOut_13 : decode cX5_fewestOut 13 = .ok (.iload_n 2, 1) := by decide +kernel
theorem dX5_fewestOut_14 : decode cX5_fewestOut 14 = .ok (.if_icmp .gt 37, 3) := by decide +kernel
theorem dX5_fewestOut_17 : decode cX5_fewestOut 17 = .ok (.iload 4, 2) := by decide +kernel
theorem dX5_fewestOut_19 : decode cX5_fewestOut 19 = .ok (.iload_n 2, 1) := by decide +kernel
theorem dX5_fewestOut_20 : decode cX5_fewestOut 20 = .ok (.iload_n 3, 1) := by decide +kernel
theorem dX5_fewestOut_21 : decode cX5_fewestOut 21 = .ok (.invokestatic 176, 3) := by decide +kernel
theorem dX5_fewestOut_24 : decode cX5_fewestOut 24 = .ok (.ifCond .eq 21, 3) := by decide +kernel
theorem dX5_fewestOut_27 : decode cX5_fewestOut 27 = .ok (.aload_n 0, 1) := by decide +kernel
theorem dX5_fewestOut_28 : decode cX5_fewestOut 28 = .ok (.iload_n 1, 1) := by decide +kernel
theorem dX5_fewestOut_29 : decode cX5_fewestOut 29 = .ok (.iload_n 2, 1) := by decide +kernel
theorem dX5_fewestOut_30 : decode cX5_fewestOut 30 = .ok (.iload 4, 2) := by decide +kernel
theorem dX5_fewestOut_32 : decode cX5_fewestOut 32 = .ok (.iconst (-1), 1) := by decide +kernel
theorem dX5_fewestOut_33 : decode cX5_fewestOut 33 = .ok (.ixor, 1) := by decide +kernel
theorem dX5_fewestOut_34 : decode cX5_fewestOut 34 = .ok (.iand, 1) := by decide +kernel
theorem dX5_fewestOut_35 : decode cX5_fewestOut 35 = .ok (.ior, 1) := by decide +kernel
theorem dX5_fewestOut_36 : decode cX5_fewestOut 36 = .ok (.invokevirtual 136, 3) := by decide +kernel
theorem dX5_fewestOut_39 : decode cX5_fewestOut 39 = .ok (.ifCond .eq 6, 3) := by decide +kernel
theorem dX5_fewestOut_42 : decode cX5_fewestOut 42 = .ok (.iload 4, 2) := by decide +kernel
theorem dX5_fewestOut_44 : decode cX5_fewestOut 44 = .ok (.ireturn, 1) := by decide +kernel
theorem dX5_fewestOut_45 : decode cX5_fewestOut 45 = .ok (.iinc 4 1, 3) := by decide +kernel
theorem dX5_fewestOut_48 : decode cX5_fewestOut 48 = .ok (.goto (-37), 3) := by decide +kernel
theorem dX5_fewestOut_51 : decode cX5_fewestOut 51 = .ok (.iinc 3 1, 3) := by decide +kernel
theorem dX5_fewestOut_54 : decode cX5_fewestOut 54 = .ok (.goto (-52), 3) := by decide +kernel
theorem dX5_fewestOut_57 : decode cX5_fewestOut 57 = .ok (.iload_n 2, 1) := by decide +kernel
theorem dX5_fewestOut_58 : decode cX5_fewestOut 58 = .ok (.ireturn, 1) := by decide +kernel
theorem dX5_isPick_0 : decode cX5_isPick 0 = .ok (.iload_n 0, 1) := by decide +kernel
theorem dX5_isPick_1 : decode cX5_isPick 1 = .ok (.iload_n 1, 1) := by decide +kernel
theorem dX5_isPick_2 : decode cX5_isPick 2 = .ok (.iconst (-1), 1) := by decide +kernel
theorem dX5_isPick_3 : decode cX5_isPick 3 = .ok (.ixor, 1) := by decide +kernel
theorem dX5_isPick_4 : decode cX5_isPick 4 = .ok (.iand, 1) := by decide +kernel
theorem dX5_isPick_5 : decode cX5_isPick 5 = .ok (.ifCond .ne 15, 3) := by decide +kernel
theorem dX5_isPick_8 : decode cX5_isPick 8 = .ok (.iload_n 0, 1) := by decide +kernel
theorem dX5_isPick_9 : decode cX5_isPick 9 = .ok (.invokestatic 171, 3) := by decide +kernel
theorem dX5_isPick_12 : decode cX5_isPick 12 = .ok (.iload_n 2, 1) := by decide +kernel
theorem dX5_isPick_13 : decode cX5_isPick 13 = .ok (.if_icmp .ne 7, 3) := by decide +kernel
theorem dX5_isPick_16 : decode cX5_isPick 16 = .ok (.iconst 1, 1) := by decide +kernel
theorem dX5_isPick_17 : decode cX5_isPick 17 = .ok (.goto 4, 3) := by decide +kernel
theorem dX5_isPick_20 : decode cX5_isPick 20 = .ok (.iconst 0, 1) := by decide +kernel
theorem dX5_isPick_21 : decode cX5_isPick 21 = .ok (.ireturn, 1) := by decide +kernel
theorem dX5_isIn_0 : decode cX5_isIn 0 = .ok (.iload_n 1, 1) := by decide +kernel
theorem dX5_isIn_1 : decode cX5_isIn 1 = .ok (.iload_n 0, 1) := by decide +kernel
theorem dX5_isIn_2 : decode cX5_isIn 2 = .ok (.ishr, 1) := by decide +kernel
theorem dX5_isIn_3 : decode cX5_isIn 3 = .ok (.iconst 1, 1) := by decide +kernel
theorem dX5_isIn_4 : decode cX5_isIn 4 = .ok (.iand, 1) := by decide +kernel
theorem dX5_isIn_5 : decode cX5_isIn 5 = .ok (.iconst 1, 1) := by decide +kernel
theorem dX5_isIn_6 : decode cX5_isIn 6 = .ok (.if_icmp .ne 7, 3) := by decide +kernel
theorem dX5_isIn_9 : decode cX5_isIn 9 = .ok (.iconst 1, 1) := by decide +kernel
theorem dX5_isIn_10 : decode cX5_isIn 10 = .ok (.goto 4, 3) := by decide +kernel
theorem dX5_isIn_13 : decode cX5_isIn 13 = .ok (.iconst 0, 1) := by decide +kernel
theorem dX5_isIn_14 : decode cX5_isIn 14 = .ok (.ireturn, 1) := by decide +kernel
theorem dX5_without_0 : decode cX5_without 0 = .ok (.iload_n 1, 1) := by decide +kernel
theorem dX5_without_1 : decode cX5_without 1 = .ok (.iconst 1, 1) := by decide +kernel
theorem dX5_without_2 : decode cX5_without 2 = .ok (.iload_n 0, 1) := by decide +kernel
theorem dX5_without_3 : decode cX5_without 3 = .ok (.ishl, 1) := by decide +kernel
theorem dX5_without_4 : decode cX5_without 4 = .ok (.iconst (-1), 1) := by decide +kernel
theorem dX5_without_5 : decode cX5_without 5 = .ok (.ixor, 1) := by decide +kernel
theorem dX5_without_6 : decode cX5_without 6 = .ok (.iand, 1) := by decide +kernel
theorem dX5_without_7 : decode cX5_without 7 = .ok (.ireturn, 1) := by decide +kernel
theorem dX5_within_0 : decode cX5_within 0 = .ok (.iload_n 0, 1) := by decide +kernel
theorem dX5_within_1 : decode cX5_within 1 = .ok (.iload_n 1, 1) := by decide +kernel
theorem dX5_within_2 : decode cX5_within 2 = .ok (.if_icmp .lt 12, 3) := by decide +kernel
theorem dX5_within_5 : decode cX5_within 5 = .ok (.iload_n 0, 1) := by decide +kernel
theorem dX5_within_6 : decode cX5_within 6 = .ok (.iload_n 2, 1) := by decide +kernel
theorem dX5_within_7 : decode cX5_within 7 = .ok (.if_icmp .gt 7, 3) := by decide +kernel
theorem dX5_within_10 : decode cX5_within 10 = .ok (.iconst 1, 1) := by decide +kernel
theorem dX5_within_11 : decode cX5_within 11 = .ok (.goto 4, 3) := by decide +kernel
theorem dX5_within_14 : decode cX5_within 14 = .ok (.iconst 0, 1) := by decide +kernel
theorem dX5_within_15 : decode cX5_within 15 = .ok (.ireturn, 1) := by decide +kernel
theorem dX5_isKind_0 : decode cX5_isKind 0 = .ok (.iload_n 0, 1) := by decide +kernel
theorem dX5_isKind_1 : decode cX5_isKind 1 = .ok (.iconst 0, 1) := by decide +kernel
theorem dX5_isKind_2 : decode cX5_isKind 2 = .ok (.bipush 6, 2) := by decide +kernel
theorem dX5_isKind_4 : decode cX5_isKind 4 = .ok (.invokestatic 69, 3) := by decide +kernel
theorem dX5_isKind_7 : decode cX5_isKind 7 = .ok (.ireturn, 1) := by decide +kernel
theorem dX5_isTown_0 : decode cX5_isTown 0 = .ok (.iload_n 0, 1) := by decide +kernel
theorem dX5_isTown_1 : decode cX5_isTown 1 = .ok (.iconst 0, 1) := by decide +kernel
theorem dX5_isTown_2 : decode cX5_isTown 2 = .ok (.bipush 7, 2) := by decide +kernel
theorem dX5_isTown_4 : decode cX5_isTown 4 = .ok (.invokestatic 69, 3) := by decide +kernel
theorem dX5_isTown_7 : decode cX5_isTown 7 = .ok (.ireturn, 1) := by decide +kernel
theorem dX5_arePair_0 : decode cX5_arePair 0 = .ok (.iload_n 0, 1) := by decide +kernel
theorem dX5_arePair_1 : decode cX5_arePair 1 = .ok (.invokestatic 149, 3) := by decide +kernel
theorem dX5_arePair_4 : decode cX5_arePair 4 = .ok (.ifCond .eq 19, 3) := by decide +kernel
theorem dX5_arePair_7 : decode cX5_arePair 7 = .ok (.iload_n 1, 1) := by decide +kernel
theorem dX5_arePair_8 : decode cX5_arePair 8 = .ok (.invokestatic 149, 3) := by decide +kernel
theorem dX5_arePair_11 : decode cX5_arePair 11 = .ok (.ifCond .eq 12, 3) := by decide +kernel
theorem dX5_arePair_14 : decode cX5_arePair 14 = .ok (.iload_n 0, 1) := by decide +kernel
theorem dX5_arePair_15 : decode cX5_arePair 15 = .ok (.iload_n 1, 1) := by decide +kernel
theorem dX5_arePair_16 : decode cX5_arePair 16 = .ok (.if_icmp .eq 7, 3) := by decide +kernel
theorem dX5_arePair_19 : decode cX5_arePair 19 = .ok (.iconst 1, 1) := by decide +kernel
theorem dX5_arePair_20 : decode cX5_arePair 20 = .ok (.goto 4, 3) := by decide +kernel
theorem dX5_arePair_23 : decode cX5_arePair 23 = .ok (.iconst 0, 1) := by decide +kernel
theorem dX5_arePair_24 : decode cX5_arePair 24 = .ok (.ireturn, 1) := by decide +kernel
theorem dX5_areDays_0 : decode cX5_areDays 0 = .ok (.iload_n 0, 1) := by decide +kernel
theorem dX5_areDays_1 : decode cX5_areDays 1 = .ok (.bipush (-99), 2) := by decide +kernel
theorem dX5_areDays_3 : decode cX5_areDays 3 = .ok (.bipush 99, 2) := by decide +kernel
theorem dX5_areDays_5 : decode cX5_areDays 5 = .ok (.invokestatic 69, 3) := by decide +kernel
theorem dX5_areDays_8 : decode cX5_areDays 8 = .ok (.ireturn, 1) := by decide +kernel
theorem dX5_isPart_0 : decode cX5_isPart 0 = .ok (.iload_n 1, 1) := by decide +kernel
theorem dX5_isPart_1 : decode cX5_isPart 1 = .ok (.tableswitch 83 0 5 #[39, 44, 53, 62, 67, 76], 39) := by decide +kernel
theorem dX5_isPart_40 : decode cX5_isPart 40 = .ok (.iload_n 2, 1) := by decide +kernel
theorem dX5_isPart_41 : decode cX5_isPart 41 = .ok (.invokestatic 58, 3) := by decide +kernel
theorem dX5_isPart_44 : decode cX5_isPart 44 = .ok (.ireturn, 1) := by decide +kernel
theorem dX5_isPart_45 : decode cX5_isPart 45 = .ok (.iload_n 2, 1) := by decide +kernel
theorem dX5_isPart_46 : decode cX5_isPart 46 = .ok (.aload_n 0, 1) := by decide +kernel
theorem dX5_isPart_47 : decode cX5_isPart 47 = .ok (.getfield 291, 3) := by decide +kernel
theorem dX5_isPart_50 : decode cX5_isPart 50 = .ok (.invokestatic 62, 3) := by decide +kernel
theorem dX5_isPart_53 : decode cX5_isPart 53 = .ok (.ireturn, 1) := by decide +kernel
theorem dX5_isPart_54 : decode cX5_isPart 54 = .ok (.aload_n 0, 1) := by decide +kernel
theorem dX5_isPart_55 : decode cX5_isPart 55 = .ok (.getfield 288, 3) := by decide +kernel
theorem dX5_isPart_58 : decode cX5_isPart 58 = .ok (.iload_n 2, 1) := by decide +kernel
theorem dX5_isPart_59 : decode cX5_isPart 59 = .ok (.invokestatic 62, 3) := by decide +kernel
theorem dX5_isPart_62 : decode cX5_isPart 62 = .ok (.ireturn, 1) := by decide +kernel
theorem dX5_isPart_63 : decode cX5_isPart 63 = .ok (.iload_n 2, 1) := by decide +kernel
theorem dX5_isPart_64 : decode cX5_isPart 64 = .ok (.invokestatic 66, 3) := by decide +kernel
theorem dX5_isPart_67 : decode cX5_isPart 67 = .ok (.ireturn, 1) := by decide +kernel
theorem dX5_isPart_68 : decode cX5_isPart 68 = .ok (.iload_n 2, 1) := by decide +kernel
theorem dX5_isPart_69 : decode cX5_isPart 69 = .ok (.iconst 0, 1) := by decide +kernel
theorem dX5_isPart_70 : decode cX5_isPart 70 = .ok (.sipush 999, 3) := by decide +kernel
theorem dX5_isPart_73 : decode cX5_isPart 73 = .ok (.invokestatic 69, 3) := by decide +kernel
theorem dX5_isPart_76 : decode cX5_isPart 76 = .ok (.ireturn, 1) := by decide +kernel
theorem dX5_isPart_77 : decode cX5_isPart 77 = .ok (.iload_n 2, 1) := by decide +kernel
theorem dX5_isPart_78 : decode cX5_isPart 78 = .ok (.iconst 0, 1) := by decide +kernel
theorem dX5_isPart_79 : decode cX5_isPart 79 = .ok (.iconst 1, 1) := by decide +kernel
theorem dX5_isPart_80 : decode cX5_isPart 80 = .ok (.invokestatic 69, 3) := by decide +kernel
theorem dX5_isPart_83 : decode cX5_isPart 83 = .ok (.ireturn, 1) := by decide +kernel
theorem dX5_isPart_84 : decode cX5_isPart 84 = .ok (.iconst 0, 1) := by decide +kernel
theorem dX5_isPart_85 : decode cX5_isPart 85 = .ok (.ireturn, 1) := by decide +kernel
theorem dX5_isUnder_0 : decode cX5_isUnder 0 = .ok (.iload_n 0, 1) := by decide +kernel
theorem dX5_isUnder_1 : decode cX5_isUnder 1 = .ok (.istore_n 2, 1) := by decide +kernel
theorem dX5_isUnder_2 : decode cX5_isUnder 2 = .ok (.iconst 0, 1) := by decide +kernel
theorem dX5_isUnder_3 : decode cX5_isUnder 3 = .ok (.istore_n 3, 1) := by decide +kernel
theorem dX5_isUnder_4 : decode cX5_isUnder 4 = .ok (.iload_n 3, 1) := by decide +kernel
theorem dX5_isUnder_5 : decode cX5_isUnder 5 = .ok (.bipush 7, 2) := by decide +kernel
theorem dX5_isUnder_7 : decode cX5_isUnder 7 = .ok (.if_icmp .ge 26, 3) := by decide +kernel
theorem dX5_isUnder_10 : decode cX5_isUnder 10 = .ok (.iload_n 2, 1) := by decide +kernel
theorem dX5_isUnder_11 : decode cX5_isUnder 11 = .ok (.iconst (-1), 1) := by decide +kernel
theorem dX5_isUnder_12 : decode cX5_isUnder 12 = .ok (.if_icmp .eq 21, 3) := by decide +kernel
theorem dX5_isUnder_15 : decode cX5_isUnder 15 = .ok (.iload_n 2, 1) := by decide +kernel
theorem dX5_isUnder_16 : decode cX5_isUnder 16 = .ok (.iload_n 1, 1) := by decide +kernel
theorem dX5_isUnder_17 : decode cX5_isUnder 17 = .ok (.if_icmp .ne 5, 3) := by decide +kernel
theorem dX5_isUnder_20 : decode cX5_isUnder 20 = .ok (.iconst 1, 1) := by decide +kernel
theorem dX5_isUnder_21 : decode cX5_isUnder 21 = .ok (.ireturn, 1) := by decide +kernel
theorem dX5_isUnder_22 : decode cX5_isUnder 22 = .ok (.iload_n 2, 1) := by decide +kernel
theorem dX5_isUnder_23 : decode cX5_isUnder 23 = .ok (.invokestatic 297, 3) := by decide +kernel
theorem dX5_isUnder_26 : decode cX5_isUnder 26 = .ok (.istore_n 2, 1) := by decide +kernel
theorem dX5_isUnder_27 : decode cX5_isUnder 27 = .ok (.iinc 3 1, 3) := by decide +kernel
theorem dX5_isUnder_30 : decode cX5_isUnder 30 = .ok (.goto (-26), 3) := by decide +kernel
theorem dX5_isUnder_33 : decode cX5_isUnder 33 = .ok (.iconst 0, 1) := by decide +kernel
theorem dX5_isUnder_34 : decode cX5_isUnder 34 = .ok (.ireturn, 1) := by decide +kernel
theorem dX5_isSheet_0 : decode cX5_isSheet 0 = .ok (.iload_n 0, 1) := by decide +kernel
theorem dX5_isSheet_1 : decode cX5_isSheet 1 = .ok (.iconst 0, 1) := by decide +kernel
theorem dX5_isSheet_2 : decode cX5_isSheet 2 = .ok (.iconst 3, 1) := by decide +kernel
theorem dX5_isSheet_3 : decode cX5_isSheet 3 = .ok (.invokestatic 69, 3) := by decide +kernel
theorem dX5_isSheet_6 : decode cX5_isSheet 6 = .ok (.ireturn, 1) := by decide +kernel
theorem dX5_sheetTrouble_0 : decode cX5_sheetTrouble 0 = .ok (.iload_n 1, 1) := by decide +kernel
theorem dX5_sheetTrouble_1 : decode cX5_sheetTrouble 1 = .ok (.invokestatic 237, 3) := by decide +kernel
theorem dX5_sheetTrouble_4 : decode cX5_sheetTrouble 4 = .ok (.ifCond .ne 5, 3) := by decide +kernel
theorem dX5_sheetTrouble_7 : decode cX5_sheetTrouble 7 = .ok (.iconst 0, 1) := by decide +kernel
theorem dX5_sheetTrouble_8 : decode cX5_sheetTrouble 8 = .ok (.ireturn, 1) := by decide +kernel
theorem dX5_sheetTrouble_9 : decode cX5_sheetTrouble 9 = .ok (.aload_n 0, 1) := by decide +kernel
theorem dX5_sheetTrouble_10 : decode cX5_sheetTrouble 10 = .ok (.getfield 49, 3) := by decide +kernel
theorem dX5_sheetTrouble_13 : decode cX5_sheetTrouble 13 = .ok (.iload_n 1, 1) := by decide +kernel
theorem dX5_sheetTrouble_14 : decode cX5_sheetTrouble 14 = .ok (.aaload, 1) := by decide +kernel
theorem dX5_sheetTrouble_15 : decode cX5_sheetTrouble 15 = .ok (.invokevirtual 250, 3) := by decide +kernel
theorem dX5_sheetTrouble_18 : decode cX5_sheetTrouble 18 = .ok (.ifCond .eq 7, 3) := by decide +kernel
theorem dX5_sheetTrouble_21 : decode cX5_sheetTrouble 21 = .ok (.iconst 5, 1) := by decide +kernel
theorem dX5_sheetTrouble_22 : decode cX5_sheetTrouble 22 = .ok (.goto 4, 3) := by decide +kernel
theorem dX5_sheetTrouble_25 : decode cX5_sheetTrouble 25 = .ok (.iconst (-1), 1) := by decide +kernel
theorem dX5_sheetTrouble_26 : decode cX5_sheetTrouble 26 = .ok (.ireturn, 1) := by decide +kernel
theorem dX5_placesTrouble_0 : decode cX5_placesTrouble 0 = .ok (.aload_n 0, 1) := by decide +kernel
theorem dX5_placesTrouble_1 : decode cX5_placesTrouble 1 = .ok (.iload_n 1, 1) := by decide +kernel
theorem dX5_placesTrouble_2 : decode cX5_placesTrouble 2 = .ok (.invokevirtual 244, 3) := by decide +kernel
theorem dX5_placesTrouble_5 : decode cX5_placesTrouble 5 = .ok (.istore_n 2, 1) := by decide +kernel
theorem dX5_placesTrouble_6 : decode cX5_placesTrouble 6 = .ok (.iload_n 2, 1) := by decide +kernel
theorem dX5_placesTrouble_7 : decode cX5_placesTrouble 7 = .ok (.iconst (-1), 1) := by decide +kernel
theorem dX5_placesTrouble_8 : decode cX5_placesTrouble 8 = .ok (.if_icmp .eq 5, 3) := by decide +kernel
theorem dX5_placesTrouble_11 : decode cX5_placesTrouble 11 = .ok (.iload_n 2, 1) := by decide +kernel
theorem dX5_placesTrouble_12 : decode cX5_placesTrouble 12 = .ok (.ireturn, 1) := by decide +kernel
theorem dX5_placesTrouble_13 : decode cX5_placesTrouble 13 = .ok (.aload_n 0, 1) := by decide +kernel
theorem dX5_placesTrouble_14 : decode cX5_placesTrouble 14 = .ok (.getfield 49, 3) := by decide +kernel
theorem dX5_placesTrouble_17 : decode cX5_placesTrouble 17 = .ok (.iload_n 1, 1) := by decide +kernel
theorem dX5_placesTrouble_18 : decode cX5_placesTrouble 18 = .ok (.aaload, 1) := by decide +kernel
theorem dX5_placesTrouble_19 : decode cX5_placesTrouble 19 = .ok (.invokevirtual 300, 3) := by decide +kernel
theorem dX5_placesTrouble_22 : decode cX5_placesTrouble 22 = .ok (.ifCond .eq 7, 3) := by decide +kernel
theorem dX5_placesTrouble_25 : decode cX5_placesTrouble 25 = .ok (.iconst (-1), 1) := by decide +kernel
theorem dX5_placesTrouble_26 : decode cX5_placesTrouble 26 = .ok (.goto 4, 3) := by decide +kernel
theorem dX5_placesTrouble_29 : decode cX5_placesTrouble 29 = .ok (.iconst 4, 1) := by decide +kernel
theorem dX5_placesTrouble_30 : decode cX5_placesTrouble 30 = .ok (.ireturn, 1) := by decide +kernel
