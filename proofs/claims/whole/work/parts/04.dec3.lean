theorem dX6_init_0 : decode cX6_init 0 = .ok (.aload_n 0, 1) := by decide +kernel
theorem dX6_init_1 : decode cX6_init 1 = .ok (.invokespecial 1, 3) := by decide +kernel
theorem dX6_init_4 : decode cX6_init 4 = .ok (.aload_n 0, 1) := by decide +kernel
theorem dX6_init_5 : decode cX6_init 5 = .ok (.bipush 63, 2) := by decide +kernel
theorem dX6_init_7 : decode cX6_init 7 = .ok (.newarray .int, 2) := by decide +kernel
theorem dX6_init_9 : decode cX6_init 9 = .ok (.putfield 7, 3) := by decide +kernel
theorem dX6_init_12 : decode cX6_init 12 = .ok (.aload_n 0, 1) := by decide +kernel
theorem dX6_init_13 : decode cX6_init 13 = .ok (.bipush 63, 2) := by decide +kernel
theorem dX6_init_15 : decode cX6_init 15 = .ok (.newarray .int, 2) := by decide +kernel
theorem dX6_init_17 : decode cX6_init 17 = .ok (.putfield 13, 3) := by decide +kernel
theorem dX6_init_20 : decode cX6_init 20 = .ok (.aload_n 0, 1) := by decide +kernel
theorem dX6_init_21 : decode cX6_init 21 = .ok (.bipush 63, 2) := by decide +kernel
theorem dX6_init_23 : decode cX6_init 23 = .ok (.newarray .int, 2) := by decide +kernel
theorem dX6_init_25 : decode cX6_init 25 = .ok (.putfield 16, 3) := by decide +kernel
theorem dX6_init_28 : decode cX6_init 28 = .ok (.aload_n 0, 1) := by decide +kernel
theorem dX6_init_29 : decode cX6_init 29 = .ok (.bipush 8, 2) := by decide +kernel
theorem dX6_init_31 : decode cX6_init 31 = .ok (.newarray .int, 2) := by decide +kernel
theorem dX6_init_33 : decode cX6_init 33 = .ok (.putfield 19, 3) := by decide +kernel
theorem dX6_init_36 : decode cX6_init 36 = .ok (.aload_n 0, 1) := by decide +kernel
theorem dX6_init_37 : decode cX6_init 37 = .ok (.bipush 120, 2) := by decide +kernel
theorem dX6_init_39 : decode cX6_init 39 = .ok (.newarray .int, 2) := by decide +kernel
theorem dX6_init_41 : decode cX6_init 41 = .ok (.putfield 22, 3) := by decide +kernel
theorem dX6_init_44 : decode cX6_init 44 = .ok (.aload_n 0, 1) := by decide +kernel
theorem dX6_init_45 : decode cX6_init 45 = .ok (.iconst 4, 1) := by decide +kernel
theorem dX6_init_46 : decode cX6_init 46 = .ok (.newarray .int, 2) := by decide +kernel
theorem dX6_init_48 : decode cX6_init 48 = .ok (.dup, 1) := by decide +kernel
theorem dX6_init_49 : decode cX6_init 49 = .ok (.iconst 0, 1) := by decide +kernel
theorem dX6_init_50 : decode cX6_init 50 = .ok (.iconst (-1), 1) := by decide +kernel
theorem dX6_init_51 : decode cX6_init 51 = .ok (.iastore, 1) := by decide +kernel
theorem dX6_init_52 : decode cX6_init 52 = .ok (.dup, 1) := by decide +kernel
theorem dX6_init_53 : decode cX6_init 53 = .ok (.iconst 1, 1) := by decide +kernel
theorem dX6_init_54 : decode cX6_init 54 = .ok (.iconst (-1), 1) := by decide +kernel
theorem dX6_init_55 : decode cX6_init 55 = .ok (.iastore, 1) := by decide +kernel
theorem dX6_init_56 : decode cX6_init 56 = .ok (.dup, 1) := by decide +kernel
theorem dX6_init_57 : decode cX6_init 57 = .ok (.iconst 2, 1) := by decide +kernel
theorem dX6_init_58 : decode cX6_init 58 = .ok (.iconst (-1), 1) := by decide +kernel
theorem dX6_init_59 : decode cX6_init 59 = .ok (.iastore, 1) := by decide +kernel
theorem dX6_init_60 : decode cX6_init 60 = .ok (.dup, 1) := by decide +kernel
theorem dX6_init_61 : decode cX6_init 61 = .ok (.iconst 3, 1) := by decide +kernel
theorem dX6_init_62 : decode cX6_init 62 = .ok (.iconst (-1), 1) := by decide +kernel
theorem dX6_init_63 : decode cX6_init 63 = .ok (.iastore, 1) := by decide +kernel
theorem dX6_init_64 : decode cX6_init 64 = .ok (.putfield 25, 3) := by decide +kernel
theorem dX6_init_67 : decode cX6_init 67 = .ok (.aload_n 0, 1) := by decide +kernel
theorem dX6_init_68 : decode cX6_init 68 = .ok (.iconst 4, 1) := by decide +kernel
theorem dX6_init_69 : decode cX6_init 69 = .ok (.newarray .int, 2) := by decide +kernel
theorem dX6_init_71 : decode cX6_init 71 = .ok (.putfield 28, 3) := by decide +kernel
theorem dX6_init_74 : decode cX6_init 74 = .ok (.aload_n 0, 1) := by decide +kernel
theorem dX6_init_75 : decode cX6_init 75 = .ok (.sipush 160, 3) := by decide +kernel
theorem dX6_init_78 : decode cX6_init 78 = .ok (.newarray .int, 2) := by decide +kernel
theorem dX6_init_80 : decode cX6_init 80 = .ok (.putfield 31, 3) := by decide +kernel
theorem dX6_init_83 : decode cX6_init 83 = .ok (.aload_n 0, 1) := by decide +kernel
theorem dX6_init_84 : decode cX6_init 84 = .ok (.bipush 64, 2) := by decide +kernel
theorem dX6_init_86 : decode cX6_init 86 = .ok (.newarray .int, 2) := by decide +kernel
theorem dX6_init_88 : decode cX6_init 88 = .ok (.putfield 34, 3) := by decide +kernel
theorem dX6_init_91 : decode cX6_init 91 = .ok (.aload_n 0, 1) := by decide +kernel
theorem dX6_init_92 : decode cX6_init 92 = .ok (.getfield 7, 3) := by decide +kernel
theorem dX6_init_95 : decode cX6_init 95 = .ok (.iconst 4, 1) := by decide +kernel
theorem dX6_init_96 : decode cX6_init 96 = .ok (.iconst 1, 1) := by decide +kernel
theorem dX6_init_97 : decode cX6_init 97 = .ok (.iastore, 1) := by decide +kernel
theorem dX6_init_98 : decode cX6_init 98 = .ok (.iconst 0, 1) := by decide +kernel
theorem dX6_init_99 : decode cX6_init 99 = .ok (.istore_n 1, 1) := by decide +kernel
theorem dX6_init_100 : decode cX6_init 100 = .ok (.iload_n 1, 1) := by decide +kernel
theorem dX6_init_101 : decode cX6_init 101 = .ok (.bipush 10, 2) := by decide +kernel
theorem dX6_init_103 : decode cX6_init 103 = .ok (.if_icmp .ge 19, 3) := by decide +kernel
theorem dX6_init_106 : decode cX6_init 106 = .ok (.aload_n 0, 1) := by decide +kernel
theorem dX6_init_107 : decode cX6_init 107 = .ok (.getfield 7, 3) := by decide +kernel
theorem dX6_init_110 : decode cX6_init 110 = .ok (.bipush 53, 2) := by decide +kernel
theorem dX6_init_112 : decode cX6_init 112 = .ok (.iload_n 1, 1) := by decide +kernel
theorem dX6_init_113 : decode cX6_init 113 = .ok (.iadd, 1) := by decide +kernel
theorem dX6_init_114 : decode cX6_init 114 = .ok (.iconst (-1), 1) := by decide +kernel
theorem dX6_init_115 : decode cX6_init 115 = .ok (.iastore, 1) := by decide +kernel
theorem dX6_init_116 : decode cX6_init 116 = .ok (.iinc 1 1, 3) := by decide +kernel
theorem dX6_init_119 : decode cX6_init 119 = .ok (.goto (-19), 3) := by decide +kernel
theorem dX6_init_122 : decode cX6_init 122 = .ok (.return_, 1) := by decide +kernel
theorem dX6_isIn_0 : decode cX6_isIn 0 = .ok (.lload_n 0, 1) := by decide +kernel
theorem dX6_isIn_1 : decode cX6_isIn 1 = .ok (.lload_n 2, 1) := by decide +kernel
theorem dX6_isIn_2 : decode cX6_isIn 2 = .ok (.lcmp, 1) := by decide +kernel
theorem dX6_isIn_3 : decode cX6_isIn 3 = .ok (.ifCond .lt 14, 3) := by decide +kernel
theorem dX6_isIn_6 : decode cX6_isIn 6 = .ok (.lload_n 0, 1) := by decide +kernel
theorem dX6_isIn_7 : decode cX6_isIn 7 = .ok (.lload 4, 2) := by decide +kernel
theorem dX6_isIn_9 : decode cX6_isIn 9 = .ok (.lcmp, 1) := by decide +kernel
theorem dX6_isIn_10 : decode cX6_isIn 10 = .ok (.ifCond .gt 7, 3) := by decide +kernel
theorem dX6_isIn_13 : decode cX6_isIn 13 = .ok (.iconst 1, 1) := by decide +kernel
theorem dX6_isIn_14 : decode cX6_isIn 14 = .ok (.goto 4, 3) := by decide +kernel
theorem dX6_isIn_17 : decode cX6_isIn 17 = .ok (.iconst 0, 1) := by decide +kernel
theorem dX6_isIn_18 : decode cX6_isIn 18 = .ok (.ireturn, 1) := by decide +kernel
theorem dX6_finds_0 : decode cX6_finds 0 = .ok (.aload_n 0, 1) := by decide +kernel
theorem dX6_finds_1 : decode cX6_finds 1 = .ok (.getfield 19, 3) := by decide +kernel
theorem dX6_finds_4 : decode cX6_finds 4 = .ok (.iconst 0, 1) := by decide +kernel
theorem dX6_finds_5 : decode cX6_finds 5 = .ok (.dup2, 1) := by decide +kernel
theorem dX6_finds_6 : decode cX6_finds 6 = .ok (.iaload, 1) := by decide +kernel
theorem dX6_finds_7 : decode cX6_finds 7 = .ok (.iconst 1, 1) := by decide +kernel
theorem dX6_finds_8 : decode cX6_finds 8 = .ok (.iadd, 1) := by decide +kernel
theorem dX6_finds_9 : decode cX6_finds 9 = .ok (.iastore, 1) := by decide +kernel
theorem dX6_finds_10 : decode cX6_finds 10 = .ok (.aload_n 0, 1) := by decide +kernel
theorem dX6_finds_11 : decode cX6_finds 11 = .ok (.getfield 19, 3) := by decide +kernel
theorem dX6_finds_14 : decode cX6_finds 14 = .ok (.ldc 37, 2) := by decide +kernel
theorem dX6_finds_16 : decode cX6_finds 16 = .ok (.iload_n 1, 1) := by decide +kernel
theorem dX6_finds_17 : decode cX6_finds 17 = .ok (.isub, 1) := by decide +kernel
theorem dX6_finds_18 : decode cX6_finds 18 = .ok (.iconst 1, 1) := by decide +kernel
theorem dX6_finds_19 : decode cX6_finds 19 = .ok (.iadd, 1) := by decide +kernel
theorem dX6_finds_20 : decode cX6_finds 20 = .ok (.dup2, 1) := by decide +kernel
theorem dX6_finds_21 : decode cX6_finds 21 = .ok (.iaload, 1) := by decide +kernel
theorem dX6_finds_22 : decode cX6_finds 22 = .ok (.iconst 1, 1) := by decide +kernel
theorem dX6_finds_23 : decode cX6_finds 23 = .ok (.iadd, 1) := by decide +kernel
theorem dX6_finds_24 : decode cX6_finds 24 = .ok (.iastore, 1) := by decide +kernel
theorem dX6_finds_25 : decode cX6_finds 25 = .ok (.iload_n 1, 1) := by decide +kernel
theorem dX6_finds_26 : decode cX6_finds 26 = .ok (.ireturn, 1) := by decide +kernel
theorem dX6_becomes_0 : decode cX6_becomes 0 = .ok (.aload_n 0, 1) := by decide +kernel
theorem dX6_becomes_1 : decode cX6_becomes 1 = .ok (.getfield 7, 3) := by decide +kernel
theorem dX6_becomes_4 : decode cX6_becomes 4 = .ok (.iload_n 1, 1) := by decide +kernel
theorem dX6_becomes_5 : decode cX6_becomes 5 = .ok (.iaload, 1) := by decide +kernel
theorem dX6_becomes_6 : decode cX6_becomes 6 = .ok (.istore_n 3, 1) := by decide +kernel
theorem dX6_becomes_7 : decode cX6_becomes 7 = .ok (.aload_n 0, 1) := by decide +kernel
theorem dX6_becomes_8 : decode cX6_becomes 8 = .ok (.getfield 7, 3) := by decide +kernel
theorem dX6_becomes_11 : decode cX6_becomes 11 = .ok (.iload_n 1, 1) := by decide +kernel
theorem dX6_becomes_12 : decode cX6_becomes 12 = .ok (.iload_n 2, 1) := by decide +kernel
theorem dX6_becomes_13 : decode cX6_becomes 13 = .ok (.iastore, 1) := by decide +kernel
theorem dX6_becomes_14 : decode cX6_becomes 14 = .ok (.iload_n 3, 1) := by decide +kernel
theorem dX6_becomes_15 : decode cX6_becomes 15 = .ok (.ireturn, 1) := by decide +kernel
theorem dX6_copyRow_0 : decode cX6_copyRow 0 = .ok (.iconst 0, 1) := by decide +kernel
theorem dX6_copyRow_1 : decode cX6_copyRow 1 = .ok (.istore_n 2, 1) := by decide +kernel
theorem dX6_copyRow_2 : decode cX6_copyRow 2 = .ok (.iload_n 2, 1) := by decide +kernel
theorem dX6_copyRow_3 : decode cX6_copyRow 3 = .ok (.bipush 63, 2) := by decide +kernel
theorem dX6_copyRow_5 : decode cX6_copyRow 5 = .ok (.if_icmp .ge 15, 3) := by decide +kernel
theorem dX6_copyRow_8 : decode cX6_copyRow 8 = .ok (.aload_n 1, 1) := by decide +kernel
theorem dX6_copyRow_9 : decode cX6_copyRow 9 = .ok (.iload_n 2, 1) := by decide +kernel
theorem dX6_copyRow_10 : decode cX6_copyRow 10 = .ok (.aload_n 0, 1) := by decide +kernel
theorem dX6_copyRow_11 : decode cX6_copyRow 11 = .ok (.iload_n 2, 1) := by decide +kernel
theorem dX6_copyRow_12 : decode cX6_copyRow 12 = .ok (.iaload, 1) := by decide +kernel
theorem dX6_copyRow_13 : decode cX6_copyRow 13 = .ok (.iastore, 1) := by decide +kernel
theorem dX6_copyRow_14 : decode cX6_copyRow 14 = .ok (.iinc 2 1, 3) := by decide +kernel
theorem dX6_copyRow_17 : decode cX6_copyRow 17 = .ok (.goto (-15), 3) := by decide +kernel
theorem dX6_copyRow_20 : decode cX6_copyRow 20 = .ok (.return_, 1) := by decide +kernel
theorem dX6_isTown_0 : decode cX6_isTown 0 = .ok (.iload_n 0, 1) := by decide +kernel
theorem dX6_isTown_1 : decode cX6_isTown 1 = .ok (.ifCond .lt 13, 3) := by decide +kernel
theorem dX6_isTown_4 : decode cX6_isTown 4 = .ok (.iload_n 0, 1) := by decide +kernel
theorem dX6_isTown_5 : decode cX6_isTown 5 = .ok (.bipush 8, 2) := by decide +kernel
theorem dX6_isTown_7 : decode cX6_isTown 7 = .ok (.if_icmp .ge 7, 3) := by decide +kernel
theorem dX6_isTown_10 : decode cX6_isTown 10 = .ok (.iconst 1, 1) := by decide +kernel
theorem dX6_isTown_11 : decode cX6_isTown 11 = .ok (.goto 4, 3) := by decide +kernel
theorem dX6_isTown_14 : decode cX6_isTown 14 = .ok (.iconst 0, 1) := by decide +kernel
theorem dX6_isTown_15 : decode cX6_isTown 15 = .ok (.ireturn, 1) := by decide +kernel
theorem dX6_isPair_0 : decode cX6_isPair 0 = .ok (.iload_n 0, 1) := by decide +kernel
theorem dX6_isPair_1 : decode cX6_isPair 1 = .ok (.invokestatic 38, 3) := by decide +kernel
theorem dX6_isPair_4 : decode cX6_isPair 4 = .ok (.ifCond .eq 19, 3) := by decide +kernel
theorem dX6_isPair_7 : decode cX6_isPair 7 = .ok (.iload_n 1, 1) := by decide +kernel
theorem dX6_isPair_8 : decode cX6_isPair 8 = .ok (.invokestatic 38, 3) := by decide +kernel
theorem dX6_isPair_11 : decode cX6_isPair 11 = .ok (.ifCond .eq 12, 3) := by decide +kernel
theorem dX6_isPair_14 : decode cX6_isPair 14 = .ok (.iload_n 0, 1) := by decide +kernel
theorem dX6_isPair_15 : decode cX6_isPair 15 = .ok (.iload_n 1, 1) := by decide +kernel
theorem dX6_isPair_16 : decode cX6_isPair 16 = .ok (.if_icmp .eq 7, 3) := by decide +kernel
theorem dX6_isPair_19 : decode cX6_isPair 19 = .ok (.iconst 1, 1) := by decide +kernel
theorem dX6_isPair_20 : decode cX6_isPair 20 = .ok (.goto 4, 3) := by decide +kernel
theorem dX6_isPair_23 : decode cX6_isPair 23 = .ok (.iconst 0, 1) := by decide +kernel
theorem dX6_isPair_24 : decode cX6_isPair 24 = .ok (.ireturn, 1) := by decide +kernel
theorem dX6_isLetter_0 : decode cX6_isLetter 0 = .ok (.iload_n 1, 1) := by decide +kernel
theorem dX6_isLetter_1 : decode cX6_isLetter 1 = .ok (.ifCond .lt 17, 3) := by decide +kernel
theorem dX6_isLetter_4 : decode cX6_isLetter 4 = .ok (.iload_n 1, 1) := by decide +kernel
theorem dX6_isLetter_5 : decode cX6_isLetter 5 = .ok (.aload_n 0, 1) := by decide +kernel
theorem dX6_isLetter_6 : decode cX6_isLetter 6 = .ok (.getfield 7, 3) := by decide +kernel
theorem dX6_isLetter_9 : decode cX6_isLetter 9 = .ok (.iconst 0, 1) := by decide +kernel
theorem dX6_isLetter_10 : decode cX6_isLetter 10 = .ok (.iaload, 1) := by decide +kernel
theorem dX6_isLetter_11 : decode cX6_isLetter 11 = .ok (.if_icmp .ge 7, 3) := by decide +kernel
theorem dX6_isLetter_14 : decode cX6_isLetter 14 = .ok (.iconst 1, 1) := by decide +kernel
theorem dX6_isLetter_15 : decode cX6_isLetter 15 = .ok (.goto 4, 3) := by decide +kernel
theorem dX6_isLetter_18 : decode cX6_isLetter 18 = .ok (.iconst 0, 1) := by decide +kernel
theorem dX6_isLetter_19 : decode cX6_isLetter 19 = .ok (.ireturn, 1) := by decide +kernel
theorem dX6_isSet_0 : decode cX6_isSet 0 = .ok (.iload_n 1, 1) := by decide +kernel
theorem dX6_isSet_1 : decode cX6_isSet 1 = .ok (.i2l, 1) := by decide +kernel
theorem dX6_isSet_2 : decode cX6_isSet 2 = .ok (.lconst 0, 1) := by decide +kernel
theorem dX6_isSet_3 : decode cX6_isSet 3 = .ok (.iconst 1, 1) := by decide +kernel
theorem dX6_isSet_4 : decode cX6_isSet 4 = .ok (.aload_n 0, 1) := by decide +kernel
theorem dX6_isSet_5 : decode cX6_isSet 5 = .ok (.getfield 7, 3) := by decide +kernel
theorem dX6_isSet_8 : decode cX6_isSet 8 = .ok (.iconst 0, 1) := by decide +kernel
theorem dX6_isSet_9 : decode cX6_isSet 9 = .ok (.iaload, 1) := by decide +kernel
theorem dX6_isSet_10 : decode cX6_isSet 10 = .ok (.ishl, 1) := by decide +kernel
theorem dX6_isSet_11 : decode cX6_isSet 11 = .ok (.iconst 1, 1) := by decide +kernel
theorem dX6_isSet_12 : decode cX6_isSet 12 = .ok (.isub, 1) := by decide +kernel
theorem dX6_isSet_13 : decode cX6_isSet 13 = .ok (.i2l, 1) := by decide +kernel
theorem dX6_isSet_14 : decode cX6_isSet 14 = .ok (.invokestatic 42, 3) := by decide +kernel
theorem dX6_isSet_17 : decode cX6_isSet 17 = .ok (.ireturn, 1) := by decide +kernel
theorem dX6_its_0 : decode cX6_its 0 = .ok (.aload_n 0, 1) := by decide +kernel
theorem dX6_its_1 : decode cX6_its 1 = .ok (.getfield 7, 3) := by decide +kernel
theorem dX6_its_4 : decode cX6_its 4 = .ok (.iconst 5, 1) := by decide +kernel
theorem dX6_its_5 : decode cX6_its 5 = .ok (.bipush 6, 2) := by decide +kernel
theorem dX6_its_7 : decode cX6_its 7 = .ok (.iload_n 1, 1) := by decide +kernel
theorem dX6_its_8 : decode cX6_its 8 = .ok (.imul, 1) := by decide +kernel
theorem dX6_its_9 : decode cX6_its 9 = .ok (.iadd, 1) := by decide +kernel
theorem dX6_its_10 : decode cX6_its 10 = .ok (.iload_n 2, 1) := by decide +kernel
theorem dX6_its_11 : decode cX6_its 11 = .ok (.iadd, 1) := by decide +kernel
theorem dX6_its_12 : decode cX6_its 12 = .ok (.iaload, 1) := by decide +kernel
theorem dX6_its_13 : decode cX6_its 13 = .ok (.ireturn, 1) := by decide +kernel
theorem dX6_size_0 : decode cX6_size 0 = .ok (.iload_n 0, 1) := by decide +kernel
theorem dX6_size_1 : decode cX6_size 1 = .ok (.ifCond .ge 8, 3) := by decide +kernel
theorem dX6_size_4 : decode cX6_size 4 = .ok (.iload_n 0, 1) := by decide +kernel
theorem dX6_size_5 : decode cX6_size 5 = .ok (.ineg, 1) := by decide +kernel
theorem dX6_size_6 : decode cX6_size 6 = .ok (.goto 4, 3) := by decide +kernel
theorem dX6_size_9 : decode cX6_size 9 = .ok (.iload_n 0, 1) := by decide +kernel
theorem dX6_size_10 : decode cX6_size 10 = .ok (.ireturn, 1) := by decide +kernel
theorem dX6_orNone_0 : decode cX6_orNone 0 = .ok (.iload_n 1, 1) := by decide +kernel
theorem dX6_orNone_1 : decode cX6_orNone 1 = .ok (.ifCond .ge 12, 3) := by decide +kernel
theorem dX6_orNone_4 : decode cX6_orNone 4 = .ok (.aload_n 0, 1) := by decide +kernel
theorem dX6_orNone_5 : decode cX6_orNone 5 = .ok (.ldc 46, 2) := by decide +kernel
theorem dX6_orNone_7 : decode cX6_orNone 7 = .ok (.invokevirtual 47, 3) := by decide +kernel
theorem dX6_orNone_10 : decode cX6_orNone 10 = .ok (.goto 4, 3) := by decide +kernel
theorem dX6_orNone_13 : decode cX6_orNone 13 = .ok (.iload_n 1, 1) := by decide +kernel
theorem dX6_orNone_14 : decode cX6_orNone 14 = .ok (.ireturn, 1) := by decide +kernel
theorem dX6_leastOf_0 : decode cX6_leastOf 0 = .ok (.aload_n 0, 1) := by decide +kernel
theorem dX6_leastOf_1 : decode cX6_leastOf 1 = .ok (.iload_n 1, 1) := by decide +kernel
theorem dX6_leastOf_2 : decode cX6_leastOf 2 = .ok (.iconst 3, 1) := by decide +kernel
theorem dX6_leastOf_3 : decode cX6_leastOf 3 = .ok (.invokevirtual 51, 3) := by decide +kernel
theorem dX6_leastOf_6 : decode cX6_leastOf 6 = .ok (.istore_n 2, 1) := by decide +kernel
theorem dX6_leastOf_7 : decode cX6_leastOf 7 = .ok (.aload_n 0, 1) := by decide +kernel
theorem dX6_leastOf_8 : decode cX6_leastOf 8 = .ok (.iload_n 1, 1) := by decide +kernel
theorem dX6_leastOf_9 : decode cX6_leastOf 9 = .ok (.iconst 0, 1) := by decide +kernel
theorem dX6_leastOf_10 : decode cX6_leastOf 10 = .ok (.invokevirtual 51, 3) := by decide +kernel
theorem dX6_leastOf_13 : decode cX6_leastOf 13 = .ok (.tableswitch 64 1 6 #[39, 43, 45, 48, 53, 39], 39) := by decide +kernel
theorem dX6_leastOf_52 : decode cX6_leastOf 52 = .ok (.sipush (-999), 3) := by decide +kernel
theorem dX6_leastOf_55 : decode cX6_leastOf 55 = .ok (.ireturn, 1) := by decide +kernel
theorem dX6_leastOf_56 : decode cX6_leastOf 56 = .ok (.iload_n 2, 1) := by decide +kernel
theorem dX6_leastOf_57 : decode cX6_leastOf 57 = .ok (.ireturn, 1) := by decide +kernel
theorem dX6_leastOf_58 : decode cX6_leastOf 58 = .ok (.iload_n 2, 1) := by decide +kernel
theorem dX6_leastOf_59 : decode cX6_leastOf 59 = .ok (.ineg, 1) := by decide +kernel
theorem dX6_leastOf_60 : decode cX6_leastOf 60 = .ok (.ireturn, 1) := by decide +kernel
theorem dX6_leastOf_61 : decode cX6_leastOf 61 = .ok (.iload_n 2, 1) := by decide +kernel
theorem dX6_leastOf_62 : decode cX6_leastOf 62 = .ok (.ineg, 1) := by decide +kernel
theorem dX6_leastOf_63 : decode cX6_leastOf 63 = .ok (.iconst 1, 1) := by decide +kernel
theorem dX6_leastOf_64 : decode cX6_leastOf 64 = .ok (.isub, 1) := by decide +kernel
theorem dX6_leastOf_65 : decode cX6_leastOf 65 = .ok (.ireturn, 1) := by decide +kernel
theorem dX6_leastOf_66 : decode cX6_leastOf 66 = .ok (.iload_n 2, 1) := by decide +kernel
theorem dX6_leastOf_67 : decode cX6_leastOf 67 = .ok (.iconst 2, 1) := by decide +kernel
theorem dX6_leastOf_68 : decode cX6_leastOf 68 = .ok (.aload_n 0, 1) := by decide +kernel
theorem dX6_leastOf_69 : decode cX6_leastOf 69 = .ok (.getfield 7, 3) := by decide +kernel
theorem dX6_leastOf_72 : decode cX6_leastOf 72 = .ok (.iconst 2, 1) := by decide +kernel
theorem dX6_leastOf_73 : decode cX6_leastOf 73 = .ok (.iaload, 1) := by decide +kernel
theorem dX6_leastOf_74 : decode cX6_leastOf 74 = .ok (.imul, 1) := by decide +kernel
theorem dX6_leastOf_75 : decode cX6_leastOf 75 = .ok (.isub, 1) := by decide +kernel
theorem dX6_leastOf_76 : decode cX6_leastOf 76 = .ok (.ireturn, 1) := by decide +kernel
theorem dX6_leastOf_77 : decode cX6_leastOf 77 = .ok (.iload_n 2, 1) := by decide +kernel
theorem dX6_leastOf_78 : decode cX6_leastOf 78 = .ok (.aload_n 0, 1) := by decide +kernel
theorem dX6_leastOf_79 : decode cX6_leastOf 79 = .ok (.getfield 7, 3) := by decide +kernel
theorem dX6_leastOf_82 : decode cX6_leastOf 82 = .ok (.iconst 2, 1) := by decide +kernel
theorem dX6_leastOf_83 : decode cX6_leastOf 83 = .ok (.iaload, 1) := by decide +kernel
theorem dX6_leastOf_84 : decode cX6_leastOf 84 = .ok (.isub, 1) := by decide +kernel
theorem dX6_leastOf_85 : decode cX6_leastOf 85 = .ok (.ireturn, 1) := by decide +kernel
theorem dX6_mostOf_0 : decode cX6_mostOf 0 = .ok (.aload_n 0, 1) := by decide +kernel
theorem dX6_mostOf_1 : decode cX6_mostOf 1 = .ok (.iload_n 1, 1) := by decide +kernel
theorem dX6_mostOf_2 : decode cX6_mostOf 2 = .ok (.iconst 3, 1) := by decide +kernel
theorem dX6_mostOf_3 : decode cX6_mostOf 3 = .ok (.invokevirtual 51, 3) := by decide +kernel
theorem dX6_mostOf_6 : decode cX6_mostOf 6 = .ok (.istore_n 2, 1) := by decide +kernel
theorem dX6_mostOf_7 : decode cX6_mostOf 7 = .ok (.aload_n 0, 1) := by decide +kernel
theorem dX6_mostOf_8 : decode cX6_mostOf 8 = .ok (.iload_n 1, 1) := by decide +kernel
theorem dX6_mostOf_9 : decode cX6_mostOf 9 = .ok (.iconst 0, 1) := by decide +kernel
theorem dX6_mostOf_10 : decode cX6_mostOf 10 = .ok (.invokevirtual 51, 3) := by decide +kernel
theorem dX6_mostOf_13 : decode cX6_mostOf 13 = .ok (.tableswitch 67 2 6 #[35, 37, 40, 45, 56], 35) := by decide +kernel
theorem dX6_mostOf_48 : decode cX6_mostOf 48 = .ok (.iload_n 2, 1) := by decide +kernel
theorem dX6_mostOf_49 : decode cX6_mostOf 49 = .ok (.ireturn, 1) := by decide +kernel
theorem dX6_mostOf_50 : decode cX6_mostOf 50 = .ok (.iload_n 2, 1) := by decide +kernel
theorem dX6_mostOf_51 : decode cX6_mostOf 51 = .ok (.ineg, 1) := by decide +kernel
theorem dX6_mostOf_52 : decode cX6_mostOf 52 = .ok (.ireturn, 1) := by decide +kernel
theorem dX6_mostOf_53 : decode cX6_mostOf 53 = .ok (.iload_n 2, 1) := by decide +kernel
theorem dX6_mostOf_54 : decode cX6_mostOf 54 = .ok (.ineg, 1) := by decide +kernel
theorem dX6_mostOf_55 : decode cX6_mostOf 55 = .ok (.iconst 1, 1) := by decide +kernel
theorem dX6_mostOf_56 : decode cX6_mostOf 56 = .ok (.iadd, 1) := by decide +kernel
theorem dX6_mostOf_57 : decode cX6_mostOf 57 = .ok (.ireturn, 1) := by decide +kernel
theorem dX6_mostOf_58 : decode cX6_mostOf 58 = .ok (.iload_n 2, 1) := by decide +kernel
theorem dX6_mostOf_59 : decode cX6_mostOf 59 = .ok (.iconst 2, 1) := by decide +kernel
theorem dX6_mostOf_60 : decode cX6_mostOf 60 = .ok (.aload_n 0, 1) := by decide +kernel
theorem dX6_mostOf_61 : decode cX6_mostOf 61 = .ok (.getfield 7, 3) := by decide +kernel
theorem dX6_mostOf_64 : decode cX6_mostOf 64 = .ok (.iconst 2, 1) := by decide +kernel
theorem dX6_mostOf_65 : decode cX6_mostOf 65 = .ok (.iaload, 1) := by decide +kernel
theorem dX6_mostOf_66 : decode cX6_mostOf 66 = .ok (.imul, 1) := by decide +kernel
theorem dX6_mostOf_67 : decode cX6_mostOf 67 = .ok (.iadd, 1) := by decide +kernel
theorem dX6_mostOf_68 : decode cX6_mostOf 68 = .ok (.ireturn, 1) := by decide +kernel
theorem dX6_mostOf_69 : decode cX6_mostOf 69 = .ok (.iload_n 2, 1) := by decide +kernel
theorem dX6_mostOf_70 : decode cX6_mostOf 70 = .ok (.aload_n 0, 1) := by decide +kernel
theorem dX6_mostOf_71 : decode cX6_mostOf 71 = .ok (.getfield 7, 3) := by decide +kernel
theorem dX6_mostOf_74 : decode cX6_mostOf 74 = .ok (.iconst 2, 1) := by decide +kernel
theorem dX6_mostOf_75 : decode cX6_mostOf 75 = .ok (.iaload, 1) := by decide +kernel
theorem dX6_mostOf_76 : decode cX6_mostOf 76 = .ok (.iadd, 1) := by decide +kernel
theorem dX6_mostOf_77 : decode cX6_mostOf 77 = .ok (.iconst 5, 1) := by decide +kernel
theorem dX6_mostOf_78 : decode cX6_mostOf 78 = .ok (.iadd, 1) := by decide +kernel
theorem dX6_mostOf_79 : decode cX6_mostOf 79 = .ok (.ireturn, 1) := by decide +kernel
theorem dX6_mostOf_80 : decode cX6_mostOf 80 = .ok (.iload_n 2, 1) := by decide +kernel
theorem dX6_mostOf_81 : decode cX6_mostOf 81 = .ok (.aload_n 0, 1) := by decide +kernel
theorem dX6_mostOf_82 : decode cX6_mostOf 82 = .ok (.getfield 7, 3) := by decide +kernel
theorem dX6_mostOf_85 : decode cX6_mostOf 85 = .ok (.iconst 2, 1) := by decide +kernel
theorem dX6_mostOf_86 : decode cX6_mostOf 86 = .ok (.iaload, 1) := by decide +kernel
theorem dX6_mostOf_87 : decode cX6_mostOf 87 = .ok (.iadd, 1) := by decide +kernel
theorem dX6_mostOf_88 : decode cX6_mostOf 88 = .ok (.ireturn, 1) := by decide +kernel
theorem dX6_comesOn_0 : decode cX6_comesOn 0 = .ok (.aload_n 0, 1) := by decide +kernel
theorem dX6_comesOn_1 : decode cX6_comesOn 1 = .ok (.iload_n 1, 1) := by decide +kernel
theorem dX6_comesOn_2 : decode cX6_comesOn 2 = .ok (.iconst 3, 1) := by decide +kernel
theorem dX6_comesOn_3 : decode cX6_comesOn 3 = .ok (.invokevirtual 51, 3) := by decide +kernel
theorem dX6_comesOn_6 : decode cX6_comesOn 6 = .ok (.invokestatic 55, 3) := by decide +kernel
theorem dX6_comesOn_9 : decode cX6_comesOn 9 = .ok (.istore_n 2, 1) := by decide +kernel
theorem dX6_comesOn_10 : decode cX6_comesOn 10 = .ok (.aload_n 0, 1) := by decide +kernel
theorem dX6_comesOn_11 : decode cX6_comesOn 11 = .ok (.iload_n 1, 1) := by decide +kernel
theorem dX6_comesOn_12 : decode cX6_comesOn 12 = .ok (.iconst 4, 1) := by decide +kernel
theorem dX6_comesOn_13 : decode cX6_comesOn 13 = .ok (.invokevirtual 51, 3) := by decide +kernel
theorem dX6_comesOn_16 : decode cX6_comesOn 16 = .ok (.istore_n 3, 1) := by decide +kernel
theorem dX6_comesOn_17 : decode cX6_comesOn 17 = .ok (.aload_n 0, 1) := by decide +kernel
theorem dX6_comesOn_18 : decode cX6_comesOn 18 = .ok (.iload_n 1, 1) := by decide +kernel
theorem dX6_comesOn_19 : decode cX6_comesOn 19 = .ok (.iconst 0, 1) := by decide +kernel
theorem dX6_comesOn_20 : decode cX6_comesOn 20 = .ok (.invokevirtual 51, 3) := by decide +kernel
theorem dX6_comesOn_23 : decode cX6_comesOn 23 = .ok (.tableswitch 71 1 6 #[37, 52, 65, 67, 71, 43], 37) := by decide +kernel
theorem dX6_comesOn_60 : decode cX6_comesOn 60 = .ok (.iload_n 3, 1) := by decide +kernel
theorem dX6_comesOn_61 : decode cX6_comesOn 61 = .ok (.iload_n 2, 1) := by decide +kernel
theorem dX6_comesOn_62 : decode cX6_comesOn 62 = .ok (.iconst 2, 1) := by decide +kernel
theorem dX6_comesOn_63 : decode cX6_comesOn 63 = .ok (.idiv, 1) := by decide +kernel
theorem dX6_comesOn_64 : decode cX6_comesOn 64 = .ok (.iadd, 1) := by decide +kernel
theorem dX6_comesOn_65 : decode cX6_comesOn 65 = .ok (.ireturn, 1) := by decide +kernel
theorem dX6_comesOn_66 : decode cX6_comesOn 66 = .ok (.iload_n 3, 1) := by decide +kernel
theorem dX6_comesOn_67 : decode cX6_comesOn 67 = .ok (.iload_n 2, 1) := by decide +kernel
theorem dX6_comesOn_68 : decode cX6_comesOn 68 = .ok (.iconst 2, 1) := by decide +kernel
theorem dX6_comesOn_69 : decode cX6_comesOn 69 = .ok (.idiv, 1) := by decide +kernel
theorem dX6_comesOn_70 : decode cX6_comesOn 70 = .ok (.iadd, 1) := by decide +kernel
theorem dX6_comesOn_71 : decode cX6_comesOn 71 = .ok (.bipush 10, 2) := by decide +kernel
theorem dX6_comesOn_73 : decode cX6_comesOn 73 = .ok (.iadd, 1) := by decide +kernel
theorem dX6_comesOn_74 : decode cX6_comesOn 74 = .ok (.ireturn, 1) := by decide +kernel
theorem dX6_comesOn_75 : decode cX6_comesOn 75 = .ok (.iload_n 3, 1) := by decide +kernel
theorem dX6_comesOn_76 : decode cX6_comesOn 76 = .ok (.iload_n 2, 1) := by decide +kernel
theorem dX6_comesOn_77 : decode cX6_comesOn 77 = .ok (.iadd, 1) := by decide +kernel
theorem dX6_comesOn_78 : decode cX6_comesOn 78 = .ok (.aload_n 0, 1) := by decide +kernel
theorem dX6_comesOn_79 : decode cX6_comesOn 79 = .ok (.getfield 7, 3) := by decide +kernel
theorem dX6_comesOn_82 : decode cX6_comesOn 82 = .ok (.iconst 3, 1) := by decide +kernel
theorem dX6_comesOn_83 : decode cX6_comesOn 83 = .ok (.iaload, 1) := by decide +kernel
theorem dX6_comesOn_84 : decode cX6_comesOn 84 = .ok (.iadd, 1) := by decide +kernel
theorem dX6_comesOn_85 : decode cX6_comesOn 85 = .ok (.iconst 1, 1) := by decide +kernel
theorem dX6_comesOn_86 : decode cX6_comesOn 86 = .ok (.iadd, 1) := by decide +kernel
theorem dX6_comesOn_87 : decode cX6_comesOn 87 = .ok (.ireturn, 1) := by decide +kernel
theorem dX6_comesOn_88 : decode cX6_comesOn 88 = .ok (.iload_n 3, 1) := by decide +kernel
theorem dX6_comesOn_89 : decode cX6_comesOn 89 = .ok (.ireturn, 1) := by decide +kernel
theorem dX6_comesOn_90 : decode cX6_comesOn 90 = .ok (.iload_n 3, 1) := by decide +kernel
theorem dX6_comesOn_91 : decode cX6_comesOn 91 = .ok (.iconst 2, 1) := by decide +kernel
theorem dX6_comesOn_92 : decode cX6_comesOn 92 = .ok (.iadd, 1) := by decide +kernel
theorem dX6_comesOn_93 : decode cX6_comesOn 93 = .ok (.ireturn, 1) := by decide +kernel
theorem dX6_comesOn_94 : decode cX6_comesOn 94 = .ok (.iload_n 3, 1) := by decide +kernel
theorem dX6_comesOn_95 : decode cX6_comesOn 95 = .ok (.iload_n 2, 1) := by decide +kernel
theorem dX6_comesOn_96 : decode cX6_comesOn 96 = .ok (.iadd, 1) := by decide +kernel
theorem dX6_comesOn_97 : decode cX6_comesOn 97 = .ok (.aload_n 0, 1) := by decide +kernel
theorem dX6_comesOn_98 : decode cX6_comesOn 98 = .ok (.getfield 7, 3) := by decide +kernel
theorem dX6_comesOn_101 : decode cX6_comesOn 101 = .ok (.iconst 3, 1) := by decide +kernel
theorem dX6_comesOn_102 : decode cX6_comesOn 102 = .ok (.iaload, 1) := by decide +kernel
theorem dX6_comesOn_103 : decode cX6_comesOn 103 = .ok (.iadd, 1) := by decide +kernel
theorem dX6_comesOn_104 : decode cX6_comesOn 104 = .ok (.ireturn, 1) := by decide +kernel
theorem dX6_strucks_0 : decode cX6_strucks 0 = .ok (.iconst 0, 1) := by decide +kernel
theorem dX6_strucks_1 : decode cX6_strucks 1 = .ok (.istore_n 1, 1) := by decide +kernel
theorem dX6_strucks_2 : decode cX6_strucks 2 = .ok (.iconst 0, 1) := by decide +kernel
theorem dX6_strucks_3 : decode cX6_strucks 3 = .ok (.istore_n 2, 1) := by decide +kernel
theorem dX6_strucks_4 : decode cX6_strucks 4 = .ok (.iload_n 2, 1) := by decide +kernel
theorem dX6_strucks_5 : decode cX6_strucks 5 = .ok (.aload_n 0, 1) := by decide +kernel
theorem dX6_strucks_6 : decode cX6_strucks 6 = .ok (.getfield 7, 3) := by decide +kernel
theorem dX6_strucks_9 : decode cX6_strucks 9 = .ok (.iconst 0, 1) := by decide +kernel
theorem dX6_strucks_10 : decode cX6_strucks 10 = .ok (.iaload, 1) := by decide +kernel
theorem dX6_strucks_11 : decode cX6_strucks 11 = .ok (.if_icmp .ge 20, 3) := by decide +kernel
theorem dX6_strucks_14 : decode cX6_strucks 14 = .ok (.iload_n 1, 1) := by decide +kernel
theorem dX6_strucks_15 : decode cX6_strucks 15 = .ok (.aload_n 0, 1) := by decide +kernel
theorem dX6_strucks_16 : decode cX6_strucks 16 = .ok (.iload_n 2, 1) := by decide +kernel
theorem dX6_strucks_17 : decode cX6_strucks 17 = .ok (.iconst 5, 1) := by decide +kernel
theorem dX6_strucks_18 : decode cX6_strucks 18 = .ok (.invokevirtual 51, 3) := by decide +kernel
theorem dX6_strucks_21 : decode cX6_strucks 21 = .ok (.iload_n 2, 1) := by decide +kernel
theorem dX6_strucks_22 : decode cX6_strucks 22 = .ok (.ishl, 1) := by decide +kernel
theorem dX6_strucks_23 : decode cX6_strucks 23 = .ok (.ior, 1) := by decide +kernel
theorem dX6_strucks_24 : decode cX6_strucks 24 = .ok (.istore_n 1, 1) := by decide +kernel
theorem dX6_strucks_25 : decode cX6_strucks 25 = .ok (.iinc 2 1, 3) := by decide +kernel
theorem dX6_strucks_28 : decode cX6_strucks 28 = .ok (.goto (-24), 3) := by decide +kernel
theorem dX6_strucks_31 : decode cX6_strucks 31 = .ok (.iload_n 1, 1) := by decide +kernel
theorem dX6_strucks_32 : decode cX6_strucks 32 = .ok (.ireturn, 1) := by decide +kernel
theorem dX6_laterThan_0 : decode cX6_laterThan 0 = .ok (.iconst 0, 1) := by decide +kernel
theorem dX6_laterThan_1 : decode cX6_laterThan 1 = .ok (.istore_n 2, 1) := by decide +kernel
theorem dX6_laterThan_2 : decode cX6_laterThan 2 = .ok (.iconst 0, 1) := by decide +kernel
theorem dX6_laterThan_3 : decode cX6_laterThan 3 = .ok (.istore_n 3, 1) := by decide +kernel
theorem dX6_laterThan_4 : decode cX6_laterThan 4 = .ok (.iload_n 3, 1) := by decide +kernel
theorem dX6_laterThan_5 : decode cX6_laterThan 5 = .ok (.aload_n 0, 1) := by decide +kernel
theorem dX6_laterThan_6 : decode cX6_laterThan 6 = .ok (.getfield 7, 3) := by decide +kernel
theorem dX6_laterThan_9 : decode cX6_laterThan 9 = .ok (.iconst 0, 1) := by decide +kernel
theorem dX6_laterThan_10 : decode cX6_laterThan 10 = .ok (.iaload, 1) := by decide +kernel
theorem dX6_laterThan_11 : decode cX6_laterThan 11 = .ok (.if_icmp .ge 35, 3) := by decide +kernel
theorem dX6_laterThan_14 : decode cX6_laterThan 14 = .ok (.iload_n 2, 1) := by decide +kernel
theorem dX6_laterThan_15 : decode cX6_laterThan 15 = .ok (.aload_n 0, 1) := by decide +kernel
theorem dX6_laterThan_16 : decode cX6_laterThan 16 = .ok (.iload_n 3, 1) := by decide +kernel
theorem dX6_laterThan_17 : decode cX6_laterThan 17 = .ok (.invokevirtual 58, 3) := by decide +kernel
theorem dX6_laterThan_20 : decode cX6_laterThan 20 = .ok (.aload_n 0, 1) := by decide +kernel
theorem dX6_laterThan_21 : decode cX6_laterThan 21 = .ok (.getfield 7, 3) := by decide +kernel
theorem dX6_laterThan_24 : decode cX6_laterThan 24 = .ok (.iconst 1, 1) := by decide +kernel
theorem dX6_laterThan_25 : decode cX6_laterThan 25 = .ok (.iaload, 1) := by decide +kernel
theorem dX6_laterThan_26 : decode cX6_laterThan 26 = .ok (.iload_n 1, 1) := by decide +kernel
theorem dX6_laterThan_27 : decode cX6_laterThan 27 = .ok (.iadd, 1) := by decide +kernel
theorem dX6_laterThan_28 : decode cX6_laterThan 28 = .ok (.if_icmp .le 9, 3) := by decide +kernel
theorem dX6_laterThan_31 : decode cX6_laterThan 31 = .ok (.iconst 1, 1) := by decide +kernel
theorem dX6_laterThan_32 : decode cX6_laterThan 32 = .ok (.iload_n 3, 1) := by decide +kernel
theorem dX6_laterThan_33 : decode cX6_laterThan 33 = .ok (.ishl, 1) := by decide +kernel
theorem dX6_laterThan_34 : decode cX6_laterThan 34 = .ok (.goto 4, 3) := by decide +kernel
theorem dX6_laterThan_37 : decode cX6_laterThan 37 = .ok (.iconst 0, 1) := by decide +kernel
theorem dX6_laterThan_38 : decode cX6_laterThan 38 = .ok (.ior, 1) := by decide +kernel
theorem dX6_laterThan_39 : decode cX6_laterThan 39 = .ok (.istore_n 2, 1) := by decide +kernel
theorem dX6_laterThan_40 : decode cX6_laterThan 40 = .ok (.iinc 3 1, 3) := by decide +kernel
theorem dX6_laterThan_43 : decode cX6_laterThan 43 = .ok (.goto (-39), 3) := by decide +kernel
theorem dX6_laterThan_46 : decode cX6_laterThan 46 = .ok (.iload_n 2, 1) := by decide +kernel
theorem dX6_laterThan_47 : decode cX6_laterThan 47 = .ok (.ireturn, 1) := by decide +kernel
theorem dX6_countIn_0 : decode cX6_countIn 0 = .ok (.iconst 1, 1) := by decide +kernel
theorem dX6_countIn_1 : decode cX6_countIn 1 = .ok (.aload_n 0, 1) := by decide +kernel
theorem dX6_countIn_2 : decode cX6_countIn 2 = .ok (.getfield 7, 3) := by decide +kernel
theorem dX6_countIn_5 : decode cX6_countIn 5 = .ok (.iconst 0, 1) := by decide +kernel
theorem dX6_countIn_6 : decode cX6_countIn 6 = .ok (.iaload, 1) := by decide +kernel
theorem dX6_countIn_7 : decode cX6_countIn 7 = .ok (.ishl, 1) := by decide +kernel
theorem dX6_countIn_8 : decode cX6_countIn 8 = .ok (.iconst 1, 1) := by decide +kernel
theorem dX6_countIn_9 : decode cX6_countIn 9 = .ok (.isub, 1) := by decide +kernel
theorem dX6_countIn_10 : decode cX6_countIn 10 = .ok (.aload_n 0, 1) := by decide +kernel
theorem dX6_countIn_11 : decode cX6_countIn 11 = .ok (.invokevirtual 61, 3) := by decide +kernel
theorem dX6_countIn_14 : decode cX6_countIn 14 = .ok (.iconst (-1), 1) := by decide +kernel
theorem dX6_countIn_15 : decode cX6_countIn 15 = .ok (.ixor, 1) := by decide +kernel
theorem dX6_countIn_16 : decode cX6_countIn 16 = .ok (.iand, 1) := by decide +kernel
theorem dX6_countIn_17 : decode cX6_countIn 17 = .ok (.aload_n 0, 1) := by decide +kernel
theorem dX6_countIn_18 : decode cX6_countIn 18 = .ok (.iload_n 1, 1) := by decide +kernel
theorem dX6_countIn_19 : decode cX6_countIn 19 = .ok (.invokevirtual 65, 3) := by decide +kernel
theorem dX6_countIn_22 : decode cX6_countIn 22 = .ok (.iconst (-1), 1) := by decide +kernel
theorem dX6_countIn_23 : decode cX6_countIn 23 = .ok (.ixor, 1) := by decide +kernel
theorem dX6_countIn_24 : decode cX6_countIn 24 = .ok (.iand, 1) := by decide +kernel
theorem dX6_countIn_25 : decode cX6_countIn 25 = .ok (.ireturn, 1) := by decide +kernel
theorem dX6_comes_0 : decode cX6_comes 0 = .ok (.iconst 5, 1) := by decide +kernel
theorem dX6_comes_1 : decode cX6_comes 1 = .ok (.bipush 6, 2) := by decide +kernel
theorem dX6_comes_3 : decode cX6_comes 3 = .ok (.aload_n 0, 1) := by decide +kernel
theorem dX6_comes_4 : decode cX6_comes 4 = .ok (.getfield 7, 3) := by decide +kernel
theorem dX6_comes_7 : decode cX6_comes 7 = .ok (.iconst 0, 1) := by decide +kernel
theorem dX6_comes_8 : decode cX6_comes 8 = .ok (.iaload, 1) := by decide +kernel
theorem dX6_comes_9 : decode cX6_comes 9 = .ok (.imul, 1) := by decide +kernel
theorem dX6_comes_10 : decode cX6_comes 10 = .ok (.iadd, 1) := by decide +kernel
theorem dX6_comes_11 : decode cX6_comes 11 = .ok (.istore 6, 2) := by decide +kernel
theorem dX6_comes_13 : decode cX6_comes 13 = .ok (.aload_n 0, 1) := by decide +kernel
theorem dX6_comes_14 : decode cX6_comes 14 = .ok (.getfield 7, 3) := by decide +kernel
theorem dX6_comes_17 : decode cX6_comes 17 = .ok (.iload 6, 2) := by decide +kernel
theorem dX6_comes_19 : decode cX6_comes 19 = .ok (.iload_n 1, 1) := by decide +kernel
theorem dX6_comes_20 : decode cX6_comes 20 = .ok (.iastore, 1) := by decide +kernel
theorem dX6_comes_21 : decode cX6_comes 21 = .ok (.aload_n 0, 1) := by decide +kernel
theorem dX6_comes_22 : decode cX6_comes 22 = .ok (.getfield 7, 3) := by decide +kernel
theorem dX6_comes_25 : decode cX6_comes 25 = .ok (.iload 6, 2) := by decide +kernel
theorem dX6_comes_27 : decode cX6_comes 27 = .ok (.iconst 1, 1) := by decide +kernel
theorem dX6_comes_28 : decode cX6_comes 28 = .ok (.iadd, 1) := by decide +kernel
theorem dX6_comes_29 : decode cX6_comes 29 = .ok (.iload_n 2, 1) := by decide +kernel
theorem dX6_comes_30 : decode cX6_comes 30 = .ok (.iastore, 1) := by decide +kernel
theorem dX6_comes_31 : decode cX6_comes 31 = .ok (.aload_n 0, 1) := by decide +kernel
theorem dX6_comes_32 : decode cX6_comes 32 = .ok (.getfield 7, 3) := by decide +kernel
theorem dX6_comes_35 : decode cX6_comes 35 = .ok (.iload 6, 2) := by decide +kernel
theorem dX6_comes_37 : decode cX6_comes 37 = .ok (.iconst 2, 1) := by decide +kernel
theorem dX6_comes_38 : decode cX6_comes 38 = .ok (.iadd, 1) := by decide +kernel
theorem dX6_comes_39 : decode cX6_comes 39 = .ok (.iload_n 3, 1) := by decide +kernel
theorem dX6_comes_40 : decode cX6_comes 40 = .ok (.iastore, 1) := by decide +kernel
theorem dX6_comes_41 : decode cX6_comes 41 = .ok (.aload_n 0, 1) := by decide +kernel
theorem dX6_comes_42 : decode cX6_comes 42 = .ok (.getfield 7, 3) := by decide +kernel
theorem dX6_comes_45 : decode cX6_comes 45 = .ok (.iload 6, 2) := by decide +kernel
theorem dX6_comes_47 : decode cX6_comes 47 = .ok (.iconst 3, 1) := by decide +kernel
theorem dX6_comes_48 : decode cX6_comes 48 = .ok (.iadd, 1) := by decide +kernel
theorem dX6_comes_49 : decode cX6_comes 49 = .ok (.iload 4, 2) := by decide +kernel
theorem dX6_comes_51 : decode cX6_comes 51 = .ok (.iastore, 1) := by decide +kernel
theorem dX6_comes_52 : decode cX6_comes 52 = .ok (.aload_n 0, 1) := by decide +kernel
theorem dX6_comes_53 : decode cX6_comes 53 = .ok (.getfield 7, 3) := by decide +kernel
theorem dX6_comes_56 : decode cX6_comes 56 = .ok (.iload 6, 2) := by decide +kernel
theorem dX6_comes_58 : decode cX6_comes 58 = .ok (.iconst 4, 1) := by decide +kernel
theorem dX6_comes_59 : decode cX6_comes 59 = .ok (.iadd, 1) := by decide +kernel
theorem dX6_comes_60 : decode cX6_comes 60 = .ok (.iload 5, 2) := by decide +kernel
theorem dX6_comes_62 : decode cX6_comes 62 = .ok (.iastore, 1) := by decide +kernel
theorem dX6_comes_63 : decode cX6_comes 63 = .ok (.aload_n 0, 1) := by decide +kernel
theorem dX6_comes_64 : decode cX6_comes 64 = .ok (.getfield 7, 3) := by decide +kernel
theorem dX6_comes_67 : decode cX6_comes 67 = .ok (.iload 6, 2) := by decide +kernel
theorem dX6_comes_69 : decode cX6_comes 69 = .ok (.iconst 5, 1) := by decide +kernel
theorem dX6_comes_70 : decode cX6_comes 70 = .ok (.iadd, 1) := by decide +kernel
theorem dX6_comes_71 : decode cX6_comes 71 = .ok (.iconst 0, 1) := by decide +kernel
theorem dX6_comes_72 : decode cX6_comes 72 = .ok (.iastore, 1) := by decide +kernel
theorem dX6_comes_73 : decode cX6_comes 73 = .ok (.aload_n 0, 1) := by decide +kernel
theorem dX6_comes_74 : decode cX6_comes 74 = .ok (.getfield 7, 3) := by decide +kernel
theorem dX6_comes_77 : decode cX6_comes 77 = .ok (.iconst 0, 1) := by decide +kernel
theorem dX6_comes_78 : decode cX6_comes 78 = .ok (.dup2, 1) := by decide +kernel
theorem dX6_comes_79 : decode cX6_comes 79 = .ok (.iaload, 1) := by decide +kernel
theorem dX6_comes_80 : decode cX6_comes 80 = .ok (.iconst 1, 1) := by decide +kernel
theorem dX6_comes_81 : decode cX6_comes 81 = .ok (.iadd, 1) := by decide +kernel
theorem dX6_comes_82 : decode cX6_comes 82 = .ok (.iastore, 1) := by decide +kernel
theorem dX6_comes_83 : decode cX6_comes 83 = .ok (.return_, 1) := by decide +kernel
theorem dX6_letter_0 : decode cX6_letter 0 = .ok (.iload_n 1, 1) := by decide +kernel
theorem dX6_letter_1 : decode cX6_letter 1 = .ok (.i2l, 1) := by decide +kernel
theorem dX6_letter_2 : decode cX6_letter 2 = .ok (.lconst 0, 1) := by decide +kernel
theorem dX6_letter_3 : decode cX6_letter 3 = .ok (.ldc2_w 68, 3) := by decide +kernel
theorem dX6_letter_6 : decode cX6_letter 6 = .ok (.invokestatic 42, 3) := by decide +kernel
theorem dX6_letter_9 : decode cX6_letter 9 = .ok (.ifCond .eq 39, 3) := by decide +kernel
theorem dX6_letter_12 : decode cX6_letter 12 = .ok (.iload_n 2, 1) := by decide +kernel
theorem dX6_letter_13 : decode cX6_letter 13 = .ok (.iload_n 3, 1) := by decide +kernel
theorem dX6_letter_14 : decode cX6_letter 14 = .ok (.invokestatic 70, 3) := by decide +kernel
theorem dX6_letter_17 : decode cX6_letter 17 = .ok (.ifCond .eq 31, 3) := by decide +kernel
theorem dX6_letter_20 : decode cX6_letter 20 = .ok (.iload 4, 2) := by decide +kernel
theorem dX6_letter_22 : decode cX6_letter 22 = .ok (.i2l, 1) := by decide +kernel
theorem dX6_letter_23 : decode cX6_letter 23 = .ok (.ldc2_w 74, 3) := by decide +kernel
theorem dX6_letter_26 : decode cX6_letter 26 = .ok (.ldc2_w 76, 3) := by decide +kernel
theorem dX6_letter_29 : decode cX6_letter 29 = .ok (.invokestatic 42, 3) := by decide +kernel
theorem dX6_letter_32 : decode cX6_letter 32 = .ok (.ifCond .eq 16, 3) := by decide +kernel
theorem dX6_letter_35 : decode cX6_letter 35 = .ok (.iload 5, 2) := by decide +kernel
theorem dX6_letter_37 : decode cX6_letter 37 = .ok (.i2l, 1) := by decide +kernel
theorem dX6_letter_38 : decode cX6_letter 38 = .ok (.lconst 0, 1) := by decide +kernel
theorem dX6_letter_39 : decode cX6_letter 39 = .ok (.ldc2_w 78, 3) := by decide +kernel
theorem dX6_letter_42 : decode cX6_letter 42 = .ok (.invokestatic 42, 3) := by decide +kernel
theorem dX6_letter_45 : decode cX6_letter 45 = .ok (.ifCond .ne 10, 3) := by decide +kernel
theorem dX6_letter_48 : decode cX6_letter 48 = .ok (.aload_n 0, 1) := by decide +kernel
theorem dX6_letter_49 : decode cX6_letter 49 = .ok (.ldc 37, 2) := by decide +kernel
theorem dX6_letter_51 : decode cX6_letter 51 = .ok (.invokevirtual 47, 3) := by decide +kernel
theorem dX6_letter_54 : decode cX6_letter 54 = .ok (.ireturn, 1) := by decide +kernel
theorem dX6_letter_55 : decode cX6_letter 55 = .ok (.aload_n 0, 1) := by decide +kernel
theorem dX6_letter_56 : decode cX6_letter 56 = .ok (.getfield 7, 3) := by decide +kernel
theorem dX6_letter_59 : decode cX6_letter 59 = .ok (.iconst 0, 1) := by decide +kernel
theorem dX6_letter_60 : decode cX6_letter 60 = .ok (.iaload, 1) := by decide +kernel
theorem dX6_letter_61 : decode cX6_letter 61 = .ok (.bipush 8, 2) := by decide +kernel
theorem dX6_letter_63 : decode cX6_letter 63 = .ok (.if_icmp .ne 10, 3) := by decide +kernel
theorem dX6_letter_66 : decode cX6_letter 66 = .ok (.aload_n 0, 1) := by decide +kernel
theorem dX6_letter_67 : decode cX6_letter 67 = .ok (.ldc 80, 2) := by decide +kernel
theorem dX6_letter_69 : decode cX6_letter 69 = .ok (.invokevirtual 47, 3) := by decide +kernel
theorem dX6_letter_72 : decode cX6_letter 72 = .ok (.ireturn, 1) := by decide +kernel
theorem dX6_letter_73 : decode cX6_letter 73 = .ok (.aload_n 0, 1) := by decide +kernel
theorem dX6_letter_74 : decode cX6_letter 74 = .ok (.iload_n 1, 1) := by decide +kernel
theorem dX6_letter_75 : decode cX6_letter 75 = .ok (.iload_n 2, 1) := by decide +kernel
theorem dX6_letter_76 : decode cX6_letter 76 = .ok (.iload_n 3, 1) := by decide +kernel
theorem dX6_letter_77 : decode cX6_letter 77 = .ok (.iload 4, 2) := by decide +kernel
theorem dX6_letter_79 : decode cX6_letter 79 = .ok (.iload 5, 2) := by decide +kernel
theorem dX6_letter_81 : decode cX6_letter 81 = .ok (.invokevirtual 81, 3) := by decide +kernel
theorem dX6_letter_84 : decode cX6_letter 84 = .ok (.aload_n 0, 1) := by decide +kernel
theorem dX6_letter_85 : decode cX6_letter 85 = .ok (.getfield 7, 3) := by decide +kernel
theorem dX6_letter_88 : decode cX6_letter 88 = .ok (.iconst 0, 1) := by decide +kernel
theorem dX6_letter_89 : decode cX6_letter 89 = .ok (.iaload, 1) := by decide +kernel
theorem dX6_letter_90 : decode cX6_letter 90 = .ok (.iconst 1, 1) := by decide +kernel
theorem dX6_letter_91 : decode cX6_letter 91 = .ok (.isub, 1) := by decide +kernel
theorem dX6_letter_92 : decode cX6_letter 92 = .ok (.ireturn, 1) := by decide +kernel
theorem dX6_of_0 : decode cX6_of 0 = .ok (.aload_n 0, 1) := by decide +kernel
theorem dX6_of_1 : decode cX6_of 1 = .ok (.iload_n 1, 1) := by decide +kernel
theorem dX6_of_2 : decode cX6_of 2 = .ok (.invokevirtual 85, 3) := by decide +kernel
theorem dX6_of_5 : decode cX6_of 5 = .ok (.ifCond .eq 15, 3) := by decide +kernel
theorem dX6_of_8 : decode cX6_of 8 = .ok (.iload_n 2, 1) := by decide +kernel
theorem dX6_of_9 : decode cX6_of 9 = .ok (.i2l, 1) := by decide +kernel
theorem dX6_of_10 : decode cX6_of 10 = .ok (.lconst 0, 1) := by decide +kernel
theorem dX6_of_11 : decode cX6_of 11 = .ok (.ldc2_w 88, 3) := by decide +kernel
theorem dX6_of_14 : decode cX6_of 14 = .ok (.invokestatic 42, 3) := by decide +kernel
theorem dX6_of_17 : decode cX6_of 17 = .ok (.ifCond .ne 10, 3) := by decide +kernel
theorem dX6_of_20 : decode cX6_of 20 = .ok (.aload_n 0, 1) := by decide +kernel
theorem dX6_of_21 : decode cX6_of 21 = .ok (.ldc 37, 2) := by decide +kernel
theorem dX6_of_23 : decode cX6_of 23 = .ok (.invokevirtual 47, 3) := by decide +kernel
theorem dX6_of_26 : decode cX6_of 26 = .ok (.ireturn, 1) := by decide +kernel
theorem dX6_of_27 : decode cX6_of 27 = .ok (.iload_n 2, 1) := by decide +kernel
theorem dX6_of_28 : decode cX6_of 28 = .ok (.tableswitch 60 6 9 #[32, 38, 44, 50], 32) := by decide +kernel
theorem dX6_of_60 : decode cX6_of 60 = .ok (.aload_n 0, 1) := by decide +kernel
theorem dX6_of_61 : decode cX6_of 61 = .ok (.iload_n 1, 1) := by decide +kernel
theorem dX6_of_62 : decode cX6_of 62 = .ok (.invokevirtual 90, 3) := by decide +kernel
theorem dX6_of_65 : decode cX6_of 65 = .ok (.ireturn, 1) := by decide +kernel
theorem dX6_of_66 : decode cX6_of 66 = .ok (.aload_n 0, 1) := by decide +kernel
theorem dX6_of_67 : decode cX6_of 67 = .ok (.iload_n 1, 1) := by decide +kernel
theorem dX6_of_68 : decode cX6_of 68 = .ok (.invokevirtual 93, 3) := by decide +kernel
theorem dX6_of_71 : decode cX6_of 71 = .ok (.ireturn, 1) := by decide +kernel
theorem dX6_of_72 : decode cX6_of 72 = .ok (.aload_n 0, 1) := by decide +kernel
theorem dX6_of_73 : decode cX6_of 73 = .ok (.iload_n 1, 1) := by decide +kernel
theorem dX6_of_74 : decode cX6_of 74 = .ok (.invokevirtual 58, 3) := by decide +kernel
theorem dX6_of_77 : decode cX6_of 77 = .ok (.ireturn, 1) := by decide +kernel
theorem dX6_of_78 : decode cX6_of 78 = .ok (.aload_n 0, 1) := by decide +kernel
theorem dX6_of_79 : decode cX6_of 79 = .ok (.iconst 0, 1) := by decide +kernel
theorem dX6_of_80 : decode cX6_of 80 = .ok (.invokevirtual 96, 3) := by decide +kernel
theorem dX6_of_83 : decode cX6_of 83 = .ok (.iload_n 1, 1) := by decide +kernel
theorem dX6_of_84 : decode cX6_of 84 = .ok (.ishr, 1) := by decide +kernel
theorem dX6_of_85 : decode cX6_of 85 = .ok (.iconst 1, 1) := by decide +kernel
theorem dX6_of_86 : decode cX6_of 86 = .ok (.iand, 1) := by decide +kernel
theorem dX6_of_87 : decode cX6_of 87 = .ok (.ireturn, 1) := by decide +kernel
theorem dX6_of_88 : decode cX6_of 88 = .ok (.aload_n 0, 1) := by decide +kernel
theorem dX6_of_89 : decode cX6_of 89 = .ok (.iload_n 1, 1) := by decide +kernel
theorem dX6_of_90 : decode cX6_of 90 = .ok (.iload_n 2, 1) := by decide +kernel
theorem dX6_of_91 : decode cX6_of 91 = .ok (.invokevirtual 51, 3) := by decide +kernel
theorem dX6_of_94 : decode cX6_of 94 = .ok (.ireturn, 1) := by decide +kernel
theorem dX6_isFit_0 : decode cX6_isFit 0 = .ok (.iload_n 2, 1) := by decide +kernel
theorem dX6_isFit_1 : decode cX6_isFit 1 = .ok (.tableswitch 89 0 4 #[35, 45, 56, 67, 79], 35) := by decide +kernel
theorem dX6_isFit_36 : decode cX6_isFit 36 = .ok (.iload_n 3, 1) := by decide +kernel
theorem dX6_isFit_37 : decode cX6_isFit 37 = .ok (.i2l, 1) := by decide +kernel
theorem dX6_isFit_38 : decode cX6_isFit 38 = .ok (.lconst 0, 1) := by decide +kernel
theorem dX6_isFit_39 : decode cX6_isFit 39 = .ok (.ldc2_w 68, 3) := by decide +kernel
theorem dX6_isFit_42 : decode cX6_isFit 42 = .ok (.invokestatic 42, 3) := by decide +kernel
theorem dX6_isFit_45 : decode cX6_isFit 45 = .ok (.ireturn, 1) := by decide +kernel
theorem dX6_isFit_46 : decode cX6_isFit 46 = .ok (.iload_n 3, 1) := by decide +kernel
theorem dX6_isFit_47 : decode cX6_isFit 47 = .ok (.aload_n 0, 1) := by decide +kernel
theorem dX6_isFit_48 : decode cX6_isFit 48 = .ok (.iload_n 1, 1) := by decide +kernel
theorem dX6_isFit_49 : decode cX6_isFit 49 = .ok (.iconst 2, 1) := by decide +kernel
theorem dX6_isFit_50 : decode cX6_isFit 50 = .ok (.invokevirtual 51, 3) := by decide +kernel
theorem dX6_isFit_53 : decode cX6_isFit 53 = .ok (.invokestatic 70, 3) := by decide +kernel
theorem dX6_isFit_56 : decode cX6_isFit 56 = .ok (.ireturn, 1) := by decide +kernel
theorem dX6_isFit_57 : decode cX6_isFit 57 = .ok (.iload_n 3, 1) := by decide +kernel
theorem dX6_isFit_58 : decode cX6_isFit 58 = .ok (.aload_n 0, 1) := by decide +kernel
theorem dX6_isFit_59 : decode cX6_isFit 59 = .ok (.iload_n 1, 1) := by decide +kernel
theorem dX6_isFit_60 : decode cX6_isFit 60 = .ok (.iconst 1, 1) := by decide +kernel
theorem dX6_isFit_61 : decode cX6_isFit 61 = .ok (.invokevirtual 51, 3) := by decide +kernel
theorem dX6_isFit_64 : decode cX6_isFit 64 = .ok (.invokestatic 70, 3) := by decide +kernel
theorem dX6_isFit_67 : decode cX6_isFit 67 = .ok (.ireturn, 1) := by decide +kernel
theorem dX6_isFit_68 : decode cX6_isFit 68 = .ok (.iload_n 3, 1) := by decide +kernel
theorem dX6_isFit_69 : decode cX6_isFit 69 = .ok (.i2l, 1) := by decide +kernel
theorem dX6_isFit_70 : decode cX6_isFit 70 = .ok (.ldc2_w 74, 3) := by decide +kernel
theorem dX6_isFit_73 : decode cX6_isFit 73 = .ok (.ldc2_w 76, 3) := by decide +kernel
theorem dX6_isFit_76 : decode cX6_isFit 76 = .ok (.invokestatic 42, 3) := by decide +kernel
theorem dX6_isFit_79 : decode cX6_isFit 79 = .ok (.ireturn, 1) := by decide +kernel
theorem dX6_isFit_80 : decode cX6_isFit 80 = .ok (.iload_n 3, 1) := by decide +kernel
theorem dX6_isFit_81 : decode cX6_isFit 81 = .ok (.i2l, 1) := by decide +kernel
theorem dX6_isFit_82 : decode cX6_isFit 82 = .ok (.lconst 0, 1) := by decide +kernel
theorem dX6_isFit_83 : decode cX6_isFit 83 = .ok (.ldc2_w 78, 3) := by decide +kernel
theorem dX6_isFit_86 : decode cX6_isFit 86 = .ok (.invokestatic 42, 3) := by decide +kernel
theorem dX6_isFit_89 : decode cX6_isFit 89 = .ok (.ireturn, 1) := by decide +kernel
theorem dX6_isFit_90 : decode cX6_isFit 90 = .ok (.iload_n 2, 1) := by decide +kernel
theorem dX6_isFit_91 : decode cX6_isFit 91 = .ok (.iconst 5, 1) := by decide +kernel
theorem dX6_isFit_92 : decode cX6_isFit 92 = .ok (.if_icmp .ne 17, 3) := by decide +kernel
theorem dX6_isFit_95 : decode cX6_isFit 95 = .ok (.iload_n 3, 1) := by decide +kernel
theorem dX6_isFit_96 : decode cX6_isFit 96 = .ok (.i2l, 1) := by decide +kernel
theorem dX6_isFit_97 : decode cX6_isFit 97 = .ok (.lconst 0, 1) := by decide +kernel
theorem dX6_isFit_98 : decode cX6_isFit 98 = .ok (.lconst 1, 1) := by decide +kernel
theorem dX6_isFit_99 : decode cX6_isFit 99 = .ok (.invokestatic 42, 3) := by decide +kernel
theorem dX6_isFit_102 : decode cX6_isFit 102 = .ok (.ifCond .eq 7, 3) := by decide +kernel
theorem dX6_isFit_105 : decode cX6_isFit 105 = .ok (.iconst 1, 1) := by decide +kernel
theorem dX6_isFit_106 : decode cX6_isFit 106 = .ok (.goto 4, 3) := by decide +kernel
theorem dX6_isFit_109 : decode cX6_isFit 109 = .ok (.iconst 0, 1) := by decide +kernel
theorem dX6_isFit_110 : decode cX6_isFit 110 = .ok (.ireturn, 1) := by decide +kernel
theorem dX6_change_0 : decode cX6_change 0 = .ok (.aload_n 0, 1) := by decide +kernel
theorem dX6_change_1 : decode cX6_change 1 = .ok (.iload_n 1, 1) := by decide +kernel
theorem dX6_change_2 : decode cX6_change 2 = .ok (.invokevirtual 85, 3) := by decide +kernel
theorem dX6_change_5 : decode cX6_change 5 = .ok (.ifCond .eq 29, 3) := by decide +kernel
theorem dX6_change_8 : decode cX6_change 8 = .ok (.aload_n 0, 1) := by decide +kernel
theorem dX6_change_9 : decode cX6_change 9 = .ok (.iload_n 1, 1) := by decide +kernel
theorem dX6_change_10 : decode cX6_change 10 = .ok (.iload_n 2, 1) := by decide +kernel
theorem dX6_change_11 : decode cX6_change 11 = .ok (.iload_n 3, 1) := by decide +kernel
theorem dX6_change_12 : decode cX6_change 12 = .ok (.invokevirtual 99, 3) := by decide +kernel
theorem dX6_change_15 : decode cX6_change 15 = .ok (.ifCond .eq 19, 3) := by decide +kernel
theorem dX6_change_18 : decode cX6_change 18 = .ok (.aload_n 0, 1) := by decide +kernel
theorem dX6_change_19 : decode cX6_change 19 = .ok (.iconst 5, 1) := by decide +kernel
theorem dX6_change_20 : decode cX6_change 20 = .ok (.bipush 6, 2) := by decide +kernel
theorem dX6_change_22 : decode cX6_change 22 = .ok (.iload_n 1, 1) := by decide +kernel
theorem dX6_change_23 : decode cX6_change 23 = .ok (.imul, 1) := by decide +kernel
theorem dX6_change_24 : decode cX6_change 24 = .ok (.iadd, 1) := by decide +kernel
theorem dX6_change_25 : decode cX6_change 25 = .ok (.iload_n 2, 1) := by decide +kernel
theorem dX6_change_26 : decode cX6_change 26 = .ok (.iadd, 1) := by decide +kernel
theorem dX6_change_27 : decode cX6_change 27 = .ok (.iload_n 3, 1) := by decide +kernel
theorem dX6_change_28 : decode cX6_change 28 = .ok (.invokevirtual 103, 3) := by decide +kernel
theorem dX6_change_31 : decode cX6_change 31 = .ok (.goto 9, 3) := by decide +kernel
theorem dX6_change_34 : decode cX6_change 34 = .ok (.aload_n 0, 1) := by decide +kernel
theorem dX6_change_35 : decode cX6_change 35 = .ok (.ldc 37, 2) := by decide +kernel
theorem dX6_change_37 : decode cX6_change 37 = .ok (.invokevirtual 47, 3) := by decide +kernel
theorem dX6_change_40 : decode cX6_change 40 = .ok (.ireturn, 1) := by decide +kernel
theorem dX6_law_0 : decode cX6_law 0 = .ok (.iload_n 1, 1) := by decide +kernel
theorem dX6_law_1 : decode cX6_law 1 = .ok (.i2l, 1) := by decide +kernel
theorem dX6_law_2 : decode cX6_law 2 = .ok (.lconst 0, 1) := by decide +kernel
theorem dX6_law_3 : decode cX6_law 3 = .ok (.lconst 1, 1) := by decide +kernel
theorem dX6_law_4 : decode cX6_law 4 = .ok (.invokestatic 42, 3) := by decide +kernel
theorem dX6_law_7 : decode cX6_law 7 = .ok (.ifCond .eq 26, 3) := by decide +kernel
theorem dX6_law_10 : decode cX6_law 10 = .ok (.iload_n 2, 1) := by decide +kernel
theorem dX6_law_11 : decode cX6_law 11 = .ok (.i2l, 1) := by decide +kernel
theorem dX6_law_12 : decode cX6_law 12 = .ok (.lconst 0, 1) := by decide +kernel
theorem dX6_law_13 : decode cX6_law 13 = .ok (.ldc2_w 88, 3) := by decide +kernel
theorem dX6_law_16 : decode cX6_law 16 = .ok (.invokestatic 42, 3) := by decide +kernel
theorem dX6_law_19 : decode cX6_law 19 = .ok (.ifCond .eq 14, 3) := by decide +kernel
theorem dX6_law_22 : decode cX6_law 22 = .ok (.aload_n 0, 1) := by decide +kernel
theorem dX6_law_23 : decode cX6_law 23 = .ok (.iconst 2, 1) := by decide +kernel
theorem dX6_law_24 : decode cX6_law 24 = .ok (.iload_n 1, 1) := by decide +kernel
theorem dX6_law_25 : decode cX6_law 25 = .ok (.iadd, 1) := by decide +kernel
theorem dX6_law_26 : decode cX6_law 26 = .ok (.iload_n 2, 1) := by decide +kernel
theorem dX6_law_27 : decode cX6_law 27 = .ok (.invokevirtual 103, 3) := by decide +kernel
theorem dX6_law_30 : decode cX6_law 30 = .ok (.goto 9, 3) := by decide +kernel
theorem dX6_law_33 : decode cX6_law 33 = .ok (.aload_n 0, 1) := by decide +kernel
theorem dX6_law_34 : decode cX6_law 34 = .ok (.ldc 37, 2) := by decide +kernel
theorem dX6_law_36 : decode cX6_law 36 = .ok (.invokevirtual 47, 3) := by decide +kernel
theorem dX6_law_39 : decode cX6_law 39 = .ok (.ireturn, 1) := by decide +kernel
theorem dX6_go_0 : decode cX6_go 0 = .ok (.iload_n 1, 1) := by decide +kernel
theorem dX6_go_1 : decode cX6_go 1 = .ok (.i2l, 1) := by decide +kernel
theorem dX6_go_2 : decode cX6_go 2 = .ok (.lconst 1, 1) := by decide +kernel
theorem dX6_go_3 : decode cX6_go 3 = .ok (.ldc2_w 106, 3) := by decide +kernel
theorem dX6_go_6 : decode cX6_go 6 = .ok (.invokestatic 42, 3) := by decide +kernel
theorem dX6_go_9 : decode cX6_go 9 = .ok (.ifCond .ne 10, 3) := by decide +kernel
theorem dX6_go_12 : decode cX6_go 12 = .ok (.aload_n 0, 1) := by decide +kernel
theorem dX6_go_13 : decode cX6_go 13 = .ok (.ldc 37, 2) := by decide +kernel
theorem dX6_go_15 : decode cX6_go 15 = .ok (.invokevirtual 47, 3) := by decide +kernel
theorem dX6_go_18 : decode cX6_go 18 = .ok (.ireturn, 1) := by decide +kernel
theorem dX6_go_19 : decode cX6_go 19 = .ok (.aload_n 0, 1) := by decide +kernel
theorem dX6_go_20 : decode cX6_go 20 = .ok (.getfield 7, 3) := by decide +kernel
theorem dX6_go_23 : decode cX6_go 23 = .ok (.iconst 1, 1) := by decide +kernel
theorem dX6_go_24 : decode cX6_go 24 = .ok (.iaload, 1) := by decide +kernel
theorem dX6_go_25 : decode cX6_go 25 = .ok (.iload_n 1, 1) := by decide +kernel
theorem dX6_go_26 : decode cX6_go 26 = .ok (.iadd, 1) := by decide +kernel
theorem dX6_go_27 : decode cX6_go 27 = .ok (.ldc 108, 2) := by decide +kernel
theorem dX6_go_29 : decode cX6_go 29 = .ok (.if_icmp .le 10, 3) := by decide +kernel
theorem dX6_go_32 : decode cX6_go 32 = .ok (.aload_n 0, 1) := by decide +kernel
theorem dX6_go_33 : decode cX6_go 33 = .ok (.ldc 109, 2) := by decide +kernel
theorem dX6_go_35 : decode cX6_go 35 = .ok (.invokevirtual 47, 3) := by decide +kernel
theorem dX6_go_38 : decode cX6_go 38 = .ok (.ireturn, 1) := by decide +kernel
theorem dX6_go_39 : decode cX6_go 39 = .ok (.aload_n 0, 1) := by decide +kernel
theorem dX6_go_40 : decode cX6_go 40 = .ok (.getfield 7, 3) := by decide +kernel
theorem dX6_go_43 : decode cX6_go 43 = .ok (.iconst 1, 1) := by decide +kernel
theorem dX6_go_44 : decode cX6_go 44 = .ok (.dup2, 1) := by decide +kernel
theorem dX6_go_45 : decode cX6_go 45 = .ok (.iaload, 1) := by decide +kernel
theorem dX6_go_46 : decode cX6_go 46 = .ok (.iload_n 1, 1) := by decide +kernel
theorem dX6_go_47 : decode cX6_go 47 = .ok (.iadd, 1) := by decide +kernel
theorem dX6_go_48 : decode cX6_go 48 = .ok (.iastore, 1) := by decide +kernel
theorem dX6_go_49 : decode cX6_go 49 = .ok (.aload_n 0, 1) := by decide +kernel
theorem dX6_go_50 : decode cX6_go 50 = .ok (.iconst 0, 1) := by decide +kernel
theorem dX6_go_51 : decode cX6_go 51 = .ok (.invokevirtual 96, 3) := by decide +kernel
theorem dX6_go_54 : decode cX6_go 54 = .ok (.ireturn, 1) := by decide +kernel
theorem dX6_now_0 : decode cX6_now 0 = .ok (.iload_n 1, 1) := by decide +kernel
theorem dX6_now_1 : decode cX6_now 1 = .ok (.tableswitch 74 0 5 #[39, 46, 52, 58, 63, 63], 39) := by decide +kernel
theorem dX6_now_40 : decode cX6_now 40 = .ok (.aload_n 0, 1) := by decide +kernel
theorem dX6_now_41 : decode cX6_now 41 = .ok (.getfield 7, 3) := by decide +kernel
theorem dX6_now_44 : decode cX6_now 44 = .ok (.iconst 1, 1) := by decide +kernel
theorem dX6_now_45 : decode cX6_now 45 = .ok (.iaload, 1) := by decide +kernel
theorem dX6_now_46 : decode cX6_now 46 = .ok (.ireturn, 1) := by decide +kernel
theorem dX6_now_47 : decode cX6_now 47 = .ok (.aload_n 0, 1) := by decide +kernel
theorem dX6_now_48 : decode cX6_now 48 = .ok (.iconst 0, 1) := by decide +kernel
theorem dX6_now_49 : decode cX6_now 49 = .ok (.invokevirtual 96, 3) := by decide +kernel
theorem dX6_now_52 : decode cX6_now 52 = .ok (.ireturn, 1) := by decide +kernel
theorem dX6_now_53 : decode cX6_now 53 = .ok (.aload_n 0, 1) := by decide +kernel
theorem dX6_now_54 : decode cX6_now 54 = .ok (.iconst 0, 1) := by decide +kernel
theorem dX6_now_55 : decode cX6_now 55 = .ok (.invokevirtual 65, 3) := by decide +kernel
theorem dX6_now_58 : decode cX6_now 58 = .ok (.ireturn, 1) := by decide +kernel
theorem dX6_now_59 : decode cX6_now 59 = .ok (.aload_n 0, 1) := by decide +kernel
theorem dX6_now_60 : decode cX6_now 60 = .ok (.invokevirtual 61, 3) := by decide +kernel
theorem dX6_now_63 : decode cX6_now 63 = .ok (.ireturn, 1) := by decide +kernel
theorem dX6_now_64 : decode cX6_now 64 = .ok (.aload_n 0, 1) := by decide +kernel
theorem dX6_now_65 : decode cX6_now 65 = .ok (.getfield 7, 3) := by decide +kernel
theorem dX6_now_68 : decode cX6_now 68 = .ok (.iconst 2, 1) := by decide +kernel
theorem dX6_now_69 : decode cX6_now 69 = .ok (.iload_n 1, 1) := by decide +kernel
theorem dX6_now_70 : decode cX6_now 70 = .ok (.iadd, 1) := by decide +kernel
theorem dX6_now_71 : decode cX6_now 71 = .ok (.iconst 4, 1) := by decide +kernel
theorem dX6_now_72 : decode cX6_now 72 = .ok (.isub, 1) := by decide +kernel
theorem dX6_now_73 : decode cX6_now 73 = .ok (.iaload, 1) := by decide +kernel
theorem dX6_now_74 : decode cX6_now 74 = .ok (.ireturn, 1) := by decide +kernel
theorem dX6_now_75 : decode cX6_now 75 = .ok (.aload_n 0, 1) := by decide +kernel
theorem dX6_now_76 : decode cX6_now 76 = .ok (.ldc 37, 2) := by decide +kernel
theorem dX6_now_78 : decode cX6_now 78 = .ok (.invokevirtual 47, 3) := by decide +kernel
theorem dX6_now_81 : decode cX6_now 81 = .ok (.ireturn, 1) := by decide +kernel
theorem dX6_binds_0 : decode cX6_binds 0 = .ok (.aload_n 0, 1) := by decide +kernel
theorem dX6_binds_1 : decode cX6_binds 1 = .ok (.getfield 34, 3) := by decide +kernel
theorem dX6_binds_4 : decode cX6_binds 4 = .ok (.bipush 8, 2) := by decide +kernel
theorem dX6_binds_6 : decode cX6_binds 6 = .ok (.iload_n 1, 1) := by decide +kernel
theorem dX6_binds_7 : decode cX6_binds 7 = .ok (.imul, 1) := by decide +kernel
theorem dX6_binds_8 : decode cX6_binds 8 = .ok (.iload_n 2, 1) := by decide +kernel
theorem dX6_binds_9 : decode cX6_binds 9 = .ok (.iadd, 1) := by decide +kernel
theorem dX6_binds_10 : decode cX6_binds 10 = .ok (.iload_n 3, 1) := by decide +kernel
theorem dX6_binds_11 : decode cX6_binds 11 = .ok (.aload_n 0, 1) := by decide +kernel
theorem dX6_binds_12 : decode cX6_binds 12 = .ok (.getfield 34, 3) := by decide +kernel
theorem dX6_binds_15 : decode cX6_binds 15 = .ok (.bipush 8, 2) := by decide +kernel
theorem dX6_binds_17 : decode cX6_binds 17 = .ok (.iload_n 1, 1) := by decide +kernel
theorem dX6_binds_18 : decode cX6_binds 18 = .ok (.imul, 1) := by decide +kernel
theorem dX6_binds_19 : decode cX6_binds 19 = .ok (.iload_n 2, 1) := by decide +kernel
theorem dX6_binds_20 : decode cX6_binds 20 = .ok (.iadd, 1) := by decide +kernel
theorem dX6_binds_21 : decode cX6_binds 21 = .ok (.iaload, 1) := by decide +kernel
theorem dX6_binds_22 : decode cX6_binds 22 = .ok (.if_icmp .ge 7, 3) := by decide +kernel
theorem dX6_binds_25 : decode cX6_binds 25 = .ok (.iload_n 3, 1) := by decide +kernel
theorem dX6_binds_26 : decode cX6_binds 26 = .ok (.goto 14, 3) := by decide +kernel
theorem dX6_binds_29 : decode cX6_binds 29 = .ok (.aload_n 0, 1) := by decide +kernel
theorem dX6_binds_30 : decode cX6_binds 30 = .ok (.getfield 34, 3) := by decide +kernel
theorem dX6_binds_33 : decode cX6_binds 33 = .ok (.bipush 8, 2) := by decide +kernel
theorem dX6_binds_35 : decode cX6_binds 35 = .ok (.iload_n 1, 1) := by decide +kernel
theorem dX6_binds_36 : decode cX6_binds 36 = .ok (.imul, 1) := by decide +kernel
theorem dX6_binds_37 : decode cX6_binds 37 = .ok (.iload_n 2, 1) := by decide +kernel
theorem dX6_binds_38 : decode cX6_binds 38 = .ok (.iadd, 1) := by decide +kernel
theorem dX6_binds_39 : decode cX6_binds 39 = .ok (.iaload, 1) := by decide +kernel
theorem dX6_binds_40 : decode cX6_binds 40 = .ok (.iastore, 1) := by decide +kernel
theorem dX6_binds_41 : decode cX6_binds 41 = .ok (.return_, 1) := by decide +kernel
theorem dX6_lays_0 : decode cX6_lays 0 = .ok (.iconst 0, 1) := by decide +kernel
theorem dX6_lays_1 : decode cX6_lays 1 = .ok (.istore_n 2, 1) := by decide +kernel
theorem dX6_lays_2 : decode cX6_lays 2 = .ok (.iload_n 2, 1) := by decide +kernel
theorem dX6_lays_3 : decode cX6_lays 3 = .ok (.bipush 64, 2) := by decide +kernel
theorem dX6_lays_5 : decode cX6_lays 5 = .ok (.if_icmp .ge 33, 3) := by decide +kernel
theorem dX6_lays_8 : decode cX6_lays 8 = .ok (.aload_n 0, 1) := by decide +kernel
theorem dX6_lays_9 : decode cX6_lays 9 = .ok (.getfield 34, 3) := by decide +kernel
theorem dX6_lays_12 : decode cX6_lays 12 = .ok (.iload_n 2, 1) := by decide +kernel
theorem dX6_lays_13 : decode cX6_lays 13 = .ok (.iload_n 2, 1) := by decide +kernel
theorem dX6_lays_14 : decode cX6_lays 14 = .ok (.bipush 8, 2) := by decide +kernel
theorem dX6_lays_16 : decode cX6_lays 16 = .ok (.idiv, 1) := by decide +kernel
theorem dX6_lays_17 : decode cX6_lays 17 = .ok (.iload_n 2, 1) := by decide +kernel
theorem dX6_lays_18 : decode cX6_lays 18 = .ok (.bipush 8, 2) := by decide +kernel
theorem dX6_lays_20 : decode cX6_lays 20 = .ok (.irem, 1) := by decide +kernel
theorem dX6_lays_21 : decode cX6_lays 21 = .ok (.if_icmp .ne 7, 3) := by decide +kernel
theorem dX6_lays_24 : decode cX6_lays 24 = .ok (.iconst 0, 1) := by decide +kernel
theorem dX6_lays_25 : decode cX6_lays 25 = .ok (.goto 6, 3) := by decide +kernel
theorem dX6_lays_28 : decode cX6_lays 28 = .ok (.sipush 999, 3) := by decide +kernel
theorem dX6_lays_31 : decode cX6_lays 31 = .ok (.iastore, 1) := by decide +kernel
theorem dX6_lays_32 : decode cX6_lays 32 = .ok (.iinc 2 1, 3) := by decide +kernel
theorem dX6_lays_35 : decode cX6_lays 35 = .ok (.goto (-33), 3) := by decide +kernel
theorem dX6_lays_38 : decode cX6_lays 38 = .ok (.iconst 0, 1) := by decide +kernel
theorem dX6_lays_39 : decode cX6_lays 39 = .ok (.istore_n 2, 1) := by decide +kernel
theorem dX6_lays_40 : decode cX6_lays 40 = .ok (.iload_n 2, 1) := by decide +kernel
theorem dX6_lays_41 : decode cX6_lays 41 = .ok (.aload_n 0, 1) := by decide +kernel
theorem dX6_lays_42 : decode cX6_lays 42 = .ok (.getfield 7, 3) := by decide +kernel
theorem dX6_lays_45 : decode cX6_lays 45 = .ok (.iconst 0, 1) := by decide +kernel
theorem dX6_lays_46 : decode cX6_lays 46 = .ok (.iaload, 1) := by decide +kernel
theorem dX6_lays_47 : decode cX6_lays 47 = .ok (.if_icmp .ge 61, 3) := by decide +kernel
theorem dX6_lays_50 : decode cX6_lays 50 = .ok (.iload_n 1, 1) := by decide +kernel
theorem dX6_lays_51 : decode cX6_lays 51 = .ok (.iload_n 2, 1) := by decide +kernel
theorem dX6_lays_52 : decode cX6_lays 52 = .ok (.ishr, 1) := by decide +kernel
theorem dX6_lays_53 : decode cX6_lays 53 = .ok (.iconst 1, 1) := by decide +kernel
theorem dX6_lays_54 : decode cX6_lays 54 = .ok (.iand, 1) := by decide +kernel
theorem dX6_lays_55 : decode cX6_lays 55 = .ok (.iconst 1, 1) := by decide +kernel
theorem dX6_lays_56 : decode cX6_lays 56 = .ok (.if_icmp .ne 46, 3) := by decide +kernel
theorem dX6_lays_59 : decode cX6_lays 59 = .ok (.aload_n 0, 1) := by decide +kernel
theorem dX6_lays_60 : decode cX6_lays 60 = .ok (.aload_n 0, 1) := by decide +kernel
theorem dX6_lays_61 : decode cX6_lays 61 = .ok (.iload_n 2, 1) := by decide +kernel
theorem dX6_lays_62 : decode cX6_lays 62 = .ok (.iconst 1, 1) := by decide +kernel
theorem dX6_lays_63 : decode cX6_lays 63 = .ok (.invokevirtual 51, 3) := by decide +kernel
theorem dX6_lays_66 : decode cX6_lays 66 = .ok (.aload_n 0, 1) := by decide +kernel
theorem dX6_lays_67 : decode cX6_lays 67 = .ok (.iload_n 2, 1) := by decide +kernel
theorem dX6_lays_68 : decode cX6_lays 68 = .ok (.iconst 2, 1) := by decide +kernel
theorem dX6_lays_69 : decode cX6_lays 69 = .ok (.invokevirtual 51, 3) := by decide +kernel
theorem dX6_lays_72 : decode cX6_lays 72 = .ok (.aload_n 0, 1) := by decide +kernel
theorem dX6_lays_73 : decode cX6_lays 73 = .ok (.iload_n 2, 1) := by decide +kernel
theorem dX6_lays_74 : decode cX6_lays 74 = .ok (.invokevirtual 93, 3) := by decide +kernel
theorem dX6_lays_77 : decode cX6_lays 77 = .ok (.invokevirtual 110, 3) := by decide +kernel
theorem dX6_lays_80 : decode cX6_lays 80 = .ok (.aload_n 0, 1) := by decide +kernel
theorem dX6_lays_81 : decode cX6_lays 81 = .ok (.aload_n 0, 1) := by decide +kernel
theorem dX6_lays_82 : decode cX6_lays 82 = .ok (.iload_n 2, 1) := by decide +kernel
theorem dX6_lays_83 : decode cX6_lays 83 = .ok (.iconst 2, 1) := by decide +kernel
theorem dX6_lays_84 : decode cX6_lays 84 = .ok (.invokevirtual 51, 3) := by decide +kernel
theorem dX6_lays_87 : decode cX6_lays 87 = .ok (.aload_n 0, 1) := by decide +kernel
theorem dX6_lays_88 : decode cX6_lays 88 = .ok (.iload_n 2, 1) := by decide +kernel
theorem dX6_lays_89 : decode cX6_lays 89 = .ok (.iconst 1, 1) := by decide +kernel
theorem dX6_lays_90 : decode cX6_lays 90 = .ok (.invokevirtual 51, 3) := by decide +kernel
theorem dX6_lays_93 : decode cX6_lays 93 = .ok (.aload_n 0, 1) := by decide +kernel
theorem dX6_lays_94 : decode cX6_lays 94 = .ok (.iload_n 2, 1) := by decide +kernel
theorem dX6_lays_95 : decode cX6_lays 95 = .ok (.invokevirtual 90, 3) := by decide +kernel
theorem dX6_lays_98 : decode cX6_lays 98 = .ok (.ineg, 1) := by decide +kernel
theorem dX6_lays_99 : decode cX6_lays 99 = .ok (.invokevirtual 110, 3) := by decide +kernel
theorem dX6_lays_102 : decode cX6_lays 102 = .ok (.iinc 2 1, 3) := by decide +kernel
theorem dX6_lays_105 : decode cX6_lays 105 = .ok (.goto (-65), 3) := by decide +kernel
theorem dX6_lays_108 : decode cX6_lays 108 = .ok (.return_, 1) := by decide +kernel
theorem dX6_follows_0 : decode cX6_follows 0 = .ok (.iconst 0, 1) := by decide +kernel
theorem dX6_follows_1 : decode cX6_follows 1 = .ok (.istore_n 1, 1) := by decide +kernel
theorem dX6_follows_2 : decode cX6_follows 2 = .ok (.iload_n 1, 1) := by decide +kernel
theorem dX6_follows_3 : decode cX6_follows 3 = .ok (.bipush 8, 2) := by decide +kernel
theorem dX6_follows_5 : decode cX6_follows 5 = .ok (.if_icmp .ge 79, 3) := by decide +kernel
theorem dX6_follows_8 : decode cX6_follows 8 = .ok (.iconst 0, 1) := by decide +kernel
theorem dX6_follows_9 : decode cX6_follows 9 = .ok (.istore_n 2, 1) := by decide +kernel
theorem dX6_follows_10 : decode cX6_follows 10 = .ok (.iload_n 2, 1) := by decide +kernel
theorem dX6_follows_11 : decode cX6_follows 11 = .ok (.bipush 64, 2) := by decide +kernel
theorem dX6_follows_13 : decode cX6_follows 13 = .ok (.if_icmp .ge 65, 3) := by decide +kernel
theorem dX6_follows_16 : decode cX6_follows 16 = .ok (.aload_n 0, 1) := by decide +kernel
theorem dX6_follows_17 : decode cX6_follows 17 = .ok (.getfield 34, 3) := by decide +kernel
theorem dX6_follows_20 : decode cX6_follows 20 = .ok (.bipush 8, 2) := by decide +kernel
theorem dX6_follows_22 : decode cX6_follows 22 = .ok (.iload_n 2, 1) := by decide +kernel
theorem dX6_follows_23 : decode cX6_follows 23 = .ok (.bipush 8, 2) := by decide +kernel
theorem dX6_follows_25 : decode cX6_follows 25 = .ok (.idiv, 1) := by decide +kernel
theorem dX6_follows_26 : decode cX6_follows 26 = .ok (.imul, 1) := by decide +kernel
theorem dX6_follows_27 : decode cX6_follows 27 = .ok (.iload_n 1, 1) := by decide +kernel
theorem dX6_follows_28 : decode cX6_follows 28 = .ok (.iadd, 1) := by decide +kernel
theorem dX6_follows_29 : decode cX6_follows 29 = .ok (.iaload, 1) := by decide +kernel
theorem dX6_follows_30 : decode cX6_follows 30 = .ok (.aload_n 0, 1) := by decide +kernel
theorem dX6_follows_31 : decode cX6_follows 31 = .ok (.getfield 34, 3) := by decide +kernel
theorem dX6_follows_34 : decode cX6_follows 34 = .ok (.bipush 8, 2) := by decide +kernel
theorem dX6_follows_36 : decode cX6_follows 36 = .ok (.iload_n 1, 1) := by decide +kernel
theorem dX6_follows_37 : decode cX6_follows 37 = .ok (.imul, 1) := by decide +kernel
theorem dX6_follows_38 : decode cX6_follows 38 = .ok (.iload_n 2, 1) := by decide +kernel
theorem dX6_follows_39 : decode cX6_follows 39 = .ok (.bipush 8, 2) := by decide +kernel
theorem dX6_follows_41 : decode cX6_follows 41 = .ok (.irem, 1) := by decide +kernel
theorem dX6_follows_42 : decode cX6_follows 42 = .ok (.iadd, 1) := by decide +kernel
theorem dX6_follows_43 : decode cX6_follows 43 = .ok (.iaload, 1) := by decide +kernel
theorem dX6_follows_44 : decode cX6_follows 44 = .ok (.iadd, 1) := by decide +kernel
theorem dX6_follows_45 : decode cX6_follows 45 = .ok (.istore_n 3, 1) := by decide +kernel
theorem dX6_follows_46 : decode cX6_follows 46 = .ok (.aload_n 0, 1) := by decide +kernel
theorem dX6_follows_47 : decode cX6_follows 47 = .ok (.getfield 34, 3) := by decide +kernel
theorem dX6_follows_50 : decode cX6_follows 50 = .ok (.iload_n 2, 1) := by decide +kernel
theorem dX6_follows_51 : decode cX6_follows 51 = .ok (.iload_n 3, 1) := by decide +kernel
theorem dX6_follows_52 : decode cX6_follows 52 = .ok (.aload_n 0, 1) := by decide +kernel
theorem dX6_follows_53 : decode cX6_follows 53 = .ok (.getfield 34, 3) := by decide +kernel
theorem dX6_follows_56 : decode cX6_follows 56 = .ok (.iload_n 2, 1) := by decide +kernel
theorem dX6_follows_57 : decode cX6_follows 57 = .ok (.iaload, 1) := by decide +kernel
theorem dX6_follows_58 : decode cX6_follows 58 = .ok (.if_icmp .ge 7, 3) := by decide +kernel
theorem dX6_follows_61 : decode cX6_follows 61 = .ok (.iload_n 3, 1) := by decide +kernel
theorem dX6_follows_62 : decode cX6_follows 62 = .ok (.goto 9, 3) := by decide +kernel
theorem dX6_follows_65 : decode cX6_follows 65 = .ok (.aload_n 0, 1) := by decide +kernel
theorem dX6_follows_66 : decode cX6_follows 66 = .ok (.getfield 34, 3) := by decide +kernel
theorem dX6_follows_69 : decode cX6_follows 69 = .ok (.iload_n 2, 1) := by decide +kernel
theorem dX6_follows_70 : decode cX6_follows 70 = .ok (.iaload, 1) := by decide +kernel
theorem dX6_follows_71 : decode cX6_follows 71 = .ok (.iastore, 1) := by decide +kernel
theorem dX6_follows_72 : decode cX6_follows 72 = .ok (.iinc 2 1, 3) := by decide +kernel
theorem dX6_follows_75 : decode cX6_follows 75 = .ok (.goto (-65), 3) := by decide +kernel
theorem dX6_follows_78 : decode cX6_follows 78 = .ok (.iinc 1 1, 3) := by decide +kernel
theorem dX6_follows_81 : decode cX6_follows 81 = .ok (.goto (-79), 3) := by decide +kernel
theorem dX6_follows_84 : decode cX6_follows 84 = .ok (.iconst 1, 1) := by decide +kernel
theorem dX6_follows_85 : decode cX6_follows 85 = .ok (.istore_n 1, 1) := by decide +kernel
theorem dX6_follows_86 : decode cX6_follows 86 = .ok (.iconst 0, 1) := by decide +kernel
theorem dX6_follows_87 : decode cX6_follows 87 = .ok (.istore_n 2, 1) := by decide +kernel
theorem dX6_follows_88 : decode cX6_follows 88 = .ok (.iload_n 2, 1) := by decide +kernel
theorem dX6_follows_89 : decode cX6_follows 89 = .ok (.bipush 8, 2) := by decide +kernel
theorem dX6_follows_91 : decode cX6_follows 91 = .ok (.if_icmp .ge 31, 3) := by decide +kernel
theorem dX6_follows_94 : decode cX6_follows 94 = .ok (.iload_n 1, 1) := by decide +kernel
theorem dX6_follows_95 : decode cX6_follows 95 = .ok (.aload_n 0, 1) := by decide +kernel
theorem dX6_follows_96 : decode cX6_follows 96 = .ok (.getfield 34, 3) := by decide +kernel
theorem dX6_follows_99 : decode cX6_follows 99 = .ok (.bipush 8, 2) := by decide +kernel
theorem dX6_follows_101 : decode cX6_follows 101 = .ok (.iload_n 2, 1) := by decide +kernel
theorem dX6_follows_102 : decode cX6_follows 102 = .ok (.imul, 1) := by decide +kernel
theorem dX6_follows_103 : decode cX6_follows 103 = .ok (.iload_n 2, 1) := by decide +kernel
theorem dX6_follows_104 : decode cX6_follows 104 = .ok (.iadd, 1) := by decide +kernel
theorem dX6_follows_105 : decode cX6_follows 105 = .ok (.iaload, 1) := by decide +kernel
theorem dX6_follows_106 : decode cX6_follows 106 = .ok (.ifCond .lt 7, 3) := by decide +kernel
theorem dX6_follows_109 : decode cX6_follows 109 = .ok (.iconst 1, 1) := by decide +kernel
theorem dX6_follows_110 : decode cX6_follows 110 = .ok (.goto 4, 3) := by decide +kernel
theorem dX6_follows_113 : decode cX6_follows 113 = .ok (.iconst 0, 1) := by decide +kernel
theorem dX6_follows_114 : decode cX6_follows 114 = .ok (.iand, 1) := by decide +kernel
theorem dX6_follows_115 : decode cX6_follows 115 = .ok (.istore_n 1, 1) := by decide +kernel
theorem dX6_follows_116 : decode cX6_follows 116 = .ok (.iinc 2 1, 3) := by decide +kernel
theorem dX6_follows_119 : decode cX6_follows 119 = .ok (.goto (-31), 3) := by decide +kernel
theorem dX6_follows_122 : decode cX6_follows 122 = .ok (.iload_n 1, 1) := by decide +kernel
theorem dX6_follows_123 : decode cX6_follows 123 = .ok (.ireturn, 1) := by decide +kernel
theorem dX6_canHold_0 : decode cX6_canHold 0 = .ok (.aload_n 0, 1) := by decide +kernel
theorem dX6_canHold_1 : decode cX6_canHold 1 = .ok (.iload_n 1, 1) := by decide +kernel
theorem dX6_canHold_2 : decode cX6_canHold 2 = .ok (.invokevirtual 114, 3) := by decide +kernel
theorem dX6_canHold_5 : decode cX6_canHold 5 = .ok (.aload_n 0, 1) := by decide +kernel
theorem dX6_canHold_6 : decode cX6_canHold 6 = .ok (.invokevirtual 118, 3) := by decide +kernel
theorem dX6_canHold_9 : decode cX6_canHold 9 = .ok (.ireturn, 1) := by decide +kernel
theorem dX6_isFitting_0 : decode cX6_isFitting 0 = .ok (.aload_n 0, 1) := by decide +kernel
theorem dX6_isFitting_1 : decode cX6_isFitting 1 = .ok (.aload_n 0, 1) := by decide +kernel
theorem dX6_isFitting_2 : decode cX6_isFitting 2 = .ok (.iconst 0, 1) := by decide +kernel
theorem dX6_isFitting_3 : decode cX6_isFitting 3 = .ok (.invokevirtual 96, 3) := by decide +kernel
theorem dX6_isFitting_6 : decode cX6_isFitting 6 = .ok (.invokevirtual 122, 3) := by decide +kernel
theorem dX6_isFitting_9 : decode cX6_isFitting 9 = .ok (.ireturn, 1) := by decide +kernel
theorem dX6_spanOf_0 : decode cX6_spanOf 0 = .ok (.aload_n 0, 1) := by decide +kernel
theorem dX6_spanOf_1 : decode cX6_spanOf 1 = .ok (.getfield 34, 3) := by decide +kernel
theorem dX6_spanOf_4 : decode cX6_spanOf 4 = .ok (.bipush 8, 2) := by decide +kernel
theorem dX6_spanOf_6 : decode cX6_spanOf 6 = .ok (.iload_n 1, 1) := by decide +kernel
theorem dX6_spanOf_7 : decode cX6_spanOf 7 = .ok (.imul, 1) := by decide +kernel
theorem dX6_spanOf_8 : decode cX6_spanOf 8 = .ok (.iload_n 2, 1) := by decide +kernel
theorem dX6_spanOf_9 : decode cX6_spanOf 9 = .ok (.iadd, 1) := by decide +kernel
theorem dX6_spanOf_10 : decode cX6_spanOf 10 = .ok (.iaload, 1) := by decide +kernel
theorem dX6_spanOf_11 : decode cX6_spanOf 11 = .ok (.aload_n 0, 1) := by decide +kernel
theorem dX6_spanOf_12 : decode cX6_spanOf 12 = .ok (.getfield 34, 3) := by decide +kernel
theorem dX6_spanOf_15 : decode cX6_spanOf 15 = .ok (.bipush 8, 2) := by decide +kernel
theorem dX6_spanOf_17 : decode cX6_spanOf 17 = .ok (.iload_n 2, 1) := by decide +kernel
theorem dX6_spanOf_18 : decode cX6_spanOf 18 = .ok (.imul, 1) := by decide +kernel
theorem dX6_spanOf_19 : decode cX6_spanOf 19 = .ok (.iload_n 1, 1) := by decide +kernel
theorem dX6_spanOf_20 : decode cX6_spanOf 20 = .ok (.iadd, 1) := by decide +kernel
theorem dX6_spanOf_21 : decode cX6_spanOf 21 = .ok (.iaload, 1) := by decide +kernel
theorem dX6_spanOf_22 : decode cX6_spanOf 22 = .ok (.iadd, 1) := by decide +kernel
theorem dX6_spanOf_23 : decode cX6_spanOf 23 = .ok (.iconst 1, 1) := by decide +kernel
theorem dX6_spanOf_24 : decode cX6_spanOf 24 = .ok (.iadd, 1) := by decide +kernel
theorem dX6_spanOf_25 : decode cX6_spanOf 25 = .ok (.ireturn, 1) := by decide +kernel
theorem dX6_spans_0 : decode cX6_spans 0 = .ok (.iconst 0, 1) := by decide +kernel
theorem dX6_spans_1 : decode cX6_spans 1 = .ok (.istore_n 1, 1) := by decide +kernel
theorem dX6_spans_2 : decode cX6_spans 2 = .ok (.iconst 0, 1) := by decide +kernel
theorem dX6_spans_3 : decode cX6_spans 3 = .ok (.istore_n 2, 1) := by decide +kernel
theorem dX6_spans_4 : decode cX6_spans 4 = .ok (.iload_n 2, 1) := by decide +kernel
theorem dX6_spans_5 : decode cX6_spans 5 = .ok (.bipush 8, 2) := by decide +kernel
theorem dX6_spans_7 : decode cX6_spans 7 = .ok (.if_icmp .ge 34, 3) := by decide +kernel
theorem dX6_spans_10 : decode cX6_spans 10 = .ok (.iload_n 2, 1) := by decide +kernel
theorem dX6_spans_11 : decode cX6_spans 11 = .ok (.iconst 1, 1) := by decide +kernel
theorem dX6_spans_12 : decode cX6_spans 12 = .ok (.iadd, 1) := by decide +kernel
theorem dX6_spans_13 : decode cX6_spans 13 = .ok (.istore_n 3, 1) := by decide +kernel
theorem dX6_spans_14 : decode cX6_spans 14 = .ok (.iload_n 3, 1) := by decide +kernel
theorem dX6_spans_15 : decode cX6_spans 15 = .ok (.bipush 8, 2) := by decide +kernel
theorem dX6_spans_17 : decode cX6_spans 17 = .ok (.if_icmp .ge 18, 3) := by decide +kernel
theorem dX6_spans_20 : decode cX6_spans 20 = .ok (.iload_n 1, 1) := by decide +kernel
theorem dX6_spans_21 : decode cX6_spans 21 = .ok (.aload_n 0, 1) := by decide +kernel
theorem dX6_spans_22 : decode cX6_spans 22 = .ok (.iload_n 2, 1) := by decide +kernel
theorem dX6_spans_23 : decode cX6_spans 23 = .ok (.iload_n 3, 1) := by decide +kernel
theorem dX6_spans_24 : decode cX6_spans 24 = .ok (.invokevirtual 125, 3) := by decide +kernel
theorem dX6_spans_27 : decode cX6_spans 27 = .ok (.iadd, 1) := by decide +kernel
theorem dX6_spans_28 : decode cX6_spans 28 = .ok (.istore_n 1, 1) := by decide +kernel
theorem dX6_spans_29 : decode cX6_spans 29 = .ok (.iinc 3 1, 3) := by decide +kernel
theorem dX6_spans_32 : decode cX6_spans 32 = .ok (.goto (-18), 3) := by decide +kernel
theorem dX6_spans_35 : decode cX6_spans 35 = .ok (.iinc 2 1, 3) := by decide +kernel
theorem dX6_spans_38 : decode cX6_spans 38 = .ok (.goto (-34), 3) := by decide +kernel
theorem dX6_spans_41 : decode cX6_spans 41 = .ok (.iload_n 1, 1) := by decide +kernel
theorem dX6_spans_42 : decode cX6_spans 42 = .ok (.ireturn, 1) := by decide +kernel
theorem dX6_fits_0 : decode cX6_fits 0 = .ok (.aload_n 0, 1) := by decide +kernel
theorem dX6_fits_1 : decode cX6_fits 1 = .ok (.invokevirtual 128, 3) := by decide +kernel
theorem dX6_fits_4 : decode cX6_fits 4 = .ok (.ifCond .eq 7, 3) := by decide +kernel
theorem dX6_fits_7 : decode cX6_fits 7 = .ok (.iconst 1, 1) := by decide +kernel
theorem dX6_fits_8 : decode cX6_fits 8 = .ok (.goto 4, 3) := by decide +kernel
theorem dX6_fits_11 : decode cX6_fits 11 = .ok (.iconst 0, 1) := by decide +kernel
theorem dX6_fits_12 : decode cX6_fits 12 = .ok (.ireturn, 1) := by decide +kernel
theorem dX6_span_0 : decode cX6_span 0 = .ok (.iload_n 1, 1) := by decide +kernel
theorem dX6_span_1 : decode cX6_span 1 = .ok (.iload_n 2, 1) := by decide +kernel
theorem dX6_span_2 : decode cX6_span 2 = .ok (.invokestatic 70, 3) := by decide +kernel
theorem dX6_span_5 : decode cX6_span 5 = .ok (.ifCond .eq 15, 3) := by decide +kernel
theorem dX6_span_8 : decode cX6_span 8 = .ok (.iload_n 3, 1) := by decide +kernel
theorem dX6_span_9 : decode cX6_span 9 = .ok (.i2l, 1) := by decide +kernel
theorem dX6_span_10 : decode cX6_span 10 = .ok (.lconst 0, 1) := by decide +kernel
theorem dX6_span_11 : decode cX6_span 11 = .ok (.ldc2_w 131, 3) := by decide +kernel
theorem dX6_span_14 : decode cX6_span 14 = .ok (.invokestatic 42, 3) := by decide +kernel
theorem dX6_span_17 : decode cX6_span 17 = .ok (.ifCond .ne 10, 3) := by decide +kernel
theorem dX6_span_20 : decode cX6_span 20 = .ok (.aload_n 0, 1) := by decide +kernel
theorem dX6_span_21 : decode cX6_span 21 = .ok (.ldc 37, 2) := by decide +kernel
theorem dX6_span_23 : decode cX6_span 23 = .ok (.invokevirtual 47, 3) := by decide +kernel
theorem dX6_span_26 : decode cX6_span 26 = .ok (.ireturn, 1) := by decide +kernel
theorem dX6_span_27 : decode cX6_span 27 = .ok (.aload_n 0, 1) := by decide +kernel
theorem dX6_span_28 : decode cX6_span 28 = .ok (.invokevirtual 128, 3) := by decide +kernel
theorem dX6_span_31 : decode cX6_span 31 = .ok (.ifCond .ne 10, 3) := by decide +kernel
theorem dX6_span_34 : decode cX6_span 34 = .ok (.aload_n 0, 1) := by decide +kernel
theorem dX6_span_35 : decode cX6_span 35 = .ok (.ldc 46, 2) := by decide +kernel
theorem dX6_span_37 : decode cX6_span 37 = .ok (.invokevirtual 47, 3) := by decide +kernel
theorem dX6_span_40 : decode cX6_span 40 = .ok (.ireturn, 1) := by decide +kernel
theorem dX6_span_41 : decode cX6_span 41 = .ok (.iload_n 3, 1) := by decide +kernel
theorem dX6_span_42 : decode cX6_span 42 = .ok (.ifCond .ne 18, 3) := by decide +kernel
theorem dX6_span_45 : decode cX6_span 45 = .ok (.aload_n 0, 1) := by decide +kernel
theorem dX6_span_46 : decode cX6_span 46 = .ok (.getfield 34, 3) := by decide +kernel
theorem dX6_span_49 : decode cX6_span 49 = .ok (.bipush 8, 2) := by decide +kernel
theorem dX6_span_51 : decode cX6_span 51 = .ok (.iload_n 2, 1) := by decide +kernel
theorem dX6_span_52 : decode cX6_span 52 = .ok (.imul, 1) := by decide +kernel
theorem dX6_span_53 : decode cX6_span 53 = .ok (.iload_n 1, 1) := by decide +kernel
theorem dX6_span_54 : decode cX6_span 54 = .ok (.iadd, 1) := by decide +kernel
theorem dX6_span_55 : decode cX6_span 55 = .ok (.iaload, 1) := by decide +kernel
theorem dX6_span_56 : decode cX6_span 56 = .ok (.ineg, 1) := by decide +kernel
theorem dX6_span_57 : decode cX6_span 57 = .ok (.goto 28, 3) := by decide +kernel
theorem dX6_span_60 : decode cX6_span 60 = .ok (.iload_n 3, 1) := by decide +kernel
theorem dX6_span_61 : decode cX6_span 61 = .ok (.iconst 1, 1) := by decide +kernel
theorem dX6_span_62 : decode cX6_span 62 = .ok (.if_icmp .ne 17, 3) := by decide +kernel
theorem dX6_span_65 : decode cX6_span 65 = .ok (.aload_n 0, 1) := by decide +kernel
theorem dX6_span_66 : decode cX6_span 66 = .ok (.getfield 34, 3) := by decide +kernel
theorem dX6_span_69 : decode cX6_span 69 = .ok (.bipush 8, 2) := by decide +kernel
theorem dX6_span_71 : decode cX6_span 71 = .ok (.iload_n 1, 1) := by decide +kernel
theorem dX6_span_72 : decode cX6_span 72 = .ok (.imul, 1) := by decide +kernel
theorem dX6_span_73 : decode cX6_span 73 = .ok (.iload_n 2, 1) := by decide +kernel
theorem dX6_span_74 : decode cX6_span 74 = .ok (.iadd, 1) := by decide +kernel
theorem dX6_span_75 : decode cX6_span 75 = .ok (.iaload, 1) := by decide +kernel
theorem dX6_span_76 : decode cX6_span 76 = .ok (.goto 9, 3) := by decide +kernel
theorem dX6_span_79 : decode cX6_span 79 = .ok (.aload_n 0, 1) := by decide +kernel
theorem dX6_span_80 : decode cX6_span 80 = .ok (.iload_n 1, 1) := by decide +kernel
theorem dX6_span_81 : decode cX6_span 81 = .ok (.iload_n 2, 1) := by decide +kernel
theorem dX6_span_82 : decode cX6_span 82 = .ok (.invokevirtual 125, 3) := by decide +kernel
theorem dX6_span_85 : decode cX6_span 85 = .ok (.ireturn, 1) := by decide +kernel
theorem dX6_sure_0 : decode cX6_sure 0 = .ok (.iload_n 1, 1) := by decide +kernel
theorem dX6_sure_1 : decode cX6_sure 1 = .ok (.invokestatic 38, 3) := by decide +kernel
theorem dX6_sure_4 : decode cX6_sure 4 = .ok (.ifCond .ne 10, 3) := by decide +kernel
theorem dX6_sure_7 : decode cX6_sure 7 = .ok (.aload_n 0, 1) := by decide +kernel
theorem dX6_sure_8 : decode cX6_sure 8 = .ok (.ldc 37, 2) := by decide +kernel
theorem dX6_sure_10 : decode cX6_sure 10 = .ok (.invokevirtual 47, 3) := by decide +kernel
theorem dX6_sure_13 : decode cX6_sure 13 = .ok (.ireturn, 1) := by decide +kernel
theorem dX6_sure_14 : decode cX6_sure 14 = .ok (.aload_n 0, 1) := by decide +kernel
theorem dX6_sure_15 : decode cX6_sure 15 = .ok (.invokevirtual 128, 3) := by decide +kernel
theorem dX6_sure_18 : decode cX6_sure 18 = .ok (.ifCond .ne 10, 3) := by decide +kernel
theorem dX6_sure_21 : decode cX6_sure 21 = .ok (.aload_n 0, 1) := by decide +kernel
theorem dX6_sure_22 : decode cX6_sure 22 = .ok (.ldc 46, 2) := by decide +kernel
theorem dX6_sure_24 : decode cX6_sure 24 = .ok (.invokevirtual 47, 3) := by decide +kernel
theorem dX6_sure_27 : decode cX6_sure 27 = .ok (.ireturn, 1) := by decide +kernel
theorem dX6_sure_28 : decode cX6_sure 28 = .ok (.iconst 0, 1) := by decide +kernel
theorem dX6_sure_29 : decode cX6_sure 29 = .ok (.istore_n 2, 1) := by decide +kernel
theorem dX6_sure_30 : decode cX6_sure 30 = .ok (.iconst 0, 1) := by decide +kernel
theorem dX6_sure_31 : decode cX6_sure 31 = .ok (.istore_n 3, 1) := by decide +kernel
theorem dX6_sure_32 : decode cX6_sure 32 = .ok (.iload_n 3, 1) := by decide +kernel
theorem dX6_sure_33 : decode cX6_sure 33 = .ok (.bipush 8, 2) := by decide +kernel
theorem dX6_sure_35 : decode cX6_sure 35 = .ok (.if_icmp .ge 29, 3) := by decide +kernel
theorem dX6_sure_38 : decode cX6_sure 38 = .ok (.iload_n 2, 1) := by decide +kernel
theorem dX6_sure_39 : decode cX6_sure 39 = .ok (.aload_n 0, 1) := by decide +kernel
theorem dX6_sure_40 : decode cX6_sure 40 = .ok (.iload_n 1, 1) := by decide +kernel
theorem dX6_sure_41 : decode cX6_sure 41 = .ok (.iload_n 3, 1) := by decide +kernel
theorem dX6_sure_42 : decode cX6_sure 42 = .ok (.invokevirtual 125, 3) := by decide +kernel
theorem dX6_sure_45 : decode cX6_sure 45 = .ok (.iconst 1, 1) := by decide +kernel
theorem dX6_sure_46 : decode cX6_sure 46 = .ok (.if_icmp .ne 9, 3) := by decide +kernel
theorem dX6_sure_49 : decode cX6_sure 49 = .ok (.iconst 1, 1) := by decide +kernel
theorem dX6_sure_50 : decode cX6_sure 50 = .ok (.iload_n 3, 1) := by decide +kernel
theorem dX6_sure_51 : decode cX6_sure 51 = .ok (.ishl, 1) := by decide +kernel
theorem dX6_sure_52 : decode cX6_sure 52 = .ok (.goto 4, 3) := by decide +kernel
theorem dX6_sure_55 : decode cX6_sure 55 = .ok (.iconst 0, 1) := by decide +kernel
theorem dX6_sure_56 : decode cX6_sure 56 = .ok (.ior, 1) := by decide +kernel
theorem dX6_sure_57 : decode cX6_sure 57 = .ok (.istore_n 2, 1) := by decide +kernel
theorem dX6_sure_58 : decode cX6_sure 58 = .ok (.iinc 3 1, 3) := by decide +kernel
theorem dX6_sure_61 : decode cX6_sure 61 = .ok (.goto (-29), 3) := by decide +kernel
theorem dX6_sure_64 : decode cX6_sure 64 = .ok (.iload_n 2, 1) := by decide +kernel
theorem dX6_sure_65 : decode cX6_sure 65 = .ok (.ireturn, 1) := by decide +kernel
theorem dX6_below_0 : decode cX6_below 0 = .ok (.iload_n 1, 1) := by decide +kernel
theorem dX6_below_1 : decode cX6_below 1 = .ok (.invokestatic 38, 3) := by decide +kernel
theorem dX6_below_4 : decode cX6_below 4 = .ok (.ifCond .ne 10, 3) := by decide +kernel
theorem dX6_below_7 : decode cX6_below 7 = .ok (.aload_n 0, 1) := by decide +kernel
theorem dX6_below_8 : decode cX6_below 8 = .ok (.ldc 37, 2) := by decide +kernel
theorem dX6_below_10 : decode cX6_below 10 = .ok (.invokevirtual 47, 3) := by decide +kernel
theorem dX6_below_13 : decode cX6_below 13 = .ok (.ireturn, 1) := by decide +kernel
theorem dX6_below_14 : decode cX6_below 14 = .ok (.aload_n 0, 1) := by decide +kernel
theorem dX6_below_15 : decode cX6_below 15 = .ok (.invokevirtual 128, 3) := by decide +kernel
theorem dX6_below_18 : decode cX6_below 18 = .ok (.ifCond .ne 10, 3) := by decide +kernel
theorem dX6_below_21 : decode cX6_below 21 = .ok (.aload_n 0, 1) := by decide +kernel
theorem dX6_below_22 : decode cX6_below 22 = .ok (.ldc 46, 2) := by decide +kernel
theorem dX6_below_24 : decode cX6_below 24 = .ok (.invokevirtual 47, 3) := by decide +kernel
theorem dX6_below_27 : decode cX6_below 27 = .ok (.ireturn, 1) := by decide +kernel
theorem dX6_below_28 : decode cX6_below 28 = .ok (.iconst 0, 1) := by decide +kernel
theorem dX6_below_29 : decode cX6_below 29 = .ok (.istore_n 2, 1) := by decide +kernel
theorem dX6_below_30 : decode cX6_below 30 = .ok (.iconst 0, 1) := by decide +kernel
theorem dX6_below_31 : decode cX6_below 31 = .ok (.istore_n 3, 1) := by decide +kernel
theorem dX6_below_32 : decode cX6_below 32 = .ok (.iload_n 3, 1) := by decide +kernel
theorem dX6_below_33 : decode cX6_below 33 = .ok (.bipush 8, 2) := by decide +kernel
theorem dX6_below_35 : decode cX6_below 35 = .ok (.if_icmp .ge 33, 3) := by decide +kernel
theorem dX6_below_38 : decode cX6_below 38 = .ok (.iload_n 2, 1) := by decide +kernel
theorem dX6_below_39 : decode cX6_below 39 = .ok (.aload_n 0, 1) := by decide +kernel
theorem dX6_below_40 : decode cX6_below 40 = .ok (.getfield 34, 3) := by decide +kernel
theorem dX6_below_43 : decode cX6_below 43 = .ok (.bipush 8, 2) := by decide +kernel
theorem dX6_below_45 : decode cX6_below 45 = .ok (.iload_n 3, 1) := by decide +kernel
theorem dX6_below_46 : decode cX6_below 46 = .ok (.imul, 1) := by decide +kernel
theorem dX6_below_47 : decode cX6_below 47 = .ok (.iload_n 1, 1) := by decide +kernel
theorem dX6_below_48 : decode cX6_below 48 = .ok (.iadd, 1) := by decide +kernel
theorem dX6_below_49 : decode cX6_below 49 = .ok (.iaload, 1) := by decide +kernel
theorem dX6_below_50 : decode cX6_below 50 = .ok (.ifCond .ge 9, 3) := by decide +kernel
theorem dX6_below_53 : decode cX6_below 53 = .ok (.iconst 1, 1) := by decide +kernel
theorem dX6_below_54 : decode cX6_below 54 = .ok (.iload_n 3, 1) := by decide +kernel
theorem dX6_below_55 : decode cX6_below 55 = .ok (.ishl, 1) := by decide +kernel
theorem dX6_below_56 : decode cX6_below 56 = .ok (.goto 4, 3) := by decide +kernel
theorem dX6_below_59 : decode cX6_below 59 = .ok (.iconst 0, 1) := by decide +kernel
theorem dX6_below_60 : decode cX6_below 60 = .ok (.ior, 1) := by decide +kernel
theorem dX6_below_61 : decode cX6_below 61 = .ok (.istore_n 2, 1) := by decide +kernel
theorem dX6_below_62 : decode cX6_below 62 = .ok (.iinc 3 1, 3) := by decide +kernel
theorem dX6_below_65 : decode cX6_below 65 = .ok (.goto (-33), 3) := by decide +kernel
theorem dX6_below_68 : decode cX6_below 68 = .ok (.iload_n 2, 1) := by decide +kernel
theorem dX6_below_69 : decode cX6_below 69 = .ok (.ireturn, 1) := by decide +kernel
theorem dX6_widest_0 : decode cX6_widest 0 = .ok (.aload_n 0, 1) := by decide +kernel
theorem dX6_widest_1 : decode cX6_widest 1 = .ok (.invokevirtual 128, 3) := by decide +kernel
theorem dX6_widest_4 : decode cX6_widest 4 = .ok (.ifCond .ne 10, 3) := by decide +kernel
theorem dX6_widest_7 : decode cX6_widest 7 = .ok (.aload_n 0, 1) := by decide +kernel
theorem dX6_widest_8 : decode cX6_widest 8 = .ok (.ldc 46, 2) := by decide +kernel
theorem dX6_widest_10 : decode cX6_widest 10 = .ok (.invokevirtual 47, 3) := by decide +kernel
theorem dX6_widest_13 : decode cX6_widest 13 = .ok (.ireturn, 1) := by decide +kernel
theorem dX6_widest_14 : decode cX6_widest 14 = .ok (.iconst 1, 1) := by decide +kernel
theorem dX6_widest_15 : decode cX6_widest 15 = .ok (.istore_n 1, 1) := by decide +kernel
theorem dX6_widest_16 : decode cX6_widest 16 = .ok (.iconst 2, 1) := by decide +kernel
theorem dX6_widest_17 : decode cX6_widest 17 = .ok (.istore_n 2, 1) := by decide +kernel
theorem dX6_widest_18 : decode cX6_widest 18 = .ok (.iload_n 2, 1) := by decide +kernel
theorem dX6_widest_19 : decode cX6_widest 19 = .ok (.bipush 64, 2) := by decide +kernel
theorem dX6_widest_21 : decode cX6_widest 21 = .ok (.if_icmp .ge 53, 3) := by decide +kernel
theorem dX6_widest_24 : decode cX6_widest 24 = .ok (.iload_n 2, 1) := by decide +kernel
theorem dX6_widest_25 : decode cX6_widest 25 = .ok (.bipush 8, 2) := by decide +kernel
theorem dX6_widest_27 : decode cX6_widest 27 = .ok (.idiv, 1) := by decide +kernel
theorem dX6_widest_28 : decode cX6_widest 28 = .ok (.iload_n 2, 1) := by decide +kernel
theorem dX6_widest_29 : decode cX6_widest 29 = .ok (.bipush 8, 2) := by decide +kernel
theorem dX6_widest_31 : decode cX6_widest 31 = .ok (.irem, 1) := by decide +kernel
theorem dX6_widest_32 : decode cX6_widest 32 = .ok (.if_icmp .ge 34, 3) := by decide +kernel
theorem dX6_widest_35 : decode cX6_widest 35 = .ok (.aload_n 0, 1) := by decide +kernel
theorem dX6_widest_36 : decode cX6_widest 36 = .ok (.iload_n 2, 1) := by decide +kernel
theorem dX6_widest_37 : decode cX6_widest 37 = .ok (.bipush 8, 2) := by decide +kernel
theorem dX6_widest_39 : decode cX6_widest 39 = .ok (.idiv, 1) := by decide +kernel
theorem dX6_widest_40 : decode cX6_widest 40 = .ok (.iload_n 2, 1) := by decide +kernel
theorem dX6_widest_41 : decode cX6_widest 41 = .ok (.bipush 8, 2) := by decide +kernel
theorem dX6_widest_43 : decode cX6_widest 43 = .ok (.irem, 1) := by decide +kernel
theorem dX6_widest_44 : decode cX6_widest 44 = .ok (.invokevirtual 125, 3) := by decide +kernel
theorem dX6_widest_47 : decode cX6_widest 47 = .ok (.aload_n 0, 1) := by decide +kernel
theorem dX6_widest_48 : decode cX6_widest 48 = .ok (.iload_n 1, 1) := by decide +kernel
theorem dX6_widest_49 : decode cX6_widest 49 = .ok (.bipush 8, 2) := by decide +kernel
theorem dX6_widest_51 : decode cX6_widest 51 = .ok (.idiv, 1) := by decide +kernel
theorem dX6_widest_52 : decode cX6_widest 52 = .ok (.iload_n 1, 1) := by decide +kernel
theorem dX6_widest_53 : decode cX6_widest 53 = .ok (.bipush 8, 2) := by decide +kernel
theorem dX6_widest_55 : decode cX6_widest 55 = .ok (.irem, 1) := by decide +kernel
theorem dX6_widest_56 : decode cX6_widest 56 = .ok (.invokevirtual 125, 3) := by decide +kernel
theorem dX6_widest_59 : decode cX6_widest 59 = .ok (.if_icmp .le 7, 3) := by decide +kernel
theorem dX6_widest_62 : decode cX6_widest 62 = .ok (.iload_n 2, 1) := by decide +kernel
theorem dX6_widest_63 : decode cX6_widest 63 = .ok (.goto 4, 3) := by decide +kernel
theorem dX6_widest_66 : decode cX6_widest 66 = .ok (.iload_n 1, 1) := by decide +kernel
theorem dX6_widest_67 : decode cX6_widest 67 = .ok (.istore_n 1, 1) := by decide +kernel
theorem dX6_widest_68 : decode cX6_widest 68 = .ok (.iinc 2 1, 3) := by decide +kernel
theorem dX6_widest_71 : decode cX6_widest 71 = .ok (.goto (-53), 3) := by decide +kernel
theorem dX6_widest_74 : decode cX6_widest 74 = .ok (.iload_n 1, 1) := by decide +kernel
theorem dX6_widest_75 : decode cX6_widest 75 = .ok (.ireturn, 1) := by decide +kernel
theorem dX6_unknown_0 : decode cX6_unknown 0 = .ok (.aload_n 0, 1) := by decide +kernel
theorem dX6_unknown_1 : decode cX6_unknown 1 = .ok (.invokevirtual 128, 3) := by decide +kernel
theorem dX6_unknown_4 : decode cX6_unknown 4 = .ok (.ifCond .eq 10, 3) := by decide +kernel
theorem dX6_unknown_7 : decode cX6_unknown 7 = .ok (.aload_n 0, 1) := by decide +kernel
theorem dX6_unknown_8 : decode cX6_unknown 8 = .ok (.invokevirtual 133, 3) := by decide +kernel
theorem dX6_unknown_11 : decode cX6_unknown 11 = .ok (.goto 9, 3) := by decide +kernel
theorem dX6_unknown_14 : decode cX6_unknown 14 = .ok (.aload_n 0, 1) := by decide +kernel
theorem dX6_unknown_15 : decode cX6_unknown 15 = .ok (.ldc 46, 2) := by decide +kernel
theorem dX6_unknown_17 : decode cX6_unknown 17 = .ok (.invokevirtual 47, 3) := by decide +kernel
theorem dX6_unknown_20 : decode cX6_unknown 20 = .ok (.ireturn, 1) := by decide +kernel
theorem dX6_can_0 : decode cX6_can 0 = .ok (.iload_n 1, 1) := by decide +kernel
theorem dX6_can_1 : decode cX6_can 1 = .ok (.iload_n 2, 1) := by decide +kernel
theorem dX6_can_2 : decode cX6_can 2 = .ok (.invokestatic 70, 3) := by decide +kernel
theorem dX6_can_5 : decode cX6_can 5 = .ok (.ifCond .eq 17, 3) := by decide +kernel
theorem dX6_can_8 : decode cX6_can 8 = .ok (.iload_n 3, 1) := by decide +kernel
theorem dX6_can_9 : decode cX6_can 9 = .ok (.i2l, 1) := by decide +kernel
theorem dX6_can_10 : decode cX6_can 10 = .ok (.ldc2_w 136, 3) := by decide +kernel
theorem dX6_can_13 : decode cX6_can 13 = .ok (.ldc2_w 78, 3) := by decide +kernel
theorem dX6_can_16 : decode cX6_can 16 = .ok (.invokestatic 42, 3) := by decide +kernel
theorem dX6_can_19 : decode cX6_can 19 = .ok (.ifCond .ne 10, 3) := by decide +kernel
theorem dX6_can_22 : decode cX6_can 22 = .ok (.aload_n 0, 1) := by decide +kernel
theorem dX6_can_23 : decode cX6_can 23 = .ok (.ldc 37, 2) := by decide +kernel
theorem dX6_can_25 : decode cX6_can 25 = .ok (.invokevirtual 47, 3) := by decide +kernel
theorem dX6_can_28 : decode cX6_can 28 = .ok (.ireturn, 1) := by decide +kernel
theorem dX6_can_29 : decode cX6_can 29 = .ok (.aload_n 0, 1) := by decide +kernel
theorem dX6_can_30 : decode cX6_can 30 = .ok (.invokevirtual 128, 3) := by decide +kernel
theorem dX6_can_33 : decode cX6_can 33 = .ok (.ifCond .eq 38, 3) := by decide +kernel
theorem dX6_can_36 : decode cX6_can 36 = .ok (.iload_n 3, 1) := by decide +kernel
theorem dX6_can_37 : decode cX6_can 37 = .ok (.aload_n 0, 1) := by decide +kernel
theorem dX6_can_38 : decode cX6_can 38 = .ok (.getfield 34, 3) := by decide +kernel
theorem dX6_can_41 : decode cX6_can 41 = .ok (.bipush 8, 2) := by decide +kernel
theorem dX6_can_43 : decode cX6_can 43 = .ok (.iload_n 1, 1) := by decide +kernel
theorem dX6_can_44 : decode cX6_can 44 = .ok (.imul, 1) := by decide +kernel
theorem dX6_can_45 : decode cX6_can 45 = .ok (.iload_n 2, 1) := by decide +kernel
theorem dX6_can_46 : decode cX6_can 46 = .ok (.iadd, 1) := by decide +kernel
theorem dX6_can_47 : decode cX6_can 47 = .ok (.iaload, 1) := by decide +kernel
theorem dX6_can_48 : decode cX6_can 48 = .ok (.if_icmp .gt 23, 3) := by decide +kernel
theorem dX6_can_51 : decode cX6_can 51 = .ok (.iload_n 3, 1) := by decide +kernel
theorem dX6_can_52 : decode cX6_can 52 = .ok (.ineg, 1) := by decide +kernel
theorem dX6_can_53 : decode cX6_can 53 = .ok (.aload_n 0, 1) := by decide +kernel
theorem dX6_can_54 : decode cX6_can 54 = .ok (.getfield 34, 3) := by decide +kernel
theorem dX6_can_57 : decode cX6_can 57 = .ok (.bipush 8, 2) := by decide +kernel
theorem dX6_can_59 : decode cX6_can 59 = .ok (.iload_n 2, 1) := by decide +kernel
theorem dX6_can_60 : decode cX6_can 60 = .ok (.imul, 1) := by decide +kernel
theorem dX6_can_61 : decode cX6_can 61 = .ok (.iload_n 1, 1) := by decide +kernel
theorem dX6_can_62 : decode cX6_can 62 = .ok (.iadd, 1) := by decide +kernel
theorem dX6_can_63 : decode cX6_can 63 = .ok (.iaload, 1) := by decide +kernel
theorem dX6_can_64 : decode cX6_can 64 = .ok (.if_icmp .gt 7, 3) := by decide +kernel
theorem dX6_can_67 : decode cX6_can 67 = .ok (.iconst 1, 1) := by decide +kernel
theorem dX6_can_68 : decode cX6_can 68 = .ok (.goto 4, 3) := by decide +kernel
theorem dX6_can_71 : decode cX6_can 71 = .ok (.iconst 0, 1) := by decide +kernel
theorem dX6_can_72 : decode cX6_can 72 = .ok (.ireturn, 1) := by decide +kernel
theorem dX6_when_0 : decode cX6_when 0 = .ok (.iconst 0, 1) := by decide +kernel
theorem dX6_when_1 : decode cX6_when 1 = .ok (.istore_n 1, 1) := by decide +kernel
theorem dX6_when_2 : decode cX6_when 2 = .ok (.iload_n 1, 1) := by decide +kernel
theorem dX6_when_3 : decode cX6_when 3 = .ok (.sipush 500, 3) := by decide +kernel
theorem dX6_when_6 : decode cX6_when 6 = .ok (.if_icmp .gt 21, 3) := by decide +kernel
theorem dX6_when_9 : decode cX6_when 9 = .ok (.aload_n 0, 1) := by decide +kernel
theorem dX6_when_10 : decode cX6_when 10 = .ok (.aload_n 0, 1) := by decide +kernel
theorem dX6_when_11 : decode cX6_when 11 = .ok (.iload_n 1, 1) := by decide +kernel
theorem dX6_when_12 : decode cX6_when 12 = .ok (.invokevirtual 96, 3) := by decide +kernel
theorem dX6_when_15 : decode cX6_when 15 = .ok (.invokevirtual 122, 3) := by decide +kernel
theorem dX6_when_18 : decode cX6_when 18 = .ok (.ifCond .eq 9, 3) := by decide +kernel
theorem dX6_when_21 : decode cX6_when 21 = .ok (.iinc 1 1, 3) := by decide +kernel
theorem dX6_when_24 : decode cX6_when 24 = .ok (.goto (-22), 3) := by decide +kernel
theorem dX6_when_27 : decode cX6_when 27 = .ok (.iload_n 1, 1) := by decide +kernel
theorem dX6_when_28 : decode cX6_when 28 = .ok (.sipush 500, 3) := by decide +kernel
theorem dX6_when_31 : decode cX6_when 31 = .ok (.if_icmp .gt 7, 3) := by decide +kernel
theorem dX6_when_34 : decode cX6_when 34 = .ok (.iload_n 1, 1) := by decide +kernel
theorem dX6_when_35 : decode cX6_when 35 = .ok (.goto 9, 3) := by decide +kernel
theorem dX6_when_38 : decode cX6_when 38 = .ok (.aload_n 0, 1) := by decide +kernel
theorem dX6_when_39 : decode cX6_when 39 = .ok (.ldc 46, 2) := by decide +kernel
theorem dX6_when_41 : decode cX6_when 41 = .ok (.invokevirtual 47, 3) := by decide +kernel
theorem dX6_when_44 : decode cX6_when 44 = .ok (.ireturn, 1) := by decide +kernel
theorem dX6_ahead_0 : decode cX6_ahead 0 = .ok (.iload_n 1, 1) := by decide +kernel
theorem dX6_ahead_1 : decode cX6_ahead 1 = .ok (.i2l, 1) := by decide +kernel
theorem dX6_ahead_2 : decode cX6_ahead 2 = .ok (.lconst 0, 1) := by decide +kernel
theorem dX6_ahead_3 : decode cX6_ahead 3 = .ok (.ldc2_w 138, 3) := by decide +kernel
theorem dX6_ahead_6 : decode cX6_ahead 6 = .ok (.invokestatic 42, 3) := by decide +kernel
theorem dX6_ahead_9 : decode cX6_ahead 9 = .ok (.ifCond .eq 11, 3) := by decide +kernel
theorem dX6_ahead_12 : decode cX6_ahead 12 = .ok (.aload_n 0, 1) := by decide +kernel
theorem dX6_ahead_13 : decode cX6_ahead 13 = .ok (.iload_n 1, 1) := by decide +kernel
theorem dX6_ahead_14 : decode cX6_ahead 14 = .ok (.invokevirtual 96, 3) := by decide +kernel
theorem dX6_ahead_17 : decode cX6_ahead 17 = .ok (.goto 9, 3) := by decide +kernel
theorem dX6_ahead_20 : decode cX6_ahead 20 = .ok (.aload_n 0, 1) := by decide +kernel
theorem dX6_ahead_21 : decode cX6_ahead 21 = .ok (.ldc 37, 2) := by decide +kernel
theorem dX6_ahead_23 : decode cX6_ahead 23 = .ok (.invokevirtual 47, 3) := by decide +kernel
theorem dX6_ahead_26 : decode cX6_ahead 26 = .ok (.ireturn, 1) := by decide +kernel
theorem dX6_known_0 : decode cX6_known 0 = .ok (.iload_n 1, 1) := by decide +kernel
theorem dX6_known_1 : decode cX6_known 1 = .ok (.iload_n 2, 1) := by decide +kernel
theorem dX6_known_2 : decode cX6_known 2 = .ok (.invokestatic 70, 3) := by decide +kernel
theorem dX6_known_5 : decode cX6_known 5 = .ok (.ifCond .ne 10, 3) := by decide +kernel
theorem dX6_known_8 : decode cX6_known 8 = .ok (.aload_n 0, 1) := by decide +kernel
theorem dX6_known_9 : decode cX6_known 9 = .ok (.ldc 37, 2) := by decide +kernel
theorem dX6_known_11 : decode cX6_known 11 = .ok (.invokevirtual 47, 3) := by decide +kernel
theorem dX6_known_14 : decode cX6_known 14 = .ok (.ireturn, 1) := by decide +kernel
theorem dX6_known_15 : decode cX6_known 15 = .ok (.iconst 0, 1) := by decide +kernel
theorem dX6_known_16 : decode cX6_known 16 = .ok (.istore_n 3, 1) := by decide +kernel
theorem dX6_known_17 : decode cX6_known 17 = .ok (.iload_n 3, 1) := by decide +kernel
theorem dX6_known_18 : decode cX6_known 18 = .ok (.sipush 500, 3) := by decide +kernel
theorem dX6_known_21 : decode cX6_known 21 = .ok (.if_icmp .gt 31, 3) := by decide +kernel
theorem dX6_known_24 : decode cX6_known 24 = .ok (.aload_n 0, 1) := by decide +kernel
theorem dX6_known_25 : decode cX6_known 25 = .ok (.aload_n 0, 1) := by decide +kernel
theorem dX6_known_26 : decode cX6_known 26 = .ok (.iload_n 3, 1) := by decide +kernel
theorem dX6_known_27 : decode cX6_known 27 = .ok (.invokevirtual 96, 3) := by decide +kernel
theorem dX6_known_30 : decode cX6_known 30 = .ok (.invokevirtual 122, 3) := by decide +kernel
theorem dX6_known_33 : decode cX6_known 33 = .ok (.ifCond .eq 13, 3) := by decide +kernel
theorem dX6_known_36 : decode cX6_known 36 = .ok (.aload_n 0, 1) := by decide +kernel
theorem dX6_known_37 : decode cX6_known 37 = .ok (.iload_n 1, 1) := by decide +kernel
theorem dX6_known_38 : decode cX6_known 38 = .ok (.iload_n 2, 1) := by decide +kernel
theorem dX6_known_39 : decode cX6_known 39 = .ok (.invokevirtual 125, 3) := by decide +kernel
theorem dX6_known_42 : decode cX6_known 42 = .ok (.iconst 1, 1) := by decide +kernel
theorem dX6_known_43 : decode cX6_known 43 = .ok (.if_icmp .eq 9, 3) := by decide +kernel
theorem dX6_known_46 : decode cX6_known 46 = .ok (.iinc 3 1, 3) := by decide +kernel
theorem dX6_known_49 : decode cX6_known 49 = .ok (.goto (-32), 3) := by decide +kernel
theorem dX6_known_52 : decode cX6_known 52 = .ok (.iload_n 3, 1) := by decide +kernel
theorem dX6_known_53 : decode cX6_known 53 = .ok (.sipush 500, 3) := by decide +kernel
theorem dX6_known_56 : decode cX6_known 56 = .ok (.if_icmp .gt 7, 3) := by decide +kernel
theorem dX6_known_59 : decode cX6_known 59 = .ok (.iload_n 3, 1) := by decide +kernel
theorem dX6_known_60 : decode cX6_known 60 = .ok (.goto 9, 3) := by decide +kernel
theorem dX6_known_63 : decode cX6_known 63 = .ok (.aload_n 0, 1) := by decide +kernel
theorem dX6_known_64 : decode cX6_known 64 = .ok (.ldc 46, 2) := by decide +kernel
theorem dX6_known_66 : decode cX6_known 66 = .ok (.invokevirtual 47, 3) := by decide +kernel
theorem dX6_known_69 : decode cX6_known 69 = .ok (.ireturn, 1) := by decide +kernel
theorem dX6_many_0 : decode cX6_many 0 = .ok (.iconst 0, 1) := by decide +kernel
theorem dX6_many_1 : decode cX6_many 1 = .ok (.istore_n 1, 1) := by decide +kernel
theorem dX6_many_2 : decode cX6_many 2 = .ok (.iload_n 0, 1) := by decide +kernel
theorem dX6_many_3 : decode cX6_many 3 = .ok (.istore_n 2, 1) := by decide +kernel
theorem dX6_many_4 : decode cX6_many 4 = .ok (.iload_n 2, 1) := by decide +kernel
theorem dX6_many_5 : decode cX6_many 5 = .ok (.ifCond .eq 15, 3) := by decide +kernel
theorem dX6_many_8 : decode cX6_many 8 = .ok (.iinc 1 1, 3) := by decide +kernel
theorem dX6_many_11 : decode cX6_many 11 = .ok (.iload_n 2, 1) := by decide +kernel
theorem dX6_many_12 : decode cX6_many 12 = .ok (.iload_n 2, 1) := by decide +kernel
theorem dX6_many_13 : decode cX6_many 13 = .ok (.iconst 1, 1) := by decide +kernel
theorem dX6_many_14 : decode cX6_many 14 = .ok (.isub, 1) := by decide +kernel
theorem dX6_many_15 : decode cX6_many 15 = .ok (.iand, 1) := by decide +kernel
theorem dX6_many_16 : decode cX6_many 16 = .ok (.istore_n 2, 1) := by decide +kernel
theorem dX6_many_17 : decode cX6_many 17 = .ok (.goto (-13), 3) := by decide +kernel
theorem dX6_many_20 : decode cX6_many 20 = .ok (.iload_n 1, 1) := by decide +kernel
theorem dX6_many_21 : decode cX6_many 21 = .ok (.ireturn, 1) := by decide +kernel
theorem dX6_agree_0 : decode cX6_agree 0 = .ok (.aload_n 0, 1) := by decide +kernel
theorem dX6_agree_1 : decode cX6_agree 1 = .ok (.iload_n 1, 1) := by decide +kernel
theorem dX6_agree_2 : decode cX6_agree 2 = .ok (.invokevirtual 140, 3) := by decide +kernel
theorem dX6_agree_5 : decode cX6_agree 5 = .ok (.ifCond .ne 10, 3) := by decide +kernel
theorem dX6_agree_8 : decode cX6_agree 8 = .ok (.aload_n 0, 1) := by decide +kernel
theorem dX6_agree_9 : decode cX6_agree 9 = .ok (.ldc 37, 2) := by decide +kernel
theorem dX6_agree_11 : decode cX6_agree 11 = .ok (.invokevirtual 47, 3) := by decide +kernel
theorem dX6_agree_14 : decode cX6_agree 14 = .ok (.ireturn, 1) := by decide +kernel
theorem dX6_agree_15 : decode cX6_agree 15 = .ok (.aload_n 0, 1) := by decide +kernel
theorem dX6_agree_16 : decode cX6_agree 16 = .ok (.iload_n 1, 1) := by decide +kernel
theorem dX6_agree_17 : decode cX6_agree 17 = .ok (.invokevirtual 122, 3) := by decide +kernel
theorem dX6_agree_20 : decode cX6_agree 20 = .ok (.ifCond .eq 7, 3) := by decide +kernel
theorem dX6_agree_23 : decode cX6_agree 23 = .ok (.iconst 1, 1) := by decide +kernel
theorem dX6_agree_24 : decode cX6_agree 24 = .ok (.goto 4, 3) := by decide +kernel
theorem dX6_agree_27 : decode cX6_agree 27 = .ok (.iconst 0, 1) := by decide +kernel
theorem dX6_agree_28 : decode cX6_agree 28 = .ok (.ireturn, 1) := by decide +kernel
theorem dX6_fewestOf_0 : decode cX6_fewestOf 0 = .ok (.iconst (-1), 1) := by decide +kernel
theorem dX6_fewestOf_1 : decode cX6_fewestOf 1 = .ok (.istore_n 3, 1) := by decide +kernel
theorem dX6_fewestOf_2 : decode cX6_fewestOf 2 = .ok (.aload_n 0, 1) := by decide +kernel
theorem dX6_fewestOf_3 : decode cX6_fewestOf 3 = .ok (.iconst 0, 1) := by decide +kernel
theorem dX6_fewestOf_4 : decode cX6_fewestOf 4 = .ok (.putfield 143, 3) := by decide +kernel
theorem dX6_fewestOf_7 : decode cX6_fewestOf 7 = .ok (.iconst 0, 1) := by decide +kernel
theorem dX6_fewestOf_8 : decode cX6_fewestOf 8 = .ok (.istore 4, 2) := by decide +kernel
theorem dX6_fewestOf_10 : decode cX6_fewestOf 10 = .ok (.iload 4, 2) := by decide +kernel
theorem dX6_fewestOf_12 : decode cX6_fewestOf 12 = .ok (.iload_n 1, 1) := by decide +kernel
theorem dX6_fewestOf_13 : decode cX6_fewestOf 13 = .ok (.if_icmp .gt 114, 3) := by decide +kernel
theorem dX6_fewestOf_16 : decode cX6_fewestOf 16 = .ok (.iload_n 3, 1) := by decide +kernel
theorem dX6_fewestOf_17 : decode cX6_fewestOf 17 = .ok (.ifCond .lt 15, 3) := by decide +kernel
theorem dX6_fewestOf_20 : decode cX6_fewestOf 20 = .ok (.iload 4, 2) := by decide +kernel
theorem dX6_fewestOf_22 : decode cX6_fewestOf 22 = .ok (.invokestatic 147, 3) := by decide +kernel
theorem dX6_fewestOf_25 : decode cX6_fewestOf 25 = .ok (.iload_n 3, 1) := by decide +kernel
theorem dX6_fewestOf_26 : decode cX6_fewestOf 26 = .ok (.invokestatic 147, 3) := by decide +kernel
theorem dX6_fewestOf_29 : decode cX6_fewestOf 29 = .ok (.if_icmp .gt 7, 3) := by decide +kernel
theorem dX6_fewestOf_32 : decode cX6_fewestOf 32 = .ok (.iconst 1, 1) := by decide +kernel
theorem dX6_fewestOf_33 : decode cX6_fewestOf 33 = .ok (.goto 4, 3) := by decide +kernel
theorem dX6_fewestOf_36 : decode cX6_fewestOf 36 = .ok (.iconst 0, 1) := by decide +kernel
theorem dX6_fewestOf_37 : decode cX6_fewestOf 37 = .ok (.istore 5, 2) := by decide +kernel
theorem dX6_fewestOf_39 : decode cX6_fewestOf 39 = .ok (.iload 4, 2) := by decide +kernel
theorem dX6_fewestOf_41 : decode cX6_fewestOf 41 = .ok (.iload_n 1, 1) := by decide +kernel
theorem dX6_fewestOf_42 : decode cX6_fewestOf 42 = .ok (.iconst (-1), 1) := by decide +kernel
theorem dX6_fewestOf_43 : decode cX6_fewestOf 43 = .ok (.ixor, 1) := by decide +kernel
theorem dX6_fewestOf_44 : decode cX6_fewestOf 44 = .ok (.iand, 1) := by decide +kernel
theorem dX6_fewestOf_45 : decode cX6_fewestOf 45 = .ok (.ifCond .ne 76, 3) := by decide +kernel
theorem dX6_fewestOf_48 : decode cX6_fewestOf 48 = .ok (.iload 5, 2) := by decide +kernel
theorem dX6_fewestOf_50 : decode cX6_fewestOf 50 = .ok (.ifCond .eq 71, 3) := by decide +kernel
theorem dX6_fewestOf_53 : decode cX6_fewestOf 53 = .ok (.aload_n 0, 1) := by decide +kernel
theorem dX6_fewestOf_54 : decode cX6_fewestOf 54 = .ok (.iload_n 1, 1) := by decide +kernel
theorem dX6_fewestOf_55 : decode cX6_fewestOf 55 = .ok (.iload 4, 2) := by decide +kernel
theorem dX6_fewestOf_57 : decode cX6_fewestOf 57 = .ok (.iconst (-1), 1) := by decide +kernel
theorem dX6_fewestOf_58 : decode cX6_fewestOf 58 = .ok (.ixor, 1) := by decide +kernel
theorem dX6_fewestOf_59 : decode cX6_fewestOf 59 = .ok (.iand, 1) := by decide +kernel
theorem dX6_fewestOf_60 : decode cX6_fewestOf 60 = .ok (.iload_n 2, 1) := by decide +kernel
theorem dX6_fewestOf_61 : decode cX6_fewestOf 61 = .ok (.ior, 1) := by decide +kernel
theorem dX6_fewestOf_62 : decode cX6_fewestOf 62 = .ok (.invokevirtual 122, 3) := by decide +kernel
theorem dX6_fewestOf_65 : decode cX6_fewestOf 65 = .ok (.ifCond .eq 56, 3) := by decide +kernel
theorem dX6_fewestOf_68 : decode cX6_fewestOf 68 = .ok (.aload_n 0, 1) := by decide +kernel
theorem dX6_fewestOf_69 : decode cX6_fewestOf 69 = .ok (.iload_n 3, 1) := by decide +kernel
theorem dX6_fewestOf_70 : decode cX6_fewestOf 70 = .ok (.ifCond .lt 15, 3) := by decide +kernel
theorem dX6_fewestOf_73 : decode cX6_fewestOf 73 = .ok (.iload 4, 2) := by decide +kernel
theorem dX6_fewestOf_75 : decode cX6_fewestOf 75 = .ok (.invokestatic 147, 3) := by decide +kernel
theorem dX6_fewestOf_78 : decode cX6_fewestOf 78 = .ok (.iload_n 3, 1) := by decide +kernel
theorem dX6_fewestOf_79 : decode cX6_fewestOf 79 = .ok (.invokestatic 147, 3) := by decide +kernel
theorem dX6_fewestOf_82 : decode cX6_fewestOf 82 = .ok (.if_icmp .ge 7, 3) := by decide +kernel
theorem dX6_fewestOf_85 : decode cX6_fewestOf 85 = .ok (.iconst 1, 1) := by decide +kernel
theorem dX6_fewestOf_86 : decode cX6_fewestOf 86 = .ok (.goto 9, 3) := by decide +kernel
theorem dX6_fewestOf_89 : decode cX6_fewestOf 89 = .ok (.aload_n 0, 1) := by decide +kernel
theorem dX6_fewestOf_90 : decode cX6_fewestOf 90 = .ok (.getfield 143, 3) := by decide +kernel
theorem dX6_fewestOf_93 : decode cX6_fewestOf 93 = .ok (.iconst 1, 1) := by decide +kernel
theorem dX6_fewestOf_94 : decode cX6_fewestOf 94 = .ok (.iadd, 1) := by decide +kernel
theorem dX6_fewestOf_95 : decode cX6_fewestOf 95 = .ok (.putfield 143, 3) := by decide +kernel
theorem dX6_fewestOf_98 : decode cX6_fewestOf 98 = .ok (.iload_n 3, 1) := by decide +kernel
theorem dX6_fewestOf_99 : decode cX6_fewestOf 99 = .ok (.ifCond .lt 15, 3) := by decide +kernel
theorem dX6_fewestOf_102 : decode cX6_fewestOf 102 = .ok (.iload 4, 2) := by decide +kernel
theorem dX6_fewestOf_104 : decode cX6_fewestOf 104 = .ok (.invokestatic 147, 3) := by decide +kernel
theorem dX6_fewestOf_107 : decode cX6_fewestOf 107 = .ok (.iload_n 3, 1) := by decide +kernel
theorem dX6_fewestOf_108 : decode cX6_fewestOf 108 = .ok (.invokestatic 147, 3) := by decide +kernel
theorem dX6_fewestOf_111 : decode cX6_fewestOf 111 = .ok (.if_icmp .ge 8, 3) := by decide +kernel
theorem dX6_fewestOf_114 : decode cX6_fewestOf 114 = .ok (.iload 4, 2) := by decide +kernel
theorem dX6_fewestOf_116 : decode cX6_fewestOf 116 = .ok (.goto 4, 3) := by decide +kernel
theorem dX6_fewestOf_119 : decode cX6_fewestOf 119 = .ok (.iload_n 3, 1) := by decide +kernel
theorem dX6_fewestOf_120 : decode cX6_fewestOf 120 = .ok (.istore_n 3, 1) := by decide +kernel
theorem dX6_fewestOf_121 : decode cX6_fewestOf 121 = .ok (.iinc 4 1, 3) := by decide +kernel
theorem dX6_fewestOf_124 : decode cX6_fewestOf 124 = .ok (.goto (-114), 3) := by decide +kernel
theorem dX6_fewestOf_127 : decode cX6_fewestOf 127 = .ok (.iload_n 3, 1) := by decide +kernel
theorem dX6_fewestOf_128 : decode cX6_fewestOf 128 = .ok (.ireturn, 1) := by decide +kernel
theorem dX6_strike_0 : decode cX6_strike 0 = .ok (.aload_n 0, 1) := by decide +kernel
theorem dX6_strike_1 : decode cX6_strike 1 = .ok (.aload_n 0, 1) := by decide +kernel
theorem dX6_strike_2 : decode cX6_strike 2 = .ok (.iconst 0, 1) := by decide +kernel
theorem dX6_strike_3 : decode cX6_strike 3 = .ok (.invokevirtual 96, 3) := by decide +kernel
theorem dX6_strike_6 : decode cX6_strike 6 = .ok (.iconst 0, 1) := by decide +kernel
theorem dX6_strike_7 : decode cX6_strike 7 = .ok (.invokevirtual 150, 3) := by decide +kernel
theorem dX6_strike_10 : decode cX6_strike 10 = .ok (.ireturn, 1) := by decide +kernel
theorem dX6_strikes_0 : decode cX6_strikes 0 = .ok (.aload_n 0, 1) := by decide +kernel
theorem dX6_strikes_1 : decode cX6_strikes 1 = .ok (.aload_n 0, 1) := by decide +kernel
theorem dX6_strikes_2 : decode cX6_strikes 2 = .ok (.iconst 0, 1) := by decide +kernel
theorem dX6_strikes_3 : decode cX6_strikes 3 = .ok (.invokevirtual 96, 3) := by decide +kernel
theorem dX6_strikes_6 : decode cX6_strikes 6 = .ok (.iconst 0, 1) := by decide +kernel
theorem dX6_strikes_7 : decode cX6_strikes 7 = .ok (.invokevirtual 150, 3) := by decide +kernel
theorem dX6_strikes_10 : decode cX6_strikes 10 = .ok (.istore_n 1, 1) := by decide +kernel
theorem dX6_strikes_11 : decode cX6_strikes 11 = .ok (.iload_n 1, 1) := by decide +kernel
theorem dX6_strikes_12 : decode cX6_strikes 12 = .ok (.ifCond .ge 7, 3) := by decide +kernel
theorem dX6_strikes_15 : decode cX6_strikes 15 = .ok (.iconst 0, 1) := by decide +kernel
theorem dX6_strikes_16 : decode cX6_strikes 16 = .ok (.goto 7, 3) := by decide +kernel
theorem dX6_strikes_19 : decode cX6_strikes 19 = .ok (.aload_n 0, 1) := by decide +kernel
theorem dX6_strikes_20 : decode cX6_strikes 20 = .ok (.getfield 143, 3) := by decide +kernel
theorem dX6_strikes_23 : decode cX6_strikes 23 = .ok (.ireturn, 1) := by decide +kernel
theorem dX6_implied_0 : decode cX6_implied 0 = .ok (.aload_n 0, 1) := by decide +kernel
theorem dX6_implied_1 : decode cX6_implied 1 = .ok (.iconst 0, 1) := by decide +kernel
theorem dX6_implied_2 : decode cX6_implied 2 = .ok (.invokevirtual 96, 3) := by decide +kernel
theorem dX6_implied_5 : decode cX6_implied 5 = .ok (.istore_n 1, 1) := by decide +kernel
theorem dX6_implied_6 : decode cX6_implied 6 = .ok (.aload_n 0, 1) := by decide +kernel
theorem dX6_implied_7 : decode cX6_implied 7 = .ok (.iload_n 1, 1) := by decide +kernel
theorem dX6_implied_8 : decode cX6_implied 8 = .ok (.invokevirtual 122, 3) := by decide +kernel
theorem dX6_implied_11 : decode cX6_implied 11 = .ok (.ifCond .ne 10, 3) := by decide +kernel
theorem dX6_implied_14 : decode cX6_implied 14 = .ok (.aload_n 0, 1) := by decide +kernel
theorem dX6_implied_15 : decode cX6_implied 15 = .ok (.ldc 46, 2) := by decide +kernel
theorem dX6_implied_17 : decode cX6_implied 17 = .ok (.invokevirtual 47, 3) := by decide +kernel
theorem dX6_implied_20 : decode cX6_implied 20 = .ok (.ireturn, 1) := by decide +kernel
theorem dX6_implied_21 : decode cX6_implied 21 = .ok (.iconst 0, 1) := by decide +kernel
theorem dX6_implied_22 : decode cX6_implied 22 = .ok (.istore_n 2, 1) := by decide +kernel
theorem dX6_implied_23 : decode cX6_implied 23 = .ok (.iconst 0, 1) := by decide +kernel
theorem dX6_implied_24 : decode cX6_implied 24 = .ok (.istore_n 3, 1) := by decide +kernel
theorem dX6_implied_25 : decode cX6_implied 25 = .ok (.iload_n 3, 1) := by decide +kernel
theorem dX6_implied_26 : decode cX6_implied 26 = .ok (.aload_n 0, 1) := by decide +kernel
theorem dX6_implied_27 : decode cX6_implied 27 = .ok (.getfield 7, 3) := by decide +kernel
theorem dX6_implied_30 : decode cX6_implied 30 = .ok (.iconst 0, 1) := by decide +kernel
theorem dX6_implied_31 : decode cX6_implied 31 = .ok (.iaload, 1) := by decide +kernel
theorem dX6_implied_32 : decode cX6_implied 32 = .ok (.if_icmp .ge 109, 3) := by decide +kernel
theorem dX6_implied_35 : decode cX6_implied 35 = .ok (.iload_n 1, 1) := by decide +kernel
theorem dX6_implied_36 : decode cX6_implied 36 = .ok (.iload_n 3, 1) := by decide +kernel
theorem dX6_implied_37 : decode cX6_implied 37 = .ok (.ishr, 1) := by decide +kernel
theorem dX6_implied_38 : decode cX6_implied 38 = .ok (.iconst 1, 1) := by decide +kernel
theorem dX6_implied_39 : decode cX6_implied 39 = .ok (.iand, 1) := by decide +kernel
theorem dX6_implied_40 : decode cX6_implied 40 = .ok (.iconst 1, 1) := by decide +kernel
theorem dX6_implied_41 : decode cX6_implied 41 = .ok (.if_icmp .ne 94, 3) := by decide +kernel
theorem dX6_implied_44 : decode cX6_implied 44 = .ok (.aload_n 0, 1) := by decide +kernel
theorem dX6_implied_45 : decode cX6_implied 45 = .ok (.iload_n 1, 1) := by decide +kernel
theorem dX6_implied_46 : decode cX6_implied 46 = .ok (.iconst 1, 1) := by decide +kernel
theorem dX6_implied_47 : decode cX6_implied 47 = .ok (.iload_n 3, 1) := by decide +kernel
theorem dX6_implied_48 : decode cX6_implied 48 = .ok (.ishl, 1) := by decide +kernel
theorem dX6_implied_49 : decode cX6_implied 49 = .ok (.iconst (-1), 1) := by decide +kernel
theorem dX6_implied_50 : decode cX6_implied 50 = .ok (.ixor, 1) := by decide +kernel
theorem dX6_implied_51 : decode cX6_implied 51 = .ok (.iand, 1) := by decide +kernel
theorem dX6_implied_52 : decode cX6_implied 52 = .ok (.invokevirtual 122, 3) := by decide +kernel
theorem dX6_implied_55 : decode cX6_implied 55 = .ok (.ifCond .eq 80, 3) := by decide +kernel
theorem dX6_implied_58 : decode cX6_implied 58 = .ok (.bipush 8, 2) := by decide +kernel
theorem dX6_implied_60 : decode cX6_implied 60 = .ok (.aload_n 0, 1) := by decide +kernel
theorem dX6_implied_61 : decode cX6_implied 61 = .ok (.iload_n 3, 1) := by decide +kernel
theorem dX6_implied_62 : decode cX6_implied 62 = .ok (.iconst 1, 1) := by decide +kernel
theorem dX6_implied_63 : decode cX6_implied 63 = .ok (.invokevirtual 51, 3) := by decide +kernel
theorem dX6_implied_66 : decode cX6_implied 66 = .ok (.imul, 1) := by decide +kernel
theorem dX6_implied_67 : decode cX6_implied 67 = .ok (.aload_n 0, 1) := by decide +kernel
theorem dX6_implied_68 : decode cX6_implied 68 = .ok (.iload_n 3, 1) := by decide +kernel
theorem dX6_implied_69 : decode cX6_implied 69 = .ok (.iconst 2, 1) := by decide +kernel
theorem dX6_implied_70 : decode cX6_implied 70 = .ok (.invokevirtual 51, 3) := by decide +kernel
theorem dX6_implied_73 : decode cX6_implied 73 = .ok (.iadd, 1) := by decide +kernel
theorem dX6_implied_74 : decode cX6_implied 74 = .ok (.istore 4, 2) := by decide +kernel
theorem dX6_implied_76 : decode cX6_implied 76 = .ok (.bipush 8, 2) := by decide +kernel
theorem dX6_implied_78 : decode cX6_implied 78 = .ok (.aload_n 0, 1) := by decide +kernel
theorem dX6_implied_79 : decode cX6_implied 79 = .ok (.iload_n 3, 1) := by decide +kernel
theorem dX6_implied_80 : decode cX6_implied 80 = .ok (.iconst 2, 1) := by decide +kernel
theorem dX6_implied_81 : decode cX6_implied 81 = .ok (.invokevirtual 51, 3) := by decide +kernel
theorem dX6_implied_84 : decode cX6_implied 84 = .ok (.imul, 1) := by decide +kernel
theorem dX6_implied_85 : decode cX6_implied 85 = .ok (.aload_n 0, 1) := by decide +kernel
theorem dX6_implied_86 : decode cX6_implied 86 = .ok (.iload_n 3, 1) := by decide +kernel
theorem dX6_implied_87 : decode cX6_implied 87 = .ok (.iconst 1, 1) := by decide +kernel
theorem dX6_implied_88 : decode cX6_implied 88 = .ok (.invokevirtual 51, 3) := by decide +kernel
theorem dX6_implied_91 : decode cX6_implied 91 = .ok (.iadd, 1) := by decide +kernel
theorem dX6_implied_92 : decode cX6_implied 92 = .ok (.istore 5, 2) := by decide +kernel
theorem dX6_implied_94 : decode cX6_implied 94 = .ok (.iload_n 2, 1) := by decide +kernel
theorem dX6_implied_95 : decode cX6_implied 95 = .ok (.aload_n 0, 1) := by decide +kernel
theorem dX6_implied_96 : decode cX6_implied 96 = .ok (.getfield 34, 3) := by decide +kernel
theorem dX6_implied_99 : decode cX6_implied 99 = .ok (.iload 4, 2) := by decide +kernel
theorem dX6_implied_101 : decode cX6_implied 101 = .ok (.iaload, 1) := by decide +kernel
theorem dX6_implied_102 : decode cX6_implied 102 = .ok (.aload_n 0, 1) := by decide +kernel
theorem dX6_implied_103 : decode cX6_implied 103 = .ok (.iload_n 3, 1) := by decide +kernel
theorem dX6_implied_104 : decode cX6_implied 104 = .ok (.invokevirtual 93, 3) := by decide +kernel
theorem dX6_implied_107 : decode cX6_implied 107 = .ok (.if_icmp .gt 25, 3) := by decide +kernel
theorem dX6_implied_110 : decode cX6_implied 110 = .ok (.aload_n 0, 1) := by decide +kernel
theorem dX6_implied_111 : decode cX6_implied 111 = .ok (.getfield 34, 3) := by decide +kernel
theorem dX6_implied_114 : decode cX6_implied 114 = .ok (.iload 5, 2) := by decide +kernel
theorem dX6_implied_116 : decode cX6_implied 116 = .ok (.iaload, 1) := by decide +kernel
theorem dX6_implied_117 : decode cX6_implied 117 = .ok (.ineg, 1) := by decide +kernel
theorem dX6_implied_118 : decode cX6_implied 118 = .ok (.aload_n 0, 1) := by decide +kernel
theorem dX6_implied_119 : decode cX6_implied 119 = .ok (.iload_n 3, 1) := by decide +kernel
theorem dX6_implied_120 : decode cX6_implied 120 = .ok (.invokevirtual 90, 3) := by decide +kernel
theorem dX6_implied_123 : decode cX6_implied 123 = .ok (.if_icmp .lt 9, 3) := by decide +kernel
theorem dX6_implied_126 : decode cX6_implied 126 = .ok (.iconst 1, 1) := by decide +kernel
theorem dX6_implied_127 : decode cX6_implied 127 = .ok (.iload_n 3, 1) := by decide +kernel
theorem dX6_implied_128 : decode cX6_implied 128 = .ok (.ishl, 1) := by decide +kernel
theorem dX6_implied_129 : decode cX6_implied 129 = .ok (.goto 4, 3) := by decide +kernel
theorem dX6_implied_132 : decode cX6_implied 132 = .ok (.iconst 0, 1) := by decide +kernel
theorem dX6_implied_133 : decode cX6_implied 133 = .ok (.ior, 1) := by decide +kernel
theorem dX6_implied_134 : decode cX6_implied 134 = .ok (.istore_n 2, 1) := by decide +kernel
theorem dX6_implied_135 : decode cX6_implied 135 = .ok (.iinc 3 1, 3) := by decide +kernel
theorem dX6_implied_138 : decode cX6_implied 138 = .ok (.goto (-113), 3) := by decide +kernel
theorem dX6_implied_141 : decode cX6_implied 141 = .ok (.iload_n 2, 1) := by decide +kernel
theorem dX6_implied_142 : decode cX6_implied 142 = .ok (.ireturn, 1) := by decide +kernel
theorem dX6_suspects_0 : decode cX6_suspects 0 = .ok (.aload_n 0, 1) := by decide +kernel
theorem dX6_suspects_1 : decode cX6_suspects 1 = .ok (.iconst 0, 1) := by decide +kernel
theorem dX6_suspects_2 : decode cX6_suspects 2 = .ok (.invokevirtual 96, 3) := by decide +kernel
theorem dX6_suspects_5 : decode cX6_suspects 5 = .ok (.istore_n 1, 1) := by decide +kernel
theorem dX6_suspects_6 : decode cX6_suspects 6 = .ok (.iconst 0, 1) := by decide +kernel
theorem dX6_suspects_7 : decode cX6_suspects 7 = .ok (.istore_n 2, 1) := by decide +kernel
theorem dX6_suspects_8 : decode cX6_suspects 8 = .ok (.iconst 0, 1) := by decide +kernel
theorem dX6_suspects_9 : decode cX6_suspects 9 = .ok (.istore_n 3, 1) := by decide +kernel
theorem dX6_suspects_10 : decode cX6_suspects 10 = .ok (.iload_n 3, 1) := by decide +kernel
theorem dX6_suspects_11 : decode cX6_suspects 11 = .ok (.aload_n 0, 1) := by decide +kernel
theorem dX6_suspects_12 : decode cX6_suspects 12 = .ok (.getfield 7, 3) := by decide +kernel
theorem dX6_suspects_15 : decode cX6_suspects 15 = .ok (.iconst 0, 1) := by decide +kernel
theorem dX6_suspects_16 : decode cX6_suspects 16 = .ok (.iaload, 1) := by decide +kernel
theorem dX6_suspects_17 : decode cX6_suspects 17 = .ok (.if_icmp .ge 42, 3) := by decide +kernel
theorem dX6_suspects_20 : decode cX6_suspects 20 = .ok (.iload_n 2, 1) := by decide +kernel
theorem dX6_suspects_21 : decode cX6_suspects 21 = .ok (.iload_n 1, 1) := by decide +kernel
theorem dX6_suspects_22 : decode cX6_suspects 22 = .ok (.iload_n 3, 1) := by decide +kernel
theorem dX6_suspects_23 : decode cX6_suspects 23 = .ok (.ishr, 1) := by decide +kernel
theorem dX6_suspects_24 : decode cX6_suspects 24 = .ok (.iconst 1, 1) := by decide +kernel
theorem dX6_suspects_25 : decode cX6_suspects 25 = .ok (.iand, 1) := by decide +kernel
theorem dX6_suspects_26 : decode cX6_suspects 26 = .ok (.iconst 1, 1) := by decide +kernel
theorem dX6_suspects_27 : decode cX6_suspects 27 = .ok (.if_icmp .ne 23, 3) := by decide +kernel
theorem dX6_suspects_30 : decode cX6_suspects 30 = .ok (.aload_n 0, 1) := by decide +kernel
theorem dX6_suspects_31 : decode cX6_suspects 31 = .ok (.iload_n 1, 1) := by decide +kernel
theorem dX6_suspects_32 : decode cX6_suspects 32 = .ok (.iconst 1, 1) := by decide +kernel
theorem dX6_suspects_33 : decode cX6_suspects 33 = .ok (.iload_n 3, 1) := by decide +kernel
theorem dX6_suspects_34 : decode cX6_suspects 34 = .ok (.ishl, 1) := by decide +kernel
theorem dX6_suspects_35 : decode cX6_suspects 35 = .ok (.iconst (-1), 1) := by decide +kernel
theorem dX6_suspects_36 : decode cX6_suspects 36 = .ok (.ixor, 1) := by decide +kernel
theorem dX6_suspects_37 : decode cX6_suspects 37 = .ok (.iand, 1) := by decide +kernel
theorem dX6_suspects_38 : decode cX6_suspects 38 = .ok (.invokevirtual 122, 3) := by decide +kernel
theorem dX6_suspects_41 : decode cX6_suspects 41 = .ok (.ifCond .eq 9, 3) := by decide +kernel
theorem dX6_suspects_44 : decode cX6_suspects 44 = .ok (.iconst 1, 1) := by decide +kernel
theorem dX6_suspects_45 : decode cX6_suspects 45 = .ok (.iload_n 3, 1) := by decide +kernel
theorem dX6_suspects_46 : decode cX6_suspects 46 = .ok (.ishl, 1) := by decide +kernel
theorem dX6_suspects_47 : decode cX6_suspects 47 = .ok (.goto 4, 3) := by decide +kernel
theorem dX6_suspects_50 : decode cX6_suspects 50 = .ok (.iconst 0, 1) := by decide +kernel
theorem dX6_suspects_51 : decode cX6_suspects 51 = .ok (.ior, 1) := by decide +kernel
theorem dX6_suspects_52 : decode cX6_suspects 52 = .ok (.istore_n 2, 1) := by decide +kernel
theorem dX6_suspects_53 : decode cX6_suspects 53 = .ok (.iinc 3 1, 3) := by decide +kernel
theorem dX6_suspects_56 : decode cX6_suspects 56 = .ok (.goto (-46), 3) := by decide +kernel
theorem dX6_suspects_59 : decode cX6_suspects 59 = .ok (.iload_n 2, 1) := by decide +kernel
theorem dX6_suspects_60 : decode cX6_suspects 60 = .ok (.ireturn, 1) := by decide +kernel
theorem dX6_dearest_0 : decode cX6_dearest 0 = .ok (.aload_n 0, 1) := by decide +kernel
theorem dX6_dearest_1 : decode cX6_dearest 1 = .ok (.iconst 0, 1) := by decide +kernel
theorem dX6_dearest_2 : decode cX6_dearest 2 = .ok (.invokevirtual 96, 3) := by decide +kernel
theorem dX6_dearest_5 : decode cX6_dearest 5 = .ok (.istore_n 1, 1) := by decide +kernel
theorem dX6_dearest_6 : decode cX6_dearest 6 = .ok (.aload_n 0, 1) := by decide +kernel
theorem dX6_dearest_7 : decode cX6_dearest 7 = .ok (.iload_n 1, 1) := by decide +kernel
theorem dX6_dearest_8 : decode cX6_dearest 8 = .ok (.invokevirtual 122, 3) := by decide +kernel
theorem dX6_dearest_11 : decode cX6_dearest 11 = .ok (.ifCond .ne 10, 3) := by decide +kernel
theorem dX6_dearest_14 : decode cX6_dearest 14 = .ok (.aload_n 0, 1) := by decide +kernel
theorem dX6_dearest_15 : decode cX6_dearest 15 = .ok (.ldc 46, 2) := by decide +kernel
theorem dX6_dearest_17 : decode cX6_dearest 17 = .ok (.invokevirtual 47, 3) := by decide +kernel
theorem dX6_dearest_20 : decode cX6_dearest 20 = .ok (.ireturn, 1) := by decide +kernel
theorem dX6_dearest_21 : decode cX6_dearest 21 = .ok (.iconst (-1), 1) := by decide +kernel
theorem dX6_dearest_22 : decode cX6_dearest 22 = .ok (.istore_n 2, 1) := by decide +kernel
theorem dX6_dearest_23 : decode cX6_dearest 23 = .ok (.iconst (-1), 1) := by decide +kernel
theorem dX6_dearest_24 : decode cX6_dearest 24 = .ok (.istore_n 3, 1) := by decide +kernel
theorem dX6_dearest_25 : decode cX6_dearest 25 = .ok (.iconst 0, 1) := by decide +kernel
theorem dX6_dearest_26 : decode cX6_dearest 26 = .ok (.istore 4, 2) := by decide +kernel
theorem dX6_dearest_28 : decode cX6_dearest 28 = .ok (.iload 4, 2) := by decide +kernel
theorem dX6_dearest_30 : decode cX6_dearest 30 = .ok (.aload_n 0, 1) := by decide +kernel
theorem dX6_dearest_31 : decode cX6_dearest 31 = .ok (.getfield 7, 3) := by decide +kernel
theorem dX6_dearest_34 : decode cX6_dearest 34 = .ok (.iconst 0, 1) := by decide +kernel
theorem dX6_dearest_35 : decode cX6_dearest 35 = .ok (.iaload, 1) := by decide +kernel
theorem dX6_dearest_36 : decode cX6_dearest 36 = .ok (.if_icmp .ge 82, 3) := by decide +kernel
theorem dX6_dearest_39 : decode cX6_dearest 39 = .ok (.iload_n 1, 1) := by decide +kernel
theorem dX6_dearest_40 : decode cX6_dearest 40 = .ok (.iload 4, 2) := by decide +kernel
theorem dX6_dearest_42 : decode cX6_dearest 42 = .ok (.ishr, 1) := by decide +kernel
theorem dX6_dearest_43 : decode cX6_dearest 43 = .ok (.iconst 1, 1) := by decide +kernel
theorem dX6_dearest_44 : decode cX6_dearest 44 = .ok (.iand, 1) := by decide +kernel
theorem dX6_dearest_45 : decode cX6_dearest 45 = .ok (.iconst 1, 1) := by decide +kernel
theorem dX6_dearest_46 : decode cX6_dearest 46 = .ok (.if_icmp .ne 22, 3) := by decide +kernel
theorem dX6_dearest_49 : decode cX6_dearest 49 = .ok (.aload_n 0, 1) := by decide +kernel
theorem dX6_dearest_50 : decode cX6_dearest 50 = .ok (.iload_n 1, 1) := by decide +kernel
theorem dX6_dearest_51 : decode cX6_dearest 51 = .ok (.iconst 1, 1) := by decide +kernel
theorem dX6_dearest_52 : decode cX6_dearest 52 = .ok (.iload 4, 2) := by decide +kernel
theorem dX6_dearest_54 : decode cX6_dearest 54 = .ok (.ishl, 1) := by decide +kernel
theorem dX6_dearest_55 : decode cX6_dearest 55 = .ok (.iconst (-1), 1) := by decide +kernel
theorem dX6_dearest_56 : decode cX6_dearest 56 = .ok (.ixor, 1) := by decide +kernel
theorem dX6_dearest_57 : decode cX6_dearest 57 = .ok (.iand, 1) := by decide +kernel
theorem dX6_dearest_58 : decode cX6_dearest 58 = .ok (.invokevirtual 122, 3) := by decide +kernel
theorem dX6_dearest_61 : decode cX6_dearest 61 = .ok (.ifCond .eq 7, 3) := by decide +kernel
theorem dX6_dearest_64 : decode cX6_dearest 64 = .ok (.iconst 1, 1) := by decide +kernel
theorem dX6_dearest_65 : decode cX6_dearest 65 = .ok (.goto 4, 3) := by decide +kernel
theorem dX6_dearest_68 : decode cX6_dearest 68 = .ok (.iconst 0, 1) := by decide +kernel
theorem dX6_dearest_69 : decode cX6_dearest 69 = .ok (.istore 5, 2) := by decide +kernel
theorem dX6_dearest_71 : decode cX6_dearest 71 = .ok (.iload 5, 2) := by decide +kernel
theorem dX6_dearest_73 : decode cX6_dearest 73 = .ok (.ifCond .eq 10, 3) := by decide +kernel
theorem dX6_dearest_76 : decode cX6_dearest 76 = .ok (.aload_n 0, 1) := by decide +kernel
theorem dX6_dearest_77 : decode cX6_dearest 77 = .ok (.invokevirtual 133, 3) := by decide +kernel
theorem dX6_dearest_80 : decode cX6_dearest 80 = .ok (.goto 4, 3) := by decide +kernel
theorem dX6_dearest_83 : decode cX6_dearest 83 = .ok (.iconst (-1), 1) := by decide +kernel
theorem dX6_dearest_84 : decode cX6_dearest 84 = .ok (.istore 6, 2) := by decide +kernel
theorem dX6_dearest_86 : decode cX6_dearest 86 = .ok (.iload 6, 2) := by decide +kernel
theorem dX6_dearest_88 : decode cX6_dearest 88 = .ok (.iload_n 3, 1) := by decide +kernel
theorem dX6_dearest_89 : decode cX6_dearest 89 = .ok (.if_icmp .le 8, 3) := by decide +kernel
theorem dX6_dearest_92 : decode cX6_dearest 92 = .ok (.iload 4, 2) := by decide +kernel
theorem dX6_dearest_94 : decode cX6_dearest 94 = .ok (.goto 4, 3) := by decide +kernel
theorem dX6_dearest_97 : decode cX6_dearest 97 = .ok (.iload_n 2, 1) := by decide +kernel
theorem dX6_dearest_98 : decode cX6_dearest 98 = .ok (.istore_n 2, 1) := by decide +kernel
theorem dX6_dearest_99 : decode cX6_dearest 99 = .ok (.iload 6, 2) := by decide +kernel
theorem dX6_dearest_101 : decode cX6_dearest 101 = .ok (.iload_n 3, 1) := by decide +kernel
theorem dX6_dearest_102 : decode cX6_dearest 102 = .ok (.if_icmp .le 8, 3) := by decide +kernel
theorem dX6_dearest_105 : decode cX6_dearest 105 = .ok (.iload 6, 2) := by decide +kernel
theorem dX6_dearest_107 : decode cX6_dearest 107 = .ok (.goto 4, 3) := by decide +kernel
theorem dX6_dearest_110 : decode cX6_dearest 110 = .ok (.iload_n 3, 1) := by decide +kernel
theorem dX6_dearest_111 : decode cX6_dearest 111 = .ok (.istore_n 3, 1) := by decide +kernel
theorem dX6_dearest_112 : decode cX6_dearest 112 = .ok (.iinc 4 1, 3) := by decide +kernel
theorem dX6_dearest_115 : decode cX6_dearest 115 = .ok (.goto (-87), 3) := by decide +kernel
theorem dX6_dearest_118 : decode cX6_dearest 118 = .ok (.aload_n 0, 1) := by decide +kernel
theorem dX6_dearest_119 : decode cX6_dearest 119 = .ok (.iload_n 2, 1) := by decide +kernel
theorem dX6_dearest_120 : decode cX6_dearest 120 = .ok (.invokevirtual 153, 3) := by decide +kernel
theorem dX6_dearest_123 : decode cX6_dearest 123 = .ok (.ireturn, 1) := by decide +kernel
theorem dX6_merge_0 : decode cX6_merge 0 = .ok (.aload_n 0, 1) := by decide +kernel
theorem dX6_merge_1 : decode cX6_merge 1 = .ok (.iload_n 1, 1) := by decide +kernel
theorem dX6_merge_2 : decode cX6_merge 2 = .ok (.invokevirtual 140, 3) := by decide +kernel
theorem dX6_merge_5 : decode cX6_merge 5 = .ok (.ifCond .eq 11, 3) := by decide +kernel
theorem dX6_merge_8 : decode cX6_merge 8 = .ok (.aload_n 0, 1) := by decide +kernel
theorem dX6_merge_9 : decode cX6_merge 9 = .ok (.iload_n 2, 1) := by decide +kernel
theorem dX6_merge_10 : decode cX6_merge 10 = .ok (.invokevirtual 140, 3) := by decide +kernel
theorem dX6_merge_13 : decode cX6_merge 13 = .ok (.ifCond .ne 10, 3) := by decide +kernel
theorem dX6_merge_16 : decode cX6_merge 16 = .ok (.aload_n 0, 1) := by decide +kernel
theorem dX6_merge_17 : decode cX6_merge 17 = .ok (.ldc 37, 2) := by decide +kernel
theorem dX6_merge_19 : decode cX6_merge 19 = .ok (.invokevirtual 47, 3) := by decide +kernel
theorem dX6_merge_22 : decode cX6_merge 22 = .ok (.ireturn, 1) := by decide +kernel
theorem dX6_merge_23 : decode cX6_merge 23 = .ok (.aload_n 0, 1) := by decide +kernel
theorem dX6_merge_24 : decode cX6_merge 24 = .ok (.iload_n 1, 1) := by decide +kernel
theorem dX6_merge_25 : decode cX6_merge 25 = .ok (.invokevirtual 122, 3) := by decide +kernel
theorem dX6_merge_28 : decode cX6_merge 28 = .ok (.ifCond .eq 16, 3) := by decide +kernel
theorem dX6_merge_31 : decode cX6_merge 31 = .ok (.aload_n 0, 1) := by decide +kernel
theorem dX6_merge_32 : decode cX6_merge 32 = .ok (.iload_n 2, 1) := by decide +kernel
theorem dX6_merge_33 : decode cX6_merge 33 = .ok (.iload_n 1, 1) := by decide +kernel
theorem dX6_merge_34 : decode cX6_merge 34 = .ok (.iconst (-1), 1) := by decide +kernel
theorem dX6_merge_35 : decode cX6_merge 35 = .ok (.ixor, 1) := by decide +kernel
theorem dX6_merge_36 : decode cX6_merge 36 = .ok (.iand, 1) := by decide +kernel
theorem dX6_merge_37 : decode cX6_merge 37 = .ok (.iload_n 1, 1) := by decide +kernel
theorem dX6_merge_38 : decode cX6_merge 38 = .ok (.invokevirtual 150, 3) := by decide +kernel
theorem dX6_merge_41 : decode cX6_merge 41 = .ok (.goto 9, 3) := by decide +kernel
theorem dX6_merge_44 : decode cX6_merge 44 = .ok (.aload_n 0, 1) := by decide +kernel
theorem dX6_merge_45 : decode cX6_merge 45 = .ok (.ldc 46, 2) := by decide +kernel
theorem dX6_merge_47 : decode cX6_merge 47 = .ok (.invokevirtual 47, 3) := by decide +kernel
theorem dX6_merge_50 : decode cX6_merge 50 = .ok (.ireturn, 1) := by decide +kernel
theorem dX6_kinds_0 : decode cX6_kinds 0 = .ok (.aload_n 0, 1) := by decide +kernel
theorem dX6_kinds_1 : decode cX6_kinds 1 = .ok (.iload_n 1, 1) := by decide +kernel
theorem dX6_kinds_2 : decode cX6_kinds 2 = .ok (.invokevirtual 85, 3) := by decide +kernel
theorem dX6_kinds_5 : decode cX6_kinds 5 = .ok (.ifCond .ne 10, 3) := by decide +kernel
theorem dX6_kinds_8 : decode cX6_kinds 8 = .ok (.aload_n 0, 1) := by decide +kernel
theorem dX6_kinds_9 : decode cX6_kinds 9 = .ok (.ldc 37, 2) := by decide +kernel
theorem dX6_kinds_11 : decode cX6_kinds 11 = .ok (.invokevirtual 47, 3) := by decide +kernel
theorem dX6_kinds_14 : decode cX6_kinds 14 = .ok (.ireturn, 1) := by decide +kernel
theorem dX6_kinds_15 : decode cX6_kinds 15 = .ok (.iconst 5, 1) := by decide +kernel
theorem dX6_kinds_16 : decode cX6_kinds 16 = .ok (.bipush 6, 2) := by decide +kernel
theorem dX6_kinds_18 : decode cX6_kinds 18 = .ok (.iload_n 1, 1) := by decide +kernel
theorem dX6_kinds_19 : decode cX6_kinds 19 = .ok (.imul, 1) := by decide +kernel
theorem dX6_kinds_20 : decode cX6_kinds 20 = .ok (.iadd, 1) := by decide +kernel
theorem dX6_kinds_21 : decode cX6_kinds 21 = .ok (.istore_n 2, 1) := by decide +kernel
theorem dX6_kinds_22 : decode cX6_kinds 22 = .ok (.aload_n 0, 1) := by decide +kernel
theorem dX6_kinds_23 : decode cX6_kinds 23 = .ok (.getfield 7, 3) := by decide +kernel
theorem dX6_kinds_26 : decode cX6_kinds 26 = .ok (.iload_n 2, 1) := by decide +kernel
theorem dX6_kinds_27 : decode cX6_kinds 27 = .ok (.iaload, 1) := by decide +kernel
theorem dX6_kinds_28 : decode cX6_kinds 28 = .ok (.istore_n 3, 1) := by decide +kernel
theorem dX6_kinds_29 : decode cX6_kinds 29 = .ok (.iconst 0, 1) := by decide +kernel
theorem dX6_kinds_30 : decode cX6_kinds 30 = .ok (.istore 4, 2) := by decide +kernel
theorem dX6_kinds_32 : decode cX6_kinds 32 = .ok (.iconst 0, 1) := by decide +kernel
theorem dX6_kinds_33 : decode cX6_kinds 33 = .ok (.istore 5, 2) := by decide +kernel
theorem dX6_kinds_35 : decode cX6_kinds 35 = .ok (.iload 5, 2) := by decide +kernel
theorem dX6_kinds_37 : decode cX6_kinds 37 = .ok (.bipush 6, 2) := by decide +kernel
theorem dX6_kinds_39 : decode cX6_kinds 39 = .ok (.if_icmp .gt 37, 3) := by decide +kernel
theorem dX6_kinds_42 : decode cX6_kinds 42 = .ok (.aload_n 0, 1) := by decide +kernel
theorem dX6_kinds_43 : decode cX6_kinds 43 = .ok (.getfield 7, 3) := by decide +kernel
theorem dX6_kinds_46 : decode cX6_kinds 46 = .ok (.iload_n 2, 1) := by decide +kernel
theorem dX6_kinds_47 : decode cX6_kinds 47 = .ok (.iload 5, 2) := by decide +kernel
theorem dX6_kinds_49 : decode cX6_kinds 49 = .ok (.iastore, 1) := by decide +kernel
theorem dX6_kinds_50 : decode cX6_kinds 50 = .ok (.iload 4, 2) := by decide +kernel
theorem dX6_kinds_52 : decode cX6_kinds 52 = .ok (.aload_n 0, 1) := by decide +kernel
theorem dX6_kinds_53 : decode cX6_kinds 53 = .ok (.invokevirtual 128, 3) := by decide +kernel
theorem dX6_kinds_56 : decode cX6_kinds 56 = .ok (.ifCond .eq 10, 3) := by decide +kernel
theorem dX6_kinds_59 : decode cX6_kinds 59 = .ok (.iconst 1, 1) := by decide +kernel
theorem dX6_kinds_60 : decode cX6_kinds 60 = .ok (.iload 5, 2) := by decide +kernel
theorem dX6_kinds_62 : decode cX6_kinds 62 = .ok (.ishl, 1) := by decide +kernel
theorem dX6_kinds_63 : decode cX6_kinds 63 = .ok (.goto 4, 3) := by decide +kernel
theorem dX6_kinds_66 : decode cX6_kinds 66 = .ok (.iconst 0, 1) := by decide +kernel
theorem dX6_kinds_67 : decode cX6_kinds 67 = .ok (.ior, 1) := by decide +kernel
theorem dX6_kinds_68 : decode cX6_kinds 68 = .ok (.istore 4, 2) := by decide +kernel
theorem dX6_kinds_70 : decode cX6_kinds 70 = .ok (.iinc 5 1, 3) := by decide +kernel
theorem dX6_kinds_73 : decode cX6_kinds 73 = .ok (.goto (-38), 3) := by decide +kernel
theorem dX6_kinds_76 : decode cX6_kinds 76 = .ok (.aload_n 0, 1) := by decide +kernel
theorem dX6_kinds_77 : decode cX6_kinds 77 = .ok (.getfield 7, 3) := by decide +kernel
theorem dX6_kinds_80 : decode cX6_kinds 80 = .ok (.iload_n 2, 1) := by decide +kernel
theorem dX6_kinds_81 : decode cX6_kinds 81 = .ok (.iload_n 3, 1) := by decide +kernel
theorem dX6_kinds_82 : decode cX6_kinds 82 = .ok (.iastore, 1) := by decide +kernel
theorem dX6_kinds_83 : decode cX6_kinds 83 = .ok (.iload 4, 2) := by decide +kernel
theorem dX6_kinds_85 : decode cX6_kinds 85 = .ok (.ireturn, 1) := by decide +kernel
theorem dX6_days_0 : decode cX6_days 0 = .ok (.aload_n 0, 1) := by decide +kernel
theorem dX6_days_1 : decode cX6_days 1 = .ok (.iload_n 1, 1) := by decide +kernel
theorem dX6_days_2 : decode cX6_days 2 = .ok (.invokevirtual 85, 3) := by decide +kernel
theorem dX6_days_5 : decode cX6_days 5 = .ok (.ifCond .ne 10, 3) := by decide +kernel
theorem dX6_days_8 : decode cX6_days 8 = .ok (.aload_n 0, 1) := by decide +kernel
theorem dX6_days_9 : decode cX6_days 9 = .ok (.ldc 37, 2) := by decide +kernel
theorem dX6_days_11 : decode cX6_days 11 = .ok (.invokevirtual 47, 3) := by decide +kernel
theorem dX6_days_14 : decode cX6_days 14 = .ok (.ireturn, 1) := by decide +kernel
theorem dX6_days_15 : decode cX6_days 15 = .ok (.iconst 5, 1) := by decide +kernel
theorem dX6_days_16 : decode cX6_days 16 = .ok (.bipush 6, 2) := by decide +kernel
theorem dX6_days_18 : decode cX6_days 18 = .ok (.iload_n 1, 1) := by decide +kernel
theorem dX6_days_19 : decode cX6_days 19 = .ok (.imul, 1) := by decide +kernel
theorem dX6_days_20 : decode cX6_days 20 = .ok (.iadd, 1) := by decide +kernel
theorem dX6_days_21 : decode cX6_days 21 = .ok (.iconst 3, 1) := by decide +kernel
theorem dX6_days_22 : decode cX6_days 22 = .ok (.iadd, 1) := by decide +kernel
theorem dX6_days_23 : decode cX6_days 23 = .ok (.istore_n 2, 1) := by decide +kernel
theorem dX6_days_24 : decode cX6_days 24 = .ok (.aload_n 0, 1) := by decide +kernel
theorem dX6_days_25 : decode cX6_days 25 = .ok (.getfield 7, 3) := by decide +kernel
theorem dX6_days_28 : decode cX6_days 28 = .ok (.iload_n 2, 1) := by decide +kernel
theorem dX6_days_29 : decode cX6_days 29 = .ok (.iaload, 1) := by decide +kernel
theorem dX6_days_30 : decode cX6_days 30 = .ok (.istore_n 3, 1) := by decide +kernel
theorem dX6_days_31 : decode cX6_days 31 = .ok (.iconst 0, 1) := by decide +kernel
theorem dX6_days_32 : decode cX6_days 32 = .ok (.istore 4, 2) := by decide +kernel
theorem dX6_days_34 : decode cX6_days 34 = .ok (.bipush (-99), 2) := by decide +kernel
theorem dX6_days_36 : decode cX6_days 36 = .ok (.istore 5, 2) := by decide +kernel
theorem dX6_days_38 : decode cX6_days 38 = .ok (.iload 5, 2) := by decide +kernel
theorem dX6_days_40 : decode cX6_days 40 = .ok (.bipush 99, 2) := by decide +kernel
theorem dX6_days_42 : decode cX6_days 42 = .ok (.if_icmp .gt 34, 3) := by decide +kernel
theorem dX6_days_45 : decode cX6_days 45 = .ok (.aload_n 0, 1) := by decide +kernel
theorem dX6_days_46 : decode cX6_days 46 = .ok (.getfield 7, 3) := by decide +kernel
theorem dX6_days_49 : decode cX6_days 49 = .ok (.iload_n 2, 1) := by decide +kernel
theorem dX6_days_50 : decode cX6_days 50 = .ok (.iload 5, 2) := by decide +kernel
theorem dX6_days_52 : decode cX6_days 52 = .ok (.iastore, 1) := by decide +kernel
theorem dX6_days_53 : decode cX6_days 53 = .ok (.iload 4, 2) := by decide +kernel
theorem dX6_days_55 : decode cX6_days 55 = .ok (.aload_n 0, 1) := by decide +kernel
theorem dX6_days_56 : decode cX6_days 56 = .ok (.invokevirtual 128, 3) := by decide +kernel
theorem dX6_days_59 : decode cX6_days 59 = .ok (.ifCond .eq 7, 3) := by decide +kernel
theorem dX6_days_62 : decode cX6_days 62 = .ok (.iconst 1, 1) := by decide +kernel
theorem dX6_days_63 : decode cX6_days 63 = .ok (.goto 4, 3) := by decide +kernel
theorem dX6_days_66 : decode cX6_days 66 = .ok (.iconst 0, 1) := by decide +kernel
theorem dX6_days_67 : decode cX6_days 67 = .ok (.iadd, 1) := by decide +kernel
theorem dX6_days_68 : decode cX6_days 68 = .ok (.istore 4, 2) := by decide +kernel
theorem dX6_days_70 : decode cX6_days 70 = .ok (.iinc 5 1, 3) := by decide +kernel
theorem dX6_days_73 : decode cX6_days 73 = .ok (.goto (-35), 3) := by decide +kernel
theorem dX6_days_76 : decode cX6_days 76 = .ok (.aload_n 0, 1) := by decide +kernel
theorem dX6_days_77 : decode cX6_days 77 = .ok (.getfield 7, 3) := by decide +kernel
theorem dX6_days_80 : decode cX6_days 80 = .ok (.iload_n 2, 1) := by decide +kernel
theorem dX6_days_81 : decode cX6_days 81 = .ok (.iload_n 3, 1) := by decide +kernel
theorem dX6_days_82 : decode cX6_days 82 = .ok (.iastore, 1) := by decide +kernel
theorem dX6_days_83 : decode cX6_days 83 = .ok (.iload 4, 2) := by decide +kernel
theorem dX6_days_85 : decode cX6_days 85 = .ok (.ireturn, 1) := by decide +kernel
theorem dX6_fewest_0 : decode cX6_fewest 0 = .ok (.aload_n 0, 1) := by decide +kernel
theorem dX6_fewest_1 : decode cX6_fewest 1 = .ok (.iload_n 1, 1) := by decide +kernel
theorem dX6_fewest_2 : decode cX6_fewest 2 = .ok (.invokevirtual 85, 3) := by decide +kernel
theorem dX6_fewest_5 : decode cX6_fewest 5 = .ok (.ifCond .ne 10, 3) := by decide +kernel
theorem dX6_fewest_8 : decode cX6_fewest 8 = .ok (.aload_n 0, 1) := by decide +kernel
theorem dX6_fewest_9 : decode cX6_fewest 9 = .ok (.ldc 37, 2) := by decide +kernel
theorem dX6_fewest_11 : decode cX6_fewest 11 = .ok (.invokevirtual 47, 3) := by decide +kernel
theorem dX6_fewest_14 : decode cX6_fewest 14 = .ok (.ireturn, 1) := by decide +kernel
theorem dX6_fewest_15 : decode cX6_fewest 15 = .ok (.iconst 5, 1) := by decide +kernel
theorem dX6_fewest_16 : decode cX6_fewest 16 = .ok (.bipush 6, 2) := by decide +kernel
theorem dX6_fewest_18 : decode cX6_fewest 18 = .ok (.iload_n 1, 1) := by decide +kernel
theorem dX6_fewest_19 : decode cX6_fewest 19 = .ok (.imul, 1) := by decide +kernel
theorem dX6_fewest_20 : decode cX6_fewest 20 = .ok (.iadd, 1) := by decide +kernel
theorem dX6_fewest_21 : decode cX6_fewest 21 = .ok (.iconst 3, 1) := by decide +kernel
theorem dX6_fewest_22 : decode cX6_fewest 22 = .ok (.iadd, 1) := by decide +kernel
theorem dX6_fewest_23 : decode cX6_fewest 23 = .ok (.istore_n 2, 1) := by decide +kernel
theorem dX6_fewest_24 : decode cX6_fewest 24 = .ok (.aload_n 0, 1) := by decide +kernel
theorem dX6_fewest_25 : decode cX6_fewest 25 = .ok (.getfield 7, 3) := by decide +kernel
theorem dX6_fewest_28 : decode cX6_fewest 28 = .ok (.iload_n 2, 1) := by decide +kernel
theorem dX6_fewest_29 : decode cX6_fewest 29 = .ok (.iaload, 1) := by decide +kernel
theorem dX6_fewest_30 : decode cX6_fewest 30 = .ok (.istore_n 3, 1) := by decide +kernel
theorem dX6_fewest_31 : decode cX6_fewest 31 = .ok (.aload_n 0, 1) := by decide +kernel
theorem dX6_fewest_32 : decode cX6_fewest 32 = .ok (.getfield 7, 3) := by decide +kernel
theorem dX6_fewest_35 : decode cX6_fewest 35 = .ok (.iload_n 2, 1) := by decide +kernel
theorem dX6_fewest_36 : decode cX6_fewest 36 = .ok (.bipush (-99), 2) := by decide +kernel
theorem dX6_fewest_38 : decode cX6_fewest 38 = .ok (.iastore, 1) := by decide +kernel
theorem dX6_fewest_39 : decode cX6_fewest 39 = .ok (.aload_n 0, 1) := by decide +kernel
theorem dX6_fewest_40 : decode cX6_fewest 40 = .ok (.getfield 7, 3) := by decide +kernel
theorem dX6_fewest_43 : decode cX6_fewest 43 = .ok (.iload_n 2, 1) := by decide +kernel
theorem dX6_fewest_44 : decode cX6_fewest 44 = .ok (.iaload, 1) := by decide +kernel
theorem dX6_fewest_45 : decode cX6_fewest 45 = .ok (.bipush 99, 2) := by decide +kernel
theorem dX6_fewest_47 : decode cX6_fewest 47 = .ok (.if_icmp .gt 23, 3) := by decide +kernel
theorem dX6_fewest_50 : decode cX6_fewest 50 = .ok (.aload_n 0, 1) := by decide +kernel
theorem dX6_fewest_51 : decode cX6_fewest 51 = .ok (.invokevirtual 128, 3) := by decide +kernel
theorem dX6_fewest_54 : decode cX6_fewest 54 = .ok (.ifCond .ne 16, 3) := by decide +kernel
theorem dX6_fewest_57 : decode cX6_fewest 57 = .ok (.aload_n 0, 1) := by decide +kernel
theorem dX6_fewest_58 : decode cX6_fewest 58 = .ok (.getfield 7, 3) := by decide +kernel
theorem dX6_fewest_61 : decode cX6_fewest 61 = .ok (.iload_n 2, 1) := by decide +kernel
theorem dX6_fewest_62 : decode cX6_fewest 62 = .ok (.dup2, 1) := by decide +kernel
theorem dX6_fewest_63 : decode cX6_fewest 63 = .ok (.iaload, 1) := by decide +kernel
theorem dX6_fewest_64 : decode cX6_fewest 64 = .ok (.iconst 1, 1) := by decide +kernel
theorem dX6_fewest_65 : decode cX6_fewest 65 = .ok (.iadd, 1) := by decide +kernel
theorem dX6_fewest_66 : decode cX6_fewest 66 = .ok (.iastore, 1) := by decide +kernel
theorem dX6_fewest_67 : decode cX6_fewest 67 = .ok (.goto (-28), 3) := by decide +kernel
theorem dX6_fewest_70 : decode cX6_fewest 70 = .ok (.aload_n 0, 1) := by decide +kernel
theorem dX6_fewest_71 : decode cX6_fewest 71 = .ok (.getfield 7, 3) := by decide +kernel
theorem dX6_fewest_74 : decode cX6_fewest 74 = .ok (.iload_n 2, 1) := by decide +kernel
theorem dX6_fewest_75 : decode cX6_fewest 75 = .ok (.iaload, 1) := by decide +kernel
theorem dX6_fewest_76 : decode cX6_fewest 76 = .ok (.istore 4, 2) := by decide +kernel
theorem dX6_fewest_78 : decode cX6_fewest 78 = .ok (.aload_n 0, 1) := by decide +kernel
theorem dX6_fewest_79 : decode cX6_fewest 79 = .ok (.getfield 7, 3) := by decide +kernel
theorem dX6_fewest_82 : decode cX6_fewest 82 = .ok (.iload_n 2, 1) := by decide +kernel
theorem dX6_fewest_83 : decode cX6_fewest 83 = .ok (.iload_n 3, 1) := by decide +kernel
theorem dX6_fewest_84 : decode cX6_fewest 84 = .ok (.iastore, 1) := by decide +kernel
theorem dX6_fewest_85 : decode cX6_fewest 85 = .ok (.iload 4, 2) := by decide +kernel
theorem dX6_fewest_87 : decode cX6_fewest 87 = .ok (.bipush 99, 2) := by decide +kernel
theorem dX6_fewest_89 : decode cX6_fewest 89 = .ok (.if_icmp .gt 8, 3) := by decide +kernel
theorem dX6_fewest_92 : decode cX6_fewest 92 = .ok (.iload 4, 2) := by decide +kernel
theorem dX6_fewest_94 : decode cX6_fewest 94 = .ok (.goto 9, 3) := by decide +kernel
theorem dX6_fewest_97 : decode cX6_fewest 97 = .ok (.aload_n 0, 1) := by decide +kernel
theorem dX6_fewest_98 : decode cX6_fewest 98 = .ok (.ldc 46, 2) := by decide +kernel
theorem dX6_fewest_100 : decode cX6_fewest 100 = .ok (.invokevirtual 47, 3) := by decide +kernel
theorem dX6_fewest_103 : decode cX6_fewest 103 = .ok (.ireturn, 1) := by decide +kernel
theorem dX6_tight_0 : decode cX6_tight 0 = .ok (.aload_n 0, 1) := by decide +kernel
theorem dX6_tight_1 : decode cX6_tight 1 = .ok (.getfield 7, 3) := by decide +kernel
theorem dX6_tight_4 : decode cX6_tight 4 = .ok (.iconst 2, 1) := by decide +kernel
theorem dX6_tight_5 : decode cX6_tight 5 = .ok (.iaload, 1) := by decide +kernel
theorem dX6_tight_6 : decode cX6_tight 6 = .ok (.istore_n 1, 1) := by decide +kernel
theorem dX6_tight_7 : decode cX6_tight 7 = .ok (.aload_n 0, 1) := by decide +kernel
theorem dX6_tight_8 : decode cX6_tight 8 = .ok (.getfield 7, 3) := by decide +kernel
theorem dX6_tight_11 : decode cX6_tight 11 = .ok (.iconst 2, 1) := by decide +kernel
theorem dX6_tight_12 : decode cX6_tight 12 = .ok (.bipush 9, 2) := by decide +kernel
theorem dX6_tight_14 : decode cX6_tight 14 = .ok (.iastore, 1) := by decide +kernel
theorem dX6_tight_15 : decode cX6_tight 15 = .ok (.aload_n 0, 1) := by decide +kernel
theorem dX6_tight_16 : decode cX6_tight 16 = .ok (.getfield 7, 3) := by decide +kernel
theorem dX6_tight_19 : decode cX6_tight 19 = .ok (.iconst 2, 1) := by decide +kernel
theorem dX6_tight_20 : decode cX6_tight 20 = .ok (.iaload, 1) := by decide +kernel
theorem dX6_tight_21 : decode cX6_tight 21 = .ok (.ifCond .lt 23, 3) := by decide +kernel
theorem dX6_tight_24 : decode cX6_tight 24 = .ok (.aload_n 0, 1) := by decide +kernel
theorem dX6_tight_25 : decode cX6_tight 25 = .ok (.invokevirtual 128, 3) := by decide +kernel
theorem dX6_tight_28 : decode cX6_tight 28 = .ok (.ifCond .eq 16, 3) := by decide +kernel
theorem dX6_tight_31 : decode cX6_tight 31 = .ok (.aload_n 0, 1) := by decide +kernel
theorem dX6_tight_32 : decode cX6_tight 32 = .ok (.getfield 7, 3) := by decide +kernel
theorem dX6_tight_35 : decode cX6_tight 35 = .ok (.iconst 2, 1) := by decide +kernel
theorem dX6_tight_36 : decode cX6_tight 36 = .ok (.dup2, 1) := by decide +kernel
theorem dX6_tight_37 : decode cX6_tight 37 = .ok (.iaload, 1) := by decide +kernel
theorem dX6_tight_38 : decode cX6_tight 38 = .ok (.iconst 1, 1) := by decide +kernel
theorem dX6_tight_39 : decode cX6_tight 39 = .ok (.isub, 1) := by decide +kernel
theorem dX6_tight_40 : decode cX6_tight 40 = .ok (.iastore, 1) := by decide +kernel
theorem dX6_tight_41 : decode cX6_tight 41 = .ok (.goto (-26), 3) := by decide +kernel
theorem dX6_tight_44 : decode cX6_tight 44 = .ok (.aload_n 0, 1) := by decide +kernel
theorem dX6_tight_45 : decode cX6_tight 45 = .ok (.getfield 7, 3) := by decide +kernel
theorem dX6_tight_48 : decode cX6_tight 48 = .ok (.iconst 2, 1) := by decide +kernel
theorem dX6_tight_49 : decode cX6_tight 49 = .ok (.iaload, 1) := by decide +kernel
theorem dX6_tight_50 : decode cX6_tight 50 = .ok (.istore_n 2, 1) := by decide +kernel
theorem dX6_tight_51 : decode cX6_tight 51 = .ok (.aload_n 0, 1) := by decide +kernel
theorem dX6_tight_52 : decode cX6_tight 52 = .ok (.getfield 7, 3) := by decide +kernel
theorem dX6_tight_55 : decode cX6_tight 55 = .ok (.iconst 2, 1) := by decide +kernel
theorem dX6_tight_56 : decode cX6_tight 56 = .ok (.iload_n 1, 1) := by decide +kernel
theorem dX6_tight_57 : decode cX6_tight 57 = .ok (.iastore, 1) := by decide +kernel
theorem dX6_tight_58 : decode cX6_tight 58 = .ok (.aload_n 0, 1) := by decide +kernel
theorem dX6_tight_59 : decode cX6_tight 59 = .ok (.iload_n 2, 1) := by decide +kernel
theorem dX6_tight_60 : decode cX6_tight 60 = .ok (.invokevirtual 153, 3) := by decide +kernel
theorem dX6_tight_63 : decode cX6_tight 63 = .ok (.ireturn, 1) := by decide +kernel
theorem dX6_loses_0 : decode cX6_loses 0 = .ok (.iload_n 1, 1) := by decide +kernel
theorem dX6_loses_1 : decode cX6_loses 1 = .ok (.i2l, 1) := by decide +kernel
theorem dX6_loses_2 : decode cX6_loses 2 = .ok (.lconst 1, 1) := by decide +kernel
theorem dX6_loses_3 : decode cX6_loses 3 = .ok (.ldc2_w 156, 3) := by decide +kernel
theorem dX6_loses_6 : decode cX6_loses 6 = .ok (.invokestatic 42, 3) := by decide +kernel
theorem dX6_loses_9 : decode cX6_loses 9 = .ok (.ifCond .ne 10, 3) := by decide +kernel
theorem dX6_loses_12 : decode cX6_loses 12 = .ok (.aload_n 0, 1) := by decide +kernel
theorem dX6_loses_13 : decode cX6_loses 13 = .ok (.ldc 37, 2) := by decide +kernel
theorem dX6_loses_15 : decode cX6_loses 15 = .ok (.invokevirtual 47, 3) := by decide +kernel
theorem dX6_loses_18 : decode cX6_loses 18 = .ok (.ireturn, 1) := by decide +kernel
theorem dX6_loses_19 : decode cX6_loses 19 = .ok (.iconst 0, 1) := by decide +kernel
theorem dX6_loses_20 : decode cX6_loses 20 = .ok (.istore_n 2, 1) := by decide +kernel
theorem dX6_loses_21 : decode cX6_loses 21 = .ok (.iload_n 2, 1) := by decide +kernel
theorem dX6_loses_22 : decode cX6_loses 22 = .ok (.iload_n 1, 1) := by decide +kernel
theorem dX6_loses_23 : decode cX6_loses 23 = .ok (.if_icmp .ge 63, 3) := by decide +kernel
theorem dX6_loses_26 : decode cX6_loses 26 = .ok (.aload_n 0, 1) := by decide +kernel
theorem dX6_loses_27 : decode cX6_loses 27 = .ok (.getfield 7, 3) := by decide +kernel
theorem dX6_loses_30 : decode cX6_loses 30 = .ok (.iconst 4, 1) := by decide +kernel
theorem dX6_loses_31 : decode cX6_loses 31 = .ok (.aload_n 0, 1) := by decide +kernel
theorem dX6_loses_32 : decode cX6_loses 32 = .ok (.getfield 7, 3) := by decide +kernel
theorem dX6_loses_35 : decode cX6_loses 35 = .ok (.iconst 4, 1) := by decide +kernel
theorem dX6_loses_36 : decode cX6_loses 36 = .ok (.iaload, 1) := by decide +kernel
theorem dX6_loses_37 : decode cX6_loses 37 = .ok (.ldc 158, 2) := by decide +kernel
theorem dX6_loses_39 : decode cX6_loses 39 = .ok (.imul, 1) := by decide +kernel
theorem dX6_loses_40 : decode cX6_loses 40 = .ok (.sipush 12345, 3) := by decide +kernel
theorem dX6_loses_43 : decode cX6_loses 43 = .ok (.iadd, 1) := by decide +kernel
theorem dX6_loses_44 : decode cX6_loses 44 = .ok (.iastore, 1) := by decide +kernel
theorem dX6_loses_45 : decode cX6_loses 45 = .ok (.aload_n 0, 1) := by decide +kernel
theorem dX6_loses_46 : decode cX6_loses 46 = .ok (.getfield 7, 3) := by decide +kernel
theorem dX6_loses_49 : decode cX6_loses 49 = .ok (.iconst 4, 1) := by decide +kernel
theorem dX6_loses_50 : decode cX6_loses 50 = .ok (.iaload, 1) := by decide +kernel
theorem dX6_loses_51 : decode cX6_loses 51 = .ok (.bipush 8, 2) := by decide +kernel
theorem dX6_loses_53 : decode cX6_loses 53 = .ok (.iushr, 1) := by decide +kernel
theorem dX6_loses_54 : decode cX6_loses 54 = .ok (.bipush 16, 2) := by decide +kernel
theorem dX6_loses_56 : decode cX6_loses 56 = .ok (.irem, 1) := by decide +kernel
theorem dX6_loses_57 : decode cX6_loses 57 = .ok (.istore_n 3, 1) := by decide +kernel
theorem dX6_loses_58 : decode cX6_loses 58 = .ok (.aload_n 0, 1) := by decide +kernel
theorem dX6_loses_59 : decode cX6_loses 59 = .ok (.iload_n 3, 1) := by decide +kernel
theorem dX6_loses_60 : decode cX6_loses 60 = .ok (.invokevirtual 85, 3) := by decide +kernel
theorem dX6_loses_63 : decode cX6_loses 63 = .ok (.ifCond .eq 17, 3) := by decide +kernel
theorem dX6_loses_66 : decode cX6_loses 66 = .ok (.aload_n 0, 1) := by decide +kernel
theorem dX6_loses_67 : decode cX6_loses 67 = .ok (.getfield 7, 3) := by decide +kernel
theorem dX6_loses_70 : decode cX6_loses 70 = .ok (.iconst 5, 1) := by decide +kernel
theorem dX6_loses_71 : decode cX6_loses 71 = .ok (.bipush 6, 2) := by decide +kernel
theorem dX6_loses_73 : decode cX6_loses 73 = .ok (.iload_n 3, 1) := by decide +kernel
theorem dX6_loses_74 : decode cX6_loses 74 = .ok (.imul, 1) := by decide +kernel
theorem dX6_loses_75 : decode cX6_loses 75 = .ok (.iadd, 1) := by decide +kernel
theorem dX6_loses_76 : decode cX6_loses 76 = .ok (.iconst 5, 1) := by decide +kernel
theorem dX6_loses_77 : decode cX6_loses 77 = .ok (.iadd, 1) := by decide +kernel
theorem dX6_loses_78 : decode cX6_loses 78 = .ok (.iconst 1, 1) := by decide +kernel
theorem dX6_loses_79 : decode cX6_loses 79 = .ok (.iastore, 1) := by decide +kernel
theorem dX6_loses_80 : decode cX6_loses 80 = .ok (.iinc 2 1, 3) := by decide +kernel
theorem dX6_loses_83 : decode cX6_loses 83 = .ok (.goto (-62), 3) := by decide +kernel
theorem dX6_loses_86 : decode cX6_loses 86 = .ok (.aload_n 0, 1) := by decide +kernel
theorem dX6_loses_87 : decode cX6_loses 87 = .ok (.invokevirtual 61, 3) := by decide +kernel
theorem dX6_loses_90 : decode cX6_loses 90 = .ok (.invokestatic 147, 3) := by decide +kernel
theorem dX6_loses_93 : decode cX6_loses 93 = .ok (.ireturn, 1) := by decide +kernel
theorem dX6_odds_0 : decode cX6_odds 0 = .ok (.iload_n 1, 1) := by decide +kernel
theorem dX6_odds_1 : decode cX6_odds 1 = .ok (.i2l, 1) := by decide +kernel
theorem dX6_odds_2 : decode cX6_odds 2 = .ok (.lconst 0, 1) := by decide +kernel
theorem dX6_odds_3 : decode cX6_odds 3 = .ok (.ldc2_w 159, 3) := by decide +kernel
theorem dX6_odds_6 : decode cX6_odds 6 = .ok (.invokestatic 42, 3) := by decide +kernel
theorem dX6_odds_9 : decode cX6_odds 9 = .ok (.ifCond .eq 13, 3) := by decide +kernel
theorem dX6_odds_12 : decode cX6_odds 12 = .ok (.iload_n 2, 1) := by decide +kernel
theorem dX6_odds_13 : decode cX6_odds 13 = .ok (.i2l, 1) := by decide +kernel
theorem dX6_odds_14 : decode cX6_odds 14 = .ok (.lconst 0, 1) := by decide +kernel
theorem dX6_odds_15 : decode cX6_odds 15 = .ok (.lconst 1, 1) := by decide +kernel
theorem dX6_odds_16 : decode cX6_odds 16 = .ok (.invokestatic 42, 3) := by decide +kernel
theorem dX6_odds_19 : decode cX6_odds 19 = .ok (.ifCond .ne 11, 3) := by decide +kernel
theorem dX6_odds_22 : decode cX6_odds 22 = .ok (.aload_n 0, 1) := by decide +kernel
theorem dX6_odds_23 : decode cX6_odds 23 = .ok (.ldc 37, 2) := by decide +kernel
theorem dX6_odds_25 : decode cX6_odds 25 = .ok (.invokevirtual 47, 3) := by decide +kernel
theorem dX6_odds_28 : decode cX6_odds 28 = .ok (.i2l, 1) := by decide +kernel
theorem dX6_odds_29 : decode cX6_odds 29 = .ok (.lreturn, 1) := by decide +kernel
theorem dX6_odds_30 : decode cX6_odds 30 = .ok (.lconst 1, 1) := by decide +kernel
theorem dX6_odds_31 : decode cX6_odds 31 = .ok (.lstore_n 3, 1) := by decide +kernel
theorem dX6_odds_32 : decode cX6_odds 32 = .ok (.lconst 1, 1) := by decide +kernel
theorem dX6_odds_33 : decode cX6_odds 33 = .ok (.lstore 5, 2) := by decide +kernel
theorem dX6_odds_35 : decode cX6_odds 35 = .ok (.bipush 16, 2) := by decide +kernel
theorem dX6_odds_37 : decode cX6_odds 37 = .ok (.aload_n 0, 1) := by decide +kernel
theorem dX6_odds_38 : decode cX6_odds 38 = .ok (.iconst 0, 1) := by decide +kernel
theorem dX6_odds_39 : decode cX6_odds 39 = .ok (.invokevirtual 96, 3) := by decide +kernel
theorem dX6_odds_42 : decode cX6_odds 42 = .ok (.invokestatic 147, 3) := by decide +kernel
theorem dX6_odds_45 : decode cX6_odds 45 = .ok (.isub, 1) := by decide +kernel
theorem dX6_odds_46 : decode cX6_odds 46 = .ok (.istore 7, 2) := by decide +kernel
theorem dX6_odds_48 : decode cX6_odds 48 = .ok (.iconst 0, 1) := by decide +kernel
theorem dX6_odds_49 : decode cX6_odds 49 = .ok (.istore 8, 2) := by decide +kernel
theorem dX6_odds_51 : decode cX6_odds 51 = .ok (.iload 8, 2) := by decide +kernel
theorem dX6_odds_53 : decode cX6_odds 53 = .ok (.iload_n 1, 1) := by decide +kernel
theorem dX6_odds_54 : decode cX6_odds 54 = .ok (.if_icmp .ge 23, 3) := by decide +kernel
theorem dX6_odds_57 : decode cX6_odds 57 = .ok (.lload_n 3, 1) := by decide +kernel
theorem dX6_odds_58 : decode cX6_odds 58 = .ok (.iload 7, 2) := by decide +kernel
theorem dX6_odds_60 : decode cX6_odds 60 = .ok (.i2l, 1) := by decide +kernel
theorem dX6_odds_61 : decode cX6_odds 61 = .ok (.lmul, 1) := by decide +kernel
theorem dX6_odds_62 : decode cX6_odds 62 = .ok (.lstore_n 3, 1) := by decide +kernel
theorem dX6_odds_63 : decode cX6_odds 63 = .ok (.lload 5, 2) := by decide +kernel
theorem dX6_odds_65 : decode cX6_odds 65 = .ok (.ldc2_w 161, 3) := by decide +kernel
theorem dX6_odds_68 : decode cX6_odds 68 = .ok (.lmul, 1) := by decide +kernel
theorem dX6_odds_69 : decode cX6_odds 69 = .ok (.lstore 5, 2) := by decide +kernel
theorem dX6_odds_71 : decode cX6_odds 71 = .ok (.iinc 8 1, 3) := by decide +kernel
theorem dX6_odds_74 : decode cX6_odds 74 = .ok (.goto (-23), 3) := by decide +kernel
theorem dX6_odds_77 : decode cX6_odds 77 = .ok (.lload_n 3, 1) := by decide +kernel
theorem dX6_odds_78 : decode cX6_odds 78 = .ok (.ldc2_w 131, 3) := by decide +kernel
theorem dX6_odds_81 : decode cX6_odds 81 = .ok (.lrem, 1) := by decide +kernel
theorem dX6_odds_82 : decode cX6_odds 82 = .ok (.lconst 0, 1) := by decide +kernel
theorem dX6_odds_83 : decode cX6_odds 83 = .ok (.lcmp, 1) := by decide +kernel
theorem dX6_odds_84 : decode cX6_odds 84 = .ok (.ifCond .ne 31, 3) := by decide +kernel
theorem dX6_odds_87 : decode cX6_odds 87 = .ok (.lload 5, 2) := by decide +kernel
theorem dX6_odds_89 : decode cX6_odds 89 = .ok (.ldc2_w 131, 3) := by decide +kernel
theorem dX6_odds_92 : decode cX6_odds 92 = .ok (.lrem, 1) := by decide +kernel
theorem dX6_odds_93 : decode cX6_odds 93 = .ok (.lconst 0, 1) := by decide +kernel
theorem dX6_odds_94 : decode cX6_odds 94 = .ok (.lcmp, 1) := by decide +kernel
theorem dX6_odds_95 : decode cX6_odds 95 = .ok (.ifCond .ne 20, 3) := by decide +kernel
theorem dX6_odds_98 : decode cX6_odds 98 = .ok (.lload_n 3, 1) := by decide +kernel
theorem dX6_odds_99 : decode cX6_odds 99 = .ok (.ldc2_w 131, 3) := by decide +kernel
theorem dX6_odds_102 : decode cX6_odds 102 = .ok (.ldiv, 1) := by decide +kernel
theorem dX6_odds_103 : decode cX6_odds 103 = .ok (.lstore_n 3, 1) := by decide +kernel
theorem dX6_odds_104 : decode cX6_odds 104 = .ok (.lload 5, 2) := by decide +kernel
theorem dX6_odds_106 : decode cX6_odds 106 = .ok (.ldc2_w 131, 3) := by decide +kernel
theorem dX6_odds_109 : decode cX6_odds 109 = .ok (.ldiv, 1) := by decide +kernel
theorem dX6_odds_110 : decode cX6_odds 110 = .ok (.lstore 5, 2) := by decide +kernel
theorem dX6_odds_112 : decode cX6_odds 112 = .ok (.goto (-35), 3) := by decide +kernel
theorem dX6_odds_115 : decode cX6_odds 115 = .ok (.iload_n 2, 1) := by decide +kernel
theorem dX6_odds_116 : decode cX6_odds 116 = .ok (.ifCond .ne 7, 3) := by decide +kernel
theorem dX6_odds_119 : decode cX6_odds 119 = .ok (.lload_n 3, 1) := by decide +kernel
theorem dX6_odds_120 : decode cX6_odds 120 = .ok (.goto 5, 3) := by decide +kernel
theorem dX6_odds_123 : decode cX6_odds 123 = .ok (.lload 5, 2) := by decide +kernel
theorem dX6_odds_125 : decode cX6_odds 125 = .ok (.lreturn, 1) := by decide +kernel
theorem dX6_seed_0 : decode cX6_seed 0 = .ok (.aload_n 0, 1) := by decide +kernel
theorem dX6_seed_1 : decode cX6_seed 1 = .ok (.iconst 4, 1) := by decide +kernel
theorem dX6_seed_2 : decode cX6_seed 2 = .ok (.iload_n 1, 1) := by decide +kernel
theorem dX6_seed_3 : decode cX6_seed 3 = .ok (.invokevirtual 103, 3) := by decide +kernel
theorem dX6_seed_6 : decode cX6_seed 6 = .ok (.ireturn, 1) := by decide +kernel
theorem dX6_feed_0 : decode cX6_feed 0 = .ok (.iload_n 2, 1) := by decide +kernel
theorem dX6_feed_1 : decode cX6_feed 1 = .ok (.i2l, 1) := by decide +kernel
theorem dX6_feed_2 : decode cX6_feed 2 = .ok (.lconst 1, 1) := by decide +kernel
theorem dX6_feed_3 : decode cX6_feed 3 = .ok (.ldc2_w 163, 3) := by decide +kernel
theorem dX6_feed_6 : decode cX6_feed 6 = .ok (.invokestatic 42, 3) := by decide +kernel
theorem dX6_feed_9 : decode cX6_feed 9 = .ok (.ifCond .ne 10, 3) := by decide +kernel
theorem dX6_feed_12 : decode cX6_feed 12 = .ok (.aload_n 0, 1) := by decide +kernel
theorem dX6_feed_13 : decode cX6_feed 13 = .ok (.ldc 37, 2) := by decide +kernel
theorem dX6_feed_15 : decode cX6_feed 15 = .ok (.invokevirtual 47, 3) := by decide +kernel
theorem dX6_feed_18 : decode cX6_feed 18 = .ok (.ireturn, 1) := by decide +kernel
theorem dX6_feed_19 : decode cX6_feed 19 = .ok (.aload_n 0, 1) := by decide +kernel
theorem dX6_feed_20 : decode cX6_feed 20 = .ok (.getfield 165, 3) := by decide +kernel
theorem dX6_feed_23 : decode cX6_feed 23 = .ok (.iload_n 2, 1) := by decide +kernel
theorem dX6_feed_24 : decode cX6_feed 24 = .ok (.iadd, 1) := by decide +kernel
theorem dX6_feed_25 : decode cX6_feed 25 = .ok (.bipush 120, 2) := by decide +kernel
theorem dX6_feed_27 : decode cX6_feed 27 = .ok (.if_icmp .le 10, 3) := by decide +kernel
theorem dX6_feed_30 : decode cX6_feed 30 = .ok (.aload_n 0, 1) := by decide +kernel
theorem dX6_feed_31 : decode cX6_feed 31 = .ok (.ldc 80, 2) := by decide +kernel
theorem dX6_feed_33 : decode cX6_feed 33 = .ok (.invokevirtual 47, 3) := by decide +kernel
theorem dX6_feed_36 : decode cX6_feed 36 = .ok (.ireturn, 1) := by decide +kernel
theorem dX6_feed_37 : decode cX6_feed 37 = .ok (.iload_n 2, 1) := by decide +kernel
theorem dX6_feed_38 : decode cX6_feed 38 = .ok (.iconst 1, 1) := by decide +kernel
theorem dX6_feed_39 : decode cX6_feed 39 = .ok (.isub, 1) := by decide +kernel
theorem dX6_feed_40 : decode cX6_feed 40 = .ok (.istore_n 3, 1) := by decide +kernel
theorem dX6_feed_41 : decode cX6_feed 41 = .ok (.iload_n 3, 1) := by decide +kernel
theorem dX6_feed_42 : decode cX6_feed 42 = .ok (.ifCond .lt 38, 3) := by decide +kernel
theorem dX6_feed_45 : decode cX6_feed 45 = .ok (.aload_n 0, 1) := by decide +kernel
theorem dX6_feed_46 : decode cX6_feed 46 = .ok (.getfield 22, 3) := by decide +kernel
theorem dX6_feed_49 : decode cX6_feed 49 = .ok (.aload_n 0, 1) := by decide +kernel
theorem dX6_feed_50 : decode cX6_feed 50 = .ok (.getfield 165, 3) := by decide +kernel
theorem dX6_feed_53 : decode cX6_feed 53 = .ok (.iload_n 1, 1) := by decide +kernel
theorem dX6_feed_54 : decode cX6_feed 54 = .ok (.bipush 8, 2) := by decide +kernel
theorem dX6_feed_56 : decode cX6_feed 56 = .ok (.iload_n 3, 1) := by decide +kernel
theorem dX6_feed_57 : decode cX6_feed 57 = .ok (.imul, 1) := by decide +kernel
theorem dX6_feed_58 : decode cX6_feed 58 = .ok (.ishr, 1) := by decide +kernel
theorem dX6_feed_59 : decode cX6_feed 59 = .ok (.sipush 255, 3) := by decide +kernel
theorem dX6_feed_62 : decode cX6_feed 62 = .ok (.iand, 1) := by decide +kernel
theorem dX6_feed_63 : decode cX6_feed 63 = .ok (.iastore, 1) := by decide +kernel
theorem dX6_feed_64 : decode cX6_feed 64 = .ok (.aload_n 0, 1) := by decide +kernel
theorem dX6_feed_65 : decode cX6_feed 65 = .ok (.dup, 1) := by decide +kernel
theorem dX6_feed_66 : decode cX6_feed 66 = .ok (.getfield 165, 3) := by decide +kernel
theorem dX6_feed_69 : decode cX6_feed 69 = .ok (.iconst 1, 1) := by decide +kernel
theorem dX6_feed_70 : decode cX6_feed 70 = .ok (.iadd, 1) := by decide +kernel
theorem dX6_feed_71 : decode cX6_feed 71 = .ok (.putfield 165, 3) := by decide +kernel
theorem dX6_feed_74 : decode cX6_feed 74 = .ok (.iinc 3 (-1), 3) := by decide +kernel
theorem dX6_feed_77 : decode cX6_feed 77 = .ok (.goto (-36), 3) := by decide +kernel
theorem dX6_feed_80 : decode cX6_feed 80 = .ok (.aload_n 0, 1) := by decide +kernel
theorem dX6_feed_81 : decode cX6_feed 81 = .ok (.getfield 165, 3) := by decide +kernel
theorem dX6_feed_84 : decode cX6_feed 84 = .ok (.ireturn, 1) := by decide +kernel
theorem dX6_wipe_0 : decode cX6_wipe 0 = .ok (.aload_n 0, 1) := by decide +kernel
theorem dX6_wipe_1 : decode cX6_wipe 1 = .ok (.getfield 165, 3) := by decide +kernel
theorem dX6_wipe_4 : decode cX6_wipe 4 = .ok (.istore_n 1, 1) := by decide +kernel
theorem dX6_wipe_5 : decode cX6_wipe 5 = .ok (.aload_n 0, 1) := by decide +kernel
theorem dX6_wipe_6 : decode cX6_wipe 6 = .ok (.iconst 0, 1) := by decide +kernel
theorem dX6_wipe_7 : decode cX6_wipe 7 = .ok (.putfield 165, 3) := by decide +kernel
theorem dX6_wipe_10 : decode cX6_wipe 10 = .ok (.iload_n 1, 1) := by decide +kernel
theorem dX6_wipe_11 : decode cX6_wipe 11 = .ok (.ireturn, 1) := by decide +kernel
theorem dX6_isAlpha_0 : decode cX6_isAlpha 0 = .ok (.iload_n 0, 1) := by decide +kernel
theorem dX6_isAlpha_1 : decode cX6_isAlpha 1 = .ok (.bipush 97, 2) := by decide +kernel
theorem dX6_isAlpha_3 : decode cX6_isAlpha 3 = .ok (.if_icmp .lt 13, 3) := by decide +kernel
theorem dX6_isAlpha_6 : decode cX6_isAlpha 6 = .ok (.iload_n 0, 1) := by decide +kernel
theorem dX6_isAlpha_7 : decode cX6_isAlpha 7 = .ok (.bipush 122, 2) := by decide +kernel
theorem dX6_isAlpha_9 : decode cX6_isAlpha 9 = .ok (.if_icmp .gt 7, 3) := by decide +kernel
theorem dX6_isAlpha_12 : decode cX6_isAlpha 12 = .ok (.iconst 1, 1) := by decide +kernel
theorem dX6_isAlpha_13 : decode cX6_isAlpha 13 = .ok (.goto 4, 3) := by decide +kernel
theorem dX6_isAlpha_16 : decode cX6_isAlpha 16 = .ok (.iconst 0, 1) := by decide +kernel
theorem dX6_isAlpha_17 : decode cX6_isAlpha 17 = .ok (.ireturn, 1) := by decide +kernel
theorem dX6_isDigit_0 : decode cX6_isDigit 0 = .ok (.iload_n 0, 1) := by decide +kernel
theorem dX6_isDigit_1 : decode cX6_isDigit 1 = .ok (.bipush 48, 2) := by decide +kernel
theorem dX6_isDigit_3 : decode cX6_isDigit 3 = .ok (.if_icmp .lt 13, 3) := by decide +kernel
theorem dX6_isDigit_6 : decode cX6_isDigit 6 = .ok (.iload_n 0, 1) := by decide +kernel
theorem dX6_isDigit_7 : decode cX6_isDigit 7 = .ok (.bipush 57, 2) := by decide +kernel
theorem dX6_isDigit_9 : decode cX6_isDigit 9 = .ok (.if_icmp .gt 7, 3) := by decide +kernel
theorem dX6_isDigit_12 : decode cX6_isDigit 12 = .ok (.iconst 1, 1) := by decide +kernel
theorem dX6_isDigit_13 : decode cX6_isDigit 13 = .ok (.goto 4, 3) := by decide +kernel
theorem dX6_isDigit_16 : decode cX6_isDigit 16 = .ok (.iconst 0, 1) := by decide +kernel
theorem dX6_isDigit_17 : decode cX6_isDigit 17 = .ok (.ireturn, 1) := by decide +kernel
theorem dX6_byteAt_0 : decode cX6_byteAt 0 = .ok (.iload_n 1, 1) := by decide +kernel
theorem dX6_byteAt_1 : decode cX6_byteAt 1 = .ok (.aload_n 0, 1) := by decide +kernel
theorem dX6_byteAt_2 : decode cX6_byteAt 2 = .ok (.getfield 165, 3) := by decide +kernel
theorem dX6_byteAt_5 : decode cX6_byteAt 5 = .ok (.if_icmp .ge 12, 3) := by decide +kernel
theorem dX6_byteAt_8 : decode cX6_byteAt 8 = .ok (.aload_n 0, 1) := by decide +kernel
theorem dX6_byteAt_9 : decode cX6_byteAt 9 = .ok (.getfield 22, 3) := by decide +kernel
theorem dX6_byteAt_12 : decode cX6_byteAt 12 = .ok (.iload_n 1, 1) := by decide +kernel
theorem dX6_byteAt_13 : decode cX6_byteAt 13 = .ok (.iaload, 1) := by decide +kernel
theorem dX6_byteAt_14 : decode cX6_byteAt 14 = .ok (.goto 4, 3) := by decide +kernel
theorem dX6_byteAt_17 : decode cX6_byteAt 17 = .ok (.iconst (-1), 1) := by decide +kernel
theorem dX6_byteAt_18 : decode cX6_byteAt 18 = .ok (.ireturn, 1) := by decide +kernel
theorem dX6_nextToken_0 : decode cX6_nextToken 0 = .ok (.aload_n 0, 1) := by decide +kernel
theorem dX6_nextToken_1 : decode cX6_nextToken 1 = .ok (.aload_n 0, 1) := by decide +kernel
theorem dX6_nextToken_2 : decode cX6_nextToken 2 = .ok (.getfield 168, 3) := by decide +kernel
theorem dX6_nextToken_5 : decode cX6_nextToken 5 = .ok (.putfield 171, 3) := by decide +kernel
theorem dX6_nextToken_8 : decode cX6_nextToken 8 = .ok (.aload_n 0, 1) := by decide +kernel
theorem dX6_nextToken_9 : decode cX6_nextToken 9 = .ok (.aload_n 0, 1) := by decide +kernel
theorem dX6_nextToken_10 : decode cX6_nextToken 10 = .ok (.getfield 171, 3) := by decide +kernel
theorem dX6_nextToken_13 : decode cX6_nextToken 13 = .ok (.invokevirtual 174, 3) := by decide +kernel
theorem dX6_nextToken_16 : decode cX6_nextToken 16 = .ok (.bipush 32, 2) := by decide +kernel
theorem dX6_nextToken_18 : decode cX6_nextToken 18 = .ok (.if_icmp .ne 16, 3) := by decide +kernel
theorem dX6_nextToken_21 : decode cX6_nextToken 21 = .ok (.aload_n 0, 1) := by decide +kernel
theorem dX6_nextToken_22 : decode cX6_nextToken 22 = .ok (.dup, 1) := by decide +kernel
theorem dX6_nextToken_23 : decode cX6_nextToken 23 = .ok (.getfield 171, 3) := by decide +kernel
theorem dX6_nextToken_26 : decode cX6_nextToken 26 = .ok (.iconst 1, 1) := by decide +kernel
theorem dX6_nextToken_27 : decode cX6_nextToken 27 = .ok (.iadd, 1) := by decide +kernel
theorem dX6_nextToken_28 : decode cX6_nextToken 28 = .ok (.putfield 171, 3) := by decide +kernel
theorem dX6_nextToken_31 : decode cX6_nextToken 31 = .ok (.goto (-23), 3) := by decide +kernel
theorem dX6_nextToken_34 : decode cX6_nextToken 34 = .ok (.aload_n 0, 1) := by decide +kernel
theorem dX6_nextToken_35 : decode cX6_nextToken 35 = .ok (.aload_n 0, 1) := by decide +kernel
theorem dX6_nextToken_36 : decode cX6_nextToken 36 = .ok (.getfield 171, 3) := by decide +kernel
theorem dX6_nextToken_39 : decode cX6_nextToken 39 = .ok (.putfield 168, 3) := by decide +kernel
theorem dX6_nextToken_42 : decode cX6_nextToken 42 = .ok (.aload_n 0, 1) := by decide +kernel
theorem dX6_nextToken_43 : decode cX6_nextToken 43 = .ok (.aload_n 0, 1) := by decide +kernel
theorem dX6_nextToken_44 : decode cX6_nextToken 44 = .ok (.getfield 171, 3) := by decide +kernel
theorem dX6_nextToken_47 : decode cX6_nextToken 47 = .ok (.invokevirtual 174, 3) := by decide +kernel
theorem dX6_nextToken_50 : decode cX6_nextToken 50 = .ok (.istore_n 1, 1) := by decide +kernel
theorem dX6_nextToken_51 : decode cX6_nextToken 51 = .ok (.aload_n 0, 1) := by decide +kernel
theorem dX6_nextToken_52 : decode cX6_nextToken 52 = .ok (.iload_n 1, 1) := by decide +kernel
theorem dX6_nextToken_53 : decode cX6_nextToken 53 = .ok (.ifCond .ge 7, 3) := by decide +kernel
theorem dX6_nextToken_56 : decode cX6_nextToken 56 = .ok (.iconst 0, 1) := by decide +kernel
theorem dX6_nextToken_57 : decode cX6_nextToken 57 = .ok (.goto 46, 3) := by decide +kernel
theorem dX6_nextToken_60 : decode cX6_nextToken 60 = .ok (.iload_n 1, 1) := by decide +kernel
theorem dX6_nextToken_61 : decode cX6_nextToken 61 = .ok (.invokestatic 177, 3) := by decide +kernel
theorem dX6_nextToken_64 : decode cX6_nextToken 64 = .ok (.ifCond .eq 7, 3) := by decide +kernel
theorem dX6_nextToken_67 : decode cX6_nextToken 67 = .ok (.iconst 1, 1) := by decide +kernel
theorem dX6_nextToken_68 : decode cX6_nextToken 68 = .ok (.goto 35, 3) := by decide +kernel
theorem dX6_nextToken_71 : decode cX6_nextToken 71 = .ok (.iload_n 1, 1) := by decide +kernel
theorem dX6_nextToken_72 : decode cX6_nextToken 72 = .ok (.invokestatic 180, 3) := by decide +kernel
theorem dX6_nextToken_75 : decode cX6_nextToken 75 = .ok (.ifCond .eq 7, 3) := by decide +kernel
theorem dX6_nextToken_78 : decode cX6_nextToken 78 = .ok (.iconst 2, 1) := by decide +kernel
theorem dX6_nextToken_79 : decode cX6_nextToken 79 = .ok (.goto 24, 3) := by decide +kernel
theorem dX6_nextToken_82 : decode cX6_nextToken 82 = .ok (.iload_n 1, 1) := by decide +kernel
theorem dX6_nextToken_83 : decode cX6_nextToken 83 = .ok (.bipush 59, 2) := by decide +kernel
theorem dX6_nextToken_85 : decode cX6_nextToken 85 = .ok (.if_icmp .ne 7, 3) := by decide +kernel
theorem dX6_nextToken_88 : decode cX6_nextToken 88 = .ok (.iconst 3, 1) := by decide +kernel
theorem dX6_nextToken_89 : decode cX6_nextToken 89 = .ok (.goto 14, 3) := by decide +kernel
theorem dX6_nextToken_92 : decode cX6_nextToken 92 = .ok (.iload_n 1, 1) := by decide +kernel
theorem dX6_nextToken_93 : decode cX6_nextToken 93 = .ok (.bipush 45, 2) := by decide +kernel
theorem dX6_nextToken_95 : decode cX6_nextToken 95 = .ok (.if_icmp .ne 7, 3) := by decide +kernel
theorem dX6_nextToken_98 : decode cX6_nextToken 98 = .ok (.iconst 5, 1) := by decide +kernel
theorem dX6_nextToken_99 : decode cX6_nextToken 99 = .ok (.goto 4, 3) := by decide +kernel
theorem dX6_nextToken_102 : decode cX6_nextToken 102 = .ok (.iconst 4, 1) := by decide +kernel
theorem dX6_nextToken_103 : decode cX6_nextToken 103 = .ok (.putfield 183, 3) := by decide +kernel
theorem dX6_nextToken_106 : decode cX6_nextToken 106 = .ok (.aload_n 0, 1) := by decide +kernel
theorem dX6_nextToken_107 : decode cX6_nextToken 107 = .ok (.iconst 0, 1) := by decide +kernel
theorem dX6_nextToken_108 : decode cX6_nextToken 108 = .ok (.putfield 186, 3) := by decide +kernel
theorem dX6_nextToken_111 : decode cX6_nextToken 111 = .ok (.aload_n 0, 1) := by decide +kernel
theorem dX6_nextToken_112 : decode cX6_nextToken 112 = .ok (.getfield 183, 3) := by decide +kernel
theorem dX6_nextToken_115 : decode cX6_nextToken 115 = .ok (.iconst 1, 1) := by decide +kernel
theorem dX6_nextToken_116 : decode cX6_nextToken 116 = .ok (.if_icmp .ne 30, 3) := by decide +kernel
theorem dX6_nextToken_119 : decode cX6_nextToken 119 = .ok (.aload_n 0, 1) := by decide +kernel
theorem dX6_nextToken_120 : decode cX6_nextToken 120 = .ok (.aload_n 0, 1) := by decide +kernel
theorem dX6_nextToken_121 : decode cX6_nextToken 121 = .ok (.getfield 168, 3) := by decide +kernel
theorem dX6_nextToken_124 : decode cX6_nextToken 124 = .ok (.invokevirtual 174, 3) := by decide +kernel
theorem dX6_nextToken_127 : decode cX6_nextToken 127 = .ok (.invokestatic 177, 3) := by decide +kernel
theorem dX6_nextToken_130 : decode cX6_nextToken 130 = .ok (.ifCond .eq 16, 3) := by decide +kernel
theorem dX6_nextToken_133 : decode cX6_nextToken 133 = .ok (.aload_n 0, 1) := by decide +kernel
theorem dX6_nextToken_134 : decode cX6_nextToken 134 = .ok (.dup, 1) := by decide +kernel
theorem dX6_nextToken_135 : decode cX6_nextToken 135 = .ok (.getfield 168, 3) := by decide +kernel
theorem dX6_nextToken_138 : decode cX6_nextToken 138 = .ok (.iconst 1, 1) := by decide +kernel
theorem dX6_nextToken_139 : decode cX6_nextToken 139 = .ok (.iadd, 1) := by decide +kernel
theorem dX6_nextToken_140 : decode cX6_nextToken 140 = .ok (.putfield 168, 3) := by decide +kernel
theorem dX6_nextToken_143 : decode cX6_nextToken 143 = .ok (.goto (-32), 3) := by decide +kernel
theorem dX6_nextToken_146 : decode cX6_nextToken 146 = .ok (.aload_n 0, 1) := by decide +kernel
theorem dX6_nextToken_147 : decode cX6_nextToken 147 = .ok (.getfield 183, 3) := by decide +kernel
theorem dX6_nextToken_150 : decode cX6_nextToken 150 = .ok (.iconst 2, 1) := by decide +kernel
theorem dX6_nextToken_151 : decode cX6_nextToken 151 = .ok (.if_icmp .ne 70, 3) := by decide +kernel
theorem dX6_nextToken_154 : decode cX6_nextToken 154 = .ok (.aload_n 0, 1) := by decide +kernel
theorem dX6_nextToken_155 : decode cX6_nextToken 155 = .ok (.aload_n 0, 1) := by decide +kernel
theorem dX6_nextToken_156 : decode cX6_nextToken 156 = .ok (.getfield 168, 3) := by decide +kernel
theorem dX6_nextToken_159 : decode cX6_nextToken 159 = .ok (.invokevirtual 174, 3) := by decide +kernel
theorem dX6_nextToken_162 : decode cX6_nextToken 162 = .ok (.invokestatic 180, 3) := by decide +kernel
theorem dX6_nextToken_165 : decode cX6_nextToken 165 = .ok (.ifCond .eq 56, 3) := by decide +kernel
theorem dX6_nextToken_168 : decode cX6_nextToken 168 = .ok (.aload_n 0, 1) := by decide +kernel
theorem dX6_nextToken_169 : decode cX6_nextToken 169 = .ok (.aload_n 0, 1) := by decide +kernel
theorem dX6_nextToken_170 : decode cX6_nextToken 170 = .ok (.getfield 186, 3) := by decide +kernel
theorem dX6_nextToken_173 : decode cX6_nextToken 173 = .ok (.sipush 999, 3) := by decide +kernel
theorem dX6_nextToken_176 : decode cX6_nextToken 176 = .ok (.if_icmp .le 10, 3) := by decide +kernel
theorem dX6_nextToken_179 : decode cX6_nextToken 179 = .ok (.aload_n 0, 1) := by decide +kernel
theorem dX6_nextToken_180 : decode cX6_nextToken 180 = .ok (.getfield 186, 3) := by decide +kernel
theorem dX6_nextToken_183 : decode cX6_nextToken 183 = .ok (.goto 22, 3) := by decide +kernel
theorem dX6_nextToken_186 : decode cX6_nextToken 186 = .ok (.bipush 10, 2) := by decide +kernel
theorem dX6_nextToken_188 : decode cX6_nextToken 188 = .ok (.aload_n 0, 1) := by decide +kernel
theorem dX6_nextToken_189 : decode cX6_nextToken 189 = .ok (.getfield 186, 3) := by decide +kernel
theorem dX6_nextToken_192 : decode cX6_nextToken 192 = .ok (.imul, 1) := by decide +kernel
theorem dX6_nextToken_193 : decode cX6_nextToken 193 = .ok (.aload_n 0, 1) := by decide +kernel
theorem dX6_nextToken_194 : decode cX6_nextToken 194 = .ok (.aload_n 0, 1) := by decide +kernel
theorem dX6_nextToken_195 : decode cX6_nextToken 195 = .ok (.getfield 168, 3) := by decide +kernel
theorem dX6_nextToken_198 : decode cX6_nextToken 198 = .ok (.invokevirtual 174, 3) := by decide +kernel
theorem dX6_nextToken_201 : decode cX6_nextToken 201 = .ok (.iadd, 1) := by decide +kernel
theorem dX6_nextToken_202 : decode cX6_nextToken 202 = .ok (.bipush 48, 2) := by decide +kernel
theorem dX6_nextToken_204 : decode cX6_nextToken 204 = .ok (.isub, 1) := by decide +kernel
theorem dX6_nextToken_205 : decode cX6_nextToken 205 = .ok (.putfield 186, 3) := by decide +kernel
theorem dX6_nextToken_208 : decode cX6_nextToken 208 = .ok (.aload_n 0, 1) := by decide +kernel
theorem dX6_nextToken_209 : decode cX6_nextToken 209 = .ok (.dup, 1) := by decide +kernel
theorem dX6_nextToken_210 : decode cX6_nextToken 210 = .ok (.getfield 168, 3) := by decide +kernel
theorem dX6_nextToken_213 : decode cX6_nextToken 213 = .ok (.iconst 1, 1) := by decide +kernel
theorem dX6_nextToken_214 : decode cX6_nextToken 214 = .ok (.iadd, 1) := by decide +kernel
theorem dX6_nextToken_215 : decode cX6_nextToken 215 = .ok (.putfield 168, 3) := by decide +kernel
theorem dX6_nextToken_218 : decode cX6_nextToken 218 = .ok (.goto (-72), 3) := by decide +kernel
theorem dX6_nextToken_221 : decode cX6_nextToken 221 = .ok (.aload_n 0, 1) := by decide +kernel
theorem dX6_nextToken_222 : decode cX6_nextToken 222 = .ok (.dup, 1) := by decide +kernel
theorem dX6_nextToken_223 : decode cX6_nextToken 223 = .ok (.getfield 168, 3) := by decide +kernel
theorem dX6_nextToken_226 : decode cX6_nextToken 226 = .ok (.aload_n 0, 1) := by decide +kernel
theorem dX6_nextToken_227 : decode cX6_nextToken 227 = .ok (.getfield 183, 3) := by decide +kernel
theorem dX6_nextToken_230 : decode cX6_nextToken 230 = .ok (.iconst 2, 1) := by decide +kernel
theorem dX6_nextToken_231 : decode cX6_nextToken 231 = .ok (.if_icmp .le 7, 3) := by decide +kernel
theorem dX6_nextToken_234 : decode cX6_nextToken 234 = .ok (.iconst 1, 1) := by decide +kernel
theorem dX6_nextToken_235 : decode cX6_nextToken 235 = .ok (.goto 4, 3) := by decide +kernel
theorem dX6_nextToken_238 : decode cX6_nextToken 238 = .ok (.iconst 0, 1) := by decide +kernel
theorem dX6_nextToken_239 : decode cX6_nextToken 239 = .ok (.iadd, 1) := by decide +kernel
theorem dX6_nextToken_240 : decode cX6_nextToken 240 = .ok (.putfield 168, 3) := by decide +kernel
theorem dX6_nextToken_243 : decode cX6_nextToken 243 = .ok (.return_, 1) := by decide +kernel
theorem dX6_has3_0 : decode cX6_has3 0 = .ok (.aload_n 0, 1) := by decide +kernel
theorem dX6_has3_1 : decode cX6_has3 1 = .ok (.aload_n 0, 1) := by decide +kernel
theorem dX6_has3_2 : decode cX6_has3 2 = .ok (.getfield 171, 3) := by decide +kernel
theorem dX6_has3_5 : decode cX6_has3 5 = .ok (.iload_n 1, 1) := by decide +kernel
theorem dX6_has3_6 : decode cX6_has3 6 = .ok (.iadd, 1) := by decide +kernel
theorem dX6_has3_7 : decode cX6_has3 7 = .ok (.invokevirtual 174, 3) := by decide +kernel
theorem dX6_has3_10 : decode cX6_has3 10 = .ok (.iload_n 2, 1) := by decide +kernel
theorem dX6_has3_11 : decode cX6_has3 11 = .ok (.if_icmp .ne 40, 3) := by decide +kernel
theorem dX6_has3_14 : decode cX6_has3 14 = .ok (.aload_n 0, 1) := by decide +kernel
theorem dX6_has3_15 : decode cX6_has3 15 = .ok (.aload_n 0, 1) := by decide +kernel
theorem dX6_has3_16 : decode cX6_has3 16 = .ok (.getfield 171, 3) := by decide +kernel
theorem dX6_has3_19 : decode cX6_has3 19 = .ok (.iload_n 1, 1) := by decide +kernel
theorem dX6_has3_20 : decode cX6_has3 20 = .ok (.iadd, 1) := by decide +kernel
theorem dX6_has3_21 : decode cX6_has3 21 = .ok (.iconst 1, 1) := by decide +kernel
theorem dX6_has3_22 : decode cX6_has3 22 = .ok (.iadd, 1) := by decide +kernel
theorem dX6_has3_23 : decode cX6_has3 23 = .ok (.invokevirtual 174, 3) := by decide +kernel
theorem dX6_has3_26 : decode cX6_has3 26 = .ok (.iload_n 3, 1) := by decide +kernel
theorem dX6_has3_27 : decode cX6_has3 27 = .ok (.if_icmp .ne 24, 3) := by decide +kernel
theorem dX6_has3_30 : decode cX6_has3 30 = .ok (.aload_n 0, 1) := by decide +kernel
theorem dX6_has3_31 : decode cX6_has3 31 = .ok (.aload_n 0, 1) := by decide +kernel
theorem dX6_has3_32 : decode cX6_has3 32 = .ok (.getfield 171, 3) := by decide +kernel
theorem dX6_has3_35 : decode cX6_has3 35 = .ok (.iload_n 1, 1) := by decide +kernel
theorem dX6_has3_36 : decode cX6_has3 36 = .ok (.iadd, 1) := by decide +kernel
theorem dX6_has3_37 : decode cX6_has3 37 = .ok (.iconst 2, 1) := by decide +kernel
theorem dX6_has3_38 : decode cX6_has3 38 = .ok (.iadd, 1) := by decide +kernel
theorem dX6_has3_39 : decode cX6_has3 39 = .ok (.invokevirtual 174, 3) := by decide +kernel
theorem dX6_has3_42 : decode cX6_has3 42 = .ok (.iload 4, 2) := by decide +kernel
theorem dX6_has3_44 : decode cX6_has3 44 = .ok (.if_icmp .ne 7, 3) := by decide +kernel
theorem dX6_has3_47 : decode cX6_has3 47 = .ok (.iconst 1, 1) := by decide +kernel
theorem dX6_has3_48 : decode cX6_has3 48 = .ok (.goto 4, 3) := by decide +kernel
theorem dX6_has3_51 : decode cX6_has3 51 = .ok (.iconst 0, 1) := by decide +kernel
theorem dX6_has3_52 : decode cX6_has3 52 = .ok (.ireturn, 1) := by decide +kernel
theorem dX6_isWord_0 : decode cX6_isWord 0 = .ok (.aload_n 0, 1) := by decide +kernel
theorem dX6_isWord_1 : decode cX6_isWord 1 = .ok (.getfield 183, 3) := by decide +kernel
theorem dX6_isWord_4 : decode cX6_isWord 4 = .ok (.iconst 1, 1) := by decide +kernel
theorem dX6_isWord_5 : decode cX6_isWord 5 = .ok (.if_icmp .ne 20, 3) := by decide +kernel
theorem dX6_isWord_8 : decode cX6_isWord 8 = .ok (.aload_n 0, 1) := by decide +kernel
theorem dX6_isWord_9 : decode cX6_isWord 9 = .ok (.getfield 168, 3) := by decide +kernel
theorem dX6_isWord_12 : decode cX6_isWord 12 = .ok (.aload_n 0, 1) := by decide +kernel
theorem dX6_isWord_13 : decode cX6_isWord 13 = .ok (.getfield 171, 3) := by decide +kernel
theorem dX6_isWord_16 : decode cX6_isWord 16 = .ok (.isub, 1) := by decide +kernel
theorem dX6_isWord_17 : decode cX6_isWord 17 = .ok (.iload_n 1, 1) := by decide +kernel
theorem dX6_isWord_18 : decode cX6_isWord 18 = .ok (.if_icmp .ne 7, 3) := by decide +kernel
theorem dX6_isWord_21 : decode cX6_isWord 21 = .ok (.iconst 1, 1) := by decide +kernel
theorem dX6_isWord_22 : decode cX6_isWord 22 = .ok (.goto 4, 3) := by decide +kernel
theorem dX6_isWord_25 : decode cX6_isWord 25 = .ok (.iconst 0, 1) := by decide +kernel
theorem dX6_isWord_26 : decode cX6_isWord 26 = .ok (.ireturn, 1) := by decide +kernel
theorem dX6_fails_0 : decode cX6_fails 0 = .ok (.aload_n 0, 1) := by decide +kernel
theorem dX6_fails_1 : decode cX6_fails 1 = .ok (.aload_n 0, 1) := by decide +kernel
theorem dX6_fails_2 : decode cX6_fails 2 = .ok (.getfield 171, 3) := by decide +kernel
theorem dX6_fails_5 : decode cX6_fails 5 = .ok (.putfield 189, 3) := by decide +kernel
theorem dX6_fails_8 : decode cX6_fails 8 = .ok (.iconst 0, 1) := by decide +kernel
theorem dX6_fails_9 : decode cX6_fails 9 = .ok (.ireturn, 1) := by decide +kernel
theorem dX6_isFour_0 : decode cX6_isFour 0 = .ok (.aload_n 0, 1) := by decide +kernel
theorem dX6_isFour_1 : decode cX6_isFour 1 = .ok (.iconst 4, 1) := by decide +kernel
theorem dX6_isFour_2 : decode cX6_isFour 2 = .ok (.invokevirtual 192, 3) := by decide +kernel
theorem dX6_isFour_5 : decode cX6_isFour 5 = .ok (.ifCond .eq 30, 3) := by decide +kernel
theorem dX6_isFour_8 : decode cX6_isFour 8 = .ok (.aload_n 0, 1) := by decide +kernel
theorem dX6_isFour_9 : decode cX6_isFour 9 = .ok (.iconst 0, 1) := by decide +kernel
theorem dX6_isFour_10 : decode cX6_isFour 10 = .ok (.iload_n 1, 1) := by decide +kernel
theorem dX6_isFour_11 : decode cX6_isFour 11 = .ok (.iload_n 2, 1) := by decide +kernel
theorem dX6_isFour_12 : decode cX6_isFour 12 = .ok (.iload_n 3, 1) := by decide +kernel
theorem dX6_isFour_13 : decode cX6_isFour 13 = .ok (.invokevirtual 195, 3) := by decide +kernel
theorem dX6_isFour_16 : decode cX6_isFour 16 = .ok (.ifCond .eq 19, 3) := by decide +kernel
theorem dX6_isFour_19 : decode cX6_isFour 19 = .ok (.aload_n 0, 1) := by decide +kernel
theorem dX6_isFour_20 : decode cX6_isFour 20 = .ok (.iconst 1, 1) := by decide +kernel
theorem dX6_isFour_21 : decode cX6_isFour 21 = .ok (.iload_n 2, 1) := by decide +kernel
theorem dX6_isFour_22 : decode cX6_isFour 22 = .ok (.iload_n 3, 1) := by decide +kernel
theorem dX6_isFour_23 : decode cX6_isFour 23 = .ok (.iload 4, 2) := by decide +kernel
theorem dX6_isFour_25 : decode cX6_isFour 25 = .ok (.invokevirtual 195, 3) := by decide +kernel
theorem dX6_isFour_28 : decode cX6_isFour 28 = .ok (.ifCond .eq 7, 3) := by decide +kernel
theorem dX6_isFour_31 : decode cX6_isFour 31 = .ok (.iconst 1, 1) := by decide +kernel
theorem dX6_isFour_32 : decode cX6_isFour 32 = .ok (.goto 4, 3) := by decide +kernel
theorem dX6_isFour_35 : decode cX6_isFour 35 = .ok (.iconst 0, 1) := by decide +kernel
theorem dX6_isFour_36 : decode cX6_isFour 36 = .ok (.ireturn, 1) := by decide +kernel
theorem dX6_isFive_0 : decode cX6_isFive 0 = .ok (.aload_n 0, 1) := by decide +kernel
theorem dX6_isFive_1 : decode cX6_isFive 1 = .ok (.iconst 5, 1) := by decide +kernel
theorem dX6_isFive_2 : decode cX6_isFive 2 = .ok (.invokevirtual 192, 3) := by decide +kernel
theorem dX6_isFive_5 : decode cX6_isFive 5 = .ok (.ifCond .eq 31, 3) := by decide +kernel
theorem dX6_isFive_8 : decode cX6_isFive 8 = .ok (.aload_n 0, 1) := by decide +kernel
theorem dX6_isFive_9 : decode cX6_isFive 9 = .ok (.iconst 0, 1) := by decide +kernel
theorem dX6_isFive_10 : decode cX6_isFive 10 = .ok (.iload_n 1, 1) := by decide +kernel
theorem dX6_isFive_11 : decode cX6_isFive 11 = .ok (.iload_n 2, 1) := by decide +kernel
theorem dX6_isFive_12 : decode cX6_isFive 12 = .ok (.iload_n 3, 1) := by decide +kernel
theorem dX6_isFive_13 : decode cX6_isFive 13 = .ok (.invokevirtual 195, 3) := by decide +kernel
theorem dX6_isFive_16 : decode cX6_isFive 16 = .ok (.ifCond .eq 20, 3) := by decide +kernel
theorem dX6_isFive_19 : decode cX6_isFive 19 = .ok (.aload_n 0, 1) := by decide +kernel
theorem dX6_isFive_20 : decode cX6_isFive 20 = .ok (.iconst 2, 1) := by decide +kernel
theorem dX6_isFive_21 : decode cX6_isFive 21 = .ok (.iload_n 3, 1) := by decide +kernel
theorem dX6_isFive_22 : decode cX6_isFive 22 = .ok (.iload 4, 2) := by decide +kernel
theorem dX6_isFive_24 : decode cX6_isFive 24 = .ok (.iload 5, 2) := by decide +kernel
theorem dX6_isFive_26 : decode cX6_isFive 26 = .ok (.invokevirtual 195, 3) := by decide +kernel
theorem dX6_isFive_29 : decode cX6_isFive 29 = .ok (.ifCond .eq 7, 3) := by decide +kernel
theorem dX6_isFive_32 : decode cX6_isFive 32 = .ok (.iconst 1, 1) := by decide +kernel
theorem dX6_isFive_33 : decode cX6_isFive 33 = .ok (.goto 4, 3) := by decide +kernel
theorem dX6_isFive_36 : decode cX6_isFive 36 = .ok (.iconst 0, 1) := by decide +kernel
theorem dX6_isFive_37 : decode cX6_isFive 37 = .ok (.ireturn, 1) := by decide +kernel
theorem dX6_isSix_0 : decode cX6_isSix 0 = .ok (.aload_n 0, 1) := by decide +kernel
theorem dX6_isSix_1 : decode cX6_isSix 1 = .ok (.bipush 6, 2) := by decide +kernel
theorem dX6_isSix_3 : decode cX6_isSix 3 = .ok (.invokevirtual 192, 3) := by decide +kernel
theorem dX6_isSix_6 : decode cX6_isSix 6 = .ok (.ifCond .eq 32, 3) := by decide +kernel
theorem dX6_isSix_9 : decode cX6_isSix 9 = .ok (.aload_n 0, 1) := by decide +kernel
theorem dX6_isSix_10 : decode cX6_isSix 10 = .ok (.iconst 0, 1) := by decide +kernel
theorem dX6_isSix_11 : decode cX6_isSix 11 = .ok (.iload_n 1, 1) := by decide +kernel
theorem dX6_isSix_12 : decode cX6_isSix 12 = .ok (.iload_n 2, 1) := by decide +kernel
theorem dX6_isSix_13 : decode cX6_isSix 13 = .ok (.iload_n 3, 1) := by decide +kernel
theorem dX6_isSix_14 : decode cX6_isSix 14 = .ok (.invokevirtual 195, 3) := by decide +kernel
theorem dX6_isSix_17 : decode cX6_isSix 17 = .ok (.ifCond .eq 21, 3) := by decide +kernel
theorem dX6_isSix_20 : decode cX6_isSix 20 = .ok (.aload_n 0, 1) := by decide +kernel
theorem dX6_isSix_21 : decode cX6_isSix 21 = .ok (.iconst 3, 1) := by decide +kernel
theorem dX6_isSix_22 : decode cX6_isSix 22 = .ok (.iload 4, 2) := by decide +kernel
theorem dX6_isSix_24 : decode cX6_isSix 24 = .ok (.iload 5, 2) := by decide +kernel
theorem dX6_isSix_26 : decode cX6_isSix 26 = .ok (.iload 6, 2) := by decide +kernel
theorem dX6_isSix_28 : decode cX6_isSix 28 = .ok (.invokevirtual 195, 3) := by decide +kernel
theorem dX6_isSix_31 : decode cX6_isSix 31 = .ok (.ifCond .eq 7, 3) := by decide +kernel
theorem dX6_isSix_34 : decode cX6_isSix 34 = .ok (.iconst 1, 1) := by decide +kernel
theorem dX6_isSix_35 : decode cX6_isSix 35 = .ok (.goto 4, 3) := by decide +kernel
theorem dX6_isSix_38 : decode cX6_isSix 38 = .ok (.iconst 0, 1) := by decide +kernel
theorem dX6_isSix_39 : decode cX6_isSix 39 = .ok (.ireturn, 1) := by decide +kernel
theorem dX6_isNumber_0 : decode cX6_isNumber 0 = .ok (.aload_n 0, 1) := by decide +kernel
theorem dX6_isNumber_1 : decode cX6_isNumber 1 = .ok (.getfield 183, 3) := by decide +kernel
theorem dX6_isNumber_4 : decode cX6_isNumber 4 = .ok (.iconst 2, 1) := by decide +kernel
theorem dX6_isNumber_5 : decode cX6_isNumber 5 = .ok (.if_icmp .ne 18, 3) := by decide +kernel
theorem dX6_isNumber_8 : decode cX6_isNumber 8 = .ok (.aload_n 0, 1) := by decide +kernel
theorem dX6_isNumber_9 : decode cX6_isNumber 9 = .ok (.getfield 186, 3) := by decide +kernel
theorem dX6_isNumber_12 : decode cX6_isNumber 12 = .ok (.i2l, 1) := by decide +kernel
theorem dX6_isNumber_13 : decode cX6_isNumber 13 = .ok (.iload_n 1, 1) := by decide +kernel
theorem dX6_isNumber_14 : decode cX6_isNumber 14 = .ok (.i2l, 1) := by decide +kernel
theorem dX6_isNumber_15 : decode cX6_isNumber 15 = .ok (.iload_n 2, 1) := by decide +kernel
theorem dX6_isNumber_16 : decode cX6_isNumber 16 = .ok (.i2l, 1) := by decide +kernel
theorem dX6_isNumber_17 : decode cX6_isNumber 17 = .ok (.invokestatic 42, 3) := by decide +kernel
theorem dX6_isNumber_20 : decode cX6_isNumber 20 = .ok (.ifCond .ne 10, 3) := by decide +kernel
theorem dX6_isNumber_23 : decode cX6_isNumber 23 = .ok (.aload_n 0, 1) := by decide +kernel
theorem dX6_isNumber_24 : decode cX6_isNumber 24 = .ok (.invokevirtual 199, 3) := by decide +kernel
theorem dX6_isNumber_27 : decode cX6_isNumber 27 = .ok (.ifCond .eq 7, 3) := by decide +kernel
theorem dX6_isNumber_30 : decode cX6_isNumber 30 = .ok (.iconst 1, 1) := by decide +kernel
theorem dX6_isNumber_31 : decode cX6_isNumber 31 = .ok (.goto 4, 3) := by decide +kernel
theorem dX6_isNumber_34 : decode cX6_isNumber 34 = .ok (.iconst 0, 1) := by decide +kernel
theorem dX6_isNumber_35 : decode cX6_isNumber 35 = .ok (.ireturn, 1) := by decide +kernel
theorem dX6_kindHere_0 : decode cX6_kindHere 0 = .ok (.aload_n 0, 1) := by decide +kernel
theorem dX6_kindHere_1 : decode cX6_kindHere 1 = .ok (.bipush 108, 2) := by decide +kernel
theorem dX6_kindHere_3 : decode cX6_kindHere 3 = .ok (.bipush 101, 2) := by decide +kernel
theorem dX6_kindHere_5 : decode cX6_kindHere 5 = .ok (.bipush 116, 2) := by decide +kernel
theorem dX6_kindHere_7 : decode cX6_kindHere 7 = .ok (.bipush 116, 2) := by decide +kernel
theorem dX6_kindHere_9 : decode cX6_kindHere 9 = .ok (.bipush 101, 2) := by decide +kernel
theorem dX6_kindHere_11 : decode cX6_kindHere 11 = .ok (.bipush 114, 2) := by decide +kernel
theorem dX6_kindHere_13 : decode cX6_kindHere 13 = .ok (.invokevirtual 202, 3) := by decide +kernel
theorem dX6_kindHere_16 : decode cX6_kindHere 16 = .ok (.ifCond .eq 5, 3) := by decide +kernel
theorem dX6_kindHere_19 : decode cX6_kindHere 19 = .ok (.iconst 0, 1) := by decide +kernel
theorem dX6_kindHere_20 : decode cX6_kindHere 20 = .ok (.ireturn, 1) := by decide +kernel
theorem dX6_kindHere_21 : decode cX6_kindHere 21 = .ok (.aload_n 0, 1) := by decide +kernel
theorem dX6_kindHere_22 : decode cX6_kindHere 22 = .ok (.bipush 104, 2) := by decide +kernel
theorem dX6_kindHere_24 : decode cX6_kindHere 24 = .ok (.bipush 97, 2) := by decide +kernel
theorem dX6_kindHere_26 : decode cX6_kindHere 26 = .ok (.bipush 115, 2) := by decide +kernel
theorem dX6_kindHere_28 : decode cX6_kindHere 28 = .ok (.bipush 116, 2) := by decide +kernel
theorem dX6_kindHere_30 : decode cX6_kindHere 30 = .ok (.bipush 121, 2) := by decide +kernel
theorem dX6_kindHere_32 : decode cX6_kindHere 32 = .ok (.invokevirtual 206, 3) := by decide +kernel
theorem dX6_kindHere_35 : decode cX6_kindHere 35 = .ok (.ifCond .eq 5, 3) := by decide +kernel
theorem dX6_kindHere_38 : decode cX6_kindHere 38 = .ok (.iconst 1, 1) := by decide +kernel
theorem dX6_kindHere_39 : decode cX6_kindHere 39 = .ok (.ireturn, 1) := by decide +kernel
theorem dX6_kindHere_40 : decode cX6_kindHere 40 = .ok (.aload_n 0, 1) := by decide +kernel
theorem dX6_kindHere_41 : decode cX6_kindHere 41 = .ok (.bipush 115, 2) := by decide +kernel
theorem dX6_kindHere_43 : decode cX6_kindHere 43 = .ok (.bipush 101, 2) := by decide +kernel
theorem dX6_kindHere_45 : decode cX6_kindHere 45 = .ok (.bipush 97, 2) := by decide +kernel
theorem dX6_kindHere_47 : decode cX6_kindHere 47 = .ok (.bipush 108, 2) := by decide +kernel
theorem dX6_kindHere_49 : decode cX6_kindHere 49 = .ok (.bipush 101, 2) := by decide +kernel
theorem dX6_kindHere_51 : decode cX6_kindHere 51 = .ok (.bipush 100, 2) := by decide +kernel
theorem dX6_kindHere_53 : decode cX6_kindHere 53 = .ok (.invokevirtual 202, 3) := by decide +kernel
theorem dX6_kindHere_56 : decode cX6_kindHere 56 = .ok (.ifCond .eq 5, 3) := by decide +kernel
theorem dX6_kindHere_59 : decode cX6_kindHere 59 = .ok (.iconst 2, 1) := by decide +kernel
theorem dX6_kindHere_60 : decode cX6_kindHere 60 = .ok (.ireturn, 1) := by decide +kernel
theorem dX6_kindHere_61 : decode cX6_kindHere 61 = .ok (.aload_n 0, 1) := by decide +kernel
theorem dX6_kindHere_62 : decode cX6_kindHere 62 = .ok (.bipush 102, 2) := by decide +kernel
theorem dX6_kindHere_64 : decode cX6_kindHere 64 = .ok (.bipush 111, 2) := by decide +kernel
theorem dX6_kindHere_66 : decode cX6_kindHere 66 = .ok (.bipush 114, 2) := by decide +kernel
theorem dX6_kindHere_68 : decode cX6_kindHere 68 = .ok (.bipush 103, 2) := by decide +kernel
theorem dX6_kindHere_70 : decode cX6_kindHere 70 = .ok (.bipush 101, 2) := by decide +kernel
theorem dX6_kindHere_72 : decode cX6_kindHere 72 = .ok (.bipush 100, 2) := by decide +kernel
theorem dX6_kindHere_74 : decode cX6_kindHere 74 = .ok (.invokevirtual 202, 3) := by decide +kernel
theorem dX6_kindHere_77 : decode cX6_kindHere 77 = .ok (.ifCond .eq 5, 3) := by decide +kernel
theorem dX6_kindHere_80 : decode cX6_kindHere 80 = .ok (.iconst 3, 1) := by decide +kernel
theorem dX6_kindHere_81 : decode cX6_kindHere 81 = .ok (.ireturn, 1) := by decide +kernel
theorem dX6_kindHere_82 : decode cX6_kindHere 82 = .ok (.aload_n 0, 1) := by decide +kernel
theorem dX6_kindHere_83 : decode cX6_kindHere 83 = .ok (.bipush 99, 2) := by decide +kernel
theorem dX6_kindHere_85 : decode cX6_kindHere 85 = .ok (.bipush 111, 2) := by decide +kernel
theorem dX6_kindHere_87 : decode cX6_kindHere 87 = .ok (.bipush 112, 2) := by decide +kernel
theorem dX6_kindHere_89 : decode cX6_kindHere 89 = .ok (.bipush 105, 2) := by decide +kernel
theorem dX6_kindHere_91 : decode cX6_kindHere 91 = .ok (.bipush 101, 2) := by decide +kernel
theorem dX6_kindHere_93 : decode cX6_kindHere 93 = .ok (.bipush 100, 2) := by decide +kernel
theorem dX6_kindHere_95 : decode cX6_kindHere 95 = .ok (.invokevirtual 202, 3) := by decide +kernel
theorem dX6_kindHere_98 : decode cX6_kindHere 98 = .ok (.ifCond .eq 5, 3) := by decide +kernel
theorem dX6_kindHere_101 : decode cX6_kindHere 101 = .ok (.iconst 4, 1) := by decide +kernel
theorem dX6_kindHere_102 : decode cX6_kindHere 102 = .ok (.ireturn, 1) := by decide +kernel
theorem dX6_kindHere_103 : decode cX6_kindHere 103 = .ok (.aload_n 0, 1) := by decide +kernel
theorem dX6_kindHere_104 : decode cX6_kindHere 104 = .ok (.bipush 99, 2) := by decide +kernel
theorem dX6_kindHere_106 : decode cX6_kindHere 106 = .ok (.bipush 97, 2) := by decide +kernel
theorem dX6_kindHere_108 : decode cX6_kindHere 108 = .ok (.bipush 114, 2) := by decide +kernel
theorem dX6_kindHere_110 : decode cX6_kindHere 110 = .ok (.bipush 100, 2) := by decide +kernel
theorem dX6_kindHere_112 : decode cX6_kindHere 112 = .ok (.invokevirtual 210, 3) := by decide +kernel
theorem dX6_kindHere_115 : decode cX6_kindHere 115 = .ok (.ifCond .eq 5, 3) := by decide +kernel
theorem dX6_kindHere_118 : decode cX6_kindHere 118 = .ok (.iconst 5, 1) := by decide +kernel
theorem dX6_kindHere_119 : decode cX6_kindHere 119 = .ok (.ireturn, 1) := by decide +kernel
theorem dX6_kindHere_120 : decode cX6_kindHere 120 = .ok (.aload_n 0, 1) := by decide +kernel
theorem dX6_kindHere_121 : decode cX6_kindHere 121 = .ok (.bipush 108, 2) := by decide +kernel
theorem dX6_kindHere_123 : decode cX6_kindHere 123 = .ok (.bipush 97, 2) := by decide +kernel
theorem dX6_kindHere_125 : decode cX6_kindHere 125 = .ok (.bipush 116, 2) := by decide +kernel
theorem dX6_kindHere_127 : decode cX6_kindHere 127 = .ok (.bipush 101, 2) := by decide +kernel
theorem dX6_kindHere_129 : decode cX6_kindHere 129 = .ok (.invokevirtual 210, 3) := by decide +kernel
theorem dX6_kindHere_132 : decode cX6_kindHere 132 = .ok (.ifCond .eq 8, 3) := by decide +kernel
theorem dX6_kindHere_135 : decode cX6_kindHere 135 = .ok (.bipush 6, 2) := by decide +kernel
theorem dX6_kindHere_137 : decode cX6_kindHere 137 = .ok (.goto 4, 3) := by decide +kernel
theorem dX6_kindHere_140 : decode cX6_kindHere 140 = .ok (.iconst (-1), 1) := by decide +kernel
theorem dX6_kindHere_141 : decode cX6_kindHere 141 = .ok (.ireturn, 1) := by decide +kernel
theorem dX6_townsHere_0 : decode cX6_townsHere 0 = .ok (.aload_n 0, 1) := by decide +kernel
theorem dX6_townsHere_1 : decode cX6_townsHere 1 = .ok (.invokevirtual 213, 3) := by decide +kernel
theorem dX6_townsHere_4 : decode cX6_townsHere 4 = .ok (.aload_n 0, 1) := by decide +kernel
theorem dX6_townsHere_5 : decode cX6_townsHere 5 = .ok (.iconst 0, 1) := by decide +kernel
theorem dX6_townsHere_6 : decode cX6_townsHere 6 = .ok (.bipush 7, 2) := by decide +kernel
theorem dX6_townsHere_8 : decode cX6_townsHere 8 = .ok (.invokevirtual 216, 3) := by decide +kernel
theorem dX6_townsHere_11 : decode cX6_townsHere 11 = .ok (.ifCond .ne 5, 3) := by decide +kernel
theorem dX6_townsHere_14 : decode cX6_townsHere 14 = .ok (.iconst 0, 1) := by decide +kernel
theorem dX6_townsHere_15 : decode cX6_townsHere 15 = .ok (.ireturn, 1) := by decide +kernel
theorem dX6_townsHere_16 : decode cX6_townsHere 16 = .ok (.aload_n 0, 1) := by decide +kernel
theorem dX6_townsHere_17 : decode cX6_townsHere 17 = .ok (.aload_n 0, 1) := by decide +kernel
theorem dX6_townsHere_18 : decode cX6_townsHere 18 = .ok (.getfield 186, 3) := by decide +kernel
theorem dX6_townsHere_21 : decode cX6_townsHere 21 = .ok (.putfield 219, 3) := by decide +kernel
theorem dX6_townsHere_24 : decode cX6_townsHere 24 = .ok (.aload_n 0, 1) := by decide +kernel
theorem dX6_townsHere_25 : decode cX6_townsHere 25 = .ok (.invokevirtual 213, 3) := by decide +kernel
theorem dX6_townsHere_28 : decode cX6_townsHere 28 = .ok (.aload_n 0, 1) := by decide +kernel
theorem dX6_townsHere_29 : decode cX6_townsHere 29 = .ok (.iconst 0, 1) := by decide +kernel
theorem dX6_townsHere_30 : decode cX6_townsHere 30 = .ok (.bipush 7, 2) := by decide +kernel
theorem dX6_townsHere_32 : decode cX6_townsHere 32 = .ok (.invokevirtual 216, 3) := by decide +kernel
theorem dX6_townsHere_35 : decode cX6_townsHere 35 = .ok (.ifCond .eq 14, 3) := by decide +kernel
theorem dX6_townsHere_38 : decode cX6_townsHere 38 = .ok (.aload_n 0, 1) := by decide +kernel
theorem dX6_townsHere_39 : decode cX6_townsHere 39 = .ok (.getfield 186, 3) := by decide +kernel
theorem dX6_townsHere_42 : decode cX6_townsHere 42 = .ok (.aload_n 0, 1) := by decide +kernel
theorem dX6_townsHere_43 : decode cX6_townsHere 43 = .ok (.getfield 219, 3) := by decide +kernel
theorem dX6_townsHere_46 : decode cX6_townsHere 46 = .ok (.if_icmp .ne 8, 3) := by decide +kernel
theorem dX6_townsHere_49 : decode cX6_townsHere 49 = .ok (.aload_n 0, 1) := by decide +kernel
theorem dX6_townsHere_50 : decode cX6_townsHere 50 = .ok (.invokevirtual 199, 3) := by decide +kernel
theorem dX6_townsHere_53 : decode cX6_townsHere 53 = .ok (.ireturn, 1) := by decide +kernel
theorem dX6_townsHere_54 : decode cX6_townsHere 54 = .ok (.aload_n 0, 1) := by decide +kernel
theorem dX6_townsHere_55 : decode cX6_townsHere 55 = .ok (.aload_n 0, 1) := by decide +kernel
theorem dX6_townsHere_56 : decode cX6_townsHere 56 = .ok (.getfield 186, 3) := by decide +kernel
theorem dX6_townsHere_59 : decode cX6_townsHere 59 = .ok (.putfield 222, 3) := by decide +kernel
theorem dX6_townsHere_62 : decode cX6_townsHere 62 = .ok (.aload_n 0, 1) := by decide +kernel
theorem dX6_townsHere_63 : decode cX6_townsHere 63 = .ok (.invokevirtual 213, 3) := by decide +kernel
theorem dX6_townsHere_66 : decode cX6_townsHere 66 = .ok (.iconst 1, 1) := by decide +kernel
theorem dX6_townsHere_67 : decode cX6_townsHere 67 = .ok (.ireturn, 1) := by decide +kernel
theorem dX6_daysHere_0 : decode cX6_daysHere 0 = .ok (.aload_n 0, 1) := by decide +kernel
theorem dX6_daysHere_1 : decode cX6_daysHere 1 = .ok (.bipush 100, 2) := by decide +kernel
theorem dX6_daysHere_3 : decode cX6_daysHere 3 = .ok (.bipush 97, 2) := by decide +kernel
theorem dX6_daysHere_5 : decode cX6_daysHere 5 = .ok (.bipush 121, 2) := by decide +kernel
theorem dX6_daysHere_7 : decode cX6_daysHere 7 = .ok (.bipush 115, 2) := by decide +kernel
theorem dX6_daysHere_9 : decode cX6_daysHere 9 = .ok (.invokevirtual 210, 3) := by decide +kernel
theorem dX6_daysHere_12 : decode cX6_daysHere 12 = .ok (.ifCond .ne 8, 3) := by decide +kernel
theorem dX6_daysHere_15 : decode cX6_daysHere 15 = .ok (.aload_n 0, 1) := by decide +kernel
theorem dX6_daysHere_16 : decode cX6_daysHere 16 = .ok (.invokevirtual 199, 3) := by decide +kernel
theorem dX6_daysHere_19 : decode cX6_daysHere 19 = .ok (.ireturn, 1) := by decide +kernel
theorem dX6_daysHere_20 : decode cX6_daysHere 20 = .ok (.aload_n 0, 1) := by decide +kernel
theorem dX6_daysHere_21 : decode cX6_daysHere 21 = .ok (.invokevirtual 213, 3) := by decide +kernel
theorem dX6_daysHere_24 : decode cX6_daysHere 24 = .ok (.aload_n 0, 1) := by decide +kernel
theorem dX6_daysHere_25 : decode cX6_daysHere 25 = .ok (.getfield 183, 3) := by decide +kernel
theorem dX6_daysHere_28 : decode cX6_daysHere 28 = .ok (.iconst 5, 1) := by decide +kernel
theorem dX6_daysHere_29 : decode cX6_daysHere 29 = .ok (.if_icmp .ne 7, 3) := by decide +kernel
theorem dX6_daysHere_32 : decode cX6_daysHere 32 = .ok (.iconst 1, 1) := by decide +kernel
theorem dX6_daysHere_33 : decode cX6_daysHere 33 = .ok (.goto 4, 3) := by decide +kernel
theorem dX6_daysHere_36 : decode cX6_daysHere 36 = .ok (.iconst 0, 1) := by decide +kernel
theorem dX6_daysHere_37 : decode cX6_daysHere 37 = .ok (.istore_n 1, 1) := by decide +kernel
theorem dX6_daysHere_38 : decode cX6_daysHere 38 = .ok (.iload_n 1, 1) := by decide +kernel
theorem dX6_daysHere_39 : decode cX6_daysHere 39 = .ok (.ifCond .eq 7, 3) := by decide +kernel
theorem dX6_daysHere_42 : decode cX6_daysHere 42 = .ok (.aload_n 0, 1) := by decide +kernel
theorem dX6_daysHere_43 : decode cX6_daysHere 43 = .ok (.invokevirtual 213, 3) := by decide +kernel
theorem dX6_daysHere_46 : decode cX6_daysHere 46 = .ok (.aload_n 0, 1) := by decide +kernel
theorem dX6_daysHere_47 : decode cX6_daysHere 47 = .ok (.iconst 0, 1) := by decide +kernel
theorem dX6_daysHere_48 : decode cX6_daysHere 48 = .ok (.bipush 99, 2) := by decide +kernel
theorem dX6_daysHere_50 : decode cX6_daysHere 50 = .ok (.invokevirtual 216, 3) := by decide +kernel
theorem dX6_daysHere_53 : decode cX6_daysHere 53 = .ok (.ifCond .ne 5, 3) := by decide +kernel
theorem dX6_daysHere_56 : decode cX6_daysHere 56 = .ok (.iconst 0, 1) := by decide +kernel
theorem dX6_daysHere_57 : decode cX6_daysHere 57 = .ok (.ireturn, 1) := by decide +kernel
theorem dX6_daysHere_58 : decode cX6_daysHere 58 = .ok (.aload_n 0, 1) := by decide +kernel
theorem dX6_daysHere_59 : decode cX6_daysHere 59 = .ok (.iload_n 1, 1) := by decide +kernel
theorem dX6_daysHere_60 : decode cX6_daysHere 60 = .ok (.ifCond .eq 11, 3) := by decide +kernel
theorem dX6_daysHere_63 : decode cX6_daysHere 63 = .ok (.aload_n 0, 1) := by decide +kernel
theorem dX6_daysHere_64 : decode cX6_daysHere 64 = .ok (.getfield 186, 3) := by decide +kernel
theorem dX6_daysHere_67 : decode cX6_daysHere 67 = .ok (.ineg, 1) := by decide +kernel
theorem dX6_daysHere_68 : decode cX6_daysHere 68 = .ok (.goto 7, 3) := by decide +kernel
theorem dX6_daysHere_71 : decode cX6_daysHere 71 = .ok (.aload_n 0, 1) := by decide +kernel
theorem dX6_daysHere_72 : decode cX6_daysHere 72 = .ok (.getfield 186, 3) := by decide +kernel
theorem dX6_daysHere_75 : decode cX6_daysHere 75 = .ok (.putfield 225, 3) := by decide +kernel
theorem dX6_daysHere_78 : decode cX6_daysHere 78 = .ok (.aload_n 0, 1) := by decide +kernel
theorem dX6_daysHere_79 : decode cX6_daysHere 79 = .ok (.invokevirtual 213, 3) := by decide +kernel
theorem dX6_daysHere_82 : decode cX6_daysHere 82 = .ok (.iconst 1, 1) := by decide +kernel
theorem dX6_daysHere_83 : decode cX6_daysHere 83 = .ok (.ireturn, 1) := by decide +kernel
theorem dX6_letterHere_0 : decode cX6_letterHere 0 = .ok (.aload_n 0, 1) := by decide +kernel
theorem dX6_letterHere_1 : decode cX6_letterHere 1 = .ok (.getfield 7, 3) := by decide +kernel
theorem dX6_letterHere_4 : decode cX6_letterHere 4 = .ok (.iconst 0, 1) := by decide +kernel
theorem dX6_letterHere_5 : decode cX6_letterHere 5 = .ok (.iaload, 1) := by decide +kernel
theorem dX6_letterHere_6 : decode cX6_letterHere 6 = .ok (.bipush 8, 2) := by decide +kernel
theorem dX6_letterHere_8 : decode cX6_letterHere 8 = .ok (.if_icmp .ne 8, 3) := by decide +kernel
theorem dX6_letterHere_11 : decode cX6_letterHere 11 = .ok (.aload_n 0, 1) := by decide +kernel
theorem dX6_letterHere_12 : decode cX6_letterHere 12 = .ok (.invokevirtual 199, 3) := by decide +kernel
theorem dX6_letterHere_15 : decode cX6_letterHere 15 = .ok (.ireturn, 1) := by decide +kernel
theorem dX6_letterHere_16 : decode cX6_letterHere 16 = .ok (.aload_n 0, 1) := by decide +kernel
theorem dX6_letterHere_17 : decode cX6_letterHere 17 = .ok (.invokevirtual 228, 3) := by decide +kernel
theorem dX6_letterHere_20 : decode cX6_letterHere 20 = .ok (.ifCond .eq 10, 3) := by decide +kernel
theorem dX6_letterHere_23 : decode cX6_letterHere 23 = .ok (.aload_n 0, 1) := by decide +kernel
theorem dX6_letterHere_24 : decode cX6_letterHere 24 = .ok (.invokevirtual 231, 3) := by decide +kernel
theorem dX6_letterHere_27 : decode cX6_letterHere 27 = .ok (.ifCond .ne 5, 3) := by decide +kernel
theorem dX6_letterHere_30 : decode cX6_letterHere 30 = .ok (.iconst 0, 1) := by decide +kernel
theorem dX6_letterHere_31 : decode cX6_letterHere 31 = .ok (.ireturn, 1) := by decide +kernel
theorem dX6_letterHere_32 : decode cX6_letterHere 32 = .ok (.aload_n 0, 1) := by decide +kernel
theorem dX6_letterHere_33 : decode cX6_letterHere 33 = .ok (.iload_n 1, 1) := by decide +kernel
theorem dX6_letterHere_34 : decode cX6_letterHere 34 = .ok (.aload_n 0, 1) := by decide +kernel
theorem dX6_letterHere_35 : decode cX6_letterHere 35 = .ok (.getfield 219, 3) := by decide +kernel
theorem dX6_letterHere_38 : decode cX6_letterHere 38 = .ok (.aload_n 0, 1) := by decide +kernel
theorem dX6_letterHere_39 : decode cX6_letterHere 39 = .ok (.getfield 222, 3) := by decide +kernel
theorem dX6_letterHere_42 : decode cX6_letterHere 42 = .ok (.aload_n 0, 1) := by decide +kernel
theorem dX6_letterHere_43 : decode cX6_letterHere 43 = .ok (.getfield 225, 3) := by decide +kernel
theorem dX6_letterHere_46 : decode cX6_letterHere 46 = .ok (.iconst 0, 1) := by decide +kernel
theorem dX6_letterHere_47 : decode cX6_letterHere 47 = .ok (.invokevirtual 81, 3) := by decide +kernel
theorem dX6_letterHere_50 : decode cX6_letterHere 50 = .ok (.iconst 5, 1) := by decide +kernel
theorem dX6_letterHere_51 : decode cX6_letterHere 51 = .ok (.bipush 6, 2) := by decide +kernel
theorem dX6_letterHere_53 : decode cX6_letterHere 53 = .ok (.aload_n 0, 1) := by decide +kernel
theorem dX6_letterHere_54 : decode cX6_letterHere 54 = .ok (.getfield 7, 3) := by decide +kernel
theorem dX6_letterHere_57 : decode cX6_letterHere 57 = .ok (.iconst 0, 1) := by decide +kernel
theorem dX6_letterHere_58 : decode cX6_letterHere 58 = .ok (.iaload, 1) := by decide +kernel
theorem dX6_letterHere_59 : decode cX6_letterHere 59 = .ok (.iconst 1, 1) := by decide +kernel
theorem dX6_letterHere_60 : decode cX6_letterHere 60 = .ok (.isub, 1) := by decide +kernel
theorem dX6_letterHere_61 : decode cX6_letterHere 61 = .ok (.imul, 1) := by decide +kernel
theorem dX6_letterHere_62 : decode cX6_letterHere 62 = .ok (.iadd, 1) := by decide +kernel
theorem dX6_letterHere_63 : decode cX6_letterHere 63 = .ok (.istore_n 2, 1) := by decide +kernel
theorem dX6_letterHere_64 : decode cX6_letterHere 64 = .ok (.aload_n 0, 1) := by decide +kernel
theorem dX6_letterHere_65 : decode cX6_letterHere 65 = .ok (.bipush 109, 2) := by decide +kernel
theorem dX6_letterHere_67 : decode cX6_letterHere 67 = .ok (.bipush 97, 2) := by decide +kernel
theorem dX6_letterHere_69 : decode cX6_letterHere 69 = .ok (.bipush 114, 2) := by decide +kernel
theorem dX6_letterHere_71 : decode cX6_letterHere 71 = .ok (.bipush 107, 2) := by decide +kernel
theorem dX6_letterHere_73 : decode cX6_letterHere 73 = .ok (.invokevirtual 210, 3) := by decide +kernel
theorem dX6_letterHere_76 : decode cX6_letterHere 76 = .ok (.ifCond .eq 36, 3) := by decide +kernel
theorem dX6_letterHere_79 : decode cX6_letterHere 79 = .ok (.aload_n 0, 1) := by decide +kernel
theorem dX6_letterHere_80 : decode cX6_letterHere 80 = .ok (.invokevirtual 213, 3) := by decide +kernel
theorem dX6_letterHere_83 : decode cX6_letterHere 83 = .ok (.aload_n 0, 1) := by decide +kernel
theorem dX6_letterHere_84 : decode cX6_letterHere 84 = .ok (.iconst 0, 1) := by decide +kernel
theorem dX6_letterHere_85 : decode cX6_letterHere 85 = .ok (.sipush 999, 3) := by decide +kernel
theorem dX6_letterHere_88 : decode cX6_letterHere 88 = .ok (.invokevirtual 216, 3) := by decide +kernel
theorem dX6_letterHere_91 : decode cX6_letterHere 91 = .ok (.ifCond .ne 5, 3) := by decide +kernel
theorem dX6_letterHere_94 : decode cX6_letterHere 94 = .ok (.iconst 0, 1) := by decide +kernel
theorem dX6_letterHere_95 : decode cX6_letterHere 95 = .ok (.ireturn, 1) := by decide +kernel
theorem dX6_letterHere_96 : decode cX6_letterHere 96 = .ok (.aload_n 0, 1) := by decide +kernel
theorem dX6_letterHere_97 : decode cX6_letterHere 97 = .ok (.getfield 7, 3) := by decide +kernel
theorem dX6_letterHere_100 : decode cX6_letterHere 100 = .ok (.iload_n 2, 1) := by decide +kernel
theorem dX6_letterHere_101 : decode cX6_letterHere 101 = .ok (.iconst 4, 1) := by decide +kernel
theorem dX6_letterHere_102 : decode cX6_letterHere 102 = .ok (.iadd, 1) := by decide +kernel
theorem dX6_letterHere_103 : decode cX6_letterHere 103 = .ok (.aload_n 0, 1) := by decide +kernel
theorem dX6_letterHere_104 : decode cX6_letterHere 104 = .ok (.getfield 186, 3) := by decide +kernel
theorem dX6_letterHere_107 : decode cX6_letterHere 107 = .ok (.iastore, 1) := by decide +kernel
theorem dX6_letterHere_108 : decode cX6_letterHere 108 = .ok (.aload_n 0, 1) := by decide +kernel
theorem dX6_letterHere_109 : decode cX6_letterHere 109 = .ok (.invokevirtual 213, 3) := by decide +kernel
theorem dX6_letterHere_112 : decode cX6_letterHere 112 = .ok (.aload_n 0, 1) := by decide +kernel
theorem dX6_letterHere_113 : decode cX6_letterHere 113 = .ok (.bipush 115, 2) := by decide +kernel
theorem dX6_letterHere_115 : decode cX6_letterHere 115 = .ok (.bipush 116, 2) := by decide +kernel
theorem dX6_letterHere_117 : decode cX6_letterHere 117 = .ok (.bipush 114, 2) := by decide +kernel
theorem dX6_letterHere_119 : decode cX6_letterHere 119 = .ok (.bipush 117, 2) := by decide +kernel
theorem dX6_letterHere_121 : decode cX6_letterHere 121 = .ok (.bipush 99, 2) := by decide +kernel
theorem dX6_letterHere_123 : decode cX6_letterHere 123 = .ok (.bipush 107, 2) := by decide +kernel
theorem dX6_letterHere_125 : decode cX6_letterHere 125 = .ok (.invokevirtual 202, 3) := by decide +kernel
theorem dX6_letterHere_128 : decode cX6_letterHere 128 = .ok (.ifCond .eq 16, 3) := by decide +kernel
theorem dX6_letterHere_131 : decode cX6_letterHere 131 = .ok (.aload_n 0, 1) := by decide +kernel
theorem dX6_letterHere_132 : decode cX6_letterHere 132 = .ok (.getfield 7, 3) := by decide +kernel
theorem dX6_letterHere_135 : decode cX6_letterHere 135 = .ok (.iload_n 2, 1) := by decide +kernel
theorem dX6_letterHere_136 : decode cX6_letterHere 136 = .ok (.iconst 5, 1) := by decide +kernel
theorem dX6_letterHere_137 : decode cX6_letterHere 137 = .ok (.iadd, 1) := by decide +kernel
theorem dX6_letterHere_138 : decode cX6_letterHere 138 = .ok (.iconst 1, 1) := by decide +kernel
theorem dX6_letterHere_139 : decode cX6_letterHere 139 = .ok (.iastore, 1) := by decide +kernel
theorem dX6_letterHere_140 : decode cX6_letterHere 140 = .ok (.aload_n 0, 1) := by decide +kernel
theorem dX6_letterHere_141 : decode cX6_letterHere 141 = .ok (.invokevirtual 213, 3) := by decide +kernel
theorem dX6_letterHere_144 : decode cX6_letterHere 144 = .ok (.iconst 1, 1) := by decide +kernel
theorem dX6_letterHere_145 : decode cX6_letterHere 145 = .ok (.ireturn, 1) := by decide +kernel
theorem dX6_lawHere_0 : decode cX6_lawHere 0 = .ok (.aload_n 0, 1) := by decide +kernel
theorem dX6_lawHere_1 : decode cX6_lawHere 1 = .ok (.invokevirtual 213, 3) := by decide +kernel
theorem dX6_lawHere_4 : decode cX6_lawHere 4 = .ok (.aload_n 0, 1) := by decide +kernel
theorem dX6_lawHere_5 : decode cX6_lawHere 5 = .ok (.iconst 0, 1) := by decide +kernel
theorem dX6_lawHere_6 : decode cX6_lawHere 6 = .ok (.bipush 9, 2) := by decide +kernel
theorem dX6_lawHere_8 : decode cX6_lawHere 8 = .ok (.invokevirtual 216, 3) := by decide +kernel
theorem dX6_lawHere_11 : decode cX6_lawHere 11 = .ok (.ifCond .ne 5, 3) := by decide +kernel
theorem dX6_lawHere_14 : decode cX6_lawHere 14 = .ok (.iconst 0, 1) := by decide +kernel
theorem dX6_lawHere_15 : decode cX6_lawHere 15 = .ok (.ireturn, 1) := by decide +kernel
theorem dX6_lawHere_16 : decode cX6_lawHere 16 = .ok (.aload_n 0, 1) := by decide +kernel
theorem dX6_lawHere_17 : decode cX6_lawHere 17 = .ok (.getfield 7, 3) := by decide +kernel
theorem dX6_lawHere_20 : decode cX6_lawHere 20 = .ok (.iconst 2, 1) := by decide +kernel
theorem dX6_lawHere_21 : decode cX6_lawHere 21 = .ok (.iload_n 1, 1) := by decide +kernel
theorem dX6_lawHere_22 : decode cX6_lawHere 22 = .ok (.iadd, 1) := by decide +kernel
theorem dX6_lawHere_23 : decode cX6_lawHere 23 = .ok (.aload_n 0, 1) := by decide +kernel
theorem dX6_lawHere_24 : decode cX6_lawHere 24 = .ok (.getfield 186, 3) := by decide +kernel
theorem dX6_lawHere_27 : decode cX6_lawHere 27 = .ok (.iastore, 1) := by decide +kernel
theorem dX6_lawHere_28 : decode cX6_lawHere 28 = .ok (.aload_n 0, 1) := by decide +kernel
theorem dX6_lawHere_29 : decode cX6_lawHere 29 = .ok (.invokevirtual 213, 3) := by decide +kernel
theorem dX6_lawHere_32 : decode cX6_lawHere 32 = .ok (.iconst 1, 1) := by decide +kernel
theorem dX6_lawHere_33 : decode cX6_lawHere 33 = .ok (.ireturn, 1) := by decide +kernel
theorem dX6_itemHere_0 : decode cX6_itemHere 0 = .ok (.aload_n 0, 1) := by decide +kernel
theorem dX6_itemHere_1 : decode cX6_itemHere 1 = .ok (.invokevirtual 234, 3) := by decide +kernel
theorem dX6_itemHere_4 : decode cX6_itemHere 4 = .ok (.istore_n 1, 1) := by decide +kernel
theorem dX6_itemHere_5 : decode cX6_itemHere 5 = .ok (.iload_n 1, 1) := by decide +kernel
theorem dX6_itemHere_6 : decode cX6_itemHere 6 = .ok (.ifCond .lt 9, 3) := by decide +kernel
theorem dX6_itemHere_9 : decode cX6_itemHere 9 = .ok (.aload_n 0, 1) := by decide +kernel
theorem dX6_itemHere_10 : decode cX6_itemHere 10 = .ok (.iload_n 1, 1) := by decide +kernel
theorem dX6_itemHere_11 : decode cX6_itemHere 11 = .ok (.invokevirtual 237, 3) := by decide +kernel
theorem dX6_itemHere_14 : decode cX6_itemHere 14 = .ok (.ireturn, 1) := by decide +kernel
theorem dX6_itemHere_15 : decode cX6_itemHere 15 = .ok (.aload_n 0, 1) := by decide +kernel
theorem dX6_itemHere_16 : decode cX6_itemHere 16 = .ok (.bipush 115, 2) := by decide +kernel
theorem dX6_itemHere_18 : decode cX6_itemHere 18 = .ok (.bipush 108, 2) := by decide +kernel
theorem dX6_itemHere_20 : decode cX6_itemHere 20 = .ok (.bipush 105, 2) := by decide +kernel
theorem dX6_itemHere_22 : decode cX6_itemHere 22 = .ok (.bipush 112, 2) := by decide +kernel
theorem dX6_itemHere_24 : decode cX6_itemHere 24 = .ok (.invokevirtual 210, 3) := by decide +kernel
theorem dX6_itemHere_27 : decode cX6_itemHere 27 = .ok (.ifCond .eq 9, 3) := by decide +kernel
theorem dX6_itemHere_30 : decode cX6_itemHere 30 = .ok (.aload_n 0, 1) := by decide +kernel
theorem dX6_itemHere_31 : decode cX6_itemHere 31 = .ok (.iconst 0, 1) := by decide +kernel
theorem dX6_itemHere_32 : decode cX6_itemHere 32 = .ok (.invokevirtual 240, 3) := by decide +kernel
theorem dX6_itemHere_35 : decode cX6_itemHere 35 = .ok (.ireturn, 1) := by decide +kernel
theorem dX6_itemHere_36 : decode cX6_itemHere 36 = .ok (.aload_n 0, 1) := by decide +kernel
theorem dX6_itemHere_37 : decode cX6_itemHere 37 = .ok (.bipush 102, 2) := by decide +kernel
theorem dX6_itemHere_39 : decode cX6_itemHere 39 = .ok (.bipush 114, 2) := by decide +kernel
theorem dX6_itemHere_41 : decode cX6_itemHere 41 = .ok (.bipush 111, 2) := by decide +kernel
theorem dX6_itemHere_43 : decode cX6_itemHere 43 = .ok (.bipush 115, 2) := by decide +kernel
theorem dX6_itemHere_45 : decode cX6_itemHere 45 = .ok (.bipush 116, 2) := by decide +kernel
theorem dX6_itemHere_47 : decode cX6_itemHere 47 = .ok (.invokevirtual 206, 3) := by decide +kernel
theorem dX6_itemHere_50 : decode cX6_itemHere 50 = .ok (.ifCond .eq 11, 3) := by decide +kernel
theorem dX6_itemHere_53 : decode cX6_itemHere 53 = .ok (.aload_n 0, 1) := by decide +kernel
theorem dX6_itemHere_54 : decode cX6_itemHere 54 = .ok (.iconst 1, 1) := by decide +kernel
theorem dX6_itemHere_55 : decode cX6_itemHere 55 = .ok (.invokevirtual 240, 3) := by decide +kernel
theorem dX6_itemHere_58 : decode cX6_itemHere 58 = .ok (.goto 7, 3) := by decide +kernel
theorem dX6_itemHere_61 : decode cX6_itemHere 61 = .ok (.aload_n 0, 1) := by decide +kernel
theorem dX6_itemHere_62 : decode cX6_itemHere 62 = .ok (.invokevirtual 199, 3) := by decide +kernel
theorem dX6_itemHere_65 : decode cX6_itemHere 65 = .ok (.ireturn, 1) := by decide +kernel
theorem dX6_text_0 : decode cX6_text 0 = .ok (.aload_n 0, 1) := by decide +kernel
theorem dX6_text_1 : decode cX6_text 1 = .ok (.getfield 7, 3) := by decide +kernel
theorem dX6_text_4 : decode cX6_text 4 = .ok (.aload_n 0, 1) := by decide +kernel
theorem dX6_text_5 : decode cX6_text 5 = .ok (.getfield 16, 3) := by decide +kernel
theorem dX6_text_8 : decode cX6_text 8 = .ok (.invokestatic 243, 3) := by decide +kernel
theorem dX6_text_11 : decode cX6_text 11 = .ok (.aload_n 0, 1) := by decide +kernel
theorem dX6_text_12 : decode cX6_text 12 = .ok (.iconst 0, 1) := by decide +kernel
theorem dX6_text_13 : decode cX6_text 13 = .ok (.putfield 168, 3) := by decide +kernel
theorem dX6_text_16 : decode cX6_text 16 = .ok (.aload_n 0, 1) := by decide +kernel
theorem dX6_text_17 : decode cX6_text 17 = .ok (.invokevirtual 213, 3) := by decide +kernel
theorem dX6_text_20 : decode cX6_text 20 = .ok (.iconst 1, 1) := by decide +kernel
theorem dX6_text_21 : decode cX6_text 21 = .ok (.istore_n 1, 1) := by decide +kernel
theorem dX6_text_22 : decode cX6_text 22 = .ok (.aload_n 0, 1) := by decide +kernel
theorem dX6_text_23 : decode cX6_text 23 = .ok (.invokevirtual 247, 3) := by decide +kernel
theorem dX6_text_26 : decode cX6_text 26 = .ok (.istore_n 2, 1) := by decide +kernel
theorem dX6_text_27 : decode cX6_text 27 = .ok (.iload_n 2, 1) := by decide +kernel
theorem dX6_text_28 : decode cX6_text 28 = .ok (.ifCond .eq 26, 3) := by decide +kernel
theorem dX6_text_31 : decode cX6_text 31 = .ok (.aload_n 0, 1) := by decide +kernel
theorem dX6_text_32 : decode cX6_text 32 = .ok (.getfield 183, 3) := by decide +kernel
theorem dX6_text_35 : decode cX6_text 35 = .ok (.iconst 3, 1) := by decide +kernel
theorem dX6_text_36 : decode cX6_text 36 = .ok (.if_icmp .ne 18, 3) := by decide +kernel
theorem dX6_text_39 : decode cX6_text 39 = .ok (.aload_n 0, 1) := by decide +kernel
theorem dX6_text_40 : decode cX6_text 40 = .ok (.invokevirtual 213, 3) := by decide +kernel
theorem dX6_text_43 : decode cX6_text 43 = .ok (.aload_n 0, 1) := by decide +kernel
theorem dX6_text_44 : decode cX6_text 44 = .ok (.invokevirtual 247, 3) := by decide +kernel
theorem dX6_text_47 : decode cX6_text 47 = .ok (.istore_n 2, 1) := by decide +kernel
theorem dX6_text_48 : decode cX6_text 48 = .ok (.iinc 1 1, 3) := by decide +kernel
theorem dX6_text_51 : decode cX6_text 51 = .ok (.goto (-24), 3) := by decide +kernel
theorem dX6_text_54 : decode cX6_text 54 = .ok (.iload_n 2, 1) := by decide +kernel
theorem dX6_text_55 : decode cX6_text 55 = .ok (.ifCond .eq 21, 3) := by decide +kernel
theorem dX6_text_58 : decode cX6_text 58 = .ok (.aload_n 0, 1) := by decide +kernel
theorem dX6_text_59 : decode cX6_text 59 = .ok (.getfield 183, 3) := by decide +kernel
theorem dX6_text_62 : decode cX6_text 62 = .ok (.ifCond .eq 10, 3) := by decide +kernel
theorem dX6_text_65 : decode cX6_text 65 = .ok (.aload_n 0, 1) := by decide +kernel
theorem dX6_text_66 : decode cX6_text 66 = .ok (.invokevirtual 199, 3) := by decide +kernel
theorem dX6_text_69 : decode cX6_text 69 = .ok (.ifCond .eq 7, 3) := by decide +kernel
theorem dX6_text_72 : decode cX6_text 72 = .ok (.iconst 1, 1) := by decide +kernel
theorem dX6_text_73 : decode cX6_text 73 = .ok (.goto 4, 3) := by decide +kernel
theorem dX6_text_76 : decode cX6_text 76 = .ok (.iconst 0, 1) := by decide +kernel
theorem dX6_text_77 : decode cX6_text 77 = .ok (.istore_n 2, 1) := by decide +kernel
theorem dX6_text_78 : decode cX6_text 78 = .ok (.aload_n 0, 1) := by decide +kernel
theorem dX6_text_79 : decode cX6_text 79 = .ok (.iconst 0, 1) := by decide +kernel
theorem dX6_text_80 : decode cX6_text 80 = .ok (.putfield 165, 3) := by decide +kernel
theorem dX6_text_83 : decode cX6_text 83 = .ok (.iload_n 2, 1) := by decide +kernel
theorem dX6_text_84 : decode cX6_text 84 = .ok (.ifCond .ne 14, 3) := by decide +kernel
theorem dX6_text_87 : decode cX6_text 87 = .ok (.aload_n 0, 1) := by decide +kernel
theorem dX6_text_88 : decode cX6_text 88 = .ok (.getfield 16, 3) := by decide +kernel
theorem dX6_text_91 : decode cX6_text 91 = .ok (.aload_n 0, 1) := by decide +kernel
theorem dX6_text_92 : decode cX6_text 92 = .ok (.getfield 7, 3) := by decide +kernel
theorem dX6_text_95 : decode cX6_text 95 = .ok (.invokestatic 243, 3) := by decide +kernel
theorem dX6_text_98 : decode cX6_text 98 = .ok (.iload_n 2, 1) := by decide +kernel
theorem dX6_text_99 : decode cX6_text 99 = .ok (.ifCond .eq 7, 3) := by decide +kernel
theorem dX6_text_102 : decode cX6_text 102 = .ok (.iload_n 1, 1) := by decide +kernel
theorem dX6_text_103 : decode cX6_text 103 = .ok (.goto 9, 3) := by decide +kernel
theorem dX6_text_106 : decode cX6_text 106 = .ok (.iconst (-1), 1) := by decide +kernel
theorem dX6_text_107 : decode cX6_text 107 = .ok (.aload_n 0, 1) := by decide +kernel
theorem dX6_text_108 : decode cX6_text 108 = .ok (.getfield 189, 3) := by decide +kernel
theorem dX6_text_111 : decode cX6_text 111 = .ok (.isub, 1) := by decide +kernel
theorem dX6_text_112 : decode cX6_text 112 = .ok (.ireturn, 1) := by decide +kernel
theorem dX6_hold_0 : decode cX6_hold 0 = .ok (.iload_n 1, 1) := by decide +kernel
theorem dX6_hold_1 : decode cX6_hold 1 = .ok (.i2l, 1) := by decide +kernel
theorem dX6_hold_2 : decode cX6_hold 2 = .ok (.lconst 0, 1) := by decide +kernel
theorem dX6_hold_3 : decode cX6_hold 3 = .ok (.ldc2_w 88, 3) := by decide +kernel
theorem dX6_hold_6 : decode cX6_hold 6 = .ok (.invokestatic 42, 3) := by decide +kernel
theorem dX6_hold_9 : decode cX6_hold 9 = .ok (.ifCond .eq 16, 3) := by decide +kernel
theorem dX6_hold_12 : decode cX6_hold 12 = .ok (.iload_n 2, 1) := by decide +kernel
theorem dX6_hold_13 : decode cX6_hold 13 = .ok (.iconst (-1), 1) := by decide +kernel
theorem dX6_hold_14 : decode cX6_hold 14 = .ok (.if_icmp .eq 18, 3) := by decide +kernel
theorem dX6_hold_17 : decode cX6_hold 17 = .ok (.aload_n 0, 1) := by decide +kernel
theorem dX6_hold_18 : decode cX6_hold 18 = .ok (.iload_n 2, 1) := by decide +kernel
theorem dX6_hold_19 : decode cX6_hold 19 = .ok (.invokevirtual 85, 3) := by decide +kernel
theorem dX6_hold_22 : decode cX6_hold 22 = .ok (.ifCond .ne 10, 3) := by decide +kernel
theorem dX6_hold_25 : decode cX6_hold 25 = .ok (.aload_n 0, 1) := by decide +kernel
theorem dX6_hold_26 : decode cX6_hold 26 = .ok (.ldc 37, 2) := by decide +kernel
theorem dX6_hold_28 : decode cX6_hold 28 = .ok (.invokevirtual 47, 3) := by decide +kernel
theorem dX6_hold_31 : decode cX6_hold 31 = .ok (.ireturn, 1) := by decide +kernel
theorem dX6_hold_32 : decode cX6_hold 32 = .ok (.aload_n 0, 1) := by decide +kernel
theorem dX6_hold_33 : decode cX6_hold 33 = .ok (.getfield 7, 3) := by decide +kernel
theorem dX6_hold_36 : decode cX6_hold 36 = .ok (.bipush 53, 2) := by decide +kernel
theorem dX6_hold_38 : decode cX6_hold 38 = .ok (.iload_n 1, 1) := by decide +kernel
theorem dX6_hold_39 : decode cX6_hold 39 = .ok (.iadd, 1) := by decide +kernel
theorem dX6_hold_40 : decode cX6_hold 40 = .ok (.iload_n 2, 1) := by decide +kernel
theorem dX6_hold_41 : decode cX6_hold 41 = .ok (.iastore, 1) := by decide +kernel
theorem dX6_hold_42 : decode cX6_hold 42 = .ok (.iconst 1, 1) := by decide +kernel
theorem dX6_hold_43 : decode cX6_hold 43 = .ok (.ireturn, 1) := by decide +kernel
theorem dX6_isUnder_0 : decode cX6_isUnder 0 = .ok (.iload_n 1, 1) := by decide +kernel
theorem dX6_isUnder_1 : decode cX6_isUnder 1 = .ok (.ifCond .eq 44, 3) := by decide +kernel
theorem dX6_isUnder_4 : decode cX6_isUnder 4 = .ok (.iload_n 0, 1) := by decide +kernel
theorem dX6_isUnder_5 : decode cX6_isUnder 5 = .ok (.iload_n 1, 1) := by decide +kernel
theorem dX6_isUnder_6 : decode cX6_isUnder 6 = .ok (.if_icmp .eq 39, 3) := by decide +kernel
theorem dX6_isUnder_9 : decode cX6_isUnder 9 = .ok (.iload_n 1, 1) := by decide +kernel
theorem dX6_isUnder_10 : decode cX6_isUnder 10 = .ok (.iconst 2, 1) := by decide +kernel
theorem dX6_isUnder_11 : decode cX6_isUnder 11 = .ok (.if_icmp .ne 13, 3) := by decide +kernel
theorem dX6_isUnder_14 : decode cX6_isUnder 14 = .ok (.iload_n 0, 1) := by decide +kernel
theorem dX6_isUnder_15 : decode cX6_isUnder 15 = .ok (.iconst 3, 1) := by decide +kernel
theorem dX6_isUnder_16 : decode cX6_isUnder 16 = .ok (.if_icmp .eq 29, 3) := by decide +kernel
theorem dX6_isUnder_19 : decode cX6_isUnder 19 = .ok (.iload_n 0, 1) := by decide +kernel
theorem dX6_isUnder_20 : decode cX6_isUnder 20 = .ok (.iconst 4, 1) := by decide +kernel
theorem dX6_isUnder_21 : decode cX6_isUnder 21 = .ok (.if_icmp .eq 24, 3) := by decide +kernel
theorem dX6_isUnder_24 : decode cX6_isUnder 24 = .ok (.iload_n 1, 1) := by decide +kernel
theorem dX6_isUnder_25 : decode cX6_isUnder 25 = .ok (.iconst 3, 1) := by decide +kernel
theorem dX6_isUnder_26 : decode cX6_isUnder 26 = .ok (.if_icmp .ne 8, 3) := by decide +kernel
theorem dX6_isUnder_29 : decode cX6_isUnder 29 = .ok (.iload_n 0, 1) := by decide +kernel
theorem dX6_isUnder_30 : decode cX6_isUnder 30 = .ok (.iconst 4, 1) := by decide +kernel
theorem dX6_isUnder_31 : decode cX6_isUnder 31 = .ok (.if_icmp .eq 14, 3) := by decide +kernel
theorem dX6_isUnder_34 : decode cX6_isUnder 34 = .ok (.iload_n 1, 1) := by decide +kernel
theorem dX6_isUnder_35 : decode cX6_isUnder 35 = .ok (.iconst 1, 1) := by decide +kernel
theorem dX6_isUnder_36 : decode cX6_isUnder 36 = .ok (.if_icmp .ne 13, 3) := by decide +kernel
theorem dX6_isUnder_39 : decode cX6_isUnder 39 = .ok (.iload_n 0, 1) := by decide +kernel
theorem dX6_isUnder_40 : decode cX6_isUnder 40 = .ok (.bipush 6, 2) := by decide +kernel
theorem dX6_isUnder_42 : decode cX6_isUnder 42 = .ok (.if_icmp .ne 7, 3) := by decide +kernel
theorem dX6_isUnder_45 : decode cX6_isUnder 45 = .ok (.iconst 1, 1) := by decide +kernel
theorem dX6_isUnder_46 : decode cX6_isUnder 46 = .ok (.goto 4, 3) := by decide +kernel
theorem dX6_isUnder_49 : decode cX6_isUnder 49 = .ok (.iconst 0, 1) := by decide +kernel
theorem dX6_isUnder_50 : decode cX6_isUnder 50 = .ok (.ireturn, 1) := by decide +kernel
theorem dX6_as_0 : decode cX6_as 0 = .ok (.iload_n 1, 1) := by decide +kernel
theorem dX6_as_1 : decode cX6_as 1 = .ok (.i2l, 1) := by decide +kernel
theorem dX6_as_2 : decode cX6_as 2 = .ok (.lconst 0, 1) := by decide +kernel
theorem dX6_as_3 : decode cX6_as 3 = .ok (.ldc2_w 88, 3) := by decide +kernel
theorem dX6_as_6 : decode cX6_as 6 = .ok (.invokestatic 42, 3) := by decide +kernel
theorem dX6_as_9 : decode cX6_as 9 = .ok (.ifCond .eq 15, 3) := by decide +kernel
theorem dX6_as_12 : decode cX6_as 12 = .ok (.iload_n 2, 1) := by decide +kernel
theorem dX6_as_13 : decode cX6_as 13 = .ok (.i2l, 1) := by decide +kernel
theorem dX6_as_14 : decode cX6_as 14 = .ok (.lconst 0, 1) := by decide +kernel
theorem dX6_as_15 : decode cX6_as 15 = .ok (.ldc2_w 68, 3) := by decide +kernel
theorem dX6_as_18 : decode cX6_as 18 = .ok (.invokestatic 42, 3) := by decide +kernel
theorem dX6_as_21 : decode cX6_as 21 = .ok (.ifCond .ne 10, 3) := by decide +kernel
theorem dX6_as_24 : decode cX6_as 24 = .ok (.aload_n 0, 1) := by decide +kernel
theorem dX6_as_25 : decode cX6_as 25 = .ok (.ldc 37, 2) := by decide +kernel
theorem dX6_as_27 : decode cX6_as 27 = .ok (.invokevirtual 47, 3) := by decide +kernel
theorem dX6_as_30 : decode cX6_as 30 = .ok (.ireturn, 1) := by decide +kernel
theorem dX6_as_31 : decode cX6_as 31 = .ok (.aload_n 0, 1) := by decide +kernel
theorem dX6_as_32 : decode cX6_as 32 = .ok (.getfield 7, 3) := by decide +kernel
theorem dX6_as_35 : decode cX6_as 35 = .ok (.bipush 53, 2) := by decide +kernel
theorem dX6_as_37 : decode cX6_as 37 = .ok (.iload_n 1, 1) := by decide +kernel
theorem dX6_as_38 : decode cX6_as 38 = .ok (.iadd, 1) := by decide +kernel
theorem dX6_as_39 : decode cX6_as 39 = .ok (.iaload, 1) := by decide +kernel
theorem dX6_as_40 : decode cX6_as 40 = .ok (.istore_n 3, 1) := by decide +kernel
theorem dX6_as_41 : decode cX6_as 41 = .ok (.iload_n 3, 1) := by decide +kernel
theorem dX6_as_42 : decode cX6_as 42 = .ok (.ifCond .ge 10, 3) := by decide +kernel
theorem dX6_as_45 : decode cX6_as 45 = .ok (.aload_n 0, 1) := by decide +kernel
theorem dX6_as_46 : decode cX6_as 46 = .ok (.ldc 250, 2) := by decide +kernel
theorem dX6_as_48 : decode cX6_as 48 = .ok (.invokevirtual 47, 3) := by decide +kernel
theorem dX6_as_51 : decode cX6_as 51 = .ok (.ireturn, 1) := by decide +kernel
theorem dX6_as_52 : decode cX6_as 52 = .ok (.aload_n 0, 1) := by decide +kernel
theorem dX6_as_53 : decode cX6_as 53 = .ok (.iload_n 3, 1) := by decide +kernel
theorem dX6_as_54 : decode cX6_as 54 = .ok (.iconst 0, 1) := by decide +kernel
theorem dX6_as_55 : decode cX6_as 55 = .ok (.invokevirtual 51, 3) := by decide +kernel
theorem dX6_as_58 : decode cX6_as 58 = .ok (.iload_n 2, 1) := by decide +kernel
theorem dX6_as_59 : decode cX6_as 59 = .ok (.invokestatic 251, 3) := by decide +kernel
theorem dX6_as_62 : decode cX6_as 62 = .ok (.ifCond .eq 7, 3) := by decide +kernel
theorem dX6_as_65 : decode cX6_as 65 = .ok (.iload_n 3, 1) := by decide +kernel
theorem dX6_as_66 : decode cX6_as 66 = .ok (.goto 9, 3) := by decide +kernel
theorem dX6_as_69 : decode cX6_as 69 = .ok (.aload_n 0, 1) := by decide +kernel
theorem dX6_as_70 : decode cX6_as 70 = .ok (.ldc 254, 2) := by decide +kernel
theorem dX6_as_72 : decode cX6_as 72 = .ok (.invokevirtual 47, 3) := by decide +kernel
theorem dX6_as_75 : decode cX6_as 75 = .ok (.ireturn, 1) := by decide +kernel
theorem dX6_isSheet_0 : decode cX6_isSheet 0 = .ok (.iload_n 0, 1) := by decide +kernel
theorem dX6_isSheet_1 : decode cX6_isSheet 1 = .ok (.ifCond .lt 12, 3) := by decide +kernel
theorem dX6_isSheet_4 : decode cX6_isSheet 4 = .ok (.iload_n 0, 1) := by decide +kernel
theorem dX6_isSheet_5 : decode cX6_isSheet 5 = .ok (.iconst 4, 1) := by decide +kernel
theorem dX6_isSheet_6 : decode cX6_isSheet 6 = .ok (.if_icmp .ge 7, 3) := by decide +kernel
theorem dX6_isSheet_9 : decode cX6_isSheet 9 = .ok (.iconst 1, 1) := by decide +kernel
theorem dX6_isSheet_10 : decode cX6_isSheet 10 = .ok (.goto 4, 3) := by decide +kernel
theorem dX6_isSheet_13 : decode cX6_isSheet 13 = .ok (.iconst 0, 1) := by decide +kernel
theorem dX6_isSheet_14 : decode cX6_isSheet 14 = .ok (.ireturn, 1) := by decide +kernel
theorem dX6_sheet_0 : decode cX6_sheet 0 = .ok (.iload_n 1, 1) := by decide +kernel
theorem dX6_sheet_1 : decode cX6_sheet 1 = .ok (.invokestatic 255, 3) := by decide +kernel
theorem dX6_sheet_4 : decode cX6_sheet 4 = .ok (.ifCond .eq 25, 3) := by decide +kernel
theorem dX6_sheet_7 : decode cX6_sheet 7 = .ok (.iload_n 2, 1) := by decide +kernel
theorem dX6_sheet_8 : decode cX6_sheet 8 = .ok (.ifCond .eq 28, 3) := by decide +kernel
theorem dX6_sheet_11 : decode cX6_sheet 11 = .ok (.iload_n 2, 1) := by decide +kernel
theorem dX6_sheet_12 : decode cX6_sheet 12 = .ok (.bipush 8, 2) := by decide +kernel
theorem dX6_sheet_14 : decode cX6_sheet 14 = .ok (.if_icmp .eq 22, 3) := by decide +kernel
theorem dX6_sheet_17 : decode cX6_sheet 17 = .ok (.iload_n 2, 1) := by decide +kernel
theorem dX6_sheet_18 : decode cX6_sheet 18 = .ok (.bipush 16, 2) := by decide +kernel
theorem dX6_sheet_20 : decode cX6_sheet 20 = .ok (.if_icmp .eq 16, 3) := by decide +kernel
theorem dX6_sheet_23 : decode cX6_sheet 23 = .ok (.iload_n 2, 1) := by decide +kernel
theorem dX6_sheet_24 : decode cX6_sheet 24 = .ok (.bipush 32, 2) := by decide +kernel
theorem dX6_sheet_26 : decode cX6_sheet 26 = .ok (.if_icmp .eq 10, 3) := by decide +kernel
theorem dX6_sheet_29 : decode cX6_sheet 29 = .ok (.aload_n 0, 1) := by decide +kernel
theorem dX6_sheet_30 : decode cX6_sheet 30 = .ok (.ldc 37, 2) := by decide +kernel
theorem dX6_sheet_32 : decode cX6_sheet 32 = .ok (.invokevirtual 47, 3) := by decide +kernel
theorem dX6_sheet_35 : decode cX6_sheet 35 = .ok (.ireturn, 1) := by decide +kernel
theorem dX6_sheet_36 : decode cX6_sheet 36 = .ok (.iload_n 3, 1) := by decide +kernel
theorem dX6_sheet_37 : decode cX6_sheet 37 = .ok (.ifCond .ge 11, 3) := by decide +kernel
theorem dX6_sheet_40 : decode cX6_sheet 40 = .ok (.aload_n 0, 1) := by decide +kernel
theorem dX6_sheet_41 : decode cX6_sheet 41 = .ok (.ldc_w 258, 3) := by decide +kernel
theorem dX6_sheet_44 : decode cX6_sheet 44 = .ok (.invokevirtual 47, 3) := by decide +kernel
theorem dX6_sheet_47 : decode cX6_sheet 47 = .ok (.ireturn, 1) := by decide +kernel
theorem dX6_sheet_48 : decode cX6_sheet 48 = .ok (.iload_n 3, 1) := by decide +kernel
theorem dX6_sheet_49 : decode cX6_sheet 49 = .ok (.bipush 40, 2) := by decide +kernel
theorem dX6_sheet_51 : decode cX6_sheet 51 = .ok (.if_icmp .le 10, 3) := by decide +kernel
theorem dX6_sheet_54 : decode cX6_sheet 54 = .ok (.aload_n 0, 1) := by decide +kernel
theorem dX6_sheet_55 : decode cX6_sheet 55 = .ok (.ldc 37, 2) := by decide +kernel
theorem dX6_sheet_57 : decode cX6_sheet 57 = .ok (.invokevirtual 47, 3) := by decide +kernel
theorem dX6_sheet_60 : decode cX6_sheet 60 = .ok (.ireturn, 1) := by decide +kernel
theorem dX6_sheet_61 : decode cX6_sheet 61 = .ok (.aload_n 0, 1) := by decide +kernel
theorem dX6_sheet_62 : decode cX6_sheet 62 = .ok (.getfield 25, 3) := by decide +kernel
theorem dX6_sheet_65 : decode cX6_sheet 65 = .ok (.iload_n 1, 1) := by decide +kernel
theorem dX6_sheet_66 : decode cX6_sheet 66 = .ok (.iload_n 2, 1) := by decide +kernel
theorem dX6_sheet_67 : decode cX6_sheet 67 = .ok (.ifCond .ne 7, 3) := by decide +kernel
theorem dX6_sheet_70 : decode cX6_sheet 70 = .ok (.iconst (-1), 1) := by decide +kernel
theorem dX6_sheet_71 : decode cX6_sheet 71 = .ok (.goto 4, 3) := by decide +kernel
theorem dX6_sheet_74 : decode cX6_sheet 74 = .ok (.iload_n 2, 1) := by decide +kernel
theorem dX6_sheet_75 : decode cX6_sheet 75 = .ok (.iastore, 1) := by decide +kernel
theorem dX6_sheet_76 : decode cX6_sheet 76 = .ok (.aload_n 0, 1) := by decide +kernel
theorem dX6_sheet_77 : decode cX6_sheet 77 = .ok (.getfield 28, 3) := by decide +kernel
theorem dX6_sheet_80 : decode cX6_sheet 80 = .ok (.iload_n 1, 1) := by decide +kernel
theorem dX6_sheet_81 : decode cX6_sheet 81 = .ok (.iload_n 2, 1) := by decide +kernel
theorem dX6_sheet_82 : decode cX6_sheet 82 = .ok (.ifCond .ne 7, 3) := by decide +kernel
theorem dX6_sheet_85 : decode cX6_sheet 85 = .ok (.iconst 0, 1) := by decide +kernel
theorem dX6_sheet_86 : decode cX6_sheet 86 = .ok (.goto 4, 3) := by decide +kernel
theorem dX6_sheet_89 : decode cX6_sheet 89 = .ok (.iload_n 3, 1) := by decide +kernel
theorem dX6_sheet_90 : decode cX6_sheet 90 = .ok (.iastore, 1) := by decide +kernel
theorem dX6_sheet_91 : decode cX6_sheet 91 = .ok (.iconst 0, 1) := by decide +kernel
theorem dX6_sheet_92 : decode cX6_sheet 92 = .ok (.istore 4, 2) := by decide +kernel
theorem dX6_sheet_94 : decode cX6_sheet 94 = .ok (.iload 4, 2) := by decide +kernel
theorem dX6_sheet_96 : decode cX6_sheet 96 = .ok (.bipush 40, 2) := by decide +kernel
theorem dX6_sheet_98 : decode cX6_sheet 98 = .ok (.if_icmp .ge 22, 3) := by decide +kernel
theorem dX6_sheet_101 : decode cX6_sheet 101 = .ok (.aload_n 0, 1) := by decide +kernel
theorem dX6_sheet_102 : decode cX6_sheet 102 = .ok (.getfield 31, 3) := by decide +kernel
theorem dX6_sheet_105 : decode cX6_sheet 105 = .ok (.bipush 40, 2) := by decide +kernel
theorem dX6_sheet_107 : decode cX6_sheet 107 = .ok (.iload_n 1, 1) := by decide +kernel
theorem dX6_sheet_108 : decode cX6_sheet 108 = .ok (.imul, 1) := by decide +kernel
theorem dX6_sheet_109 : decode cX6_sheet 109 = .ok (.iload 4, 2) := by decide +kernel
theorem dX6_sheet_111 : decode cX6_sheet 111 = .ok (.iadd, 1) := by decide +kernel
theorem dX6_sheet_112 : decode cX6_sheet 112 = .ok (.iconst 0, 1) := by decide +kernel
theorem dX6_sheet_113 : decode cX6_sheet 113 = .ok (.iastore, 1) := by decide +kernel
theorem dX6_sheet_114 : decode cX6_sheet 114 = .ok (.iinc 4 1, 3) := by decide +kernel
theorem dX6_sheet_117 : decode cX6_sheet 117 = .ok (.goto (-23), 3) := by decide +kernel
theorem dX6_sheet_120 : decode cX6_sheet 120 = .ok (.aload_n 0, 1) := by decide +kernel
theorem dX6_sheet_121 : decode cX6_sheet 121 = .ok (.getfield 28, 3) := by decide +kernel
theorem dX6_sheet_124 : decode cX6_sheet 124 = .ok (.iload_n 1, 1) := by decide +kernel
theorem dX6_sheet_125 : decode cX6_sheet 125 = .ok (.iaload, 1) := by decide +kernel
theorem dX6_sheet_126 : decode cX6_sheet 126 = .ok (.ireturn, 1) := by decide +kernel
theorem dX6_write_0 : decode cX6_write 0 = .ok (.iload_n 1, 1) := by decide +kernel
theorem dX6_write_1 : decode cX6_write 1 = .ok (.invokestatic 255, 3) := by decide +kernel
theorem dX6_write_4 : decode cX6_write 4 = .ok (.ifCond .ne 10, 3) := by decide +kernel
theorem dX6_write_7 : decode cX6_write 7 = .ok (.aload_n 0, 1) := by decide +kernel
theorem dX6_write_8 : decode cX6_write 8 = .ok (.ldc 37, 2) := by decide +kernel
theorem dX6_write_10 : decode cX6_write 10 = .ok (.invokevirtual 47, 3) := by decide +kernel
theorem dX6_write_13 : decode cX6_write 13 = .ok (.ireturn, 1) := by decide +kernel
theorem dX6_write_14 : decode cX6_write 14 = .ok (.aload_n 0, 1) := by decide +kernel
theorem dX6_write_15 : decode cX6_write 15 = .ok (.getfield 25, 3) := by decide +kernel
theorem dX6_write_18 : decode cX6_write 18 = .ok (.iload_n 1, 1) := by decide +kernel
theorem dX6_write_19 : decode cX6_write 19 = .ok (.iaload, 1) := by decide +kernel
theorem dX6_write_20 : decode cX6_write 20 = .ok (.ifCond .ge 10, 3) := by decide +kernel
theorem dX6_write_23 : decode cX6_write 23 = .ok (.aload_n 0, 1) := by decide +kernel
theorem dX6_write_24 : decode cX6_write 24 = .ok (.ldc 250, 2) := by decide +kernel
theorem dX6_write_26 : decode cX6_write 26 = .ok (.invokevirtual 47, 3) := by decide +kernel
theorem dX6_write_29 : decode cX6_write 29 = .ok (.ireturn, 1) := by decide +kernel
theorem dX6_write_30 : decode cX6_write 30 = .ok (.iload_n 2, 1) := by decide +kernel
theorem dX6_write_31 : decode cX6_write 31 = .ok (.i2l, 1) := by decide +kernel
theorem dX6_write_32 : decode cX6_write 32 = .ok (.lconst 0, 1) := by decide +kernel
theorem dX6_write_33 : decode cX6_write 33 = .ok (.aload_n 0, 1) := by decide +kernel
theorem dX6_write_34 : decode cX6_write 34 = .ok (.getfield 28, 3) := by decide +kernel
theorem dX6_write_37 : decode cX6_write 37 = .ok (.iload_n 1, 1) := by decide +kernel
theorem dX6_write_38 : decode cX6_write 38 = .ok (.iaload, 1) := by decide +kernel
theorem dX6_write_39 : decode cX6_write 39 = .ok (.iconst 1, 1) := by decide +kernel
theorem dX6_write_40 : decode cX6_write 40 = .ok (.isub, 1) := by decide +kernel
theorem dX6_write_41 : decode cX6_write 41 = .ok (.i2l, 1) := by decide +kernel
theorem dX6_write_42 : decode cX6_write 42 = .ok (.invokestatic 42, 3) := by decide +kernel
theorem dX6_write_45 : decode cX6_write 45 = .ok (.ifCond .ne 10, 3) := by decide +kernel
theorem dX6_write_48 : decode cX6_write 48 = .ok (.aload_n 0, 1) := by decide +kernel
theorem dX6_write_49 : decode cX6_write 49 = .ok (.ldc 37, 2) := by decide +kernel
theorem dX6_write_51 : decode cX6_write 51 = .ok (.invokevirtual 47, 3) := by decide +kernel
theorem dX6_write_54 : decode cX6_write 54 = .ok (.ireturn, 1) := by decide +kernel
theorem dX6_write_55 : decode cX6_write 55 = .ok (.aload_n 0, 1) := by decide +kernel
theorem dX6_write_56 : decode cX6_write 56 = .ok (.getfield 31, 3) := by decide +kernel
theorem dX6_write_59 : decode cX6_write 59 = .ok (.bipush 40, 2) := by decide +kernel
theorem dX6_write_61 : decode cX6_write 61 = .ok (.iload_n 1, 1) := by decide +kernel
theorem dX6_write_62 : decode cX6_write 62 = .ok (.imul, 1) := by decide +kernel
theorem dX6_write_63 : decode cX6_write 63 = .ok (.iload_n 2, 1) := by decide +kernel
theorem dX6_write_64 : decode cX6_write 64 = .ok (.iadd, 1) := by decide +kernel
theorem dX6_write_65 : decode cX6_write 65 = .ok (.aload_n 0, 1) := by decide +kernel
theorem dX6_write_66 : decode cX6_write 66 = .ok (.getfield 25, 3) := by decide +kernel
theorem dX6_write_69 : decode cX6_write 69 = .ok (.iload_n 1, 1) := by decide +kernel
theorem dX6_write_70 : decode cX6_write 70 = .ok (.iaload, 1) := by decide +kernel
theorem dX6_write_71 : decode cX6_write 71 = .ok (.bipush 8, 2) := by decide +kernel
theorem dX6_write_73 : decode cX6_write 73 = .ok (.if_icmp .ne 8, 3) := by decide +kernel
theorem dX6_write_76 : decode cX6_write 76 = .ok (.iload_n 3, 1) := by decide +kernel
theorem dX6_write_77 : decode cX6_write 77 = .ok (.i2b, 1) := by decide +kernel
theorem dX6_write_78 : decode cX6_write 78 = .ok (.goto 20, 3) := by decide +kernel
theorem dX6_write_81 : decode cX6_write 81 = .ok (.aload_n 0, 1) := by decide +kernel
theorem dX6_write_82 : decode cX6_write 82 = .ok (.getfield 25, 3) := by decide +kernel
theorem dX6_write_85 : decode cX6_write 85 = .ok (.iload_n 1, 1) := by decide +kernel
theorem dX6_write_86 : decode cX6_write 86 = .ok (.iaload, 1) := by decide +kernel
theorem dX6_write_87 : decode cX6_write 87 = .ok (.bipush 16, 2) := by decide +kernel
theorem dX6_write_89 : decode cX6_write 89 = .ok (.if_icmp .ne 8, 3) := by decide +kernel
theorem dX6_write_92 : decode cX6_write 92 = .ok (.iload_n 3, 1) := by decide +kernel
theorem dX6_write_93 : decode cX6_write 93 = .ok (.i2s, 1) := by decide +kernel
theorem dX6_write_94 : decode cX6_write 94 = .ok (.goto 4, 3) := by decide +kernel
theorem dX6_write_97 : decode cX6_write 97 = .ok (.iload_n 3, 1) := by decide +kernel
theorem dX6_write_98 : decode cX6_write 98 = .ok (.iastore, 1) := by decide +kernel
theorem dX6_write_99 : decode cX6_write 99 = .ok (.iconst 1, 1) := by decide +kernel
theorem dX6_write_100 : decode cX6_write 100 = .ok (.ireturn, 1) := by decide +kernel
theorem dX6_copy_0 : decode cX6_copy 0 = .ok (.iload_n 1, 1) := by decide +kernel
theorem dX6_copy_1 : decode cX6_copy 1 = .ok (.invokestatic 255, 3) := by decide +kernel
theorem dX6_copy_4 : decode cX6_copy 4 = .ok (.ifCond .eq 10, 3) := by decide +kernel
theorem dX6_copy_7 : decode cX6_copy 7 = .ok (.iload_n 3, 1) := by decide +kernel
theorem dX6_copy_8 : decode cX6_copy 8 = .ok (.invokestatic 255, 3) := by decide +kernel
theorem dX6_copy_11 : decode cX6_copy 11 = .ok (.ifCond .ne 10, 3) := by decide +kernel
theorem dX6_copy_14 : decode cX6_copy 14 = .ok (.aload_n 0, 1) := by decide +kernel
theorem dX6_copy_15 : decode cX6_copy 15 = .ok (.ldc 37, 2) := by decide +kernel
theorem dX6_copy_17 : decode cX6_copy 17 = .ok (.invokevirtual 47, 3) := by decide +kernel
theorem dX6_copy_20 : decode cX6_copy 20 = .ok (.ireturn, 1) := by decide +kernel
theorem dX6_copy_21 : decode cX6_copy 21 = .ok (.aload_n 0, 1) := by decide +kernel
theorem dX6_copy_22 : decode cX6_copy 22 = .ok (.getfield 25, 3) := by decide +kernel
theorem dX6_copy_25 : decode cX6_copy 25 = .ok (.iload_n 1, 1) := by decide +kernel
theorem dX6_copy_26 : decode cX6_copy 26 = .ok (.iaload, 1) := by decide +kernel
theorem dX6_copy_27 : decode cX6_copy 27 = .ok (.ifCond .lt 12, 3) := by decide +kernel
theorem dX6_copy_30 : decode cX6_copy 30 = .ok (.aload_n 0, 1) := by decide +kernel
theorem dX6_copy_31 : decode cX6_copy 31 = .ok (.getfield 25, 3) := by decide +kernel
theorem dX6_copy_34 : decode cX6_copy 34 = .ok (.iload_n 3, 1) := by decide +kernel
theorem dX6_copy_35 : decode cX6_copy 35 = .ok (.iaload, 1) := by decide +kernel
theorem dX6_copy_36 : decode cX6_copy 36 = .ok (.ifCond .ge 10, 3) := by decide +kernel
theorem dX6_copy_39 : decode cX6_copy 39 = .ok (.aload_n 0, 1) := by decide +kernel
theorem dX6_copy_40 : decode cX6_copy 40 = .ok (.ldc 250, 2) := by decide +kernel
theorem dX6_copy_42 : decode cX6_copy 42 = .ok (.invokevirtual 47, 3) := by decide +kernel
theorem dX6_copy_45 : decode cX6_copy 45 = .ok (.ireturn, 1) := by decide +kernel
theorem dX6_copy_46 : decode cX6_copy 46 = .ok (.aload_n 0, 1) := by decide +kernel
theorem dX6_copy_47 : decode cX6_copy 47 = .ok (.getfield 25, 3) := by decide +kernel
theorem dX6_copy_50 : decode cX6_copy 50 = .ok (.iload_n 1, 1) := by decide +kernel
theorem dX6_copy_51 : decode cX6_copy 51 = .ok (.iaload, 1) := by decide +kernel
theorem dX6_copy_52 : decode cX6_copy 52 = .ok (.aload_n 0, 1) := by decide +kernel
theorem dX6_copy_53 : decode cX6_copy 53 = .ok (.getfield 25, 3) := by decide +kernel
theorem dX6_copy_56 : decode cX6_copy 56 = .ok (.iload_n 3, 1) := by decide +kernel
theorem dX6_copy_57 : decode cX6_copy 57 = .ok (.iaload, 1) := by decide +kernel
theorem dX6_copy_58 : decode cX6_copy 58 = .ok (.if_icmp .eq 10, 3) := by decide +kernel
theorem dX6_copy_61 : decode cX6_copy 61 = .ok (.aload_n 0, 1) := by decide +kernel
theorem dX6_copy_62 : decode cX6_copy 62 = .ok (.ldc 254, 2) := by decide +kernel
theorem dX6_copy_64 : decode cX6_copy 64 = .ok (.invokevirtual 47, 3) := by decide +kernel
theorem dX6_copy_67 : decode cX6_copy 67 = .ok (.ireturn, 1) := by decide +kernel
theorem dX6_copy_68 : decode cX6_copy 68 = .ok (.iload_n 2, 1) := by decide +kernel
theorem dX6_copy_69 : decode cX6_copy 69 = .ok (.ifCond .lt 40, 3) := by decide +kernel
theorem dX6_copy_72 : decode cX6_copy 72 = .ok (.iload 4, 2) := by decide +kernel
theorem dX6_copy_74 : decode cX6_copy 74 = .ok (.ifCond .lt 35, 3) := by decide +kernel
theorem dX6_copy_77 : decode cX6_copy 77 = .ok (.iload 5, 2) := by decide +kernel
theorem dX6_copy_79 : decode cX6_copy 79 = .ok (.ifCond .lt 30, 3) := by decide +kernel
theorem dX6_copy_82 : decode cX6_copy 82 = .ok (.iload 5, 2) := by decide +kernel
theorem dX6_copy_84 : decode cX6_copy 84 = .ok (.aload_n 0, 1) := by decide +kernel
theorem dX6_copy_85 : decode cX6_copy 85 = .ok (.getfield 28, 3) := by decide +kernel
theorem dX6_copy_88 : decode cX6_copy 88 = .ok (.iload_n 1, 1) := by decide +kernel
theorem dX6_copy_89 : decode cX6_copy 89 = .ok (.iaload, 1) := by decide +kernel
theorem dX6_copy_90 : decode cX6_copy 90 = .ok (.iload_n 2, 1) := by decide +kernel
theorem dX6_copy_91 : decode cX6_copy 91 = .ok (.isub, 1) := by decide +kernel
theorem dX6_copy_92 : decode cX6_copy 92 = .ok (.if_icmp .gt 17, 3) := by decide +kernel
theorem dX6_copy_95 : decode cX6_copy 95 = .ok (.iload 5, 2) := by decide +kernel
theorem dX6_copy_97 : decode cX6_copy 97 = .ok (.aload_n 0, 1) := by decide +kernel
theorem dX6_copy_98 : decode cX6_copy 98 = .ok (.getfield 28, 3) := by decide +kernel
theorem dX6_copy_101 : decode cX6_copy 101 = .ok (.iload_n 3, 1) := by decide +kernel
theorem dX6_copy_102 : decode cX6_copy 102 = .ok (.iaload, 1) := by decide +kernel
theorem dX6_copy_103 : decode cX6_copy 103 = .ok (.iload 4, 2) := by decide +kernel
theorem dX6_copy_105 : decode cX6_copy 105 = .ok (.isub, 1) := by decide +kernel
theorem dX6_copy_106 : decode cX6_copy 106 = .ok (.if_icmp .le 10, 3) := by decide +kernel
theorem dX6_copy_109 : decode cX6_copy 109 = .ok (.aload_n 0, 1) := by decide +kernel
theorem dX6_copy_110 : decode cX6_copy 110 = .ok (.ldc 37, 2) := by decide +kernel
theorem dX6_copy_112 : decode cX6_copy 112 = .ok (.invokevirtual 47, 3) := by decide +kernel
theorem dX6_copy_115 : decode cX6_copy 115 = .ok (.ireturn, 1) := by decide +kernel
theorem dX6_copy_116 : decode cX6_copy 116 = .ok (.bipush 40, 2) := by decide +kernel
theorem dX6_copy_118 : decode cX6_copy 118 = .ok (.iload_n 1, 1) := by decide +kernel
theorem dX6_copy_119 : decode cX6_copy 119 = .ok (.imul, 1) := by decide +kernel
theorem dX6_copy_120 : decode cX6_copy 120 = .ok (.iload_n 2, 1) := by decide +kernel
theorem dX6_copy_121 : decode cX6_copy 121 = .ok (.iadd, 1) := by decide +kernel
theorem dX6_copy_122 : decode cX6_copy 122 = .ok (.istore 6, 2) := by decide +kernel
theorem dX6_copy_124 : decode cX6_copy 124 = .ok (.bipush 40, 2) := by decide +kernel
theorem dX6_copy_126 : decode cX6_copy 126 = .ok (.iload_n 3, 1) := by decide +kernel
theorem dX6_copy_127 : decode cX6_copy 127 = .ok (.imul, 1) := by decide +kernel
theorem dX6_copy_128 : decode cX6_copy 128 = .ok (.iload 4, 2) := by decide +kernel
theorem dX6_copy_130 : decode cX6_copy 130 = .ok (.iadd, 1) := by decide +kernel
theorem dX6_copy_131 : decode cX6_copy 131 = .ok (.istore 7, 2) := by decide +kernel
theorem dX6_copy_133 : decode cX6_copy 133 = .ok (.iconst 0, 1) := by decide +kernel
theorem dX6_copy_134 : decode cX6_copy 134 = .ok (.istore 8, 2) := by decide +kernel
theorem dX6_copy_136 : decode cX6_copy 136 = .ok (.iload 8, 2) := by decide +kernel
theorem dX6_copy_138 : decode cX6_copy 138 = .ok (.iload 5, 2) := by decide +kernel
theorem dX6_copy_140 : decode cX6_copy 140 = .ok (.if_icmp .ge 50, 3) := by decide +kernel
theorem dX6_copy_143 : decode cX6_copy 143 = .ok (.iload 6, 2) := by decide +kernel
theorem dX6_copy_145 : decode cX6_copy 145 = .ok (.iload 7, 2) := by decide +kernel
theorem dX6_copy_147 : decode cX6_copy 147 = .ok (.if_icmp .ge 13, 3) := by decide +kernel
theorem dX6_copy_150 : decode cX6_copy 150 = .ok (.iload 5, 2) := by decide +kernel
theorem dX6_copy_152 : decode cX6_copy 152 = .ok (.iconst 1, 1) := by decide +kernel
theorem dX6_copy_153 : decode cX6_copy 153 = .ok (.isub, 1) := by decide +kernel
theorem dX6_copy_154 : decode cX6_copy 154 = .ok (.iload 8, 2) := by decide +kernel
theorem dX6_copy_156 : decode cX6_copy 156 = .ok (.isub, 1) := by decide +kernel
theorem dX6_copy_157 : decode cX6_copy 157 = .ok (.goto 5, 3) := by decide +kernel
theorem dX6_copy_160 : decode cX6_copy 160 = .ok (.iload 8, 2) := by decide +kernel
theorem dX6_copy_162 : decode cX6_copy 162 = .ok (.istore 9, 2) := by decide +kernel
theorem dX6_copy_164 : decode cX6_copy 164 = .ok (.aload_n 0, 1) := by decide +kernel
theorem dX6_copy_165 : decode cX6_copy 165 = .ok (.getfield 31, 3) := by decide +kernel
theorem dX6_copy_168 : decode cX6_copy 168 = .ok (.iload 7, 2) := by decide +kernel
theorem dX6_copy_170 : decode cX6_copy 170 = .ok (.iload 9, 2) := by decide +kernel
theorem dX6_copy_172 : decode cX6_copy 172 = .ok (.iadd, 1) := by decide +kernel
theorem dX6_copy_173 : decode cX6_copy 173 = .ok (.aload_n 0, 1) := by decide +kernel
theorem dX6_copy_174 : decode cX6_copy 174 = .ok (.getfield 31, 3) := by decide +kernel
theorem dX6_copy_177 : decode cX6_copy 177 = .ok (.iload 6, 2) := by decide +kernel
theorem dX6_copy_179 : decode cX6_copy 179 = .ok (.iload 9, 2) := by decide +kernel
theorem dX6_copy_181 : decode cX6_copy 181 = .ok (.iadd, 1) := by decide +kernel
theorem dX6_copy_182 : decode cX6_copy 182 = .ok (.iaload, 1) := by decide +kernel
theorem dX6_copy_183 : decode cX6_copy 183 = .ok (.iastore, 1) := by decide +kernel
theorem dX6_copy_184 : decode cX6_copy 184 = .ok (.iinc 8 1, 3) := by decide +kernel
theorem dX6_copy_187 : decode cX6_copy 187 = .ok (.goto (-51), 3) := by decide +kernel
theorem dX6_copy_190 : decode cX6_copy 190 = .ok (.iload 5, 2) := by decide +kernel
theorem dX6_copy_192 : decode cX6_copy 192 = .ok (.ireturn, 1) := by decide +kernel
theorem dX6_wants_0 : decode cX6_wants 0 = .ok (.iload_n 1, 1) := by decide +kernel
theorem dX6_wants_1 : decode cX6_wants 1 = .ok (.invokestatic 255, 3) := by decide +kernel
theorem dX6_wants_4 : decode cX6_wants 4 = .ok (.ifCond .ne 8, 3) := by decide +kernel
theorem dX6_wants_7 : decode cX6_wants 7 = .ok (.ldc 37, 2) := by decide +kernel
theorem dX6_wants_9 : decode cX6_wants 9 = .ok (.goto 18, 3) := by decide +kernel
theorem dX6_wants_12 : decode cX6_wants 12 = .ok (.aload_n 0, 1) := by decide +kernel
theorem dX6_wants_13 : decode cX6_wants 13 = .ok (.getfield 25, 3) := by decide +kernel
theorem dX6_wants_16 : decode cX6_wants 16 = .ok (.iload_n 1, 1) := by decide +kernel
theorem dX6_wants_17 : decode cX6_wants 17 = .ok (.iaload, 1) := by decide +kernel
theorem dX6_wants_18 : decode cX6_wants 18 = .ok (.ifCond .ge 8, 3) := by decide +kernel
theorem dX6_wants_21 : decode cX6_wants 21 = .ok (.ldc 250, 2) := by decide +kernel
theorem dX6_wants_23 : decode cX6_wants 23 = .ok (.goto 4, 3) := by decide +kernel
theorem dX6_wants_26 : decode cX6_wants 26 = .ok (.iconst 0, 1) := by decide +kernel
theorem dX6_wants_27 : decode cX6_wants 27 = .ok (.ireturn, 1) := by decide +kernel
theorem dX6_load_0 : decode cX6_load 0 = .ok (.aload_n 0, 1) := by decide +kernel
theorem dX6_load_1 : decode cX6_load 1 = .ok (.iload_n 1, 1) := by decide +kernel
theorem dX6_load_2 : decode cX6_load 2 = .ok (.invokevirtual 259, 3) := by decide +kernel
theorem dX6_load_5 : decode cX6_load 5 = .ok (.ifCond .eq 13, 3) := by decide +kernel
theorem dX6_load_8 : decode cX6_load 8 = .ok (.aload_n 0, 1) := by decide +kernel
theorem dX6_load_9 : decode cX6_load 9 = .ok (.aload_n 0, 1) := by decide +kernel
theorem dX6_load_10 : decode cX6_load 10 = .ok (.iload_n 1, 1) := by decide +kernel
theorem dX6_load_11 : decode cX6_load 11 = .ok (.invokevirtual 259, 3) := by decide +kernel
theorem dX6_load_14 : decode cX6_load 14 = .ok (.invokevirtual 47, 3) := by decide +kernel
theorem dX6_load_17 : decode cX6_load 17 = .ok (.ireturn, 1) := by decide +kernel
theorem dX6_load_18 : decode cX6_load 18 = .ok (.iconst 0, 1) := by decide +kernel
theorem dX6_load_19 : decode cX6_load 19 = .ok (.istore_n 2, 1) := by decide +kernel
theorem dX6_load_20 : decode cX6_load 20 = .ok (.iload_n 2, 1) := by decide +kernel
theorem dX6_load_21 : decode cX6_load 21 = .ok (.aload_n 0, 1) := by decide +kernel
theorem dX6_load_22 : decode cX6_load 22 = .ok (.getfield 28, 3) := by decide +kernel
theorem dX6_load_25 : decode cX6_load 25 = .ok (.iload_n 1, 1) := by decide +kernel
theorem dX6_load_26 : decode cX6_load 26 = .ok (.iaload, 1) := by decide +kernel
theorem dX6_load_27 : decode cX6_load 27 = .ok (.if_icmp .ge 65, 3) := by decide +kernel
theorem dX6_load_30 : decode cX6_load 30 = .ok (.aload_n 0, 1) := by decide +kernel
theorem dX6_load_31 : decode cX6_load 31 = .ok (.iload_n 2, 1) := by decide +kernel
theorem dX6_load_32 : decode cX6_load 32 = .ok (.invokevirtual 85, 3) := by decide +kernel
theorem dX6_load_35 : decode cX6_load 35 = .ok (.ifCond .eq 57, 3) := by decide +kernel
theorem dX6_load_38 : decode cX6_load 38 = .ok (.aload_n 0, 1) := by decide +kernel
theorem dX6_load_39 : decode cX6_load 39 = .ok (.getfield 31, 3) := by decide +kernel
theorem dX6_load_42 : decode cX6_load 42 = .ok (.bipush 40, 2) := by decide +kernel
theorem dX6_load_44 : decode cX6_load 44 = .ok (.iload_n 1, 1) := by decide +kernel
theorem dX6_load_45 : decode cX6_load 45 = .ok (.imul, 1) := by decide +kernel
theorem dX6_load_46 : decode cX6_load 46 = .ok (.iload_n 2, 1) := by decide +kernel
theorem dX6_load_47 : decode cX6_load 47 = .ok (.iadd, 1) := by decide +kernel
theorem dX6_load_48 : decode cX6_load 48 = .ok (.iaload, 1) := by decide +kernel
theorem dX6_load_49 : decode cX6_load 49 = .ok (.i2l, 1) := by decide +kernel
theorem dX6_load_50 : decode cX6_load 50 = .ok (.ldc2_w 74, 3) := by decide +kernel
theorem dX6_load_53 : decode cX6_load 53 = .ok (.ldc2_w 76, 3) := by decide +kernel
theorem dX6_load_56 : decode cX6_load 56 = .ok (.invokestatic 42, 3) := by decide +kernel
theorem dX6_load_59 : decode cX6_load 59 = .ok (.ifCond .eq 33, 3) := by decide +kernel
theorem dX6_load_62 : decode cX6_load 62 = .ok (.aload_n 0, 1) := by decide +kernel
theorem dX6_load_63 : decode cX6_load 63 = .ok (.getfield 7, 3) := by decide +kernel
theorem dX6_load_66 : decode cX6_load 66 = .ok (.iconst 5, 1) := by decide +kernel
theorem dX6_load_67 : decode cX6_load 67 = .ok (.bipush 6, 2) := by decide +kernel
theorem dX6_load_69 : decode cX6_load 69 = .ok (.iload_n 2, 1) := by decide +kernel
theorem dX6_load_70 : decode cX6_load 70 = .ok (.imul, 1) := by decide +kernel
theorem dX6_load_71 : decode cX6_load 71 = .ok (.iadd, 1) := by decide +kernel
theorem dX6_load_72 : decode cX6_load 72 = .ok (.iconst 3, 1) := by decide +kernel
theorem dX6_load_73 : decode cX6_load 73 = .ok (.iadd, 1) := by decide +kernel
theorem dX6_load_74 : decode cX6_load 74 = .ok (.aload_n 0, 1) := by decide +kernel
theorem dX6_load_75 : decode cX6_load 75 = .ok (.getfield 31, 3) := by decide +kernel
theorem dX6_load_78 : decode cX6_load 78 = .ok (.bipush 40, 2) := by decide +kernel
theorem dX6_load_80 : decode cX6_load 80 = .ok (.iload_n 1, 1) := by decide +kernel
theorem dX6_load_81 : decode cX6_load 81 = .ok (.imul, 1) := by decide +kernel
theorem dX6_load_82 : decode cX6_load 82 = .ok (.iload_n 2, 1) := by decide +kernel
theorem dX6_load_83 : decode cX6_load 83 = .ok (.iadd, 1) := by decide +kernel
theorem dX6_load_84 : decode cX6_load 84 = .ok (.iaload, 1) := by decide +kernel
theorem dX6_load_85 : decode cX6_load 85 = .ok (.iastore, 1) := by decide +kernel
theorem dX6_load_86 : decode cX6_load 86 = .ok (.iinc 2 1, 3) := by decide +kernel
theorem dX6_load_89 : decode cX6_load 89 = .ok (.goto (-69), 3) := by decide +kernel
theorem dX6_load_92 : decode cX6_load 92 = .ok (.iload_n 2, 1) := by decide +kernel
theorem dX6_load_93 : decode cX6_load 93 = .ok (.ireturn, 1) := by decide +kernel
theorem dX6_toldBy_0 : decode cX6_toldBy 0 = .ok (.aload_n 0, 1) := by decide +kernel
theorem dX6_toldBy_1 : decode cX6_toldBy 1 = .ok (.getfield 31, 3) := by decide +kernel
theorem dX6_toldBy_4 : decode cX6_toldBy 4 = .ok (.bipush 40, 2) := by decide +kernel
theorem dX6_toldBy_6 : decode cX6_toldBy 6 = .ok (.iload_n 1, 1) := by decide +kernel
theorem dX6_toldBy_7 : decode cX6_toldBy 7 = .ok (.imul, 1) := by decide +kernel
theorem dX6_toldBy_8 : decode cX6_toldBy 8 = .ok (.iload_n 3, 1) := by decide +kernel
theorem dX6_toldBy_9 : decode cX6_toldBy 9 = .ok (.iadd, 1) := by decide +kernel
theorem dX6_toldBy_10 : decode cX6_toldBy 10 = .ok (.iaload, 1) := by decide +kernel
theorem dX6_toldBy_11 : decode cX6_toldBy 11 = .ok (.i2l, 1) := by decide +kernel
theorem dX6_toldBy_12 : decode cX6_toldBy 12 = .ok (.aload_n 0, 1) := by decide +kernel
theorem dX6_toldBy_13 : decode cX6_toldBy 13 = .ok (.getfield 31, 3) := by decide +kernel
theorem dX6_toldBy_16 : decode cX6_toldBy 16 = .ok (.bipush 40, 2) := by decide +kernel
theorem dX6_toldBy_18 : decode cX6_toldBy 18 = .ok (.iload_n 1, 1) := by decide +kernel
theorem dX6_toldBy_19 : decode cX6_toldBy 19 = .ok (.imul, 1) := by decide +kernel
theorem dX6_toldBy_20 : decode cX6_toldBy 20 = .ok (.iload_n 2, 1) := by decide +kernel
theorem dX6_toldBy_21 : decode cX6_toldBy 21 = .ok (.iadd, 1) := by decide +kernel
theorem dX6_toldBy_22 : decode cX6_toldBy 22 = .ok (.iaload, 1) := by decide +kernel
theorem dX6_toldBy_23 : decode cX6_toldBy 23 = .ok (.i2l, 1) := by decide +kernel
theorem dX6_toldBy_24 : decode cX6_toldBy 24 = .ok (.lsub, 1) := by decide +kernel
theorem dX6_toldBy_25 : decode cX6_toldBy 25 = .ok (.lreturn, 1) := by decide +kernel
theorem dX6_wantsPlaces_0 : decode cX6_wantsPlaces 0 = .ok (.aload_n 0, 1) := by decide +kernel
theorem dX6_wantsPlaces_1 : decode cX6_wantsPlaces 1 = .ok (.iload_n 1, 1) := by decide +kernel
theorem dX6_wantsPlaces_2 : decode cX6_wantsPlaces 2 = .ok (.invokevirtual 259, 3) := by decide +kernel
theorem dX6_wantsPlaces_5 : decode cX6_wantsPlaces 5 = .ok (.istore_n 2, 1) := by decide +kernel
theorem dX6_wantsPlaces_6 : decode cX6_wantsPlaces 6 = .ok (.iload_n 2, 1) := by decide +kernel
theorem dX6_wantsPlaces_7 : decode cX6_wantsPlaces 7 = .ok (.ifCond .eq 5, 3) := by decide +kernel
theorem dX6_wantsPlaces_10 : decode cX6_wantsPlaces 10 = .ok (.iload_n 2, 1) := by decide +kernel
theorem dX6_wantsPlaces_11 : decode cX6_wantsPlaces 11 = .ok (.ireturn, 1) := by decide +kernel
theorem dX6_wantsPlaces_12 : decode cX6_wantsPlaces 12 = .ok (.aload_n 0, 1) := by decide +kernel
theorem dX6_wantsPlaces_13 : decode cX6_wantsPlaces 13 = .ok (.getfield 28, 3) := by decide +kernel
theorem dX6_wantsPlaces_16 : decode cX6_wantsPlaces 16 = .ok (.iload_n 1, 1) := by decide +kernel
theorem dX6_wantsPlaces_17 : decode cX6_wantsPlaces 17 = .ok (.iaload, 1) := by decide +kernel
theorem dX6_wantsPlaces_18 : decode cX6_wantsPlaces 18 = .ok (.bipush 8, 2) := by decide +kernel
theorem dX6_wantsPlaces_20 : decode cX6_wantsPlaces 20 = .ok (.if_icmp .le 8, 3) := by decide +kernel
theorem dX6_wantsPlaces_23 : decode cX6_wantsPlaces 23 = .ok (.ldc 109, 2) := by decide +kernel
theorem dX6_wantsPlaces_25 : decode cX6_wantsPlaces 25 = .ok (.goto 4, 3) := by decide +kernel
theorem dX6_wantsPlaces_28 : decode cX6_wantsPlaces 28 = .ok (.iconst 0, 1) := by decide +kernel
theorem dX6_wantsPlaces_29 : decode cX6_wantsPlaces 29 = .ok (.istore_n 2, 1) := by decide +kernel
theorem dX6_wantsPlaces_30 : decode cX6_wantsPlaces 30 = .ok (.iconst 0, 1) := by decide +kernel
theorem dX6_wantsPlaces_31 : decode cX6_wantsPlaces 31 = .ok (.istore_n 3, 1) := by decide +kernel
theorem dX6_wantsPlaces_32 : decode cX6_wantsPlaces 32 = .ok (.iload_n 3, 1) := by decide +kernel
theorem dX6_wantsPlaces_33 : decode cX6_wantsPlaces 33 = .ok (.aload_n 0, 1) := by decide +kernel
theorem dX6_wantsPlaces_34 : decode cX6_wantsPlaces 34 = .ok (.getfield 28, 3) := by decide +kernel
theorem dX6_wantsPlaces_37 : decode cX6_wantsPlaces 37 = .ok (.iload_n 1, 1) := by decide +kernel
theorem dX6_wantsPlaces_38 : decode cX6_wantsPlaces 38 = .ok (.iaload, 1) := by decide +kernel
theorem dX6_wantsPlaces_39 : decode cX6_wantsPlaces 39 = .ok (.if_icmp .ge 55, 3) := by decide +kernel
theorem dX6_wantsPlaces_42 : decode cX6_wantsPlaces 42 = .ok (.iload_n 2, 1) := by decide +kernel
theorem dX6_wantsPlaces_43 : decode cX6_wantsPlaces 43 = .ok (.ifCond .ne 51, 3) := by decide +kernel
theorem dX6_wantsPlaces_46 : decode cX6_wantsPlaces 46 = .ok (.iconst 0, 1) := by decide +kernel
theorem dX6_wantsPlaces_47 : decode cX6_wantsPlaces 47 = .ok (.istore 4, 2) := by decide +kernel
theorem dX6_wantsPlaces_49 : decode cX6_wantsPlaces 49 = .ok (.iload 4, 2) := by decide +kernel
theorem dX6_wantsPlaces_51 : decode cX6_wantsPlaces 51 = .ok (.iload_n 3, 1) := by decide +kernel
theorem dX6_wantsPlaces_52 : decode cX6_wantsPlaces 52 = .ok (.if_icmp .ge 36, 3) := by decide +kernel
theorem dX6_wantsPlaces_55 : decode cX6_wantsPlaces 55 = .ok (.aload_n 0, 1) := by decide +kernel
theorem dX6_wantsPlaces_56 : decode cX6_wantsPlaces 56 = .ok (.iload_n 1, 1) := by decide +kernel
theorem dX6_wantsPlaces_57 : decode cX6_wantsPlaces 57 = .ok (.iload_n 3, 1) := by decide +kernel
theorem dX6_wantsPlaces_58 : decode cX6_wantsPlaces 58 = .ok (.iload 4, 2) := by decide +kernel
theorem dX6_wantsPlaces_60 : decode cX6_wantsPlaces 60 = .ok (.invokevirtual 262, 3) := by decide +kernel
theorem dX6_wantsPlaces_63 : decode cX6_wantsPlaces 63 = .ok (.ldc2_w 136, 3) := by decide +kernel
theorem dX6_wantsPlaces_66 : decode cX6_wantsPlaces 66 = .ok (.ldc2_w 78, 3) := by decide +kernel
theorem dX6_wantsPlaces_69 : decode cX6_wantsPlaces 69 = .ok (.invokestatic 42, 3) := by decide +kernel
theorem dX6_wantsPlaces_72 : decode cX6_wantsPlaces 72 = .ok (.ifCond .eq 7, 3) := by decide +kernel
theorem dX6_wantsPlaces_75 : decode cX6_wantsPlaces 75 = .ok (.iload_n 2, 1) := by decide +kernel
theorem dX6_wantsPlaces_76 : decode cX6_wantsPlaces 76 = .ok (.goto 5, 3) := by decide +kernel
theorem dX6_wantsPlaces_79 : decode cX6_wantsPlaces 79 = .ok (.ldc 109, 2) := by decide +kernel
theorem dX6_wantsPlaces_81 : decode cX6_wantsPlaces 81 = .ok (.istore_n 2, 1) := by decide +kernel
theorem dX6_wantsPlaces_82 : decode cX6_wantsPlaces 82 = .ok (.iinc 4 1, 3) := by decide +kernel
theorem dX6_wantsPlaces_85 : decode cX6_wantsPlaces 85 = .ok (.goto (-36), 3) := by decide +kernel
theorem dX6_wantsPlaces_88 : decode cX6_wantsPlaces 88 = .ok (.iinc 3 1, 3) := by decide +kernel
theorem dX6_wantsPlaces_91 : decode cX6_wantsPlaces 91 = .ok (.goto (-59), 3) := by decide +kernel
theorem dX6_wantsPlaces_94 : decode cX6_wantsPlaces 94 = .ok (.iload_n 2, 1) := by decide +kernel
theorem dX6_wantsPlaces_95 : decode cX6_wantsPlaces 95 = .ok (.ireturn, 1) := by decide +kernel
theorem dX6_judge_0 : decode cX6_judge 0 = .ok (.aload_n 0, 1) := by decide +kernel
theorem dX6_judge_1 : decode cX6_judge 1 = .ok (.iload_n 1, 1) := by decide +kernel
theorem dX6_judge_2 : decode cX6_judge 2 = .ok (.invokevirtual 266, 3) := by decide +kernel
theorem dX6_judge_5 : decode cX6_judge 5 = .ok (.istore_n 2, 1) := by decide +kernel
theorem dX6_judge_6 : decode cX6_judge 6 = .ok (.iload_n 2, 1) := by decide +kernel
theorem dX6_judge_7 : decode cX6_judge 7 = .ok (.ifCond .eq 9, 3) := by decide +kernel
theorem dX6_judge_10 : decode cX6_judge 10 = .ok (.aload_n 0, 1) := by decide +kernel
theorem dX6_judge_11 : decode cX6_judge 11 = .ok (.iload_n 2, 1) := by decide +kernel
theorem dX6_judge_12 : decode cX6_judge 12 = .ok (.invokevirtual 47, 3) := by decide +kernel
theorem dX6_judge_15 : decode cX6_judge 15 = .ok (.ireturn, 1) := by decide +kernel
theorem dX6_judge_16 : decode cX6_judge 16 = .ok (.aload_n 0, 1) := by decide +kernel
theorem dX6_judge_17 : decode cX6_judge 17 = .ok (.iconst 0, 1) := by decide +kernel
theorem dX6_judge_18 : decode cX6_judge 18 = .ok (.invokevirtual 96, 3) := by decide +kernel
theorem dX6_judge_21 : decode cX6_judge 21 = .ok (.istore_n 3, 1) := by decide +kernel
theorem dX6_judge_22 : decode cX6_judge 22 = .ok (.iconst 0, 1) := by decide +kernel
theorem dX6_judge_23 : decode cX6_judge 23 = .ok (.istore 4, 2) := by decide +kernel
theorem dX6_judge_25 : decode cX6_judge 25 = .ok (.iconst 0, 1) := by decide +kernel
theorem dX6_judge_26 : decode cX6_judge 26 = .ok (.istore 5, 2) := by decide +kernel
theorem dX6_judge_28 : decode cX6_judge 28 = .ok (.iload 5, 2) := by decide +kernel
theorem dX6_judge_30 : decode cX6_judge 30 = .ok (.aload_n 0, 1) := by decide +kernel
theorem dX6_judge_31 : decode cX6_judge 31 = .ok (.getfield 7, 3) := by decide +kernel
theorem dX6_judge_34 : decode cX6_judge 34 = .ok (.iconst 0, 1) := by decide +kernel
theorem dX6_judge_35 : decode cX6_judge 35 = .ok (.iaload, 1) := by decide +kernel
theorem dX6_judge_36 : decode cX6_judge 36 = .ok (.if_icmp .ge 115, 3) := by decide +kernel
theorem dX6_judge_39 : decode cX6_judge 39 = .ok (.aload_n 0, 1) := by decide +kernel
theorem dX6_judge_40 : decode cX6_judge 40 = .ok (.iload 5, 2) := by decide +kernel
theorem dX6_judge_42 : decode cX6_judge 42 = .ok (.iconst 1, 1) := by decide +kernel
theorem dX6_judge_43 : decode cX6_judge 43 = .ok (.invokevirtual 51, 3) := by decide +kernel
theorem dX6_judge_46 : decode cX6_judge 46 = .ok (.aload_n 0, 1) := by decide +kernel
theorem dX6_judge_47 : decode cX6_judge 47 = .ok (.getfield 28, 3) := by decide +kernel
theorem dX6_judge_50 : decode cX6_judge 50 = .ok (.iload_n 1, 1) := by decide +kernel
theorem dX6_judge_51 : decode cX6_judge 51 = .ok (.iaload, 1) := by decide +kernel
theorem dX6_judge_52 : decode cX6_judge 52 = .ok (.if_icmp .ge 23, 3) := by decide +kernel
theorem dX6_judge_55 : decode cX6_judge 55 = .ok (.aload_n 0, 1) := by decide +kernel
theorem dX6_judge_56 : decode cX6_judge 56 = .ok (.iload 5, 2) := by decide +kernel
theorem dX6_judge_58 : decode cX6_judge 58 = .ok (.iconst 2, 1) := by decide +kernel
theorem dX6_judge_59 : decode cX6_judge 59 = .ok (.invokevirtual 51, 3) := by decide +kernel
theorem dX6_judge_62 : decode cX6_judge 62 = .ok (.aload_n 0, 1) := by decide +kernel
theorem dX6_judge_63 : decode cX6_judge 63 = .ok (.getfield 28, 3) := by decide +kernel
theorem dX6_judge_66 : decode cX6_judge 66 = .ok (.iload_n 1, 1) := by decide +kernel
theorem dX6_judge_67 : decode cX6_judge 67 = .ok (.iaload, 1) := by decide +kernel
theorem dX6_judge_68 : decode cX6_judge 68 = .ok (.if_icmp .ge 7, 3) := by decide +kernel
theorem dX6_judge_71 : decode cX6_judge 71 = .ok (.iconst 1, 1) := by decide +kernel
theorem dX6_judge_72 : decode cX6_judge 72 = .ok (.goto 4, 3) := by decide +kernel
theorem dX6_judge_75 : decode cX6_judge 75 = .ok (.iconst 0, 1) := by decide +kernel
theorem dX6_judge_76 : decode cX6_judge 76 = .ok (.istore 6, 2) := by decide +kernel
theorem dX6_judge_78 : decode cX6_judge 78 = .ok (.iload 4, 2) := by decide +kernel
theorem dX6_judge_80 : decode cX6_judge 80 = .ok (.iload_n 3, 1) := by decide +kernel
theorem dX6_judge_81 : decode cX6_judge 81 = .ok (.iload 5, 2) := by decide +kernel
theorem dX6_judge_83 : decode cX6_judge 83 = .ok (.ishr, 1) := by decide +kernel
theorem dX6_judge_84 : decode cX6_judge 84 = .ok (.iconst 1, 1) := by decide +kernel
theorem dX6_judge_85 : decode cX6_judge 85 = .ok (.iand, 1) := by decide +kernel
theorem dX6_judge_86 : decode cX6_judge 86 = .ok (.iconst 1, 1) := by decide +kernel
theorem dX6_judge_87 : decode cX6_judge 87 = .ok (.if_icmp .ne 54, 3) := by decide +kernel
theorem dX6_judge_90 : decode cX6_judge 90 = .ok (.iload 6, 2) := by decide +kernel
theorem dX6_judge_92 : decode cX6_judge 92 = .ok (.ifCond .eq 49, 3) := by decide +kernel
theorem dX6_judge_95 : decode cX6_judge 95 = .ok (.aload_n 0, 1) := by decide +kernel
theorem dX6_judge_96 : decode cX6_judge 96 = .ok (.iload_n 1, 1) := by decide +kernel
theorem dX6_judge_97 : decode cX6_judge 97 = .ok (.aload_n 0, 1) := by decide +kernel
theorem dX6_judge_98 : decode cX6_judge 98 = .ok (.iload 5, 2) := by decide +kernel
theorem dX6_judge_100 : decode cX6_judge 100 = .ok (.iconst 1, 1) := by decide +kernel
theorem dX6_judge_101 : decode cX6_judge 101 = .ok (.invokevirtual 51, 3) := by decide +kernel
theorem dX6_judge_104 : decode cX6_judge 104 = .ok (.aload_n 0, 1) := by decide +kernel
theorem dX6_judge_105 : decode cX6_judge 105 = .ok (.iload 5, 2) := by decide +kernel
theorem dX6_judge_107 : decode cX6_judge 107 = .ok (.iconst 2, 1) := by decide +kernel
theorem dX6_judge_108 : decode cX6_judge 108 = .ok (.invokevirtual 51, 3) := by decide +kernel
theorem dX6_judge_111 : decode cX6_judge 111 = .ok (.invokevirtual 262, 3) := by decide +kernel
theorem dX6_judge_114 : decode cX6_judge 114 = .ok (.aload_n 0, 1) := by decide +kernel
theorem dX6_judge_115 : decode cX6_judge 115 = .ok (.iload 5, 2) := by decide +kernel
theorem dX6_judge_117 : decode cX6_judge 117 = .ok (.invokevirtual 90, 3) := by decide +kernel
theorem dX6_judge_120 : decode cX6_judge 120 = .ok (.i2l, 1) := by decide +kernel
theorem dX6_judge_121 : decode cX6_judge 121 = .ok (.aload_n 0, 1) := by decide +kernel
theorem dX6_judge_122 : decode cX6_judge 122 = .ok (.iload 5, 2) := by decide +kernel
theorem dX6_judge_124 : decode cX6_judge 124 = .ok (.invokevirtual 93, 3) := by decide +kernel
theorem dX6_judge_127 : decode cX6_judge 127 = .ok (.i2l, 1) := by decide +kernel
theorem dX6_judge_128 : decode cX6_judge 128 = .ok (.invokestatic 42, 3) := by decide +kernel
theorem dX6_judge_131 : decode cX6_judge 131 = .ok (.ifCond .ne 10, 3) := by decide +kernel
theorem dX6_judge_134 : decode cX6_judge 134 = .ok (.iconst 1, 1) := by decide +kernel
theorem dX6_judge_135 : decode cX6_judge 135 = .ok (.iload 5, 2) := by decide +kernel
theorem dX6_judge_137 : decode cX6_judge 137 = .ok (.ishl, 1) := by decide +kernel
theorem dX6_judge_138 : decode cX6_judge 138 = .ok (.goto 4, 3) := by decide +kernel
theorem dX6_judge_141 : decode cX6_judge 141 = .ok (.iconst 0, 1) := by decide +kernel
theorem dX6_judge_142 : decode cX6_judge 142 = .ok (.ior, 1) := by decide +kernel
theorem dX6_judge_143 : decode cX6_judge 143 = .ok (.istore 4, 2) := by decide +kernel
theorem dX6_judge_145 : decode cX6_judge 145 = .ok (.iinc 5 1, 3) := by decide +kernel
theorem dX6_judge_148 : decode cX6_judge 148 = .ok (.goto (-120), 3) := by decide +kernel
theorem dX6_judge_151 : decode cX6_judge 151 = .ok (.iload 4, 2) := by decide +kernel
theorem dX6_judge_153 : decode cX6_judge 153 = .ok (.ireturn, 1) := by decide +kernel
theorem dX6_maps_0 : decode cX6_maps 0 = .ok (.aload_n 0, 1) := by decide +kernel
theorem dX6_maps_1 : decode cX6_maps 1 = .ok (.iload_n 1, 1) := by decide +kernel
theorem dX6_maps_2 : decode cX6_maps 2 = .ok (.invokevirtual 266, 3) := by decide +kernel
theorem dX6_maps_5 : decode cX6_maps 5 = .ok (.istore_n 2, 1) := by decide +kernel
theorem dX6_maps_6 : decode cX6_maps 6 = .ok (.iload_n 2, 1) := by decide +kernel
theorem dX6_maps_7 : decode cX6_maps 7 = .ok (.ifCond .eq 9, 3) := by decide +kernel
theorem dX6_maps_10 : decode cX6_maps 10 = .ok (.aload_n 0, 1) := by decide +kernel
theorem dX6_maps_11 : decode cX6_maps 11 = .ok (.iload_n 2, 1) := by decide +kernel
theorem dX6_maps_12 : decode cX6_maps 12 = .ok (.invokevirtual 47, 3) := by decide +kernel
theorem dX6_maps_15 : decode cX6_maps 15 = .ok (.ireturn, 1) := by decide +kernel
theorem dX6_maps_16 : decode cX6_maps 16 = .ok (.aload_n 0, 1) := by decide +kernel
theorem dX6_maps_17 : decode cX6_maps 17 = .ok (.aload_n 0, 1) := by decide +kernel
theorem dX6_maps_18 : decode cX6_maps 18 = .ok (.iconst 0, 1) := by decide +kernel
theorem dX6_maps_19 : decode cX6_maps 19 = .ok (.invokevirtual 96, 3) := by decide +kernel
theorem dX6_maps_22 : decode cX6_maps 22 = .ok (.invokevirtual 114, 3) := by decide +kernel
theorem dX6_maps_25 : decode cX6_maps 25 = .ok (.iconst 0, 1) := by decide +kernel
theorem dX6_maps_26 : decode cX6_maps 26 = .ok (.istore_n 3, 1) := by decide +kernel
theorem dX6_maps_27 : decode cX6_maps 27 = .ok (.iload_n 3, 1) := by decide +kernel
theorem dX6_maps_28 : decode cX6_maps 28 = .ok (.aload_n 0, 1) := by decide +kernel
theorem dX6_maps_29 : decode cX6_maps 29 = .ok (.getfield 28, 3) := by decide +kernel
theorem dX6_maps_32 : decode cX6_maps 32 = .ok (.iload_n 1, 1) := by decide +kernel
theorem dX6_maps_33 : decode cX6_maps 33 = .ok (.iaload, 1) := by decide +kernel
theorem dX6_maps_34 : decode cX6_maps 34 = .ok (.if_icmp .ge 45, 3) := by decide +kernel
theorem dX6_maps_37 : decode cX6_maps 37 = .ok (.iconst 0, 1) := by decide +kernel
theorem dX6_maps_38 : decode cX6_maps 38 = .ok (.istore 4, 2) := by decide +kernel
theorem dX6_maps_40 : decode cX6_maps 40 = .ok (.iload 4, 2) := by decide +kernel
theorem dX6_maps_42 : decode cX6_maps 42 = .ok (.aload_n 0, 1) := by decide +kernel
theorem dX6_maps_43 : decode cX6_maps 43 = .ok (.getfield 28, 3) := by decide +kernel
theorem dX6_maps_46 : decode cX6_maps 46 = .ok (.iload_n 1, 1) := by decide +kernel
theorem dX6_maps_47 : decode cX6_maps 47 = .ok (.iaload, 1) := by decide +kernel
theorem dX6_maps_48 : decode cX6_maps 48 = .ok (.if_icmp .ge 25, 3) := by decide +kernel
theorem dX6_maps_51 : decode cX6_maps 51 = .ok (.aload_n 0, 1) := by decide +kernel
theorem dX6_maps_52 : decode cX6_maps 52 = .ok (.iload_n 3, 1) := by decide +kernel
theorem dX6_maps_53 : decode cX6_maps 53 = .ok (.iload 4, 2) := by decide +kernel
theorem dX6_maps_55 : decode cX6_maps 55 = .ok (.aload_n 0, 1) := by decide +kernel
theorem dX6_maps_56 : decode cX6_maps 56 = .ok (.iload_n 1, 1) := by decide +kernel
theorem dX6_maps_57 : decode cX6_maps 57 = .ok (.iload_n 3, 1) := by decide +kernel
theorem dX6_maps_58 : decode cX6_maps 58 = .ok (.iload 4, 2) := by decide +kernel
theorem dX6_maps_60 : decode cX6_maps 60 = .ok (.invokevirtual 262, 3) := by decide +kernel
theorem dX6_maps_63 : decode cX6_maps 63 = .ok (.l2i, 1) := by decide +kernel
theorem dX6_maps_64 : decode cX6_maps 64 = .ok (.invokevirtual 110, 3) := by decide +kernel
theorem dX6_maps_67 : decode cX6_maps 67 = .ok (.iinc 4 1, 3) := by decide +kernel
theorem dX6_maps_70 : decode cX6_maps 70 = .ok (.goto (-30), 3) := by decide +kernel
theorem dX6_maps_73 : decode cX6_maps 73 = .ok (.iinc 3 1, 3) := by decide +kernel
theorem dX6_maps_76 : decode cX6_maps 76 = .ok (.goto (-49), 3) := by decide +kernel
theorem dX6_maps_79 : decode cX6_maps 79 = .ok (.aload_n 0, 1) := by decide +kernel
theorem dX6_maps_80 : decode cX6_maps 80 = .ok (.invokevirtual 118, 3) := by decide +kernel
theorem dX6_maps_83 : decode cX6_maps 83 = .ok (.ifCond .eq 7, 3) := by decide +kernel
theorem dX6_maps_86 : decode cX6_maps 86 = .ok (.iconst 1, 1) := by decide +kernel
theorem dX6_maps_87 : decode cX6_maps 87 = .ok (.goto 4, 3) := by decide +kernel
theorem dX6_maps_90 : decode cX6_maps 90 = .ok (.iconst 0, 1) := by decide +kernel
theorem dX6_maps_91 : decode cX6_maps 91 = .ok (.ireturn, 1) := by decide +kernel
theorem dX6_image_0 : decode cX6_image 0 = .ok (.aload_n 0, 1) := by decide +kernel
theorem dX6_image_1 : decode cX6_image 1 = .ok (.getfield 7, 3) := by decide +kernel
theorem dX6_image_4 : decode cX6_image 4 = .ok (.aload_n 0, 1) := by decide +kernel
theorem dX6_image_5 : decode cX6_image 5 = .ok (.getfield 13, 3) := by decide +kernel
theorem dX6_image_8 : decode cX6_image 8 = .ok (.invokestatic 243, 3) := by decide +kernel
theorem dX6_image_11 : decode cX6_image 11 = .ok (.aload_n 0, 1) := by decide +kernel
theorem dX6_image_12 : decode cX6_image 12 = .ok (.iconst 1, 1) := by decide +kernel
theorem dX6_image_13 : decode cX6_image 13 = .ok (.putfield 269, 3) := by decide +kernel
theorem dX6_image_16 : decode cX6_image 16 = .ok (.iconst 1, 1) := by decide +kernel
theorem dX6_image_17 : decode cX6_image 17 = .ok (.ireturn, 1) := by decide +kernel
theorem dX6_undo_0 : decode cX6_undo 0 = .ok (.aload_n 0, 1) := by decide +kernel
theorem dX6_undo_1 : decode cX6_undo 1 = .ok (.getfield 269, 3) := by decide +kernel
theorem dX6_undo_4 : decode cX6_undo 4 = .ok (.ifCond .ne 10, 3) := by decide +kernel
theorem dX6_undo_7 : decode cX6_undo 7 = .ok (.aload_n 0, 1) := by decide +kernel
theorem dX6_undo_8 : decode cX6_undo 8 = .ok (.ldc 46, 2) := by decide +kernel
theorem dX6_undo_10 : decode cX6_undo 10 = .ok (.invokevirtual 47, 3) := by decide +kernel
theorem dX6_undo_13 : decode cX6_undo 13 = .ok (.ireturn, 1) := by decide +kernel
theorem dX6_undo_14 : decode cX6_undo 14 = .ok (.aload_n 0, 1) := by decide +kernel
theorem dX6_undo_15 : decode cX6_undo 15 = .ok (.getfield 13, 3) := by decide +kernel
theorem dX6_undo_18 : decode cX6_undo 18 = .ok (.aload_n 0, 1) := by decide +kernel
theorem dX6_undo_19 : decode cX6_undo 19 = .ok (.getfield 7, 3) := by decide +kernel
theorem dX6_undo_22 : decode cX6_undo 22 = .ok (.invokestatic 243, 3) := by decide +kernel
theorem dX6_undo_25 : decode cX6_undo 25 = .ok (.aload_n 0, 1) := by decide +kernel
theorem dX6_undo_26 : decode cX6_undo 26 = .ok (.getfield 7, 3) := by decide +kernel
theorem dX6_undo_29 : decode cX6_undo 29 = .ok (.iconst 1, 1) := by decide +kernel
theorem dX6_undo_30 : decode cX6_undo 30 = .ok (.iaload, 1) := by decide +kernel
theorem dX6_undo_31 : decode cX6_undo 31 = .ok (.ireturn, 1) := by decide +kernel
theorem dX6_tear_0 : decode cX6_tear 0 = .ok (.aload_n 0, 1) := by decide +kernel
theorem dX6_tear_1 : decode cX6_tear 1 = .ok (.getfield 269, 3) := by decide +kernel
theorem dX6_tear_4 : decode cX6_tear 4 = .ok (.istore_n 1, 1) := by decide +kernel
theorem dX6_tear_5 : decode cX6_tear 5 = .ok (.aload_n 0, 1) := by decide +kernel
theorem dX6_tear_6 : decode cX6_tear 6 = .ok (.iconst 0, 1) := by decide +kernel
theorem dX6_tear_7 : decode cX6_tear 7 = .ok (.putfield 269, 3) := by decide +kernel
theorem dX6_tear_10 : decode cX6_tear 10 = .ok (.iload_n 1, 1) := by decide +kernel
theorem dX6_tear_11 : decode cX6_tear 11 = .ok (.ifCond .eq 7, 3) := by decide +kernel
theorem dX6_tear_14 : decode cX6_tear 14 = .ok (.iconst 1, 1) := by decide +kernel
theorem dX6_tear_15 : decode cX6_tear 15 = .ok (.goto 4, 3) := by decide +kernel
theorem dX6_tear_18 : decode cX6_tear 18 = .ok (.iconst 0, 1) := by decide +kernel
theorem dX6_tear_19 : decode cX6_tear 19 = .ok (.ireturn, 1) := by decide +kernel
theorem dX6_count_0 : decode cX6_count 0 = .ok (.iconst 0, 1) := by decide +kernel
theorem dX6_count_1 : decode cX6_count 1 = .ok (.istore_n 2, 1) := by decide +kernel
theorem dX6_count_2 : decode cX6_count 2 = .ok (.iload_n 1, 1) := by decide +kernel
theorem dX6_count_3 : decode cX6_count 3 = .ok (.tableswitch 153 0 7 #[45, 52, 59, 68, 76, 105, 110, 117], 45) := by decide +kernel
theorem dX6_count_48 : decode cX6_count 48 = .ok (.aload_n 0, 1) := by decide +kernel
theorem dX6_count_49 : decode cX6_count 49 = .ok (.getfield 7, 3) := by decide +kernel
theorem dX6_count_52 : decode cX6_count 52 = .ok (.iconst 1, 1) := by decide +kernel
theorem dX6_count_53 : decode cX6_count 53 = .ok (.iaload, 1) := by decide +kernel
theorem dX6_count_54 : decode cX6_count 54 = .ok (.ireturn, 1) := by decide +kernel
theorem dX6_count_55 : decode cX6_count 55 = .ok (.aload_n 0, 1) := by decide +kernel
theorem dX6_count_56 : decode cX6_count 56 = .ok (.getfield 7, 3) := by decide +kernel
theorem dX6_count_59 : decode cX6_count 59 = .ok (.iconst 0, 1) := by decide +kernel
theorem dX6_count_60 : decode cX6_count 60 = .ok (.iaload, 1) := by decide +kernel
theorem dX6_count_61 : decode cX6_count 61 = .ok (.ireturn, 1) := by decide +kernel
theorem dX6_count_62 : decode cX6_count 62 = .ok (.aload_n 0, 1) := by decide +kernel
theorem dX6_count_63 : decode cX6_count 63 = .ok (.iconst 0, 1) := by decide +kernel
theorem dX6_count_64 : decode cX6_count 64 = .ok (.invokevirtual 96, 3) := by decide +kernel
theorem dX6_count_67 : decode cX6_count 67 = .ok (.invokestatic 147, 3) := by decide +kernel
theorem dX6_count_70 : decode cX6_count 70 = .ok (.ireturn, 1) := by decide +kernel
theorem dX6_count_71 : decode cX6_count 71 = .ok (.aload_n 0, 1) := by decide +kernel
theorem dX6_count_72 : decode cX6_count 72 = .ok (.invokevirtual 61, 3) := by decide +kernel
theorem dX6_count_75 : decode cX6_count 75 = .ok (.invokestatic 147, 3) := by decide +kernel
theorem dX6_count_78 : decode cX6_count 78 = .ok (.ireturn, 1) := by decide +kernel
theorem dX6_count_79 : decode cX6_count 79 = .ok (.iconst 0, 1) := by decide +kernel
theorem dX6_count_80 : decode cX6_count 80 = .ok (.istore_n 3, 1) := by decide +kernel
theorem dX6_count_81 : decode cX6_count 81 = .ok (.iload_n 3, 1) := by decide +kernel
theorem dX6_count_82 : decode cX6_count 82 = .ok (.aload_n 0, 1) := by decide +kernel
theorem dX6_count_83 : decode cX6_count 83 = .ok (.getfield 7, 3) := by decide +kernel
theorem dX6_count_86 : decode cX6_count 86 = .ok (.iconst 0, 1) := by decide +kernel
theorem dX6_count_87 : decode cX6_count 87 = .ok (.iaload, 1) := by decide +kernel
theorem dX6_count_88 : decode cX6_count 88 = .ok (.if_icmp .ge 18, 3) := by decide +kernel
theorem dX6_count_91 : decode cX6_count 91 = .ok (.iload_n 2, 1) := by decide +kernel
theorem dX6_count_92 : decode cX6_count 92 = .ok (.aload_n 0, 1) := by decide +kernel
theorem dX6_count_93 : decode cX6_count 93 = .ok (.iload_n 3, 1) := by decide +kernel
theorem dX6_count_94 : decode cX6_count 94 = .ok (.iconst 3, 1) := by decide +kernel
theorem dX6_count_95 : decode cX6_count 95 = .ok (.invokevirtual 51, 3) := by decide +kernel
theorem dX6_count_98 : decode cX6_count 98 = .ok (.iadd, 1) := by decide +kernel
theorem dX6_count_99 : decode cX6_count 99 = .ok (.istore_n 2, 1) := by decide +kernel
theorem dX6_count_100 : decode cX6_count 100 = .ok (.iinc 3 1, 3) := by decide +kernel
theorem dX6_count_103 : decode cX6_count 103 = .ok (.goto (-22), 3) := by decide +kernel
theorem dX6_count_106 : decode cX6_count 106 = .ok (.iload_n 2, 1) := by decide +kernel
theorem dX6_count_107 : decode cX6_count 107 = .ok (.ireturn, 1) := by decide +kernel
theorem dX6_count_108 : decode cX6_count 108 = .ok (.aload_n 0, 1) := by decide +kernel
theorem dX6_count_109 : decode cX6_count 109 = .ok (.getfield 165, 3) := by decide +kernel
theorem dX6_count_112 : decode cX6_count 112 = .ok (.ireturn, 1) := by decide +kernel
theorem dX6_count_113 : decode cX6_count 113 = .ok (.aload_n 0, 1) := by decide +kernel
theorem dX6_count_114 : decode cX6_count 114 = .ok (.getfield 7, 3) := by decide +kernel
theorem dX6_count_117 : decode cX6_count 117 = .ok (.iconst 4, 1) := by decide +kernel
theorem dX6_count_118 : decode cX6_count 118 = .ok (.iaload, 1) := by decide +kernel
theorem dX6_count_119 : decode cX6_count 119 = .ok (.ireturn, 1) := by decide +kernel
theorem dX6_count_120 : decode cX6_count 120 = .ok (.iconst 0, 1) := by decide +kernel
theorem dX6_count_121 : decode cX6_count 121 = .ok (.istore_n 3, 1) := by decide +kernel
theorem dX6_count_122 : decode cX6_count 122 = .ok (.iload_n 3, 1) := by decide +kernel
theorem dX6_count_123 : decode cX6_count 123 = .ok (.bipush 10, 2) := by decide +kernel
theorem dX6_count_125 : decode cX6_count 125 = .ok (.if_icmp .ge 29, 3) := by decide +kernel
theorem dX6_count_128 : decode cX6_count 128 = .ok (.iload_n 2, 1) := by decide +kernel
theorem dX6_count_129 : decode cX6_count 129 = .ok (.aload_n 0, 1) := by decide +kernel
theorem dX6_count_130 : decode cX6_count 130 = .ok (.getfield 7, 3) := by decide +kernel
theorem dX6_count_133 : decode cX6_count 133 = .ok (.bipush 53, 2) := by decide +kernel
theorem dX6_count_135 : decode cX6_count 135 = .ok (.iload_n 3, 1) := by decide +kernel
theorem dX6_count_136 : decode cX6_count 136 = .ok (.iadd, 1) := by decide +kernel
theorem dX6_count_137 : decode cX6_count 137 = .ok (.iaload, 1) := by decide +kernel
theorem dX6_count_138 : decode cX6_count 138 = .ok (.ifCond .ge 7, 3) := by decide +kernel
theorem dX6_count_141 : decode cX6_count 141 = .ok (.iconst 0, 1) := by decide +kernel
theorem dX6_count_142 : decode cX6_count 142 = .ok (.goto 4, 3) := by decide +kernel
theorem dX6_count_145 : decode cX6_count 145 = .ok (.iconst 1, 1) := by decide +kernel
theorem dX6_count_146 : decode cX6_count 146 = .ok (.iadd, 1) := by decide +kernel
theorem dX6_count_147 : decode cX6_count 147 = .ok (.istore_n 2, 1) := by decide +kernel
theorem dX6_count_148 : decode cX6_count 148 = .ok (.iinc 3 1, 3) := by decide +kernel
theorem dX6_count_151 : decode cX6_count 151 = .ok (.goto (-29), 3) := by decide +kernel
theorem dX6_count_154 : decode cX6_count 154 = .ok (.iload_n 2, 1) := by decide +kernel
theorem dX6_count_155 : decode cX6_count 155 = .ok (.ireturn, 1) := by decide +kernel
theorem dX6_count_156 : decode cX6_count 156 = .ok (.aload_n 0, 1) := by decide +kernel
theorem dX6_count_157 : decode cX6_count 157 = .ok (.ldc 37, 2) := by decide +kernel
theorem dX6_count_159 : decode cX6_count 159 = .ok (.invokevirtual 47, 3) := by decide +kernel
theorem dX6_count_162 : decode cX6_count 162 = .ok (.ireturn, 1) := by decide +kernel
theorem dX6_status_0 : decode cX6_status 0 = .ok (.iload_n 1, 1) := by decide +kernel
theorem dX6_status_1 : decode cX6_status 1 = .ok (.i2l, 1) := by decide +kernel
theorem dX6_status_2 : decode cX6_status 2 = .ok (.ldc2_w 273, 3) := by decide +kernel
theorem dX6_status_5 : decode cX6_status 5 = .ok (.ldc2_w 68, 3) := by decide +kernel
theorem dX6_status_8 : decode cX6_status 8 = .ok (.invokestatic 42, 3) := by decide +kernel
theorem dX6_status_11 : decode cX6_status 11 = .ok (.ifCond .eq 14, 3) := by decide +kernel
theorem dX6_status_14 : decode cX6_status 14 = .ok (.aload_n 0, 1) := by decide +kernel
theorem dX6_status_15 : decode cX6_status 15 = .ok (.getfield 19, 3) := by decide +kernel
theorem dX6_status_18 : decode cX6_status 18 = .ok (.iload_n 1, 1) := by decide +kernel
theorem dX6_status_19 : decode cX6_status 19 = .ok (.iconst 1, 1) := by decide +kernel
theorem dX6_status_20 : decode cX6_status 20 = .ok (.iadd, 1) := by decide +kernel
theorem dX6_status_21 : decode cX6_status 21 = .ok (.iaload, 1) := by decide +kernel
theorem dX6_status_22 : decode cX6_status 22 = .ok (.goto 9, 3) := by decide +kernel
theorem dX6_status_25 : decode cX6_status 25 = .ok (.aload_n 0, 1) := by decide +kernel
theorem dX6_status_26 : decode cX6_status 26 = .ok (.ldc 37, 2) := by decide +kernel
theorem dX6_status_28 : decode cX6_status 28 = .ok (.invokevirtual 47, 3) := by decide +kernel
theorem dX6_status_31 : decode cX6_status 31 = .ok (.ireturn, 1) := by decide +kernel
