theorem dX4_init_0 : decode cX4_init 0 = .ok (.aload_n 0, 1) := by decide +kernel
theorem dX4_init_1 : decode cX4_init 1 = .ok (.invokespecial 1, 3) := by decide +kernel
theorem dX4_init_4 : decode cX4_init 4 = .ok (.aload_n 0, 1) := by decide +kernel
theorem dX4_init_5 : decode cX4_init 5 = .ok (.bipush 66, 2) := by decide +kernel
theorem dX4_init_7 : decode cX4_init 7 = .ok (.newarray .int, 2) := by decide +kernel
theorem dX4_init_9 : decode cX4_init 9 = .ok (.putfield 7, 3) := by decide +kernel
theorem dX4_init_12 : decode cX4_init 12 = .ok (.aload_n 0, 1) := by decide +kernel
theorem dX4_init_13 : decode cX4_init 13 = .ok (.bipush 66, 2) := by decide +kernel
theorem dX4_init_15 : decode cX4_init 15 = .ok (.newarray .int, 2) := by decide +kernel
theorem dX4_init_17 : decode cX4_init 17 = .ok (.putfield 13, 3) := by decide +kernel
theorem dX4_init_20 : decode cX4_init 20 = .ok (.aload_n 0, 1) := by decide +kernel
theorem dX4_init_21 : decode cX4_init 21 = .ok (.bipush 66, 2) := by decide +kernel
theorem dX4_init_23 : decode cX4_init 23 = .ok (.newarray .int, 2) := by decide +kernel
theorem dX4_init_25 : decode cX4_init 25 = .ok (.putfield 16, 3) := by decide +kernel
theorem dX4_init_28 : decode cX4_init 28 = .ok (.aload_n 0, 1) := by decide +kernel
theorem dX4_init_29 : decode cX4_init 29 = .ok (.bipush 66, 2) := by decide +kernel
theorem dX4_init_31 : decode cX4_init 31 = .ok (.newarray .int, 2) := by decide +kernel
theorem dX4_init_33 : decode cX4_init 33 = .ok (.putfield 19, 3) := by decide +kernel
theorem dX4_init_36 : decode cX4_init 36 = .ok (.aload_n 0, 1) := by decide +kernel
theorem dX4_init_37 : decode cX4_init 37 = .ok (.bipush 7, 2) := by decide +kernel
theorem dX4_init_39 : decode cX4_init 39 = .ok (.newarray .int, 2) := by decide +kernel
theorem dX4_init_41 : decode cX4_init 41 = .ok (.putfield 22, 3) := by decide +kernel
theorem dX4_init_44 : decode cX4_init 44 = .ok (.aload_n 0, 1) := by decide +kernel
theorem dX4_init_45 : decode cX4_init 45 = .ok (.bipush 8, 2) := by decide +kernel
theorem dX4_init_47 : decode cX4_init 47 = .ok (.newarray .int, 2) := by decide +kernel
theorem dX4_init_49 : decode cX4_init 49 = .ok (.putfield 25, 3) := by decide +kernel
theorem dX4_init_52 : decode cX4_init 52 = .ok (.aload_n 0, 1) := by decide +kernel
theorem dX4_init_53 : decode cX4_init 53 = .ok (.bipush 120, 2) := by decide +kernel
theorem dX4_init_55 : decode cX4_init 55 = .ok (.newarray .int, 2) := by decide +kernel
theorem dX4_init_57 : decode cX4_init 57 = .ok (.putfield 28, 3) := by decide +kernel
theorem dX4_init_60 : decode cX4_init 60 = .ok (.aload_n 0, 1) := by decide +kernel
theorem dX4_init_61 : decode cX4_init 61 = .ok (.iconst 4, 1) := by decide +kernel
theorem dX4_init_62 : decode cX4_init 62 = .ok (.newarray .int, 2) := by decide +kernel
theorem dX4_init_64 : decode cX4_init 64 = .ok (.putfield 31, 3) := by decide +kernel
theorem dX4_init_67 : decode cX4_init 67 = .ok (.aload_n 0, 1) := by decide +kernel
theorem dX4_init_68 : decode cX4_init 68 = .ok (.iconst 4, 1) := by decide +kernel
theorem dX4_init_69 : decode cX4_init 69 = .ok (.newarray .int, 2) := by decide +kernel
theorem dX4_init_71 : decode cX4_init 71 = .ok (.putfield 34, 3) := by decide +kernel
theorem dX4_init_74 : decode cX4_init 74 = .ok (.aload_n 0, 1) := by decide +kernel
theorem dX4_init_75 : decode cX4_init 75 = .ok (.sipush 160, 3) := by decide +kernel
theorem dX4_init_78 : decode cX4_init 78 = .ok (.newarray .long, 2) := by decide +kernel
theorem dX4_init_80 : decode cX4_init 80 = .ok (.putfield 37, 3) := by decide +kernel
theorem dX4_init_83 : decode cX4_init 83 = .ok (.aload_n 0, 1) := by decide +kernel
theorem dX4_init_84 : decode cX4_init 84 = .ok (.bipush 40, 2) := by decide +kernel
theorem dX4_init_86 : decode cX4_init 86 = .ok (.newarray .long, 2) := by decide +kernel
theorem dX4_init_88 : decode cX4_init 88 = .ok (.putfield 41, 3) := by decide +kernel
theorem dX4_init_91 : decode cX4_init 91 = .ok (.iconst 0, 1) := by decide +kernel
theorem dX4_init_92 : decode cX4_init 92 = .ok (.istore_n 1, 1) := by decide +kernel
theorem dX4_init_93 : decode cX4_init 93 = .ok (.iload_n 1, 1) := by decide +kernel
theorem dX4_init_94 : decode cX4_init 94 = .ok (.bipush 8, 2) := by decide +kernel
theorem dX4_init_96 : decode cX4_init 96 = .ok (.if_icmp .ge 40, 3) := by decide +kernel
theorem dX4_init_99 : decode cX4_init 99 = .ok (.aload_n 0, 1) := by decide +kernel
theorem dX4_init_100 : decode cX4_init 100 = .ok (.getfield 7, 3) := by decide +kernel
theorem dX4_init_103 : decode cX4_init 103 = .ok (.iload_n 1, 1) := by decide +kernel
theorem dX4_init_104 : decode cX4_init 104 = .ok (.iconst 0, 1) := by decide +kernel
theorem dX4_init_105 : decode cX4_init 105 = .ok (.invokestatic 44, 3) := by decide +kernel
theorem dX4_init_108 : decode cX4_init 108 = .ok (.iload_n 1, 1) := by decide +kernel
theorem dX4_init_109 : decode cX4_init 109 = .ok (.ifCond .ne 8, 3) := by decide +kernel
theorem dX4_init_112 : decode cX4_init 112 = .ok (.bipush 15, 2) := by decide +kernel
theorem dX4_init_114 : decode cX4_init 114 = .ok (.goto 4, 3) := by decide +kernel
theorem dX4_init_117 : decode cX4_init 117 = .ok (.iconst 3, 1) := by decide +kernel
theorem dX4_init_118 : decode cX4_init 118 = .ok (.iastore, 1) := by decide +kernel
theorem dX4_init_119 : decode cX4_init 119 = .ok (.aload_n 0, 1) := by decide +kernel
theorem dX4_init_120 : decode cX4_init 120 = .ok (.getfield 7, 3) := by decide +kernel
theorem dX4_init_123 : decode cX4_init 123 = .ok (.iload_n 1, 1) := by decide +kernel
theorem dX4_init_124 : decode cX4_init 124 = .ok (.iconst 1, 1) := by decide +kernel
theorem dX4_init_125 : decode cX4_init 125 = .ok (.invokestatic 44, 3) := by decide +kernel
theorem dX4_init_128 : decode cX4_init 128 = .ok (.iconst 1, 1) := by decide +kernel
theorem dX4_init_129 : decode cX4_init 129 = .ok (.iastore, 1) := by decide +kernel
theorem dX4_init_130 : decode cX4_init 130 = .ok (.iinc 1 1, 3) := by decide +kernel
theorem dX4_init_133 : decode cX4_init 133 = .ok (.goto (-40), 3) := by decide +kernel
theorem dX4_init_136 : decode cX4_init 136 = .ok (.return_, 1) := by decide +kernel
theorem dX4_in_0 : decode cX4_in 0 = .ok (.lload_n 0, 1) := by decide +kernel
theorem dX4_in_1 : decode cX4_in 1 = .ok (.lload_n 2, 1) := by decide +kernel
theorem dX4_in_2 : decode cX4_in 2 = .ok (.lcmp, 1) := by decide +kernel
theorem dX4_in_3 : decode cX4_in 3 = .ok (.ifCond .lt 14, 3) := by decide +kernel
theorem dX4_in_6 : decode cX4_in 6 = .ok (.lload_n 0, 1) := by decide +kernel
theorem dX4_in_7 : decode cX4_in 7 = .ok (.lload 4, 2) := by decide +kernel
theorem dX4_in_9 : decode cX4_in 9 = .ok (.lcmp, 1) := by decide +kernel
theorem dX4_in_10 : decode cX4_in 10 = .ok (.ifCond .gt 7, 3) := by decide +kernel
theorem dX4_in_13 : decode cX4_in 13 = .ok (.iconst 1, 1) := by decide +kernel
theorem dX4_in_14 : decode cX4_in 14 = .ok (.goto 4, 3) := by decide +kernel
theorem dX4_in_17 : decode cX4_in 17 = .ok (.iconst 0, 1) := by decide +kernel
theorem dX4_in_18 : decode cX4_in 18 = .ok (.ireturn, 1) := by decide +kernel
theorem dX4_finds_0 : decode cX4_finds 0 = .ok (.aload_n 0, 1) := by decide +kernel
theorem dX4_finds_1 : decode cX4_finds 1 = .ok (.getfield 22, 3) := by decide +kernel
theorem dX4_finds_4 : decode cX4_finds 4 = .ok (.ldc 48, 2) := by decide +kernel
theorem dX4_finds_6 : decode cX4_finds 6 = .ok (.iload_n 1, 1) := by decide +kernel
theorem dX4_finds_7 : decode cX4_finds 7 = .ok (.isub, 1) := by decide +kernel
theorem dX4_finds_8 : decode cX4_finds 8 = .ok (.dup2, 1) := by decide +kernel
theorem dX4_finds_9 : decode cX4_finds 9 = .ok (.iaload, 1) := by decide +kernel
theorem dX4_finds_10 : decode cX4_finds 10 = .ok (.iconst 1, 1) := by decide +kernel
theorem dX4_finds_11 : decode cX4_finds 11 = .ok (.iadd, 1) := by decide +kernel
theorem dX4_finds_12 : decode cX4_finds 12 = .ok (.iastore, 1) := by decide +kernel
theorem dX4_finds_13 : decode cX4_finds 13 = .ok (.iload_n 1, 1) := by decide +kernel
theorem dX4_finds_14 : decode cX4_finds 14 = .ok (.ireturn, 1) := by decide +kernel
theorem dX4_saves_0 : decode cX4_saves 0 = .ok (.iconst 0, 1) := by decide +kernel
theorem dX4_saves_1 : decode cX4_saves 1 = .ok (.istore_n 1, 1) := by decide +kernel
theorem dX4_saves_2 : decode cX4_saves 2 = .ok (.iload_n 1, 1) := by decide +kernel
theorem dX4_saves_3 : decode cX4_saves 3 = .ok (.bipush 66, 2) := by decide +kernel
theorem dX4_saves_5 : decode cX4_saves 5 = .ok (.if_icmp .ge 21, 3) := by decide +kernel
theorem dX4_saves_8 : decode cX4_saves 8 = .ok (.aload_n 0, 1) := by decide +kernel
theorem dX4_saves_9 : decode cX4_saves 9 = .ok (.getfield 16, 3) := by decide +kernel
theorem dX4_saves_12 : decode cX4_saves 12 = .ok (.iload_n 1, 1) := by decide +kernel
theorem dX4_saves_13 : decode cX4_saves 13 = .ok (.aload_n 0, 1) := by decide +kernel
theorem dX4_saves_14 : decode cX4_saves 14 = .ok (.getfield 7, 3) := by decide +kernel
theorem dX4_saves_17 : decode cX4_saves 17 = .ok (.iload_n 1, 1) := by decide +kernel
theorem dX4_saves_18 : decode cX4_saves 18 = .ok (.iaload, 1) := by decide +kernel
theorem dX4_saves_19 : decode cX4_saves 19 = .ok (.iastore, 1) := by decide +kernel
theorem dX4_saves_20 : decode cX4_saves 20 = .ok (.iinc 1 1, 3) := by decide +kernel
theorem dX4_saves_23 : decode cX4_saves 23 = .ok (.goto (-21), 3) := by decide +kernel
theorem dX4_saves_26 : decode cX4_saves 26 = .ok (.return_, 1) := by decide +kernel
theorem dX4_putsBack_0 : decode cX4_putsBack 0 = .ok (.iconst 0, 1) := by decide +kernel
theorem dX4_putsBack_1 : decode cX4_putsBack 1 = .ok (.istore_n 1, 1) := by decide +kernel
theorem dX4_putsBack_2 : decode cX4_putsBack 2 = .ok (.iload_n 1, 1) := by decide +kernel
theorem dX4_putsBack_3 : decode cX4_putsBack 3 = .ok (.bipush 66, 2) := by decide +kernel
theorem dX4_putsBack_5 : decode cX4_putsBack 5 = .ok (.if_icmp .ge 21, 3) := by decide +kernel
theorem dX4_putsBack_8 : decode cX4_putsBack 8 = .ok (.aload_n 0, 1) := by decide +kernel
theorem dX4_putsBack_9 : decode cX4_putsBack 9 = .ok (.getfield 7, 3) := by decide +kernel
theorem dX4_putsBack_12 : decode cX4_putsBack 12 = .ok (.iload_n 1, 1) := by decide +kernel
theorem dX4_putsBack_13 : decode cX4_putsBack 13 = .ok (.aload_n 0, 1) := by decide +kernel
theorem dX4_putsBack_14 : decode cX4_putsBack 14 = .ok (.getfield 16, 3) := by decide +kernel
theorem dX4_putsBack_17 : decode cX4_putsBack 17 = .ok (.iload_n 1, 1) := by decide +kernel
theorem dX4_putsBack_18 : decode cX4_putsBack 18 = .ok (.iaload, 1) := by decide +kernel
theorem dX4_putsBack_19 : decode cX4_putsBack 19 = .ok (.iastore, 1) := by decide +kernel
theorem dX4_putsBack_20 : decode cX4_putsBack 20 = .ok (.iinc 1 1, 3) := by decide +kernel
theorem dX4_putsBack_23 : decode cX4_putsBack 23 = .ok (.goto (-21), 3) := by decide +kernel
theorem dX4_putsBack_26 : decode cX4_putsBack 26 = .ok (.return_, 1) := by decide +kernel
theorem dX4_laysAside_0 : decode cX4_laysAside 0 = .ok (.iconst 0, 1) := by decide +kernel
theorem dX4_laysAside_1 : decode cX4_laysAside 1 = .ok (.istore_n 1, 1) := by decide +kernel
theorem dX4_laysAside_2 : decode cX4_laysAside 2 = .ok (.iload_n 1, 1) := by decide +kernel
theorem dX4_laysAside_3 : decode cX4_laysAside 3 = .ok (.bipush 66, 2) := by decide +kernel
theorem dX4_laysAside_5 : decode cX4_laysAside 5 = .ok (.if_icmp .ge 21, 3) := by decide +kernel
theorem dX4_laysAside_8 : decode cX4_laysAside 8 = .ok (.aload_n 0, 1) := by decide +kernel
theorem dX4_laysAside_9 : decode cX4_laysAside 9 = .ok (.getfield 19, 3) := by decide +kernel
theorem dX4_laysAside_12 : decode cX4_laysAside 12 = .ok (.iload_n 1, 1) := by decide +kernel
theorem dX4_laysAside_13 : decode cX4_laysAside 13 = .ok (.aload_n 0, 1) := by decide +kernel
theorem dX4_laysAside_14 : decode cX4_laysAside 14 = .ok (.getfield 7, 3) := by decide +kernel
theorem dX4_laysAside_17 : decode cX4_laysAside 17 = .ok (.iload_n 1, 1) := by decide +kernel
theorem dX4_laysAside_18 : decode cX4_laysAside 18 = .ok (.iaload, 1) := by decide +kernel
theorem dX4_laysAside_19 : decode cX4_laysAside 19 = .ok (.iastore, 1) := by decide +kernel
theorem dX4_laysAside_20 : decode cX4_laysAside 20 = .ok (.iinc 1 1, 3) := by decide +kernel
theorem dX4_laysAside_23 : decode cX4_laysAside 23 = .ok (.goto (-21), 3) := by decide +kernel
theorem dX4_laysAside_26 : decode cX4_laysAside 26 = .ok (.return_, 1) := by decide +kernel
theorem dX4_takesBack_0 : decode cX4_takesBack 0 = .ok (.iconst 0, 1) := by decide +kernel
theorem dX4_takesBack_1 : decode cX4_takesBack 1 = .ok (.istore_n 2, 1) := by decide +kernel
theorem dX4_takesBack_2 : decode cX4_takesBack 2 = .ok (.iload_n 2, 1) := by decide +kernel
theorem dX4_takesBack_3 : decode cX4_takesBack 3 = .ok (.bipush 66, 2) := by decide +kernel
theorem dX4_takesBack_5 : decode cX4_takesBack 5 = .ok (.if_icmp .ge 21, 3) := by decide +kernel
theorem dX4_takesBack_8 : decode cX4_takesBack 8 = .ok (.aload_n 0, 1) := by decide +kernel
theorem dX4_takesBack_9 : decode cX4_takesBack 9 = .ok (.getfield 7, 3) := by decide +kernel
theorem dX4_takesBack_12 : decode cX4_takesBack 12 = .ok (.iload_n 2, 1) := by decide +kernel
theorem dX4_takesBack_13 : decode cX4_takesBack 13 = .ok (.aload_n 0, 1) := by decide +kernel
theorem dX4_takesBack_14 : decode cX4_takesBack 14 = .ok (.getfield 19, 3) := by decide +kernel
theorem dX4_takesBack_17 : decode cX4_takesBack 17 = .ok (.iload_n 2, 1) := by decide +kernel
theorem dX4_takesBack_18 : decode cX4_takesBack 18 = .ok (.iaload, 1) := by decide +kernel
theorem dX4_takesBack_19 : decode cX4_takesBack 19 = .ok (.iastore, 1) := by decide +kernel
theorem dX4_takesBack_20 : decode cX4_takesBack 20 = .ok (.iinc 2 1, 3) := by decide +kernel
theorem dX4_takesBack_23 : decode cX4_takesBack 23 = .ok (.goto (-21), 3) := by decide +kernel
theorem dX4_takesBack_26 : decode cX4_takesBack 26 = .ok (.iload_n 1, 1) := by decide +kernel
theorem dX4_takesBack_27 : decode cX4_takesBack 27 = .ok (.ireturn, 1) := by decide +kernel
theorem dX4_becomes_0 : decode cX4_becomes 0 = .ok (.aload_n 0, 1) := by decide +kernel
theorem dX4_becomes_1 : decode cX4_becomes 1 = .ok (.getfield 7, 3) := by decide +kernel
theorem dX4_becomes_4 : decode cX4_becomes 4 = .ok (.iload_n 1, 1) := by decide +kernel
theorem dX4_becomes_5 : decode cX4_becomes 5 = .ok (.iaload, 1) := by decide +kernel
theorem dX4_becomes_6 : decode cX4_becomes 6 = .ok (.istore_n 3, 1) := by decide +kernel
theorem dX4_becomes_7 : decode cX4_becomes 7 = .ok (.aload_n 0, 1) := by decide +kernel
theorem dX4_becomes_8 : decode cX4_becomes 8 = .ok (.getfield 7, 3) := by decide +kernel
theorem dX4_becomes_11 : decode cX4_becomes 11 = .ok (.iload_n 1, 1) := by decide +kernel
theorem dX4_becomes_12 : decode cX4_becomes 12 = .ok (.iload_n 2, 1) := by decide +kernel
theorem dX4_becomes_13 : decode cX4_becomes 13 = .ok (.iastore, 1) := by decide +kernel
theorem dX4_becomes_14 : decode cX4_becomes 14 = .ok (.iload_n 3, 1) := by decide +kernel
theorem dX4_becomes_15 : decode cX4_becomes 15 = .ok (.ireturn, 1) := by decide +kernel
theorem dX4_isChair_0 : decode cX4_isChair 0 = .ok (.iload_n 0, 1) := by decide +kernel
theorem dX4_isChair_1 : decode cX4_isChair 1 = .ok (.i2l, 1) := by decide +kernel
theorem dX4_isChair_2 : decode cX4_isChair 2 = .ok (.lconst 0, 1) := by decide +kernel
theorem dX4_isChair_3 : decode cX4_isChair 3 = .ok (.ldc2_w 49, 3) := by decide +kernel
theorem dX4_isChair_6 : decode cX4_isChair 6 = .ok (.invokestatic 51, 3) := by decide +kernel
theorem dX4_isChair_9 : decode cX4_isChair 9 = .ok (.ireturn, 1) := by decide +kernel
theorem dX4_isPerson_0 : decode cX4_isPerson 0 = .ok (.iload_n 1, 1) := by decide +kernel
theorem dX4_isPerson_1 : decode cX4_isPerson 1 = .ok (.i2l, 1) := by decide +kernel
theorem dX4_isPerson_2 : decode cX4_isPerson 2 = .ok (.lconst 0, 1) := by decide +kernel
theorem dX4_isPerson_3 : decode cX4_isPerson 3 = .ok (.aload_n 0, 1) := by decide +kernel
theorem dX4_isPerson_4 : decode cX4_isPerson 4 = .ok (.getfield 7, 3) := by decide +kernel
theorem dX4_isPerson_7 : decode cX4_isPerson 7 = .ok (.iconst 0, 1) := by decide +kernel
theorem dX4_isPerson_8 : decode cX4_isPerson 8 = .ok (.iaload, 1) := by decide +kernel
theorem dX4_isPerson_9 : decode cX4_isPerson 9 = .ok (.iconst 1, 1) := by decide +kernel
theorem dX4_isPerson_10 : decode cX4_isPerson 10 = .ok (.isub, 1) := by decide +kernel
theorem dX4_isPerson_11 : decode cX4_isPerson 11 = .ok (.i2l, 1) := by decide +kernel
theorem dX4_isPerson_12 : decode cX4_isPerson 12 = .ok (.invokestatic 51, 3) := by decide +kernel
theorem dX4_isPerson_15 : decode cX4_isPerson 15 = .ok (.ireturn, 1) := by decide +kernel
theorem dX4_areTwo_0 : decode cX4_areTwo 0 = .ok (.aload_n 0, 1) := by decide +kernel
theorem dX4_areTwo_1 : decode cX4_areTwo 1 = .ok (.iload_n 1, 1) := by decide +kernel
theorem dX4_areTwo_2 : decode cX4_areTwo 2 = .ok (.invokevirtual 55, 3) := by decide +kernel
theorem dX4_areTwo_5 : decode cX4_areTwo 5 = .ok (.ifCond .eq 20, 3) := by decide +kernel
theorem dX4_areTwo_8 : decode cX4_areTwo 8 = .ok (.aload_n 0, 1) := by decide +kernel
theorem dX4_areTwo_9 : decode cX4_areTwo 9 = .ok (.iload_n 2, 1) := by decide +kernel
theorem dX4_areTwo_10 : decode cX4_areTwo 10 = .ok (.invokevirtual 55, 3) := by decide +kernel
theorem dX4_areTwo_13 : decode cX4_areTwo 13 = .ok (.ifCond .eq 12, 3) := by decide +kernel
theorem dX4_areTwo_16 : decode cX4_areTwo 16 = .ok (.iload_n 1, 1) := by decide +kernel
theorem dX4_areTwo_17 : decode cX4_areTwo 17 = .ok (.iload_n 2, 1) := by decide +kernel
theorem dX4_areTwo_18 : decode cX4_areTwo 18 = .ok (.if_icmp .eq 7, 3) := by decide +kernel
theorem dX4_areTwo_21 : decode cX4_areTwo 21 = .ok (.iconst 1, 1) := by decide +kernel
theorem dX4_areTwo_22 : decode cX4_areTwo 22 = .ok (.goto 4, 3) := by decide +kernel
theorem dX4_areTwo_25 : decode cX4_areTwo 25 = .ok (.iconst 0, 1) := by decide +kernel
theorem dX4_areTwo_26 : decode cX4_areTwo 26 = .ok (.ireturn, 1) := by decide +kernel
theorem dX4_isKind_0 : decode cX4_isKind 0 = .ok (.iload_n 0, 1) := by decide +kernel
theorem dX4_isKind_1 : decode cX4_isKind 1 = .ok (.i2l, 1) := by decide +kernel
theorem dX4_isKind_2 : decode cX4_isKind 2 = .ok (.lconst 0, 1) := by decide +kernel
theorem dX4_isKind_3 : decode cX4_isKind 3 = .ok (.ldc2_w 59, 3) := by decide +kernel
theorem dX4_isKind_6 : decode cX4_isKind 6 = .ok (.invokestatic 51, 3) := by decide +kernel
theorem dX4_isKind_9 : decode cX4_isKind 9 = .ok (.ireturn, 1) := by decide +kernel
theorem dX4_chairAt_0 : decode cX4_chairAt 0 = .ok (.iconst 2, 1) := by decide +kernel
theorem dX4_chairAt_1 : decode cX4_chairAt 1 = .ok (.iconst 2, 1) := by decide +kernel
theorem dX4_chairAt_2 : decode cX4_chairAt 2 = .ok (.iload_n 0, 1) := by decide +kernel
theorem dX4_chairAt_3 : decode cX4_chairAt 3 = .ok (.imul, 1) := by decide +kernel
theorem dX4_chairAt_4 : decode cX4_chairAt 4 = .ok (.iadd, 1) := by decide +kernel
theorem dX4_chairAt_5 : decode cX4_chairAt 5 = .ok (.iload_n 1, 1) := by decide +kernel
theorem dX4_chairAt_6 : decode cX4_chairAt 6 = .ok (.iadd, 1) := by decide +kernel
theorem dX4_chairAt_7 : decode cX4_chairAt 7 = .ok (.ireturn, 1) := by decide +kernel
theorem dX4_spotOf_0 : decode cX4_spotOf 0 = .ok (.bipush 18, 2) := by decide +kernel
theorem dX4_spotOf_2 : decode cX4_spotOf 2 = .ok (.bipush 6, 2) := by decide +kernel
theorem dX4_spotOf_4 : decode cX4_spotOf 4 = .ok (.iload_n 0, 1) := by decide +kernel
theorem dX4_spotOf_5 : decode cX4_spotOf 5 = .ok (.imul, 1) := by decide +kernel
theorem dX4_spotOf_6 : decode cX4_spotOf 6 = .ok (.iadd, 1) := by decide +kernel
theorem dX4_spotOf_7 : decode cX4_spotOf 7 = .ok (.iload_n 1, 1) := by decide +kernel
theorem dX4_spotOf_8 : decode cX4_spotOf 8 = .ok (.iadd, 1) := by decide +kernel
theorem dX4_spotOf_9 : decode cX4_spotOf 9 = .ok (.ireturn, 1) := by decide +kernel
theorem dX4_its_0 : decode cX4_its 0 = .ok (.aload_n 0, 1) := by decide +kernel
theorem dX4_its_1 : decode cX4_its 1 = .ok (.getfield 7, 3) := by decide +kernel
theorem dX4_its_4 : decode cX4_its 4 = .ok (.iload_n 1, 1) := by decide +kernel
theorem dX4_its_5 : decode cX4_its 5 = .ok (.iload_n 2, 1) := by decide +kernel
theorem dX4_its_6 : decode cX4_its 6 = .ok (.invokestatic 61, 3) := by decide +kernel
theorem dX4_its_9 : decode cX4_its 9 = .ok (.iaload, 1) := by decide +kernel
theorem dX4_its_10 : decode cX4_its 10 = .ok (.ireturn, 1) := by decide +kernel
theorem dX4_ones_0 : decode cX4_ones 0 = .ok (.iconst 0, 1) := by decide +kernel
theorem dX4_ones_1 : decode cX4_ones 1 = .ok (.istore_n 1, 1) := by decide +kernel
theorem dX4_ones_2 : decode cX4_ones 2 = .ok (.iload_n 0, 1) := by decide +kernel
theorem dX4_ones_3 : decode cX4_ones 3 = .ok (.istore_n 2, 1) := by decide +kernel
theorem dX4_ones_4 : decode cX4_ones 4 = .ok (.iload_n 2, 1) := by decide +kernel
theorem dX4_ones_5 : decode cX4_ones 5 = .ok (.ifCond .eq 15, 3) := by decide +kernel
theorem dX4_ones_8 : decode cX4_ones 8 = .ok (.iinc 1 1, 3) := by decide +kernel
theorem dX4_ones_11 : decode cX4_ones 11 = .ok (.iload_n 2, 1) := by decide +kernel
theorem dX4_ones_12 : decode cX4_ones 12 = .ok (.iload_n 2, 1) := by decide +kernel
theorem dX4_ones_13 : decode cX4_ones 13 = .ok (.iconst 1, 1) := by decide +kernel
theorem dX4_ones_14 : decode cX4_ones 14 = .ok (.isub, 1) := by decide +kernel
theorem dX4_ones_15 : decode cX4_ones 15 = .ok (.iand, 1) := by decide +kernel
theorem dX4_ones_16 : decode cX4_ones 16 = .ok (.istore_n 2, 1) := by decide +kernel
theorem dX4_ones_17 : decode cX4_ones 17 = .ok (.goto (-13), 3) := by decide +kernel
theorem dX4_ones_20 : decode cX4_ones 20 = .ok (.iload_n 1, 1) := by decide +kernel
theorem dX4_ones_21 : decode cX4_ones 21 = .ok (.ireturn, 1) := by decide +kernel
theorem dX4_whoIn_0 : decode cX4_whoIn 0 = .ok (.iconst 0, 1) := by decide +kernel
theorem dX4_whoIn_1 : decode cX4_whoIn 1 = .ok (.istore_n 2, 1) := by decide +kernel
theorem dX4_whoIn_2 : decode cX4_whoIn 2 = .ok (.iload_n 2, 1) := by decide +kernel
theorem dX4_whoIn_3 : decode cX4_whoIn 3 = .ok (.aload_n 0, 1) := by decide +kernel
theorem dX4_whoIn_4 : decode cX4_whoIn 4 = .ok (.getfield 7, 3) := by decide +kernel
theorem dX4_whoIn_7 : decode cX4_whoIn 7 = .ok (.iconst 0, 1) := by decide +kernel
theorem dX4_whoIn_8 : decode cX4_whoIn 8 = .ok (.iaload, 1) := by decide +kernel
theorem dX4_whoIn_9 : decode cX4_whoIn 9 = .ok (.if_icmp .ge 21, 3) := by decide +kernel
theorem dX4_whoIn_12 : decode cX4_whoIn 12 = .ok (.aload_n 0, 1) := by decide +kernel
theorem dX4_whoIn_13 : decode cX4_whoIn 13 = .ok (.iload_n 2, 1) := by decide +kernel
theorem dX4_whoIn_14 : decode cX4_whoIn 14 = .ok (.iconst 5, 1) := by decide +kernel
theorem dX4_whoIn_15 : decode cX4_whoIn 15 = .ok (.invokevirtual 64, 3) := by decide +kernel
theorem dX4_whoIn_18 : decode cX4_whoIn 18 = .ok (.iload_n 1, 1) := by decide +kernel
theorem dX4_whoIn_19 : decode cX4_whoIn 19 = .ok (.if_icmp .ne 5, 3) := by decide +kernel
theorem dX4_whoIn_22 : decode cX4_whoIn 22 = .ok (.iload_n 2, 1) := by decide +kernel
theorem dX4_whoIn_23 : decode cX4_whoIn 23 = .ok (.ireturn, 1) := by decide +kernel
theorem dX4_whoIn_24 : decode cX4_whoIn 24 = .ok (.iinc 2 1, 3) := by decide +kernel
theorem dX4_whoIn_27 : decode cX4_whoIn 27 = .ok (.goto (-25), 3) := by decide +kernel
theorem dX4_whoIn_30 : decode cX4_whoIn 30 = .ok (.iconst (-1), 1) := by decide +kernel
theorem dX4_whoIn_31 : decode cX4_whoIn 31 = .ok (.ireturn, 1) := by decide +kernel
theorem dX4_chair_0 : decode cX4_chair 0 = .ok (.iload_n 2, 1) := by decide +kernel
theorem dX4_chair_1 : decode cX4_chair 1 = .ok (.ifCond .ne 15, 3) := by decide +kernel
theorem dX4_chair_4 : decode cX4_chair 4 = .ok (.iload_n 3, 1) := by decide +kernel
theorem dX4_chair_5 : decode cX4_chair 5 = .ok (.i2l, 1) := by decide +kernel
theorem dX4_chair_6 : decode cX4_chair 6 = .ok (.lconst 0, 1) := by decide +kernel
theorem dX4_chair_7 : decode cX4_chair 7 = .ok (.ldc2_w 67, 3) := by decide +kernel
theorem dX4_chair_10 : decode cX4_chair 10 = .ok (.invokestatic 51, 3) := by decide +kernel
theorem dX4_chair_13 : decode cX4_chair 13 = .ok (.goto 25, 3) := by decide +kernel
theorem dX4_chair_16 : decode cX4_chair 16 = .ok (.iload_n 2, 1) := by decide +kernel
theorem dX4_chair_17 : decode cX4_chair 17 = .ok (.iconst 1, 1) := by decide +kernel
theorem dX4_chair_18 : decode cX4_chair 18 = .ok (.if_icmp .ne 19, 3) := by decide +kernel
theorem dX4_chair_21 : decode cX4_chair 21 = .ok (.iload_n 3, 1) := by decide +kernel
theorem dX4_chair_22 : decode cX4_chair 22 = .ok (.i2l, 1) := by decide +kernel
theorem dX4_chair_23 : decode cX4_chair 23 = .ok (.lconst 0, 1) := by decide +kernel
theorem dX4_chair_24 : decode cX4_chair 24 = .ok (.ldc2_w 69, 3) := by decide +kernel
theorem dX4_chair_27 : decode cX4_chair 27 = .ok (.invokestatic 51, 3) := by decide +kernel
theorem dX4_chair_30 : decode cX4_chair 30 = .ok (.ifCond .eq 7, 3) := by decide +kernel
theorem dX4_chair_33 : decode cX4_chair 33 = .ok (.iconst 1, 1) := by decide +kernel
theorem dX4_chair_34 : decode cX4_chair 34 = .ok (.goto 4, 3) := by decide +kernel
theorem dX4_chair_37 : decode cX4_chair 37 = .ok (.iconst 0, 1) := by decide +kernel
theorem dX4_chair_38 : decode cX4_chair 38 = .ok (.istore 4, 2) := by decide +kernel
theorem dX4_chair_40 : decode cX4_chair 40 = .ok (.iload_n 1, 1) := by decide +kernel
theorem dX4_chair_41 : decode cX4_chair 41 = .ok (.invokestatic 71, 3) := by decide +kernel
theorem dX4_chair_44 : decode cX4_chair 44 = .ok (.ifCond .eq 21, 3) := by decide +kernel
theorem dX4_chair_47 : decode cX4_chair 47 = .ok (.iload 4, 2) := by decide +kernel
theorem dX4_chair_49 : decode cX4_chair 49 = .ok (.ifCond .eq 16, 3) := by decide +kernel
theorem dX4_chair_52 : decode cX4_chair 52 = .ok (.aload_n 0, 1) := by decide +kernel
theorem dX4_chair_53 : decode cX4_chair 53 = .ok (.iload_n 1, 1) := by decide +kernel
theorem dX4_chair_54 : decode cX4_chair 54 = .ok (.iload_n 2, 1) := by decide +kernel
theorem dX4_chair_55 : decode cX4_chair 55 = .ok (.invokestatic 44, 3) := by decide +kernel
theorem dX4_chair_58 : decode cX4_chair 58 = .ok (.iload_n 3, 1) := by decide +kernel
theorem dX4_chair_59 : decode cX4_chair 59 = .ok (.invokevirtual 74, 3) := by decide +kernel
theorem dX4_chair_62 : decode cX4_chair 62 = .ok (.goto 9, 3) := by decide +kernel
theorem dX4_chair_65 : decode cX4_chair 65 = .ok (.aload_n 0, 1) := by decide +kernel
theorem dX4_chair_66 : decode cX4_chair 66 = .ok (.ldc 48, 2) := by decide +kernel
theorem dX4_chair_68 : decode cX4_chair 68 = .ok (.invokevirtual 77, 3) := by decide +kernel
theorem dX4_chair_71 : decode cX4_chair 71 = .ok (.ireturn, 1) := by decide +kernel
theorem dX4_chairOf_0 : decode cX4_chairOf 0 = .ok (.iload_n 1, 1) := by decide +kernel
theorem dX4_chairOf_1 : decode cX4_chairOf 1 = .ok (.invokestatic 71, 3) := by decide +kernel
theorem dX4_chairOf_4 : decode cX4_chairOf 4 = .ok (.ifCond .eq 15, 3) := by decide +kernel
theorem dX4_chairOf_7 : decode cX4_chairOf 7 = .ok (.iload_n 2, 1) := by decide +kernel
theorem dX4_chairOf_8 : decode cX4_chairOf 8 = .ok (.i2l, 1) := by decide +kernel
theorem dX4_chairOf_9 : decode cX4_chairOf 9 = .ok (.lconst 0, 1) := by decide +kernel
theorem dX4_chairOf_10 : decode cX4_chairOf 10 = .ok (.ldc2_w 81, 3) := by decide +kernel
theorem dX4_chairOf_13 : decode cX4_chairOf 13 = .ok (.invokestatic 51, 3) := by decide +kernel
theorem dX4_chairOf_16 : decode cX4_chairOf 16 = .ok (.ifCond .ne 10, 3) := by decide +kernel
theorem dX4_chairOf_19 : decode cX4_chairOf 19 = .ok (.aload_n 0, 1) := by decide +kernel
theorem dX4_chairOf_20 : decode cX4_chairOf 20 = .ok (.ldc 48, 2) := by decide +kernel
theorem dX4_chairOf_22 : decode cX4_chairOf 22 = .ok (.invokevirtual 77, 3) := by decide +kernel
theorem dX4_chairOf_25 : decode cX4_chairOf 25 = .ok (.ireturn, 1) := by decide +kernel
theorem dX4_chairOf_26 : decode cX4_chairOf 26 = .ok (.iload_n 2, 1) := by decide +kernel
theorem dX4_chairOf_27 : decode cX4_chairOf 27 = .ok (.iconst 2, 1) := by decide +kernel
theorem dX4_chairOf_28 : decode cX4_chairOf 28 = .ok (.if_icmp .ne 11, 3) := by decide +kernel
theorem dX4_chairOf_31 : decode cX4_chairOf 31 = .ok (.aload_n 0, 1) := by decide +kernel
theorem dX4_chairOf_32 : decode cX4_chairOf 32 = .ok (.iload_n 1, 1) := by decide +kernel
theorem dX4_chairOf_33 : decode cX4_chairOf 33 = .ok (.invokevirtual 83, 3) := by decide +kernel
theorem dX4_chairOf_36 : decode cX4_chairOf 36 = .ok (.goto 13, 3) := by decide +kernel
theorem dX4_chairOf_39 : decode cX4_chairOf 39 = .ok (.aload_n 0, 1) := by decide +kernel
theorem dX4_chairOf_40 : decode cX4_chairOf 40 = .ok (.getfield 7, 3) := by decide +kernel
theorem dX4_chairOf_43 : decode cX4_chairOf 43 = .ok (.iload_n 1, 1) := by decide +kernel
theorem dX4_chairOf_44 : decode cX4_chairOf 44 = .ok (.iload_n 2, 1) := by decide +kernel
theorem dX4_chairOf_45 : decode cX4_chairOf 45 = .ok (.invokestatic 44, 3) := by decide +kernel
theorem dX4_chairOf_48 : decode cX4_chairOf 48 = .ok (.iaload, 1) := by decide +kernel
theorem dX4_chairOf_49 : decode cX4_chairOf 49 = .ok (.ireturn, 1) := by decide +kernel
theorem dX4_adds_0 : decode cX4_adds 0 = .ok (.aload_n 0, 1) := by decide +kernel
theorem dX4_adds_1 : decode cX4_adds 1 = .ok (.getfield 7, 3) := by decide +kernel
theorem dX4_adds_4 : decode cX4_adds 4 = .ok (.iconst 0, 1) := by decide +kernel
theorem dX4_adds_5 : decode cX4_adds 5 = .ok (.iaload, 1) := by decide +kernel
theorem dX4_adds_6 : decode cX4_adds 6 = .ok (.istore_n 2, 1) := by decide +kernel
theorem dX4_adds_7 : decode cX4_adds 7 = .ok (.aload_n 0, 1) := by decide +kernel
theorem dX4_adds_8 : decode cX4_adds 8 = .ok (.getfield 7, 3) := by decide +kernel
theorem dX4_adds_11 : decode cX4_adds 11 = .ok (.iload_n 2, 1) := by decide +kernel
theorem dX4_adds_12 : decode cX4_adds 12 = .ok (.iconst 0, 1) := by decide +kernel
theorem dX4_adds_13 : decode cX4_adds 13 = .ok (.invokestatic 61, 3) := by decide +kernel
theorem dX4_adds_16 : decode cX4_adds 16 = .ok (.iload_n 1, 1) := by decide +kernel
theorem dX4_adds_17 : decode cX4_adds 17 = .ok (.iastore, 1) := by decide +kernel
theorem dX4_adds_18 : decode cX4_adds 18 = .ok (.aload_n 0, 1) := by decide +kernel
theorem dX4_adds_19 : decode cX4_adds 19 = .ok (.getfield 7, 3) := by decide +kernel
theorem dX4_adds_22 : decode cX4_adds 22 = .ok (.iload_n 2, 1) := by decide +kernel
theorem dX4_adds_23 : decode cX4_adds 23 = .ok (.iconst 1, 1) := by decide +kernel
theorem dX4_adds_24 : decode cX4_adds 24 = .ok (.invokestatic 61, 3) := by decide +kernel
theorem dX4_adds_27 : decode cX4_adds 27 = .ok (.iconst 0, 1) := by decide +kernel
theorem dX4_adds_28 : decode cX4_adds 28 = .ok (.iastore, 1) := by decide +kernel
theorem dX4_adds_29 : decode cX4_adds 29 = .ok (.aload_n 0, 1) := by decide +kernel
theorem dX4_adds_30 : decode cX4_adds 30 = .ok (.getfield 7, 3) := by decide +kernel
theorem dX4_adds_33 : decode cX4_adds 33 = .ok (.iload_n 2, 1) := by decide +kernel
theorem dX4_adds_34 : decode cX4_adds 34 = .ok (.iconst 2, 1) := by decide +kernel
theorem dX4_adds_35 : decode cX4_adds 35 = .ok (.invokestatic 61, 3) := by decide +kernel
theorem dX4_adds_38 : decode cX4_adds 38 = .ok (.iconst (-1), 1) := by decide +kernel
theorem dX4_adds_39 : decode cX4_adds 39 = .ok (.iastore, 1) := by decide +kernel
theorem dX4_adds_40 : decode cX4_adds 40 = .ok (.aload_n 0, 1) := by decide +kernel
theorem dX4_adds_41 : decode cX4_adds 41 = .ok (.getfield 7, 3) := by decide +kernel
theorem dX4_adds_44 : decode cX4_adds 44 = .ok (.iload_n 2, 1) := by decide +kernel
theorem dX4_adds_45 : decode cX4_adds 45 = .ok (.iconst 3, 1) := by decide +kernel
theorem dX4_adds_46 : decode cX4_adds 46 = .ok (.invokestatic 61, 3) := by decide +kernel
theorem dX4_adds_49 : decode cX4_adds 49 = .ok (.iconst 0, 1) := by decide +kernel
theorem dX4_adds_50 : decode cX4_adds 50 = .ok (.iastore, 1) := by decide +kernel
theorem dX4_adds_51 : decode cX4_adds 51 = .ok (.aload_n 0, 1) := by decide +kernel
theorem dX4_adds_52 : decode cX4_adds 52 = .ok (.getfield 7, 3) := by decide +kernel
theorem dX4_adds_55 : decode cX4_adds 55 = .ok (.iload_n 2, 1) := by decide +kernel
theorem dX4_adds_56 : decode cX4_adds 56 = .ok (.iconst 4, 1) := by decide +kernel
theorem dX4_adds_57 : decode cX4_adds 57 = .ok (.invokestatic 61, 3) := by decide +kernel
theorem dX4_adds_60 : decode cX4_adds 60 = .ok (.iconst 0, 1) := by decide +kernel
theorem dX4_adds_61 : decode cX4_adds 61 = .ok (.iastore, 1) := by decide +kernel
theorem dX4_adds_62 : decode cX4_adds 62 = .ok (.aload_n 0, 1) := by decide +kernel
theorem dX4_adds_63 : decode cX4_adds 63 = .ok (.getfield 7, 3) := by decide +kernel
theorem dX4_adds_66 : decode cX4_adds 66 = .ok (.iload_n 2, 1) := by decide +kernel
theorem dX4_adds_67 : decode cX4_adds 67 = .ok (.iconst 5, 1) := by decide +kernel
theorem dX4_adds_68 : decode cX4_adds 68 = .ok (.invokestatic 61, 3) := by decide +kernel
theorem dX4_adds_71 : decode cX4_adds 71 = .ok (.iconst (-1), 1) := by decide +kernel
theorem dX4_adds_72 : decode cX4_adds 72 = .ok (.iastore, 1) := by decide +kernel
theorem dX4_adds_73 : decode cX4_adds 73 = .ok (.aload_n 0, 1) := by decide +kernel
theorem dX4_adds_74 : decode cX4_adds 74 = .ok (.getfield 7, 3) := by decide +kernel
theorem dX4_adds_77 : decode cX4_adds 77 = .ok (.iconst 0, 1) := by decide +kernel
theorem dX4_adds_78 : decode cX4_adds 78 = .ok (.dup2, 1) := by decide +kernel
theorem dX4_adds_79 : decode cX4_adds 79 = .ok (.iaload, 1) := by decide +kernel
theorem dX4_adds_80 : decode cX4_adds 80 = .ok (.iconst 1, 1) := by decide +kernel
theorem dX4_adds_81 : decode cX4_adds 81 = .ok (.iadd, 1) := by decide +kernel
theorem dX4_adds_82 : decode cX4_adds 82 = .ok (.iastore, 1) := by decide +kernel
theorem dX4_adds_83 : decode cX4_adds 83 = .ok (.iload_n 2, 1) := by decide +kernel
theorem dX4_adds_84 : decode cX4_adds 84 = .ok (.ireturn, 1) := by decide +kernel
theorem dX4_person_0 : decode cX4_person 0 = .ok (.iload_n 1, 1) := by decide +kernel
theorem dX4_person_1 : decode cX4_person 1 = .ok (.invokestatic 86, 3) := by decide +kernel
theorem dX4_person_4 : decode cX4_person 4 = .ok (.ifCond .ne 10, 3) := by decide +kernel
theorem dX4_person_7 : decode cX4_person 7 = .ok (.aload_n 0, 1) := by decide +kernel
theorem dX4_person_8 : decode cX4_person 8 = .ok (.ldc 48, 2) := by decide +kernel
theorem dX4_person_10 : decode cX4_person 10 = .ok (.invokevirtual 77, 3) := by decide +kernel
theorem dX4_person_13 : decode cX4_person 13 = .ok (.ireturn, 1) := by decide +kernel
theorem dX4_person_14 : decode cX4_person 14 = .ok (.aload_n 0, 1) := by decide +kernel
theorem dX4_person_15 : decode cX4_person 15 = .ok (.getfield 7, 3) := by decide +kernel
theorem dX4_person_18 : decode cX4_person 18 = .ok (.iconst 0, 1) := by decide +kernel
theorem dX4_person_19 : decode cX4_person 19 = .ok (.iaload, 1) := by decide +kernel
theorem dX4_person_20 : decode cX4_person 20 = .ok (.bipush 8, 2) := by decide +kernel
theorem dX4_person_22 : decode cX4_person 22 = .ok (.if_icmp .ne 12, 3) := by decide +kernel
theorem dX4_person_25 : decode cX4_person 25 = .ok (.aload_n 0, 1) := by decide +kernel
theorem dX4_person_26 : decode cX4_person 26 = .ok (.ldc 89, 2) := by decide +kernel
theorem dX4_person_28 : decode cX4_person 28 = .ok (.invokevirtual 77, 3) := by decide +kernel
theorem dX4_person_31 : decode cX4_person 31 = .ok (.goto 8, 3) := by decide +kernel
theorem dX4_person_34 : decode cX4_person 34 = .ok (.aload_n 0, 1) := by decide +kernel
theorem dX4_person_35 : decode cX4_person 35 = .ok (.iload_n 1, 1) := by decide +kernel
theorem dX4_person_36 : decode cX4_person 36 = .ok (.invokevirtual 90, 3) := by decide +kernel
theorem dX4_person_39 : decode cX4_person 39 = .ok (.ireturn, 1) := by decide +kernel
theorem dX4_givesUp_0 : decode cX4_givesUp 0 = .ok (.aload_n 0, 1) := by decide +kernel
theorem dX4_givesUp_1 : decode cX4_givesUp 1 = .ok (.iload_n 1, 1) := by decide +kernel
theorem dX4_givesUp_2 : decode cX4_givesUp 2 = .ok (.iconst 0, 1) := by decide +kernel
theorem dX4_givesUp_3 : decode cX4_givesUp 3 = .ok (.invokevirtual 64, 3) := by decide +kernel
theorem dX4_givesUp_6 : decode cX4_givesUp 6 = .ok (.tableswitch 52 1 5 #[34, 52, 47, 49, 47], 34) := by decide +kernel
theorem dX4_givesUp_40 : decode cX4_givesUp 40 = .ok (.bipush 8, 2) := by decide +kernel
theorem dX4_givesUp_42 : decode cX4_givesUp 42 = .ok (.aload_n 0, 1) := by decide +kernel
theorem dX4_givesUp_43 : decode cX4_givesUp 43 = .ok (.iload_n 1, 1) := by decide +kernel
theorem dX4_givesUp_44 : decode cX4_givesUp 44 = .ok (.iconst 1, 1) := by decide +kernel
theorem dX4_givesUp_45 : decode cX4_givesUp 45 = .ok (.invokevirtual 64, 3) := by decide +kernel
theorem dX4_givesUp_48 : decode cX4_givesUp 48 = .ok (.bipush 10, 2) := by decide +kernel
theorem dX4_givesUp_50 : decode cX4_givesUp 50 = .ok (.idiv, 1) := by decide +kernel
theorem dX4_givesUp_51 : decode cX4_givesUp 51 = .ok (.iadd, 1) := by decide +kernel
theorem dX4_givesUp_52 : decode cX4_givesUp 52 = .ok (.ireturn, 1) := by decide +kernel
theorem dX4_givesUp_53 : decode cX4_givesUp 53 = .ok (.iconst 4, 1) := by decide +kernel
theorem dX4_givesUp_54 : decode cX4_givesUp 54 = .ok (.ireturn, 1) := by decide +kernel
theorem dX4_givesUp_55 : decode cX4_givesUp 55 = .ok (.bipush 99, 2) := by decide +kernel
theorem dX4_givesUp_57 : decode cX4_givesUp 57 = .ok (.ireturn, 1) := by decide +kernel
theorem dX4_givesUp_58 : decode cX4_givesUp 58 = .ok (.bipush 8, 2) := by decide +kernel
theorem dX4_givesUp_60 : decode cX4_givesUp 60 = .ok (.ireturn, 1) := by decide +kernel
theorem dX4_of_0 : decode cX4_of 0 = .ok (.aload_n 0, 1) := by decide +kernel
theorem dX4_of_1 : decode cX4_of 1 = .ok (.iload_n 1, 1) := by decide +kernel
theorem dX4_of_2 : decode cX4_of 2 = .ok (.invokevirtual 55, 3) := by decide +kernel
theorem dX4_of_5 : decode cX4_of 5 = .ok (.ifCond .eq 15, 3) := by decide +kernel
theorem dX4_of_8 : decode cX4_of 8 = .ok (.iload_n 2, 1) := by decide +kernel
theorem dX4_of_9 : decode cX4_of 9 = .ok (.i2l, 1) := by decide +kernel
theorem dX4_of_10 : decode cX4_of 10 = .ok (.lconst 0, 1) := by decide +kernel
theorem dX4_of_11 : decode cX4_of 11 = .ok (.ldc2_w 93, 3) := by decide +kernel
theorem dX4_of_14 : decode cX4_of 14 = .ok (.invokestatic 51, 3) := by decide +kernel
theorem dX4_of_17 : decode cX4_of 17 = .ok (.ifCond .ne 10, 3) := by decide +kernel
theorem dX4_of_20 : decode cX4_of 20 = .ok (.aload_n 0, 1) := by decide +kernel
theorem dX4_of_21 : decode cX4_of 21 = .ok (.ldc 48, 2) := by decide +kernel
theorem dX4_of_23 : decode cX4_of 23 = .ok (.invokevirtual 77, 3) := by decide +kernel
theorem dX4_of_26 : decode cX4_of 26 = .ok (.ireturn, 1) := by decide +kernel
theorem dX4_of_27 : decode cX4_of 27 = .ok (.iload_n 2, 1) := by decide +kernel
theorem dX4_of_28 : decode cX4_of 28 = .ok (.iconst 5, 1) := by decide +kernel
theorem dX4_of_29 : decode cX4_of 29 = .ok (.if_icmp .gt 12, 3) := by decide +kernel
theorem dX4_of_32 : decode cX4_of 32 = .ok (.aload_n 0, 1) := by decide +kernel
theorem dX4_of_33 : decode cX4_of 33 = .ok (.iload_n 1, 1) := by decide +kernel
theorem dX4_of_34 : decode cX4_of 34 = .ok (.iload_n 2, 1) := by decide +kernel
theorem dX4_of_35 : decode cX4_of 35 = .ok (.invokevirtual 64, 3) := by decide +kernel
theorem dX4_of_38 : decode cX4_of 38 = .ok (.goto 8, 3) := by decide +kernel
theorem dX4_of_41 : decode cX4_of 41 = .ok (.aload_n 0, 1) := by decide +kernel
theorem dX4_of_42 : decode cX4_of 42 = .ok (.iload_n 1, 1) := by decide +kernel
theorem dX4_of_43 : decode cX4_of 43 = .ok (.invokevirtual 95, 3) := by decide +kernel
theorem dX4_of_46 : decode cX4_of 46 = .ok (.ireturn, 1) := by decide +kernel
theorem dX4_isPart_0 : decode cX4_isPart 0 = .ok (.iload_n 0, 1) := by decide +kernel
theorem dX4_isPart_1 : decode cX4_isPart 1 = .ok (.lookupswitch 49 #[(1, 27), (2, 37)], 27) := by decide +kernel
theorem dX4_isPart_28 : decode cX4_isPart 28 = .ok (.iload_n 1, 1) := by decide +kernel
theorem dX4_isPart_29 : decode cX4_isPart 29 = .ok (.i2l, 1) := by decide +kernel
theorem dX4_isPart_30 : decode cX4_isPart 30 = .ok (.lconst 0, 1) := by decide +kernel
theorem dX4_isPart_31 : decode cX4_isPart 31 = .ok (.ldc2_w 98, 3) := by decide +kernel
theorem dX4_isPart_34 : decode cX4_isPart 34 = .ok (.invokestatic 51, 3) := by decide +kernel
theorem dX4_isPart_37 : decode cX4_isPart 37 = .ok (.ireturn, 1) := by decide +kernel
theorem dX4_isPart_38 : decode cX4_isPart 38 = .ok (.iload_n 1, 1) := by decide +kernel
theorem dX4_isPart_39 : decode cX4_isPart 39 = .ok (.i2l, 1) := by decide +kernel
theorem dX4_isPart_40 : decode cX4_isPart 40 = .ok (.ldc2_w 100, 3) := by decide +kernel
theorem dX4_isPart_43 : decode cX4_isPart 43 = .ok (.ldc2_w 49, 3) := by decide +kernel
theorem dX4_isPart_46 : decode cX4_isPart 46 = .ok (.invokestatic 51, 3) := by decide +kernel
theorem dX4_isPart_49 : decode cX4_isPart 49 = .ok (.ireturn, 1) := by decide +kernel
theorem dX4_isPart_50 : decode cX4_isPart 50 = .ok (.iload_n 0, 1) := by decide +kernel
theorem dX4_isPart_51 : decode cX4_isPart 51 = .ok (.iconst 4, 1) := by decide +kernel
theorem dX4_isPart_52 : decode cX4_isPart 52 = .ok (.if_icmp .ne 19, 3) := by decide +kernel
theorem dX4_isPart_55 : decode cX4_isPart 55 = .ok (.iload_n 1, 1) := by decide +kernel
theorem dX4_isPart_56 : decode cX4_isPart 56 = .ok (.i2l, 1) := by decide +kernel
theorem dX4_isPart_57 : decode cX4_isPart 57 = .ok (.lconst 0, 1) := by decide +kernel
theorem dX4_isPart_58 : decode cX4_isPart 58 = .ok (.ldc2_w 102, 3) := by decide +kernel
theorem dX4_isPart_61 : decode cX4_isPart 61 = .ok (.invokestatic 51, 3) := by decide +kernel
theorem dX4_isPart_64 : decode cX4_isPart 64 = .ok (.ifCond .eq 7, 3) := by decide +kernel
theorem dX4_isPart_67 : decode cX4_isPart 67 = .ok (.iconst 1, 1) := by decide +kernel
theorem dX4_isPart_68 : decode cX4_isPart 68 = .ok (.goto 4, 3) := by decide +kernel
theorem dX4_isPart_71 : decode cX4_isPart 71 = .ok (.iconst 0, 1) := by decide +kernel
theorem dX4_isPart_72 : decode cX4_isPart 72 = .ok (.ireturn, 1) := by decide +kernel
theorem dX4_set_0 : decode cX4_set 0 = .ok (.aload_n 0, 1) := by decide +kernel
theorem dX4_set_1 : decode cX4_set 1 = .ok (.iload_n 1, 1) := by decide +kernel
theorem dX4_set_2 : decode cX4_set 2 = .ok (.invokevirtual 55, 3) := by decide +kernel
theorem dX4_set_5 : decode cX4_set 5 = .ok (.ifCond .eq 24, 3) := by decide +kernel
theorem dX4_set_8 : decode cX4_set 8 = .ok (.iload_n 2, 1) := by decide +kernel
theorem dX4_set_9 : decode cX4_set 9 = .ok (.iload_n 3, 1) := by decide +kernel
theorem dX4_set_10 : decode cX4_set 10 = .ok (.invokestatic 104, 3) := by decide +kernel
theorem dX4_set_13 : decode cX4_set 13 = .ok (.ifCond .eq 16, 3) := by decide +kernel
theorem dX4_set_16 : decode cX4_set 16 = .ok (.aload_n 0, 1) := by decide +kernel
theorem dX4_set_17 : decode cX4_set 17 = .ok (.iload_n 1, 1) := by decide +kernel
theorem dX4_set_18 : decode cX4_set 18 = .ok (.iload_n 2, 1) := by decide +kernel
theorem dX4_set_19 : decode cX4_set 19 = .ok (.invokestatic 61, 3) := by decide +kernel
theorem dX4_set_22 : decode cX4_set 22 = .ok (.iload_n 3, 1) := by decide +kernel
theorem dX4_set_23 : decode cX4_set 23 = .ok (.invokevirtual 74, 3) := by decide +kernel
theorem dX4_set_26 : decode cX4_set 26 = .ok (.goto 9, 3) := by decide +kernel
theorem dX4_set_29 : decode cX4_set 29 = .ok (.aload_n 0, 1) := by decide +kernel
theorem dX4_set_30 : decode cX4_set 30 = .ok (.ldc 48, 2) := by decide +kernel
theorem dX4_set_32 : decode cX4_set 32 = .ok (.invokevirtual 77, 3) := by decide +kernel
theorem dX4_set_35 : decode cX4_set 35 = .ok (.ireturn, 1) := by decide +kernel
theorem dX4_turn_0 : decode cX4_turn 0 = .ok (.aload_n 0, 1) := by decide +kernel
theorem dX4_turn_1 : decode cX4_turn 1 = .ok (.iload_n 1, 1) := by decide +kernel
theorem dX4_turn_2 : decode cX4_turn 2 = .ok (.invokevirtual 55, 3) := by decide +kernel
theorem dX4_turn_5 : decode cX4_turn 5 = .ok (.ifCond .eq 23, 3) := by decide +kernel
theorem dX4_turn_8 : decode cX4_turn 8 = .ok (.iload_n 2, 1) := by decide +kernel
theorem dX4_turn_9 : decode cX4_turn 9 = .ok (.invokestatic 86, 3) := by decide +kernel
theorem dX4_turn_12 : decode cX4_turn 12 = .ok (.ifCond .eq 16, 3) := by decide +kernel
theorem dX4_turn_15 : decode cX4_turn 15 = .ok (.aload_n 0, 1) := by decide +kernel
theorem dX4_turn_16 : decode cX4_turn 16 = .ok (.iload_n 1, 1) := by decide +kernel
theorem dX4_turn_17 : decode cX4_turn 17 = .ok (.iconst 0, 1) := by decide +kernel
theorem dX4_turn_18 : decode cX4_turn 18 = .ok (.invokestatic 61, 3) := by decide +kernel
theorem dX4_turn_21 : decode cX4_turn 21 = .ok (.iload_n 2, 1) := by decide +kernel
theorem dX4_turn_22 : decode cX4_turn 22 = .ok (.invokevirtual 74, 3) := by decide +kernel
theorem dX4_turn_25 : decode cX4_turn 25 = .ok (.goto 9, 3) := by decide +kernel
theorem dX4_turn_28 : decode cX4_turn 28 = .ok (.aload_n 0, 1) := by decide +kernel
theorem dX4_turn_29 : decode cX4_turn 29 = .ok (.ldc 48, 2) := by decide +kernel
theorem dX4_turn_31 : decode cX4_turn 31 = .ok (.invokevirtual 77, 3) := by decide +kernel
theorem dX4_turn_34 : decode cX4_turn 34 = .ok (.ireturn, 1) := by decide +kernel
theorem dX4_isUnder_0 : decode cX4_isUnder 0 = .ok (.iload_n 1, 1) := by decide +kernel
theorem dX4_isUnder_1 : decode cX4_isUnder 1 = .ok (.ifCond .eq 28, 3) := by decide +kernel
theorem dX4_isUnder_4 : decode cX4_isUnder 4 = .ok (.iload_n 0, 1) := by decide +kernel
theorem dX4_isUnder_5 : decode cX4_isUnder 5 = .ok (.iload_n 1, 1) := by decide +kernel
theorem dX4_isUnder_6 : decode cX4_isUnder 6 = .ok (.if_icmp .eq 23, 3) := by decide +kernel
theorem dX4_isUnder_9 : decode cX4_isUnder 9 = .ok (.iload_n 0, 1) := by decide +kernel
theorem dX4_isUnder_10 : decode cX4_isUnder 10 = .ok (.iconst 4, 1) := by decide +kernel
theorem dX4_isUnder_11 : decode cX4_isUnder 11 = .ok (.if_icmp .ne 8, 3) := by decide +kernel
theorem dX4_isUnder_14 : decode cX4_isUnder 14 = .ok (.iload_n 1, 1) := by decide +kernel
theorem dX4_isUnder_15 : decode cX4_isUnder 15 = .ok (.iconst 1, 1) := by decide +kernel
theorem dX4_isUnder_16 : decode cX4_isUnder 16 = .ok (.if_icmp .eq 13, 3) := by decide +kernel
theorem dX4_isUnder_19 : decode cX4_isUnder 19 = .ok (.iload_n 0, 1) := by decide +kernel
theorem dX4_isUnder_20 : decode cX4_isUnder 20 = .ok (.iconst 5, 1) := by decide +kernel
theorem dX4_isUnder_21 : decode cX4_isUnder 21 = .ok (.if_icmp .ne 12, 3) := by decide +kernel
theorem dX4_isUnder_24 : decode cX4_isUnder 24 = .ok (.iload_n 1, 1) := by decide +kernel
theorem dX4_isUnder_25 : decode cX4_isUnder 25 = .ok (.iconst 3, 1) := by decide +kernel
theorem dX4_isUnder_26 : decode cX4_isUnder 26 = .ok (.if_icmp .ne 7, 3) := by decide +kernel
theorem dX4_isUnder_29 : decode cX4_isUnder 29 = .ok (.iconst 1, 1) := by decide +kernel
theorem dX4_isUnder_30 : decode cX4_isUnder 30 = .ok (.goto 4, 3) := by decide +kernel
theorem dX4_isUnder_33 : decode cX4_isUnder 33 = .ok (.iconst 0, 1) := by decide +kernel
theorem dX4_isUnder_34 : decode cX4_isUnder 34 = .ok (.ireturn, 1) := by decide +kernel
theorem dX4_as_0 : decode cX4_as 0 = .ok (.aload_n 0, 1) := by decide +kernel
theorem dX4_as_1 : decode cX4_as 1 = .ok (.iload_n 1, 1) := by decide +kernel
theorem dX4_as_2 : decode cX4_as 2 = .ok (.invokevirtual 55, 3) := by decide +kernel
theorem dX4_as_5 : decode cX4_as 5 = .ok (.ifCond .eq 10, 3) := by decide +kernel
theorem dX4_as_8 : decode cX4_as 8 = .ok (.iload_n 2, 1) := by decide +kernel
theorem dX4_as_9 : decode cX4_as 9 = .ok (.invokestatic 86, 3) := by decide +kernel
theorem dX4_as_12 : decode cX4_as 12 = .ok (.ifCond .ne 10, 3) := by decide +kernel
theorem dX4_as_15 : decode cX4_as 15 = .ok (.aload_n 0, 1) := by decide +kernel
theorem dX4_as_16 : decode cX4_as 16 = .ok (.ldc 48, 2) := by decide +kernel
theorem dX4_as_18 : decode cX4_as 18 = .ok (.invokevirtual 77, 3) := by decide +kernel
theorem dX4_as_21 : decode cX4_as 21 = .ok (.ireturn, 1) := by decide +kernel
theorem dX4_as_22 : decode cX4_as 22 = .ok (.aload_n 0, 1) := by decide +kernel
theorem dX4_as_23 : decode cX4_as 23 = .ok (.iload_n 1, 1) := by decide +kernel
theorem dX4_as_24 : decode cX4_as 24 = .ok (.iconst 0, 1) := by decide +kernel
theorem dX4_as_25 : decode cX4_as 25 = .ok (.invokevirtual 64, 3) := by decide +kernel
theorem dX4_as_28 : decode cX4_as 28 = .ok (.iload_n 2, 1) := by decide +kernel
theorem dX4_as_29 : decode cX4_as 29 = .ok (.invokestatic 108, 3) := by decide +kernel
theorem dX4_as_32 : decode cX4_as 32 = .ok (.ifCond .eq 12, 3) := by decide +kernel
theorem dX4_as_35 : decode cX4_as 35 = .ok (.aload_n 0, 1) := by decide +kernel
theorem dX4_as_36 : decode cX4_as 36 = .ok (.iload_n 1, 1) := by decide +kernel
theorem dX4_as_37 : decode cX4_as 37 = .ok (.iconst 1, 1) := by decide +kernel
theorem dX4_as_38 : decode cX4_as 38 = .ok (.invokevirtual 64, 3) := by decide +kernel
theorem dX4_as_41 : decode cX4_as 41 = .ok (.goto 9, 3) := by decide +kernel
theorem dX4_as_44 : decode cX4_as 44 = .ok (.aload_n 0, 1) := by decide +kernel
theorem dX4_as_45 : decode cX4_as 45 = .ok (.ldc 111, 2) := by decide +kernel
theorem dX4_as_47 : decode cX4_as 47 = .ok (.invokevirtual 77, 3) := by decide +kernel
theorem dX4_as_50 : decode cX4_as 50 = .ok (.ireturn, 1) := by decide +kernel
theorem dX4_isQuarrel_0 : decode cX4_isQuarrel 0 = .ok (.aload_n 0, 1) := by decide +kernel
theorem dX4_isQuarrel_1 : decode cX4_isQuarrel 1 = .ok (.iload_n 1, 1) := by decide +kernel
theorem dX4_isQuarrel_2 : decode cX4_isQuarrel 2 = .ok (.iconst 3, 1) := by decide +kernel
theorem dX4_isQuarrel_3 : decode cX4_isQuarrel 3 = .ok (.invokevirtual 64, 3) := by decide +kernel
theorem dX4_isQuarrel_6 : decode cX4_isQuarrel 6 = .ok (.iload_n 2, 1) := by decide +kernel
theorem dX4_isQuarrel_7 : decode cX4_isQuarrel 7 = .ok (.ishr, 1) := by decide +kernel
theorem dX4_isQuarrel_8 : decode cX4_isQuarrel 8 = .ok (.iconst 1, 1) := by decide +kernel
theorem dX4_isQuarrel_9 : decode cX4_isQuarrel 9 = .ok (.iand, 1) := by decide +kernel
theorem dX4_isQuarrel_10 : decode cX4_isQuarrel 10 = .ok (.iconst 1, 1) := by decide +kernel
theorem dX4_isQuarrel_11 : decode cX4_isQuarrel 11 = .ok (.if_icmp .ne 7, 3) := by decide +kernel
theorem dX4_isQuarrel_14 : decode cX4_isQuarrel 14 = .ok (.iconst 1, 1) := by decide +kernel
theorem dX4_isQuarrel_15 : decode cX4_isQuarrel 15 = .ok (.goto 4, 3) := by decide +kernel
theorem dX4_isQuarrel_18 : decode cX4_isQuarrel 18 = .ok (.iconst 0, 1) := by decide +kernel
theorem dX4_isQuarrel_19 : decode cX4_isQuarrel 19 = .ok (.ireturn, 1) := by decide +kernel
theorem dX4_quarrels_0 : decode cX4_quarrels 0 = .ok (.iload_n 1, 1) := by decide +kernel
theorem dX4_quarrels_1 : decode cX4_quarrels 1 = .ok (.iconst 3, 1) := by decide +kernel
theorem dX4_quarrels_2 : decode cX4_quarrels 2 = .ok (.invokestatic 61, 3) := by decide +kernel
theorem dX4_quarrels_5 : decode cX4_quarrels 5 = .ok (.istore 4, 2) := by decide +kernel
theorem dX4_quarrels_7 : decode cX4_quarrels 7 = .ok (.iload_n 2, 1) := by decide +kernel
theorem dX4_quarrels_8 : decode cX4_quarrels 8 = .ok (.iconst 3, 1) := by decide +kernel
theorem dX4_quarrels_9 : decode cX4_quarrels 9 = .ok (.invokestatic 61, 3) := by decide +kernel
theorem dX4_quarrels_12 : decode cX4_quarrels 12 = .ok (.istore 5, 2) := by decide +kernel
theorem dX4_quarrels_14 : decode cX4_quarrels 14 = .ok (.aload_n 0, 1) := by decide +kernel
theorem dX4_quarrels_15 : decode cX4_quarrels 15 = .ok (.getfield 7, 3) := by decide +kernel
theorem dX4_quarrels_18 : decode cX4_quarrels 18 = .ok (.iload 4, 2) := by decide +kernel
theorem dX4_quarrels_20 : decode cX4_quarrels 20 = .ok (.iload_n 3, 1) := by decide +kernel
theorem dX4_quarrels_21 : decode cX4_quarrels 21 = .ok (.ifCond .eq 17, 3) := by decide +kernel
theorem dX4_quarrels_24 : decode cX4_quarrels 24 = .ok (.aload_n 0, 1) := by decide +kernel
theorem dX4_quarrels_25 : decode cX4_quarrels 25 = .ok (.getfield 7, 3) := by decide +kernel
theorem dX4_quarrels_28 : decode cX4_quarrels 28 = .ok (.iload 4, 2) := by decide +kernel
theorem dX4_quarrels_30 : decode cX4_quarrels 30 = .ok (.iaload, 1) := by decide +kernel
theorem dX4_quarrels_31 : decode cX4_quarrels 31 = .ok (.iconst 1, 1) := by decide +kernel
theorem dX4_quarrels_32 : decode cX4_quarrels 32 = .ok (.iload_n 2, 1) := by decide +kernel
theorem dX4_quarrels_33 : decode cX4_quarrels 33 = .ok (.ishl, 1) := by decide +kernel
theorem dX4_quarrels_34 : decode cX4_quarrels 34 = .ok (.ior, 1) := by decide +kernel
theorem dX4_quarrels_35 : decode cX4_quarrels 35 = .ok (.goto 16, 3) := by decide +kernel
theorem dX4_quarrels_38 : decode cX4_quarrels 38 = .ok (.aload_n 0, 1) := by decide +kernel
theorem dX4_quarrels_39 : decode cX4_quarrels 39 = .ok (.getfield 7, 3) := by decide +kernel
theorem dX4_quarrels_42 : decode cX4_quarrels 42 = .ok (.iload 4, 2) := by decide +kernel
theorem dX4_quarrels_44 : decode cX4_quarrels 44 = .ok (.iaload, 1) := by decide +kernel
theorem dX4_quarrels_45 : decode cX4_quarrels 45 = .ok (.iconst 1, 1) := by decide +kernel
theorem dX4_quarrels_46 : decode cX4_quarrels 46 = .ok (.iload_n 2, 1) := by decide +kernel
theorem dX4_quarrels_47 : decode cX4_quarrels 47 = .ok (.ishl, 1) := by decide +kernel
theorem dX4_quarrels_48 : decode cX4_quarrels 48 = .ok (.iconst (-1), 1) := by decide +kernel
theorem dX4_quarrels_49 : decode cX4_quarrels 49 = .ok (.ixor, 1) := by decide +kernel
theorem dX4_quarrels_50 : decode cX4_quarrels 50 = .ok (.iand, 1) := by decide +kernel
theorem dX4_quarrels_51 : decode cX4_quarrels 51 = .ok (.iastore, 1) := by decide +kernel
theorem dX4_quarrels_52 : decode cX4_quarrels 52 = .ok (.aload_n 0, 1) := by decide +kernel
theorem dX4_quarrels_53 : decode cX4_quarrels 53 = .ok (.getfield 7, 3) := by decide +kernel
theorem dX4_quarrels_56 : decode cX4_quarrels 56 = .ok (.iload 5, 2) := by decide +kernel
theorem dX4_quarrels_58 : decode cX4_quarrels 58 = .ok (.iload_n 3, 1) := by decide +kernel
theorem dX4_quarrels_59 : decode cX4_quarrels 59 = .ok (.ifCond .eq 17, 3) := by decide +kernel
theorem dX4_quarrels_62 : decode cX4_quarrels 62 = .ok (.aload_n 0, 1) := by decide +kernel
theorem dX4_quarrels_63 : decode cX4_quarrels 63 = .ok (.getfield 7, 3) := by decide +kernel
theorem dX4_quarrels_66 : decode cX4_quarrels 66 = .ok (.iload 5, 2) := by decide +kernel
theorem dX4_quarrels_68 : decode cX4_quarrels 68 = .ok (.iaload, 1) := by decide +kernel
theorem dX4_quarrels_69 : decode cX4_quarrels 69 = .ok (.iconst 1, 1) := by decide +kernel
theorem dX4_quarrels_70 : decode cX4_quarrels 70 = .ok (.iload_n 1, 1) := by decide +kernel
theorem dX4_quarrels_71 : decode cX4_quarrels 71 = .ok (.ishl, 1) := by decide +kernel
theorem dX4_quarrels_72 : decode cX4_quarrels 72 = .ok (.ior, 1) := by decide +kernel
theorem dX4_quarrels_73 : decode cX4_quarrels 73 = .ok (.goto 16, 3) := by decide +kernel
theorem dX4_quarrels_76 : decode cX4_quarrels 76 = .ok (.aload_n 0, 1) := by decide +kernel
theorem dX4_quarrels_77 : decode cX4_quarrels 77 = .ok (.getfield 7, 3) := by decide +kernel
theorem dX4_quarrels_80 : decode cX4_quarrels 80 = .ok (.iload 5, 2) := by decide +kernel
theorem dX4_quarrels_82 : decode cX4_quarrels 82 = .ok (.iaload, 1) := by decide +kernel
theorem dX4_quarrels_83 : decode cX4_quarrels 83 = .ok (.iconst 1, 1) := by decide +kernel
theorem dX4_quarrels_84 : decode cX4_quarrels 84 = .ok (.iload_n 1, 1) := by decide +kernel
theorem dX4_quarrels_85 : decode cX4_quarrels 85 = .ok (.ishl, 1) := by decide +kernel
theorem dX4_quarrels_86 : decode cX4_quarrels 86 = .ok (.iconst (-1), 1) := by decide +kernel
theorem dX4_quarrels_87 : decode cX4_quarrels 87 = .ok (.ixor, 1) := by decide +kernel
theorem dX4_quarrels_88 : decode cX4_quarrels 88 = .ok (.iand, 1) := by decide +kernel
theorem dX4_quarrels_89 : decode cX4_quarrels 89 = .ok (.iastore, 1) := by decide +kernel
theorem dX4_quarrels_90 : decode cX4_quarrels 90 = .ok (.return_, 1) := by decide +kernel
theorem dX4_quarrel_0 : decode cX4_quarrel 0 = .ok (.aload_n 0, 1) := by decide +kernel
theorem dX4_quarrel_1 : decode cX4_quarrel 1 = .ok (.iload_n 1, 1) := by decide +kernel
theorem dX4_quarrel_2 : decode cX4_quarrel 2 = .ok (.iload_n 2, 1) := by decide +kernel
theorem dX4_quarrel_3 : decode cX4_quarrel 3 = .ok (.invokevirtual 112, 3) := by decide +kernel
theorem dX4_quarrel_6 : decode cX4_quarrel 6 = .ok (.ifCond .eq 13, 3) := by decide +kernel
theorem dX4_quarrel_9 : decode cX4_quarrel 9 = .ok (.iload_n 3, 1) := by decide +kernel
theorem dX4_quarrel_10 : decode cX4_quarrel 10 = .ok (.i2l, 1) := by decide +kernel
theorem dX4_quarrel_11 : decode cX4_quarrel 11 = .ok (.lconst 0, 1) := by decide +kernel
theorem dX4_quarrel_12 : decode cX4_quarrel 12 = .ok (.lconst 1, 1) := by decide +kernel
theorem dX4_quarrel_13 : decode cX4_quarrel 13 = .ok (.invokestatic 51, 3) := by decide +kernel
theorem dX4_quarrel_16 : decode cX4_quarrel 16 = .ok (.ifCond .ne 10, 3) := by decide +kernel
theorem dX4_quarrel_19 : decode cX4_quarrel 19 = .ok (.aload_n 0, 1) := by decide +kernel
theorem dX4_quarrel_20 : decode cX4_quarrel 20 = .ok (.ldc 48, 2) := by decide +kernel
theorem dX4_quarrel_22 : decode cX4_quarrel 22 = .ok (.invokevirtual 77, 3) := by decide +kernel
theorem dX4_quarrel_25 : decode cX4_quarrel 25 = .ok (.ireturn, 1) := by decide +kernel
theorem dX4_quarrel_26 : decode cX4_quarrel 26 = .ok (.aload_n 0, 1) := by decide +kernel
theorem dX4_quarrel_27 : decode cX4_quarrel 27 = .ok (.iload_n 1, 1) := by decide +kernel
theorem dX4_quarrel_28 : decode cX4_quarrel 28 = .ok (.iload_n 2, 1) := by decide +kernel
theorem dX4_quarrel_29 : decode cX4_quarrel 29 = .ok (.invokevirtual 115, 3) := by decide +kernel
theorem dX4_quarrel_32 : decode cX4_quarrel 32 = .ok (.ifCond .eq 7, 3) := by decide +kernel
theorem dX4_quarrel_35 : decode cX4_quarrel 35 = .ok (.iconst 1, 1) := by decide +kernel
theorem dX4_quarrel_36 : decode cX4_quarrel 36 = .ok (.goto 4, 3) := by decide +kernel
theorem dX4_quarrel_39 : decode cX4_quarrel 39 = .ok (.iconst 0, 1) := by decide +kernel
theorem dX4_quarrel_40 : decode cX4_quarrel 40 = .ok (.istore 4, 2) := by decide +kernel
theorem dX4_quarrel_42 : decode cX4_quarrel 42 = .ok (.aload_n 0, 1) := by decide +kernel
theorem dX4_quarrel_43 : decode cX4_quarrel 43 = .ok (.iload_n 1, 1) := by decide +kernel
theorem dX4_quarrel_44 : decode cX4_quarrel 44 = .ok (.iload_n 2, 1) := by decide +kernel
theorem dX4_quarrel_45 : decode cX4_quarrel 45 = .ok (.iload_n 3, 1) := by decide +kernel
theorem dX4_quarrel_46 : decode cX4_quarrel 46 = .ok (.iconst 1, 1) := by decide +kernel
theorem dX4_quarrel_47 : decode cX4_quarrel 47 = .ok (.if_icmp .ne 7, 3) := by decide +kernel
theorem dX4_quarrel_50 : decode cX4_quarrel 50 = .ok (.iconst 1, 1) := by decide +kernel
theorem dX4_quarrel_51 : decode cX4_quarrel 51 = .ok (.goto 4, 3) := by decide +kernel
theorem dX4_quarrel_54 : decode cX4_quarrel 54 = .ok (.iconst 0, 1) := by decide +kernel
theorem dX4_quarrel_55 : decode cX4_quarrel 55 = .ok (.invokevirtual 118, 3) := by decide +kernel
theorem dX4_quarrel_58 : decode cX4_quarrel 58 = .ok (.iload 4, 2) := by decide +kernel
theorem dX4_quarrel_60 : decode cX4_quarrel 60 = .ok (.ireturn, 1) := by decide +kernel
theorem dX4_sit_0 : decode cX4_sit 0 = .ok (.aload_n 0, 1) := by decide +kernel
theorem dX4_sit_1 : decode cX4_sit 1 = .ok (.iload_n 1, 1) := by decide +kernel
theorem dX4_sit_2 : decode cX4_sit 2 = .ok (.invokevirtual 55, 3) := by decide +kernel
theorem dX4_sit_5 : decode cX4_sit 5 = .ok (.ifCond .eq 17, 3) := by decide +kernel
theorem dX4_sit_8 : decode cX4_sit 8 = .ok (.iload_n 2, 1) := by decide +kernel
theorem dX4_sit_9 : decode cX4_sit 9 = .ok (.i2l, 1) := by decide +kernel
theorem dX4_sit_10 : decode cX4_sit 10 = .ok (.ldc2_w 100, 3) := by decide +kernel
theorem dX4_sit_13 : decode cX4_sit 13 = .ok (.ldc2_w 49, 3) := by decide +kernel
theorem dX4_sit_16 : decode cX4_sit 16 = .ok (.invokestatic 51, 3) := by decide +kernel
theorem dX4_sit_19 : decode cX4_sit 19 = .ok (.ifCond .ne 10, 3) := by decide +kernel
theorem dX4_sit_22 : decode cX4_sit 22 = .ok (.aload_n 0, 1) := by decide +kernel
theorem dX4_sit_23 : decode cX4_sit 23 = .ok (.ldc 48, 2) := by decide +kernel
theorem dX4_sit_25 : decode cX4_sit 25 = .ok (.invokevirtual 77, 3) := by decide +kernel
theorem dX4_sit_28 : decode cX4_sit 28 = .ok (.ireturn, 1) := by decide +kernel
theorem dX4_sit_29 : decode cX4_sit 29 = .ok (.iload_n 2, 1) := by decide +kernel
theorem dX4_sit_30 : decode cX4_sit 30 = .ok (.iconst (-1), 1) := by decide +kernel
theorem dX4_sit_31 : decode cX4_sit 31 = .ok (.if_icmp .ne 7, 3) := by decide +kernel
theorem dX4_sit_34 : decode cX4_sit 34 = .ok (.iconst (-1), 1) := by decide +kernel
theorem dX4_sit_35 : decode cX4_sit 35 = .ok (.goto 8, 3) := by decide +kernel
theorem dX4_sit_38 : decode cX4_sit 38 = .ok (.aload_n 0, 1) := by decide +kernel
theorem dX4_sit_39 : decode cX4_sit 39 = .ok (.iload_n 2, 1) := by decide +kernel
theorem dX4_sit_40 : decode cX4_sit 40 = .ok (.invokevirtual 83, 3) := by decide +kernel
theorem dX4_sit_43 : decode cX4_sit 43 = .ok (.istore_n 3, 1) := by decide +kernel
theorem dX4_sit_44 : decode cX4_sit 44 = .ok (.iload_n 3, 1) := by decide +kernel
theorem dX4_sit_45 : decode cX4_sit 45 = .ok (.iconst (-1), 1) := by decide +kernel
theorem dX4_sit_46 : decode cX4_sit 46 = .ok (.if_icmp .eq 17, 3) := by decide +kernel
theorem dX4_sit_49 : decode cX4_sit 49 = .ok (.iload_n 3, 1) := by decide +kernel
theorem dX4_sit_50 : decode cX4_sit 50 = .ok (.iload_n 1, 1) := by decide +kernel
theorem dX4_sit_51 : decode cX4_sit 51 = .ok (.if_icmp .eq 12, 3) := by decide +kernel
theorem dX4_sit_54 : decode cX4_sit 54 = .ok (.aload_n 0, 1) := by decide +kernel
theorem dX4_sit_55 : decode cX4_sit 55 = .ok (.ldc 122, 2) := by decide +kernel
theorem dX4_sit_57 : decode cX4_sit 57 = .ok (.invokevirtual 77, 3) := by decide +kernel
theorem dX4_sit_60 : decode cX4_sit 60 = .ok (.goto 13, 3) := by decide +kernel
theorem dX4_sit_63 : decode cX4_sit 63 = .ok (.aload_n 0, 1) := by decide +kernel
theorem dX4_sit_64 : decode cX4_sit 64 = .ok (.iload_n 1, 1) := by decide +kernel
theorem dX4_sit_65 : decode cX4_sit 65 = .ok (.iconst 5, 1) := by decide +kernel
theorem dX4_sit_66 : decode cX4_sit 66 = .ok (.invokestatic 61, 3) := by decide +kernel
theorem dX4_sit_69 : decode cX4_sit 69 = .ok (.iload_n 2, 1) := by decide +kernel
theorem dX4_sit_70 : decode cX4_sit 70 = .ok (.invokevirtual 74, 3) := by decide +kernel
theorem dX4_sit_73 : decode cX4_sit 73 = .ok (.ireturn, 1) := by decide +kernel
theorem dX4_changes_0 : decode cX4_changes 0 = .ok (.aload_n 0, 1) := by decide +kernel
theorem dX4_changes_1 : decode cX4_changes 1 = .ok (.iload_n 1, 1) := by decide +kernel
theorem dX4_changes_2 : decode cX4_changes 2 = .ok (.iconst 5, 1) := by decide +kernel
theorem dX4_changes_3 : decode cX4_changes 3 = .ok (.invokestatic 61, 3) := by decide +kernel
theorem dX4_changes_6 : decode cX4_changes 6 = .ok (.aload_n 0, 1) := by decide +kernel
theorem dX4_changes_7 : decode cX4_changes 7 = .ok (.iload_n 2, 1) := by decide +kernel
theorem dX4_changes_8 : decode cX4_changes 8 = .ok (.iconst 5, 1) := by decide +kernel
theorem dX4_changes_9 : decode cX4_changes 9 = .ok (.invokevirtual 64, 3) := by decide +kernel
theorem dX4_changes_12 : decode cX4_changes 12 = .ok (.invokevirtual 74, 3) := by decide +kernel
theorem dX4_changes_15 : decode cX4_changes 15 = .ok (.istore_n 3, 1) := by decide +kernel
theorem dX4_changes_16 : decode cX4_changes 16 = .ok (.aload_n 0, 1) := by decide +kernel
theorem dX4_changes_17 : decode cX4_changes 17 = .ok (.getfield 7, 3) := by decide +kernel
theorem dX4_changes_20 : decode cX4_changes 20 = .ok (.iload_n 2, 1) := by decide +kernel
theorem dX4_changes_21 : decode cX4_changes 21 = .ok (.iconst 5, 1) := by decide +kernel
theorem dX4_changes_22 : decode cX4_changes 22 = .ok (.invokestatic 61, 3) := by decide +kernel
theorem dX4_changes_25 : decode cX4_changes 25 = .ok (.iload_n 3, 1) := by decide +kernel
theorem dX4_changes_26 : decode cX4_changes 26 = .ok (.iastore, 1) := by decide +kernel
theorem dX4_changes_27 : decode cX4_changes 27 = .ok (.return_, 1) := by decide +kernel
theorem dX4_change_0 : decode cX4_change 0 = .ok (.aload_n 0, 1) := by decide +kernel
theorem dX4_change_1 : decode cX4_change 1 = .ok (.iload_n 1, 1) := by decide +kernel
theorem dX4_change_2 : decode cX4_change 2 = .ok (.iload_n 2, 1) := by decide +kernel
theorem dX4_change_3 : decode cX4_change 3 = .ok (.invokevirtual 112, 3) := by decide +kernel
theorem dX4_change_6 : decode cX4_change 6 = .ok (.ifCond .ne 10, 3) := by decide +kernel
theorem dX4_change_9 : decode cX4_change 9 = .ok (.aload_n 0, 1) := by decide +kernel
theorem dX4_change_10 : decode cX4_change 10 = .ok (.ldc 48, 2) := by decide +kernel
theorem dX4_change_12 : decode cX4_change 12 = .ok (.invokevirtual 77, 3) := by decide +kernel
theorem dX4_change_15 : decode cX4_change 15 = .ok (.ireturn, 1) := by decide +kernel
theorem dX4_change_16 : decode cX4_change 16 = .ok (.aload_n 0, 1) := by decide +kernel
theorem dX4_change_17 : decode cX4_change 17 = .ok (.iload_n 1, 1) := by decide +kernel
theorem dX4_change_18 : decode cX4_change 18 = .ok (.iload_n 2, 1) := by decide +kernel
theorem dX4_change_19 : decode cX4_change 19 = .ok (.invokevirtual 123, 3) := by decide +kernel
theorem dX4_change_22 : decode cX4_change 22 = .ok (.iconst 1, 1) := by decide +kernel
theorem dX4_change_23 : decode cX4_change 23 = .ok (.ireturn, 1) := by decide +kernel
theorem dX4_hourNow_0 : decode cX4_hourNow 0 = .ok (.aload_n 0, 1) := by decide +kernel
theorem dX4_hourNow_1 : decode cX4_hourNow 1 = .ok (.getfield 7, 3) := by decide +kernel
theorem dX4_hourNow_4 : decode cX4_hourNow 4 = .ok (.iconst 1, 1) := by decide +kernel
theorem dX4_hourNow_5 : decode cX4_hourNow 5 = .ok (.iaload, 1) := by decide +kernel
theorem dX4_hourNow_6 : decode cX4_hourNow 6 = .ok (.bipush 24, 2) := by decide +kernel
theorem dX4_hourNow_8 : decode cX4_hourNow 8 = .ok (.irem, 1) := by decide +kernel
theorem dX4_hourNow_9 : decode cX4_hourNow 9 = .ok (.ireturn, 1) := by decide +kernel
theorem dX4_isSunny_0 : decode cX4_isSunny 0 = .ok (.aload_n 0, 1) := by decide +kernel
theorem dX4_isSunny_1 : decode cX4_isSunny 1 = .ok (.invokevirtual 127, 3) := by decide +kernel
theorem dX4_isSunny_4 : decode cX4_isSunny 4 = .ok (.bipush 10, 2) := by decide +kernel
theorem dX4_isSunny_6 : decode cX4_isSunny 6 = .ok (.if_icmp .lt 16, 3) := by decide +kernel
theorem dX4_isSunny_9 : decode cX4_isSunny 9 = .ok (.aload_n 0, 1) := by decide +kernel
theorem dX4_isSunny_10 : decode cX4_isSunny 10 = .ok (.invokevirtual 127, 3) := by decide +kernel
theorem dX4_isSunny_13 : decode cX4_isSunny 13 = .ok (.bipush 14, 2) := by decide +kernel
theorem dX4_isSunny_15 : decode cX4_isSunny 15 = .ok (.if_icmp .gt 7, 3) := by decide +kernel
theorem dX4_isSunny_18 : decode cX4_isSunny 18 = .ok (.iconst 1, 1) := by decide +kernel
theorem dX4_isSunny_19 : decode cX4_isSunny 19 = .ok (.goto 4, 3) := by decide +kernel
theorem dX4_isSunny_22 : decode cX4_isSunny 22 = .ok (.iconst 0, 1) := by decide +kernel
theorem dX4_isSunny_23 : decode cX4_isSunny 23 = .ok (.ireturn, 1) := by decide +kernel
theorem dX4_likes_0 : decode cX4_likes 0 = .ok (.aload_n 0, 1) := by decide +kernel
theorem dX4_likes_1 : decode cX4_likes 1 = .ok (.getfield 7, 3) := by decide +kernel
theorem dX4_likes_4 : decode cX4_likes 4 = .ok (.iload_n 2, 1) := by decide +kernel
theorem dX4_likes_5 : decode cX4_likes 5 = .ok (.iconst 0, 1) := by decide +kernel
theorem dX4_likes_6 : decode cX4_likes 6 = .ok (.invokestatic 44, 3) := by decide +kernel
theorem dX4_likes_9 : decode cX4_likes 9 = .ok (.iaload, 1) := by decide +kernel
theorem dX4_likes_10 : decode cX4_likes 10 = .ok (.istore_n 3, 1) := by decide +kernel
theorem dX4_likes_11 : decode cX4_likes 11 = .ok (.aload_n 0, 1) := by decide +kernel
theorem dX4_likes_12 : decode cX4_likes 12 = .ok (.getfield 7, 3) := by decide +kernel
theorem dX4_likes_15 : decode cX4_likes 15 = .ok (.iload_n 2, 1) := by decide +kernel
theorem dX4_likes_16 : decode cX4_likes 16 = .ok (.iconst 1, 1) := by decide +kernel
theorem dX4_likes_17 : decode cX4_likes 17 = .ok (.invokestatic 44, 3) := by decide +kernel
theorem dX4_likes_20 : decode cX4_likes 20 = .ok (.iaload, 1) := by decide +kernel
theorem dX4_likes_21 : decode cX4_likes 21 = .ok (.istore 4, 2) := by decide +kernel
theorem dX4_likes_23 : decode cX4_likes 23 = .ok (.aload_n 0, 1) := by decide +kernel
theorem dX4_likes_24 : decode cX4_likes 24 = .ok (.invokevirtual 131, 3) := by decide +kernel
theorem dX4_likes_27 : decode cX4_likes 27 = .ok (.ifCond .eq 18, 3) := by decide +kernel
theorem dX4_likes_30 : decode cX4_likes 30 = .ok (.iload_n 3, 1) := by decide +kernel
theorem dX4_likes_31 : decode cX4_likes 31 = .ok (.bipush 10, 2) := by decide +kernel
theorem dX4_likes_33 : decode cX4_likes 33 = .ok (.if_icmp .le 12, 3) := by decide +kernel
theorem dX4_likes_36 : decode cX4_likes 36 = .ok (.iload_n 3, 1) := by decide +kernel
theorem dX4_likes_37 : decode cX4_likes 37 = .ok (.iload 4, 2) := by decide +kernel
theorem dX4_likes_39 : decode cX4_likes 39 = .ok (.isub, 1) := by decide +kernel
theorem dX4_likes_40 : decode cX4_likes 40 = .ok (.iconst 4, 1) := by decide +kernel
theorem dX4_likes_41 : decode cX4_likes 41 = .ok (.isub, 1) := by decide +kernel
theorem dX4_likes_42 : decode cX4_likes 42 = .ok (.goto 7, 3) := by decide +kernel
theorem dX4_likes_45 : decode cX4_likes 45 = .ok (.iload_n 3, 1) := by decide +kernel
theorem dX4_likes_46 : decode cX4_likes 46 = .ok (.iload 4, 2) := by decide +kernel
theorem dX4_likes_48 : decode cX4_likes 48 = .ok (.isub, 1) := by decide +kernel
theorem dX4_likes_49 : decode cX4_likes 49 = .ok (.istore 5, 2) := by decide +kernel
theorem dX4_likes_51 : decode cX4_likes 51 = .ok (.iload_n 3, 1) := by decide +kernel
theorem dX4_likes_52 : decode cX4_likes 52 = .ok (.iconst 2, 1) := by decide +kernel
theorem dX4_likes_53 : decode cX4_likes 53 = .ok (.idiv, 1) := by decide +kernel
theorem dX4_likes_54 : decode cX4_likes 54 = .ok (.iconst 2, 1) := by decide +kernel
theorem dX4_likes_55 : decode cX4_likes 55 = .ok (.iload 4, 2) := by decide +kernel
theorem dX4_likes_57 : decode cX4_likes 57 = .ok (.imul, 1) := by decide +kernel
theorem dX4_likes_58 : decode cX4_likes 58 = .ok (.isub, 1) := by decide +kernel
theorem dX4_likes_59 : decode cX4_likes 59 = .ok (.istore 6, 2) := by decide +kernel
theorem dX4_likes_61 : decode cX4_likes 61 = .ok (.aload_n 0, 1) := by decide +kernel
theorem dX4_likes_62 : decode cX4_likes 62 = .ok (.iload_n 1, 1) := by decide +kernel
theorem dX4_likes_63 : decode cX4_likes 63 = .ok (.iconst 2, 1) := by decide +kernel
theorem dX4_likes_64 : decode cX4_likes 64 = .ok (.invokevirtual 64, 3) := by decide +kernel
theorem dX4_likes_67 : decode cX4_likes 67 = .ok (.iload_n 2, 1) := by decide +kernel
theorem dX4_likes_68 : decode cX4_likes 68 = .ok (.if_icmp .ne 7, 3) := by decide +kernel
theorem dX4_likes_71 : decode cX4_likes 71 = .ok (.iconst 1, 1) := by decide +kernel
theorem dX4_likes_72 : decode cX4_likes 72 = .ok (.goto 4, 3) := by decide +kernel
theorem dX4_likes_75 : decode cX4_likes 75 = .ok (.iconst 0, 1) := by decide +kernel
theorem dX4_likes_76 : decode cX4_likes 76 = .ok (.istore 7, 2) := by decide +kernel
theorem dX4_likes_78 : decode cX4_likes 78 = .ok (.iload 7, 2) := by decide +kernel
theorem dX4_likes_80 : decode cX4_likes 80 = .ok (.ifCond .eq 17, 3) := by decide +kernel
theorem dX4_likes_83 : decode cX4_likes 83 = .ok (.iload 5, 2) := by decide +kernel
theorem dX4_likes_85 : decode cX4_likes 85 = .ok (.aload_n 0, 1) := by decide +kernel
theorem dX4_likes_86 : decode cX4_likes 86 = .ok (.iload_n 1, 1) := by decide +kernel
theorem dX4_likes_87 : decode cX4_likes 87 = .ok (.iconst 1, 1) := by decide +kernel
theorem dX4_likes_88 : decode cX4_likes 88 = .ok (.invokevirtual 64, 3) := by decide +kernel
theorem dX4_likes_91 : decode cX4_likes 91 = .ok (.iconst 4, 1) := by decide +kernel
theorem dX4_likes_92 : decode cX4_likes 92 = .ok (.idiv, 1) := by decide +kernel
theorem dX4_likes_93 : decode cX4_likes 93 = .ok (.iadd, 1) := by decide +kernel
theorem dX4_likes_94 : decode cX4_likes 94 = .ok (.goto 5, 3) := by decide +kernel
theorem dX4_likes_97 : decode cX4_likes 97 = .ok (.iload 5, 2) := by decide +kernel
theorem dX4_likes_99 : decode cX4_likes 99 = .ok (.istore 8, 2) := by decide +kernel
theorem dX4_likes_101 : decode cX4_likes 101 = .ok (.aload_n 0, 1) := by decide +kernel
theorem dX4_likes_102 : decode cX4_likes 102 = .ok (.iload_n 1, 1) := by decide +kernel
theorem dX4_likes_103 : decode cX4_likes 103 = .ok (.iconst 0, 1) := by decide +kernel
theorem dX4_likes_104 : decode cX4_likes 104 = .ok (.invokevirtual 64, 3) := by decide +kernel
theorem dX4_likes_107 : decode cX4_likes 107 = .ok (.tableswitch 77 1 5 #[33, 36, 41, 44, 60], 33) := by decide +kernel
theorem dX4_likes_140 : decode cX4_likes 140 = .ok (.iload 8, 2) := by decide +kernel
theorem dX4_likes_142 : decode cX4_likes 142 = .ok (.ireturn, 1) := by decide +kernel
theorem dX4_likes_143 : decode cX4_likes 143 = .ok (.iload 5, 2) := by decide +kernel
theorem dX4_likes_145 : decode cX4_likes 145 = .ok (.iconst 3, 1) := by decide +kernel
theorem dX4_likes_146 : decode cX4_likes 146 = .ok (.iadd, 1) := by decide +kernel
theorem dX4_likes_147 : decode cX4_likes 147 = .ok (.ireturn, 1) := by decide +kernel
theorem dX4_likes_148 : decode cX4_likes 148 = .ok (.iload 6, 2) := by decide +kernel
theorem dX4_likes_150 : decode cX4_likes 150 = .ok (.ireturn, 1) := by decide +kernel
theorem dX4_likes_151 : decode cX4_likes 151 = .ok (.iload 7, 2) := by decide +kernel
theorem dX4_likes_153 : decode cX4_likes 153 = .ok (.ifCond .eq 11, 3) := by decide +kernel
theorem dX4_likes_156 : decode cX4_likes 156 = .ok (.iload 8, 2) := by decide +kernel
theorem dX4_likes_158 : decode cX4_likes 158 = .ok (.bipush 10, 2) := by decide +kernel
theorem dX4_likes_160 : decode cX4_likes 160 = .ok (.iadd, 1) := by decide +kernel
theorem dX4_likes_161 : decode cX4_likes 161 = .ok (.goto 5, 3) := by decide +kernel
theorem dX4_likes_164 : decode cX4_likes 164 = .ok (.iload 8, 2) := by decide +kernel
theorem dX4_likes_166 : decode cX4_likes 166 = .ok (.ireturn, 1) := by decide +kernel
theorem dX4_likes_167 : decode cX4_likes 167 = .ok (.iload_n 2, 1) := by decide +kernel
theorem dX4_likes_168 : decode cX4_likes 168 = .ok (.bipush 7, 2) := by decide +kernel
theorem dX4_likes_170 : decode cX4_likes 170 = .ok (.if_icmp .ne 11, 3) := by decide +kernel
theorem dX4_likes_173 : decode cX4_likes 173 = .ok (.iload 6, 2) := by decide +kernel
theorem dX4_likes_175 : decode cX4_likes 175 = .ok (.bipush 6, 2) := by decide +kernel
theorem dX4_likes_177 : decode cX4_likes 177 = .ok (.iadd, 1) := by decide +kernel
theorem dX4_likes_178 : decode cX4_likes 178 = .ok (.goto 5, 3) := by decide +kernel
theorem dX4_likes_181 : decode cX4_likes 181 = .ok (.iload 6, 2) := by decide +kernel
theorem dX4_likes_183 : decode cX4_likes 183 = .ok (.ireturn, 1) := by decide +kernel
theorem dX4_likes_184 : decode cX4_likes 184 = .ok (.iload 5, 2) := by decide +kernel
theorem dX4_likes_186 : decode cX4_likes 186 = .ok (.ireturn, 1) := by decide +kernel
theorem dX4_minds_0 : decode cX4_minds 0 = .ok (.aload_n 0, 1) := by decide +kernel
theorem dX4_minds_1 : decode cX4_minds 1 = .ok (.iload_n 1, 1) := by decide +kernel
theorem dX4_minds_2 : decode cX4_minds 2 = .ok (.iload_n 2, 1) := by decide +kernel
theorem dX4_minds_3 : decode cX4_minds 3 = .ok (.invokevirtual 115, 3) := by decide +kernel
theorem dX4_minds_6 : decode cX4_minds 6 = .ok (.ifCond .eq 8, 3) := by decide +kernel
theorem dX4_minds_9 : decode cX4_minds 9 = .ok (.bipush (-6), 2) := by decide +kernel
theorem dX4_minds_11 : decode cX4_minds 11 = .ok (.goto 4, 3) := by decide +kernel
theorem dX4_minds_14 : decode cX4_minds 14 = .ok (.iconst 1, 1) := by decide +kernel
theorem dX4_minds_15 : decode cX4_minds 15 = .ok (.istore_n 3, 1) := by decide +kernel
theorem dX4_minds_16 : decode cX4_minds 16 = .ok (.aload_n 0, 1) := by decide +kernel
theorem dX4_minds_17 : decode cX4_minds 17 = .ok (.iload_n 1, 1) := by decide +kernel
theorem dX4_minds_18 : decode cX4_minds 18 = .ok (.iconst 0, 1) := by decide +kernel
theorem dX4_minds_19 : decode cX4_minds 19 = .ok (.invokevirtual 64, 3) := by decide +kernel
theorem dX4_minds_22 : decode cX4_minds 22 = .ok (.tableswitch 56 2 5 #[30, 34, 36, 40], 30) := by decide +kernel
theorem dX4_minds_52 : decode cX4_minds 52 = .ok (.iconst 2, 1) := by decide +kernel
theorem dX4_minds_53 : decode cX4_minds 53 = .ok (.iload_n 3, 1) := by decide +kernel
theorem dX4_minds_54 : decode cX4_minds 54 = .ok (.imul, 1) := by decide +kernel
theorem dX4_minds_55 : decode cX4_minds 55 = .ok (.ireturn, 1) := by decide +kernel
theorem dX4_minds_56 : decode cX4_minds 56 = .ok (.iconst 0, 1) := by decide +kernel
theorem dX4_minds_57 : decode cX4_minds 57 = .ok (.ireturn, 1) := by decide +kernel
theorem dX4_minds_58 : decode cX4_minds 58 = .ok (.iload_n 3, 1) := by decide +kernel
theorem dX4_minds_59 : decode cX4_minds 59 = .ok (.iconst 2, 1) := by decide +kernel
theorem dX4_minds_60 : decode cX4_minds 60 = .ok (.isub, 1) := by decide +kernel
theorem dX4_minds_61 : decode cX4_minds 61 = .ok (.ireturn, 1) := by decide +kernel
theorem dX4_minds_62 : decode cX4_minds 62 = .ok (.aload_n 0, 1) := by decide +kernel
theorem dX4_minds_63 : decode cX4_minds 63 = .ok (.iload_n 2, 1) := by decide +kernel
theorem dX4_minds_64 : decode cX4_minds 64 = .ok (.iconst 0, 1) := by decide +kernel
theorem dX4_minds_65 : decode cX4_minds 65 = .ok (.invokevirtual 64, 3) := by decide +kernel
theorem dX4_minds_68 : decode cX4_minds 68 = .ok (.iconst 2, 1) := by decide +kernel
theorem dX4_minds_69 : decode cX4_minds 69 = .ok (.if_icmp .ne 7, 3) := by decide +kernel
theorem dX4_minds_72 : decode cX4_minds 72 = .ok (.iconst (-1), 1) := by decide +kernel
theorem dX4_minds_73 : decode cX4_minds 73 = .ok (.goto 4, 3) := by decide +kernel
theorem dX4_minds_76 : decode cX4_minds 76 = .ok (.iconst 0, 1) := by decide +kernel
theorem dX4_minds_77 : decode cX4_minds 77 = .ok (.ireturn, 1) := by decide +kernel
theorem dX4_minds_78 : decode cX4_minds 78 = .ok (.iload_n 3, 1) := by decide +kernel
theorem dX4_minds_79 : decode cX4_minds 79 = .ok (.ireturn, 1) := by decide +kernel
theorem dX4_sits_0 : decode cX4_sits 0 = .ok (.aload_n 0, 1) := by decide +kernel
theorem dX4_sits_1 : decode cX4_sits 1 = .ok (.iload_n 1, 1) := by decide +kernel
theorem dX4_sits_2 : decode cX4_sits 2 = .ok (.iload_n 2, 1) := by decide +kernel
theorem dX4_sits_3 : decode cX4_sits 3 = .ok (.invokevirtual 135, 3) := by decide +kernel
theorem dX4_sits_6 : decode cX4_sits 6 = .ok (.istore_n 3, 1) := by decide +kernel
theorem dX4_sits_7 : decode cX4_sits 7 = .ok (.iconst 0, 1) := by decide +kernel
theorem dX4_sits_8 : decode cX4_sits 8 = .ok (.istore 4, 2) := by decide +kernel
theorem dX4_sits_10 : decode cX4_sits 10 = .ok (.iload 4, 2) := by decide +kernel
theorem dX4_sits_12 : decode cX4_sits 12 = .ok (.aload_n 0, 1) := by decide +kernel
theorem dX4_sits_13 : decode cX4_sits 13 = .ok (.getfield 7, 3) := by decide +kernel
theorem dX4_sits_16 : decode cX4_sits 16 = .ok (.iconst 0, 1) := by decide +kernel
theorem dX4_sits_17 : decode cX4_sits 17 = .ok (.iaload, 1) := by decide +kernel
theorem dX4_sits_18 : decode cX4_sits 18 = .ok (.if_icmp .ge 75, 3) := by decide +kernel
theorem dX4_sits_21 : decode cX4_sits 21 = .ok (.aload_n 0, 1) := by decide +kernel
theorem dX4_sits_22 : decode cX4_sits 22 = .ok (.iload 4, 2) := by decide +kernel
theorem dX4_sits_24 : decode cX4_sits 24 = .ok (.iconst 5, 1) := by decide +kernel
theorem dX4_sits_25 : decode cX4_sits 25 = .ok (.invokevirtual 64, 3) := by decide +kernel
theorem dX4_sits_28 : decode cX4_sits 28 = .ok (.iload_n 2, 1) := by decide +kernel
theorem dX4_sits_29 : decode cX4_sits 29 = .ok (.isub, 1) := by decide +kernel
theorem dX4_sits_30 : decode cX4_sits 30 = .ok (.istore 5, 2) := by decide +kernel
theorem dX4_sits_32 : decode cX4_sits 32 = .ok (.aload_n 0, 1) := by decide +kernel
theorem dX4_sits_33 : decode cX4_sits 33 = .ok (.iload 4, 2) := by decide +kernel
theorem dX4_sits_35 : decode cX4_sits 35 = .ok (.iconst 5, 1) := by decide +kernel
theorem dX4_sits_36 : decode cX4_sits 36 = .ok (.invokevirtual 64, 3) := by decide +kernel
theorem dX4_sits_39 : decode cX4_sits 39 = .ok (.iconst (-1), 1) := by decide +kernel
theorem dX4_sits_40 : decode cX4_sits 40 = .ok (.if_icmp .eq 19, 3) := by decide +kernel
theorem dX4_sits_43 : decode cX4_sits 43 = .ok (.iload 5, 2) := by decide +kernel
theorem dX4_sits_45 : decode cX4_sits 45 = .ok (.iconst 1, 1) := by decide +kernel
theorem dX4_sits_46 : decode cX4_sits 46 = .ok (.if_icmp .eq 9, 3) := by decide +kernel
theorem dX4_sits_49 : decode cX4_sits 49 = .ok (.iload 5, 2) := by decide +kernel
theorem dX4_sits_51 : decode cX4_sits 51 = .ok (.iconst (-1), 1) := by decide +kernel
theorem dX4_sits_52 : decode cX4_sits 52 = .ok (.if_icmp .ne 7, 3) := by decide +kernel
theorem dX4_sits_55 : decode cX4_sits 55 = .ok (.iconst 1, 1) := by decide +kernel
theorem dX4_sits_56 : decode cX4_sits 56 = .ok (.goto 4, 3) := by decide +kernel
theorem dX4_sits_59 : decode cX4_sits 59 = .ok (.iconst 0, 1) := by decide +kernel
theorem dX4_sits_60 : decode cX4_sits 60 = .ok (.istore 6, 2) := by decide +kernel
theorem dX4_sits_62 : decode cX4_sits 62 = .ok (.iload_n 3, 1) := by decide +kernel
theorem dX4_sits_63 : decode cX4_sits 63 = .ok (.iload 4, 2) := by decide +kernel
theorem dX4_sits_65 : decode cX4_sits 65 = .ok (.iload_n 1, 1) := by decide +kernel
theorem dX4_sits_66 : decode cX4_sits 66 = .ok (.if_icmp .eq 18, 3) := by decide +kernel
theorem dX4_sits_69 : decode cX4_sits 69 = .ok (.iload 6, 2) := by decide +kernel
theorem dX4_sits_71 : decode cX4_sits 71 = .ok (.ifCond .eq 13, 3) := by decide +kernel
theorem dX4_sits_74 : decode cX4_sits 74 = .ok (.aload_n 0, 1) := by decide +kernel
theorem dX4_sits_75 : decode cX4_sits 75 = .ok (.iload_n 1, 1) := by decide +kernel
theorem dX4_sits_76 : decode cX4_sits 76 = .ok (.iload 4, 2) := by decide +kernel
theorem dX4_sits_78 : decode cX4_sits 78 = .ok (.invokevirtual 138, 3) := by decide +kernel
theorem dX4_sits_81 : decode cX4_sits 81 = .ok (.goto 4, 3) := by decide +kernel
theorem dX4_sits_84 : decode cX4_sits 84 = .ok (.iconst 0, 1) := by decide +kernel
theorem dX4_sits_85 : decode cX4_sits 85 = .ok (.iadd, 1) := by decide +kernel
theorem dX4_sits_86 : decode cX4_sits 86 = .ok (.istore_n 3, 1) := by decide +kernel
theorem dX4_sits_87 : decode cX4_sits 87 = .ok (.iinc 4 1, 3) := by decide +kernel
theorem dX4_sits_90 : decode cX4_sits 90 = .ok (.goto (-80), 3) := by decide +kernel
theorem dX4_sits_93 : decode cX4_sits 93 = .ok (.iload_n 3, 1) := by decide +kernel
theorem dX4_sits_94 : decode cX4_sits 94 = .ok (.ireturn, 1) := by decide +kernel
theorem dX4_well_0 : decode cX4_well 0 = .ok (.aload_n 0, 1) := by decide +kernel
theorem dX4_well_1 : decode cX4_well 1 = .ok (.iload_n 1, 1) := by decide +kernel
theorem dX4_well_2 : decode cX4_well 2 = .ok (.invokevirtual 55, 3) := by decide +kernel
theorem dX4_well_5 : decode cX4_well 5 = .ok (.ifCond .eq 23, 3) := by decide +kernel
theorem dX4_well_8 : decode cX4_well 8 = .ok (.iload_n 2, 1) := by decide +kernel
theorem dX4_well_9 : decode cX4_well 9 = .ok (.invokestatic 71, 3) := by decide +kernel
theorem dX4_well_12 : decode cX4_well 12 = .ok (.ifCond .eq 16, 3) := by decide +kernel
theorem dX4_well_15 : decode cX4_well 15 = .ok (.sipush 1000, 3) := by decide +kernel
theorem dX4_well_18 : decode cX4_well 18 = .ok (.aload_n 0, 1) := by decide +kernel
theorem dX4_well_19 : decode cX4_well 19 = .ok (.iload_n 1, 1) := by decide +kernel
theorem dX4_well_20 : decode cX4_well 20 = .ok (.iload_n 2, 1) := by decide +kernel
theorem dX4_well_21 : decode cX4_well 21 = .ok (.invokevirtual 141, 3) := by decide +kernel
theorem dX4_well_24 : decode cX4_well 24 = .ok (.iadd, 1) := by decide +kernel
theorem dX4_well_25 : decode cX4_well 25 = .ok (.goto 9, 3) := by decide +kernel
theorem dX4_well_28 : decode cX4_well 28 = .ok (.aload_n 0, 1) := by decide +kernel
theorem dX4_well_29 : decode cX4_well 29 = .ok (.ldc 48, 2) := by decide +kernel
theorem dX4_well_31 : decode cX4_well 31 = .ok (.invokevirtual 77, 3) := by decide +kernel
theorem dX4_well_34 : decode cX4_well 34 = .ok (.ireturn, 1) := by decide +kernel
theorem dX4_bestEmpty_0 : decode cX4_bestEmpty 0 = .ok (.iconst (-1), 1) := by decide +kernel
theorem dX4_bestEmpty_1 : decode cX4_bestEmpty 1 = .ok (.istore_n 2, 1) := by decide +kernel
theorem dX4_bestEmpty_2 : decode cX4_bestEmpty 2 = .ok (.iconst 0, 1) := by decide +kernel
theorem dX4_bestEmpty_3 : decode cX4_bestEmpty 3 = .ok (.istore_n 3, 1) := by decide +kernel
theorem dX4_bestEmpty_4 : decode cX4_bestEmpty 4 = .ok (.iconst 0, 1) := by decide +kernel
theorem dX4_bestEmpty_5 : decode cX4_bestEmpty 5 = .ok (.istore 4, 2) := by decide +kernel
theorem dX4_bestEmpty_7 : decode cX4_bestEmpty 7 = .ok (.iload 4, 2) := by decide +kernel
theorem dX4_bestEmpty_9 : decode cX4_bestEmpty 9 = .ok (.bipush 8, 2) := by decide +kernel
theorem dX4_bestEmpty_11 : decode cX4_bestEmpty 11 = .ok (.if_icmp .ge 70, 3) := by decide +kernel
theorem dX4_bestEmpty_14 : decode cX4_bestEmpty 14 = .ok (.aload_n 0, 1) := by decide +kernel
theorem dX4_bestEmpty_15 : decode cX4_bestEmpty 15 = .ok (.iload 4, 2) := by decide +kernel
theorem dX4_bestEmpty_17 : decode cX4_bestEmpty 17 = .ok (.invokevirtual 83, 3) := by decide +kernel
theorem dX4_bestEmpty_20 : decode cX4_bestEmpty 20 = .ok (.iconst (-1), 1) := by decide +kernel
theorem dX4_bestEmpty_21 : decode cX4_bestEmpty 21 = .ok (.if_icmp .ne 54, 3) := by decide +kernel
theorem dX4_bestEmpty_24 : decode cX4_bestEmpty 24 = .ok (.aload_n 0, 1) := by decide +kernel
theorem dX4_bestEmpty_25 : decode cX4_bestEmpty 25 = .ok (.iload_n 1, 1) := by decide +kernel
theorem dX4_bestEmpty_26 : decode cX4_bestEmpty 26 = .ok (.iload 4, 2) := by decide +kernel
theorem dX4_bestEmpty_28 : decode cX4_bestEmpty 28 = .ok (.invokevirtual 141, 3) := by decide +kernel
theorem dX4_bestEmpty_31 : decode cX4_bestEmpty 31 = .ok (.istore 5, 2) := by decide +kernel
theorem dX4_bestEmpty_33 : decode cX4_bestEmpty 33 = .ok (.iload_n 2, 1) := by decide +kernel
theorem dX4_bestEmpty_34 : decode cX4_bestEmpty 34 = .ok (.iconst (-1), 1) := by decide +kernel
theorem dX4_bestEmpty_35 : decode cX4_bestEmpty 35 = .ok (.if_icmp .eq 9, 3) := by decide +kernel
theorem dX4_bestEmpty_38 : decode cX4_bestEmpty 38 = .ok (.iload 5, 2) := by decide +kernel
theorem dX4_bestEmpty_40 : decode cX4_bestEmpty 40 = .ok (.iload_n 3, 1) := by decide +kernel
theorem dX4_bestEmpty_41 : decode cX4_bestEmpty 41 = .ok (.if_icmp .le 7, 3) := by decide +kernel
theorem dX4_bestEmpty_44 : decode cX4_bestEmpty 44 = .ok (.iconst 1, 1) := by decide +kernel
theorem dX4_bestEmpty_45 : decode cX4_bestEmpty 45 = .ok (.goto 4, 3) := by decide +kernel
theorem dX4_bestEmpty_48 : decode cX4_bestEmpty 48 = .ok (.iconst 0, 1) := by decide +kernel
theorem dX4_bestEmpty_49 : decode cX4_bestEmpty 49 = .ok (.istore 6, 2) := by decide +kernel
theorem dX4_bestEmpty_51 : decode cX4_bestEmpty 51 = .ok (.iload 6, 2) := by decide +kernel
theorem dX4_bestEmpty_53 : decode cX4_bestEmpty 53 = .ok (.ifCond .eq 8, 3) := by decide +kernel
theorem dX4_bestEmpty_56 : decode cX4_bestEmpty 56 = .ok (.iload 4, 2) := by decide +kernel
theorem dX4_bestEmpty_58 : decode cX4_bestEmpty 58 = .ok (.goto 4, 3) := by decide +kernel
theorem dX4_bestEmpty_61 : decode cX4_bestEmpty 61 = .ok (.iload_n 2, 1) := by decide +kernel
theorem dX4_bestEmpty_62 : decode cX4_bestEmpty 62 = .ok (.istore_n 2, 1) := by decide +kernel
theorem dX4_bestEmpty_63 : decode cX4_bestEmpty 63 = .ok (.iload 6, 2) := by decide +kernel
theorem dX4_bestEmpty_65 : decode cX4_bestEmpty 65 = .ok (.ifCond .eq 8, 3) := by decide +kernel
theorem dX4_bestEmpty_68 : decode cX4_bestEmpty 68 = .ok (.iload 5, 2) := by decide +kernel
theorem dX4_bestEmpty_70 : decode cX4_bestEmpty 70 = .ok (.goto 4, 3) := by decide +kernel
theorem dX4_bestEmpty_73 : decode cX4_bestEmpty 73 = .ok (.iload_n 3, 1) := by decide +kernel
theorem dX4_bestEmpty_74 : decode cX4_bestEmpty 74 = .ok (.istore_n 3, 1) := by decide +kernel
theorem dX4_bestEmpty_75 : decode cX4_bestEmpty 75 = .ok (.iinc 4 1, 3) := by decide +kernel
theorem dX4_bestEmpty_78 : decode cX4_bestEmpty 78 = .ok (.goto (-71), 3) := by decide +kernel
theorem dX4_bestEmpty_81 : decode cX4_bestEmpty 81 = .ok (.iload_n 2, 1) := by decide +kernel
theorem dX4_bestEmpty_82 : decode cX4_bestEmpty 82 = .ok (.ireturn, 1) := by decide +kernel
theorem dX4_moves_0 : decode cX4_moves 0 = .ok (.aload_n 0, 1) := by decide +kernel
theorem dX4_moves_1 : decode cX4_moves 1 = .ok (.iload_n 1, 1) := by decide +kernel
theorem dX4_moves_2 : decode cX4_moves 2 = .ok (.iconst 5, 1) := by decide +kernel
theorem dX4_moves_3 : decode cX4_moves 3 = .ok (.invokevirtual 64, 3) := by decide +kernel
theorem dX4_moves_6 : decode cX4_moves 6 = .ok (.istore_n 2, 1) := by decide +kernel
theorem dX4_moves_7 : decode cX4_moves 7 = .ok (.aload_n 0, 1) := by decide +kernel
theorem dX4_moves_8 : decode cX4_moves 8 = .ok (.iload_n 1, 1) := by decide +kernel
theorem dX4_moves_9 : decode cX4_moves 9 = .ok (.invokevirtual 144, 3) := by decide +kernel
theorem dX4_moves_12 : decode cX4_moves 12 = .ok (.istore_n 3, 1) := by decide +kernel
theorem dX4_moves_13 : decode cX4_moves 13 = .ok (.iload_n 3, 1) := by decide +kernel
theorem dX4_moves_14 : decode cX4_moves 14 = .ok (.iconst (-1), 1) := by decide +kernel
theorem dX4_moves_15 : decode cX4_moves 15 = .ok (.if_icmp .eq 36, 3) := by decide +kernel
theorem dX4_moves_18 : decode cX4_moves 18 = .ok (.iload_n 2, 1) := by decide +kernel
theorem dX4_moves_19 : decode cX4_moves 19 = .ok (.iconst (-1), 1) := by decide +kernel
theorem dX4_moves_20 : decode cX4_moves 20 = .ok (.if_icmp .eq 18, 3) := by decide +kernel
theorem dX4_moves_23 : decode cX4_moves 23 = .ok (.aload_n 0, 1) := by decide +kernel
theorem dX4_moves_24 : decode cX4_moves 24 = .ok (.iload_n 1, 1) := by decide +kernel
theorem dX4_moves_25 : decode cX4_moves 25 = .ok (.iload_n 3, 1) := by decide +kernel
theorem dX4_moves_26 : decode cX4_moves 26 = .ok (.invokevirtual 141, 3) := by decide +kernel
theorem dX4_moves_29 : decode cX4_moves 29 = .ok (.aload_n 0, 1) := by decide +kernel
theorem dX4_moves_30 : decode cX4_moves 30 = .ok (.iload_n 1, 1) := by decide +kernel
theorem dX4_moves_31 : decode cX4_moves 31 = .ok (.iload_n 2, 1) := by decide +kernel
theorem dX4_moves_32 : decode cX4_moves 32 = .ok (.invokevirtual 141, 3) := by decide +kernel
theorem dX4_moves_35 : decode cX4_moves 35 = .ok (.if_icmp .le 16, 3) := by decide +kernel
theorem dX4_moves_38 : decode cX4_moves 38 = .ok (.aload_n 0, 1) := by decide +kernel
theorem dX4_moves_39 : decode cX4_moves 39 = .ok (.getfield 7, 3) := by decide +kernel
theorem dX4_moves_42 : decode cX4_moves 42 = .ok (.iload_n 1, 1) := by decide +kernel
theorem dX4_moves_43 : decode cX4_moves 43 = .ok (.iconst 5, 1) := by decide +kernel
theorem dX4_moves_44 : decode cX4_moves 44 = .ok (.invokestatic 61, 3) := by decide +kernel
theorem dX4_moves_47 : decode cX4_moves 47 = .ok (.iload_n 3, 1) := by decide +kernel
theorem dX4_moves_48 : decode cX4_moves 48 = .ok (.iastore, 1) := by decide +kernel
theorem dX4_moves_49 : decode cX4_moves 49 = .ok (.iconst 1, 1) := by decide +kernel
theorem dX4_moves_50 : decode cX4_moves 50 = .ok (.ireturn, 1) := by decide +kernel
theorem dX4_moves_51 : decode cX4_moves 51 = .ok (.aload_n 0, 1) := by decide +kernel
theorem dX4_moves_52 : decode cX4_moves 52 = .ok (.iload_n 1, 1) := by decide +kernel
theorem dX4_moves_53 : decode cX4_moves 53 = .ok (.iconst 2, 1) := by decide +kernel
theorem dX4_moves_54 : decode cX4_moves 54 = .ok (.invokevirtual 64, 3) := by decide +kernel
theorem dX4_moves_57 : decode cX4_moves 57 = .ok (.istore 4, 2) := by decide +kernel
theorem dX4_moves_59 : decode cX4_moves 59 = .ok (.iload 4, 2) := by decide +kernel
theorem dX4_moves_61 : decode cX4_moves 61 = .ok (.iconst (-1), 1) := by decide +kernel
theorem dX4_moves_62 : decode cX4_moves 62 = .ok (.if_icmp .ne 7, 3) := by decide +kernel
theorem dX4_moves_65 : decode cX4_moves 65 = .ok (.iconst (-1), 1) := by decide +kernel
theorem dX4_moves_66 : decode cX4_moves 66 = .ok (.goto 9, 3) := by decide +kernel
theorem dX4_moves_69 : decode cX4_moves 69 = .ok (.aload_n 0, 1) := by decide +kernel
theorem dX4_moves_70 : decode cX4_moves 70 = .ok (.iload 4, 2) := by decide +kernel
theorem dX4_moves_72 : decode cX4_moves 72 = .ok (.invokevirtual 83, 3) := by decide +kernel
theorem dX4_moves_75 : decode cX4_moves 75 = .ok (.istore 5, 2) := by decide +kernel
theorem dX4_moves_77 : decode cX4_moves 77 = .ok (.iload 5, 2) := by decide +kernel
theorem dX4_moves_79 : decode cX4_moves 79 = .ok (.iconst (-1), 1) := by decide +kernel
theorem dX4_moves_80 : decode cX4_moves 80 = .ok (.if_icmp .eq 34, 3) := by decide +kernel
theorem dX4_moves_83 : decode cX4_moves 83 = .ok (.iload 5, 2) := by decide +kernel
theorem dX4_moves_85 : decode cX4_moves 85 = .ok (.iload_n 1, 1) := by decide +kernel
theorem dX4_moves_86 : decode cX4_moves 86 = .ok (.if_icmp .eq 28, 3) := by decide +kernel
theorem dX4_moves_89 : decode cX4_moves 89 = .ok (.aload_n 0, 1) := by decide +kernel
theorem dX4_moves_90 : decode cX4_moves 90 = .ok (.iload_n 1, 1) := by decide +kernel
theorem dX4_moves_91 : decode cX4_moves 91 = .ok (.iload 4, 2) := by decide +kernel
theorem dX4_moves_93 : decode cX4_moves 93 = .ok (.invokevirtual 141, 3) := by decide +kernel
theorem dX4_moves_96 : decode cX4_moves 96 = .ok (.aload_n 0, 1) := by decide +kernel
theorem dX4_moves_97 : decode cX4_moves 97 = .ok (.iload 5, 2) := by decide +kernel
theorem dX4_moves_99 : decode cX4_moves 99 = .ok (.iload 4, 2) := by decide +kernel
theorem dX4_moves_101 : decode cX4_moves 101 = .ok (.invokevirtual 141, 3) := by decide +kernel
theorem dX4_moves_104 : decode cX4_moves 104 = .ok (.isub, 1) := by decide +kernel
theorem dX4_moves_105 : decode cX4_moves 105 = .ok (.aload_n 0, 1) := by decide +kernel
theorem dX4_moves_106 : decode cX4_moves 106 = .ok (.iload 5, 2) := by decide +kernel
theorem dX4_moves_108 : decode cX4_moves 108 = .ok (.invokevirtual 95, 3) := by decide +kernel
theorem dX4_moves_111 : decode cX4_moves 111 = .ok (.if_icmp .ge 5, 3) := by decide +kernel
theorem dX4_moves_114 : decode cX4_moves 114 = .ok (.iconst 0, 1) := by decide +kernel
theorem dX4_moves_115 : decode cX4_moves 115 = .ok (.ireturn, 1) := by decide +kernel
theorem dX4_moves_116 : decode cX4_moves 116 = .ok (.aload_n 0, 1) := by decide +kernel
theorem dX4_moves_117 : decode cX4_moves 117 = .ok (.iload_n 1, 1) := by decide +kernel
theorem dX4_moves_118 : decode cX4_moves 118 = .ok (.iload 5, 2) := by decide +kernel
theorem dX4_moves_120 : decode cX4_moves 120 = .ok (.invokevirtual 123, 3) := by decide +kernel
theorem dX4_moves_123 : decode cX4_moves 123 = .ok (.iconst 1, 1) := by decide +kernel
theorem dX4_moves_124 : decode cX4_moves 124 = .ok (.ireturn, 1) := by decide +kernel
theorem dX4_hour_0 : decode cX4_hour 0 = .ok (.iconst 0, 1) := by decide +kernel
theorem dX4_hour_1 : decode cX4_hour 1 = .ok (.istore_n 1, 1) := by decide +kernel
theorem dX4_hour_2 : decode cX4_hour 2 = .ok (.iconst 0, 1) := by decide +kernel
theorem dX4_hour_3 : decode cX4_hour 3 = .ok (.istore_n 2, 1) := by decide +kernel
theorem dX4_hour_4 : decode cX4_hour 4 = .ok (.iload_n 2, 1) := by decide +kernel
theorem dX4_hour_5 : decode cX4_hour 5 = .ok (.aload_n 0, 1) := by decide +kernel
theorem dX4_hour_6 : decode cX4_hour 6 = .ok (.getfield 7, 3) := by decide +kernel
theorem dX4_hour_9 : decode cX4_hour 9 = .ok (.iconst 0, 1) := by decide +kernel
theorem dX4_hour_10 : decode cX4_hour 10 = .ok (.iaload, 1) := by decide +kernel
theorem dX4_hour_11 : decode cX4_hour 11 = .ok (.if_icmp .ge 17, 3) := by decide +kernel
theorem dX4_hour_14 : decode cX4_hour 14 = .ok (.iload_n 1, 1) := by decide +kernel
theorem dX4_hour_15 : decode cX4_hour 15 = .ok (.aload_n 0, 1) := by decide +kernel
theorem dX4_hour_16 : decode cX4_hour 16 = .ok (.iload_n 2, 1) := by decide +kernel
theorem dX4_hour_17 : decode cX4_hour 17 = .ok (.invokevirtual 147, 3) := by decide +kernel
theorem dX4_hour_20 : decode cX4_hour 20 = .ok (.iadd, 1) := by decide +kernel
theorem dX4_hour_21 : decode cX4_hour 21 = .ok (.istore_n 1, 1) := by decide +kernel
theorem dX4_hour_22 : decode cX4_hour 22 = .ok (.iinc 2 1, 3) := by decide +kernel
theorem dX4_hour_25 : decode cX4_hour 25 = .ok (.goto (-21), 3) := by decide +kernel
theorem dX4_hour_28 : decode cX4_hour 28 = .ok (.aload_n 0, 1) := by decide +kernel
theorem dX4_hour_29 : decode cX4_hour 29 = .ok (.getfield 7, 3) := by decide +kernel
theorem dX4_hour_32 : decode cX4_hour 32 = .ok (.iconst 1, 1) := by decide +kernel
theorem dX4_hour_33 : decode cX4_hour 33 = .ok (.dup2, 1) := by decide +kernel
theorem dX4_hour_34 : decode cX4_hour 34 = .ok (.iaload, 1) := by decide +kernel
theorem dX4_hour_35 : decode cX4_hour 35 = .ok (.iconst 1, 1) := by decide +kernel
theorem dX4_hour_36 : decode cX4_hour 36 = .ok (.iadd, 1) := by decide +kernel
theorem dX4_hour_37 : decode cX4_hour 37 = .ok (.iastore, 1) := by decide +kernel
theorem dX4_hour_38 : decode cX4_hour 38 = .ok (.aload_n 0, 1) := by decide +kernel
theorem dX4_hour_39 : decode cX4_hour 39 = .ok (.bipush 7, 2) := by decide +kernel
theorem dX4_hour_41 : decode cX4_hour 41 = .ok (.invokevirtual 83, 3) := by decide +kernel
theorem dX4_hour_44 : decode cX4_hour 44 = .ok (.istore_n 2, 1) := by decide +kernel
theorem dX4_hour_45 : decode cX4_hour 45 = .ok (.iload_n 2, 1) := by decide +kernel
theorem dX4_hour_46 : decode cX4_hour 46 = .ok (.iconst (-1), 1) := by decide +kernel
theorem dX4_hour_47 : decode cX4_hour 47 = .ok (.if_icmp .eq 29, 3) := by decide +kernel
theorem dX4_hour_50 : decode cX4_hour 50 = .ok (.aload_n 0, 1) := by decide +kernel
theorem dX4_hour_51 : decode cX4_hour 51 = .ok (.iload_n 2, 1) := by decide +kernel
theorem dX4_hour_52 : decode cX4_hour 52 = .ok (.iconst 4, 1) := by decide +kernel
theorem dX4_hour_53 : decode cX4_hour 53 = .ok (.invokevirtual 64, 3) := by decide +kernel
theorem dX4_hour_56 : decode cX4_hour 56 = .ok (.sipush 9999, 3) := by decide +kernel
theorem dX4_hour_59 : decode cX4_hour 59 = .ok (.if_icmp .ge 17, 3) := by decide +kernel
theorem dX4_hour_62 : decode cX4_hour 62 = .ok (.aload_n 0, 1) := by decide +kernel
theorem dX4_hour_63 : decode cX4_hour 63 = .ok (.getfield 7, 3) := by decide +kernel
theorem dX4_hour_66 : decode cX4_hour 66 = .ok (.iload_n 2, 1) := by decide +kernel
theorem dX4_hour_67 : decode cX4_hour 67 = .ok (.iconst 4, 1) := by decide +kernel
theorem dX4_hour_68 : decode cX4_hour 68 = .ok (.invokestatic 61, 3) := by decide +kernel
theorem dX4_hour_71 : decode cX4_hour 71 = .ok (.dup2, 1) := by decide +kernel
theorem dX4_hour_72 : decode cX4_hour 72 = .ok (.iaload, 1) := by decide +kernel
theorem dX4_hour_73 : decode cX4_hour 73 = .ok (.iconst 1, 1) := by decide +kernel
theorem dX4_hour_74 : decode cX4_hour 74 = .ok (.iadd, 1) := by decide +kernel
theorem dX4_hour_75 : decode cX4_hour 75 = .ok (.iastore, 1) := by decide +kernel
theorem dX4_hour_76 : decode cX4_hour 76 = .ok (.iload_n 1, 1) := by decide +kernel
theorem dX4_hour_77 : decode cX4_hour 77 = .ok (.ireturn, 1) := by decide +kernel
theorem dX4_hoursGo_0 : decode cX4_hoursGo 0 = .ok (.iconst 0, 1) := by decide +kernel
theorem dX4_hoursGo_1 : decode cX4_hoursGo 1 = .ok (.istore_n 2, 1) := by decide +kernel
theorem dX4_hoursGo_2 : decode cX4_hoursGo 2 = .ok (.iconst 0, 1) := by decide +kernel
theorem dX4_hoursGo_3 : decode cX4_hoursGo 3 = .ok (.istore_n 3, 1) := by decide +kernel
theorem dX4_hoursGo_4 : decode cX4_hoursGo 4 = .ok (.iload_n 3, 1) := by decide +kernel
theorem dX4_hoursGo_5 : decode cX4_hoursGo 5 = .ok (.iload_n 1, 1) := by decide +kernel
theorem dX4_hoursGo_6 : decode cX4_hoursGo 6 = .ok (.if_icmp .ge 14, 3) := by decide +kernel
theorem dX4_hoursGo_9 : decode cX4_hoursGo 9 = .ok (.aload_n 0, 1) := by decide +kernel
theorem dX4_hoursGo_10 : decode cX4_hoursGo 10 = .ok (.invokevirtual 150, 3) := by decide +kernel
theorem dX4_hoursGo_13 : decode cX4_hoursGo 13 = .ok (.istore_n 2, 1) := by decide +kernel
theorem dX4_hoursGo_14 : decode cX4_hoursGo 14 = .ok (.iinc 3 1, 3) := by decide +kernel
theorem dX4_hoursGo_17 : decode cX4_hoursGo 17 = .ok (.goto (-13), 3) := by decide +kernel
theorem dX4_hoursGo_20 : decode cX4_hoursGo 20 = .ok (.iload_n 2, 1) := by decide +kernel
theorem dX4_hoursGo_21 : decode cX4_hoursGo 21 = .ok (.ireturn, 1) := by decide +kernel
theorem dX4_hours_0 : decode cX4_hours 0 = .ok (.iload_n 1, 1) := by decide +kernel
theorem dX4_hours_1 : decode cX4_hours 1 = .ok (.i2l, 1) := by decide +kernel
theorem dX4_hours_2 : decode cX4_hours 2 = .ok (.lconst 1, 1) := by decide +kernel
theorem dX4_hours_3 : decode cX4_hours 3 = .ok (.ldc2_w 153, 3) := by decide +kernel
theorem dX4_hours_6 : decode cX4_hours 6 = .ok (.invokestatic 51, 3) := by decide +kernel
theorem dX4_hours_9 : decode cX4_hours 9 = .ok (.ifCond .ne 10, 3) := by decide +kernel
theorem dX4_hours_12 : decode cX4_hours 12 = .ok (.aload_n 0, 1) := by decide +kernel
theorem dX4_hours_13 : decode cX4_hours 13 = .ok (.ldc 48, 2) := by decide +kernel
theorem dX4_hours_15 : decode cX4_hours 15 = .ok (.invokevirtual 77, 3) := by decide +kernel
theorem dX4_hours_18 : decode cX4_hours 18 = .ok (.ireturn, 1) := by decide +kernel
theorem dX4_hours_19 : decode cX4_hours 19 = .ok (.aload_n 0, 1) := by decide +kernel
theorem dX4_hours_20 : decode cX4_hours 20 = .ok (.getfield 7, 3) := by decide +kernel
theorem dX4_hours_23 : decode cX4_hours 23 = .ok (.iconst 1, 1) := by decide +kernel
theorem dX4_hours_24 : decode cX4_hours 24 = .ok (.iaload, 1) := by decide +kernel
theorem dX4_hours_25 : decode cX4_hours 25 = .ok (.iload_n 1, 1) := by decide +kernel
theorem dX4_hours_26 : decode cX4_hours 26 = .ok (.iadd, 1) := by decide +kernel
theorem dX4_hours_27 : decode cX4_hours 27 = .ok (.ldc 155, 2) := by decide +kernel
theorem dX4_hours_29 : decode cX4_hours 29 = .ok (.if_icmp .le 12, 3) := by decide +kernel
theorem dX4_hours_32 : decode cX4_hours 32 = .ok (.aload_n 0, 1) := by decide +kernel
theorem dX4_hours_33 : decode cX4_hours 33 = .ok (.ldc 122, 2) := by decide +kernel
theorem dX4_hours_35 : decode cX4_hours 35 = .ok (.invokevirtual 77, 3) := by decide +kernel
theorem dX4_hours_38 : decode cX4_hours 38 = .ok (.goto 8, 3) := by decide +kernel
theorem dX4_hours_41 : decode cX4_hours 41 = .ok (.aload_n 0, 1) := by decide +kernel
theorem dX4_hours_42 : decode cX4_hours 42 = .ok (.iload_n 1, 1) := by decide +kernel
theorem dX4_hours_43 : decode cX4_hours 43 = .ok (.invokevirtual 156, 3) := by decide +kernel
theorem dX4_hours_46 : decode cX4_hours 46 = .ok (.ireturn, 1) := by decide +kernel
theorem dX4_sitting_0 : decode cX4_sitting 0 = .ok (.iconst 0, 1) := by decide +kernel
theorem dX4_sitting_1 : decode cX4_sitting 1 = .ok (.istore_n 1, 1) := by decide +kernel
theorem dX4_sitting_2 : decode cX4_sitting 2 = .ok (.iconst 0, 1) := by decide +kernel
theorem dX4_sitting_3 : decode cX4_sitting 3 = .ok (.istore_n 2, 1) := by decide +kernel
theorem dX4_sitting_4 : decode cX4_sitting 4 = .ok (.iload_n 2, 1) := by decide +kernel
theorem dX4_sitting_5 : decode cX4_sitting 5 = .ok (.aload_n 0, 1) := by decide +kernel
theorem dX4_sitting_6 : decode cX4_sitting 6 = .ok (.getfield 7, 3) := by decide +kernel
theorem dX4_sitting_9 : decode cX4_sitting 9 = .ok (.iconst 0, 1) := by decide +kernel
theorem dX4_sitting_10 : decode cX4_sitting 10 = .ok (.iaload, 1) := by decide +kernel
theorem dX4_sitting_11 : decode cX4_sitting 11 = .ok (.if_icmp .ge 29, 3) := by decide +kernel
theorem dX4_sitting_14 : decode cX4_sitting 14 = .ok (.iload_n 1, 1) := by decide +kernel
theorem dX4_sitting_15 : decode cX4_sitting 15 = .ok (.aload_n 0, 1) := by decide +kernel
theorem dX4_sitting_16 : decode cX4_sitting 16 = .ok (.iload_n 2, 1) := by decide +kernel
theorem dX4_sitting_17 : decode cX4_sitting 17 = .ok (.iconst 5, 1) := by decide +kernel
theorem dX4_sitting_18 : decode cX4_sitting 18 = .ok (.invokevirtual 64, 3) := by decide +kernel
theorem dX4_sitting_21 : decode cX4_sitting 21 = .ok (.iconst (-1), 1) := by decide +kernel
theorem dX4_sitting_22 : decode cX4_sitting 22 = .ok (.if_icmp .eq 9, 3) := by decide +kernel
theorem dX4_sitting_25 : decode cX4_sitting 25 = .ok (.iconst 1, 1) := by decide +kernel
theorem dX4_sitting_26 : decode cX4_sitting 26 = .ok (.iload_n 2, 1) := by decide +kernel
theorem dX4_sitting_27 : decode cX4_sitting 27 = .ok (.ishl, 1) := by decide +kernel
theorem dX4_sitting_28 : decode cX4_sitting 28 = .ok (.goto 4, 3) := by decide +kernel
theorem dX4_sitting_31 : decode cX4_sitting 31 = .ok (.iconst 0, 1) := by decide +kernel
theorem dX4_sitting_32 : decode cX4_sitting 32 = .ok (.ior, 1) := by decide +kernel
theorem dX4_sitting_33 : decode cX4_sitting 33 = .ok (.istore_n 1, 1) := by decide +kernel
theorem dX4_sitting_34 : decode cX4_sitting 34 = .ok (.iinc 2 1, 3) := by decide +kernel
theorem dX4_sitting_37 : decode cX4_sitting 37 = .ok (.goto (-33), 3) := by decide +kernel
theorem dX4_sitting_40 : decode cX4_sitting 40 = .ok (.iload_n 1, 1) := by decide +kernel
theorem dX4_sitting_41 : decode cX4_sitting 41 = .ok (.ireturn, 1) := by decide +kernel
theorem dX4_emptyOnes_0 : decode cX4_emptyOnes 0 = .ok (.iconst 0, 1) := by decide +kernel
theorem dX4_emptyOnes_1 : decode cX4_emptyOnes 1 = .ok (.istore_n 1, 1) := by decide +kernel
theorem dX4_emptyOnes_2 : decode cX4_emptyOnes 2 = .ok (.iconst 0, 1) := by decide +kernel
theorem dX4_emptyOnes_3 : decode cX4_emptyOnes 3 = .ok (.istore_n 2, 1) := by decide +kernel
theorem dX4_emptyOnes_4 : decode cX4_emptyOnes 4 = .ok (.iload_n 2, 1) := by decide +kernel
theorem dX4_emptyOnes_5 : decode cX4_emptyOnes 5 = .ok (.bipush 8, 2) := by decide +kernel
theorem dX4_emptyOnes_7 : decode cX4_emptyOnes 7 = .ok (.if_icmp .ge 28, 3) := by decide +kernel
theorem dX4_emptyOnes_10 : decode cX4_emptyOnes 10 = .ok (.iload_n 1, 1) := by decide +kernel
theorem dX4_emptyOnes_11 : decode cX4_emptyOnes 11 = .ok (.aload_n 0, 1) := by decide +kernel
theorem dX4_emptyOnes_12 : decode cX4_emptyOnes 12 = .ok (.iload_n 2, 1) := by decide +kernel
theorem dX4_emptyOnes_13 : decode cX4_emptyOnes 13 = .ok (.invokevirtual 83, 3) := by decide +kernel
theorem dX4_emptyOnes_16 : decode cX4_emptyOnes 16 = .ok (.iconst (-1), 1) := by decide +kernel
theorem dX4_emptyOnes_17 : decode cX4_emptyOnes 17 = .ok (.if_icmp .ne 9, 3) := by decide +kernel
theorem dX4_emptyOnes_20 : decode cX4_emptyOnes 20 = .ok (.iconst 1, 1) := by decide +kernel
theorem dX4_emptyOnes_21 : decode cX4_emptyOnes 21 = .ok (.iload_n 2, 1) := by decide +kernel
theorem dX4_emptyOnes_22 : decode cX4_emptyOnes 22 = .ok (.ishl, 1) := by decide +kernel
theorem dX4_emptyOnes_23 : decode cX4_emptyOnes 23 = .ok (.goto 4, 3) := by decide +kernel
theorem dX4_emptyOnes_26 : decode cX4_emptyOnes 26 = .ok (.iconst 0, 1) := by decide +kernel
theorem dX4_emptyOnes_27 : decode cX4_emptyOnes 27 = .ok (.ior, 1) := by decide +kernel
theorem dX4_emptyOnes_28 : decode cX4_emptyOnes 28 = .ok (.istore_n 1, 1) := by decide +kernel
theorem dX4_emptyOnes_29 : decode cX4_emptyOnes 29 = .ok (.iinc 2 1, 3) := by decide +kernel
theorem dX4_emptyOnes_32 : decode cX4_emptyOnes 32 = .ok (.goto (-28), 3) := by decide +kernel
theorem dX4_emptyOnes_35 : decode cX4_emptyOnes 35 = .ok (.iload_n 1, 1) := by decide +kernel
theorem dX4_emptyOnes_36 : decode cX4_emptyOnes 36 = .ok (.ireturn, 1) := by decide +kernel
theorem dX4_peaceNow_0 : decode cX4_peaceNow 0 = .ok (.iconst 0, 1) := by decide +kernel
theorem dX4_peaceNow_1 : decode cX4_peaceNow 1 = .ok (.istore_n 1, 1) := by decide +kernel
theorem dX4_peaceNow_2 : decode cX4_peaceNow 2 = .ok (.iconst 0, 1) := by decide +kernel
theorem dX4_peaceNow_3 : decode cX4_peaceNow 3 = .ok (.istore_n 2, 1) := by decide +kernel
theorem dX4_peaceNow_4 : decode cX4_peaceNow 4 = .ok (.iload_n 2, 1) := by decide +kernel
theorem dX4_peaceNow_5 : decode cX4_peaceNow 5 = .ok (.aload_n 0, 1) := by decide +kernel
theorem dX4_peaceNow_6 : decode cX4_peaceNow 6 = .ok (.getfield 7, 3) := by decide +kernel
theorem dX4_peaceNow_9 : decode cX4_peaceNow 9 = .ok (.iconst 0, 1) := by decide +kernel
theorem dX4_peaceNow_10 : decode cX4_peaceNow 10 = .ok (.iaload, 1) := by decide +kernel
theorem dX4_peaceNow_11 : decode cX4_peaceNow 11 = .ok (.if_icmp .ge 37, 3) := by decide +kernel
theorem dX4_peaceNow_14 : decode cX4_peaceNow 14 = .ok (.iload_n 1, 1) := by decide +kernel
theorem dX4_peaceNow_15 : decode cX4_peaceNow 15 = .ok (.aload_n 0, 1) := by decide +kernel
theorem dX4_peaceNow_16 : decode cX4_peaceNow 16 = .ok (.iload_n 2, 1) := by decide +kernel
theorem dX4_peaceNow_17 : decode cX4_peaceNow 17 = .ok (.iconst 5, 1) := by decide +kernel
theorem dX4_peaceNow_18 : decode cX4_peaceNow 18 = .ok (.invokevirtual 64, 3) := by decide +kernel
theorem dX4_peaceNow_21 : decode cX4_peaceNow 21 = .ok (.iconst (-1), 1) := by decide +kernel
theorem dX4_peaceNow_22 : decode cX4_peaceNow 22 = .ok (.if_icmp .eq 17, 3) := by decide +kernel
theorem dX4_peaceNow_25 : decode cX4_peaceNow 25 = .ok (.aload_n 0, 1) := by decide +kernel
theorem dX4_peaceNow_26 : decode cX4_peaceNow 26 = .ok (.iload_n 2, 1) := by decide +kernel
theorem dX4_peaceNow_27 : decode cX4_peaceNow 27 = .ok (.aload_n 0, 1) := by decide +kernel
theorem dX4_peaceNow_28 : decode cX4_peaceNow 28 = .ok (.iload_n 2, 1) := by decide +kernel
theorem dX4_peaceNow_29 : decode cX4_peaceNow 29 = .ok (.iconst 5, 1) := by decide +kernel
theorem dX4_peaceNow_30 : decode cX4_peaceNow 30 = .ok (.invokevirtual 64, 3) := by decide +kernel
theorem dX4_peaceNow_33 : decode cX4_peaceNow 33 = .ok (.invokevirtual 141, 3) := by decide +kernel
theorem dX4_peaceNow_36 : decode cX4_peaceNow 36 = .ok (.goto 4, 3) := by decide +kernel
theorem dX4_peaceNow_39 : decode cX4_peaceNow 39 = .ok (.iconst 0, 1) := by decide +kernel
theorem dX4_peaceNow_40 : decode cX4_peaceNow 40 = .ok (.iadd, 1) := by decide +kernel
theorem dX4_peaceNow_41 : decode cX4_peaceNow 41 = .ok (.istore_n 1, 1) := by decide +kernel
theorem dX4_peaceNow_42 : decode cX4_peaceNow 42 = .ok (.iinc 2 1, 3) := by decide +kernel
theorem dX4_peaceNow_45 : decode cX4_peaceNow 45 = .ok (.goto (-41), 3) := by decide +kernel
theorem dX4_peaceNow_48 : decode cX4_peaceNow 48 = .ok (.iload_n 1, 1) := by decide +kernel
theorem dX4_peaceNow_49 : decode cX4_peaceNow 49 = .ok (.ireturn, 1) := by decide +kernel
theorem dX4_now_0 : decode cX4_now 0 = .ok (.iload_n 1, 1) := by decide +kernel
theorem dX4_now_1 : decode cX4_now 1 = .ok (.tableswitch 83 0 5 #[39, 46, 51, 64, 69, 78], 39) := by decide +kernel
theorem dX4_now_40 : decode cX4_now 40 = .ok (.aload_n 0, 1) := by decide +kernel
theorem dX4_now_41 : decode cX4_now 41 = .ok (.getfield 7, 3) := by decide +kernel
theorem dX4_now_44 : decode cX4_now 44 = .ok (.iconst 1, 1) := by decide +kernel
theorem dX4_now_45 : decode cX4_now 45 = .ok (.iaload, 1) := by decide +kernel
theorem dX4_now_46 : decode cX4_now 46 = .ok (.ireturn, 1) := by decide +kernel
theorem dX4_now_47 : decode cX4_now 47 = .ok (.aload_n 0, 1) := by decide +kernel
theorem dX4_now_48 : decode cX4_now 48 = .ok (.invokevirtual 127, 3) := by decide +kernel
theorem dX4_now_51 : decode cX4_now 51 = .ok (.ireturn, 1) := by decide +kernel
theorem dX4_now_52 : decode cX4_now 52 = .ok (.aload_n 0, 1) := by decide +kernel
theorem dX4_now_53 : decode cX4_now 53 = .ok (.invokevirtual 131, 3) := by decide +kernel
theorem dX4_now_56 : decode cX4_now 56 = .ok (.ifCond .eq 7, 3) := by decide +kernel
theorem dX4_now_59 : decode cX4_now 59 = .ok (.iconst 1, 1) := by decide +kernel
theorem dX4_now_60 : decode cX4_now 60 = .ok (.goto 4, 3) := by decide +kernel
theorem dX4_now_63 : decode cX4_now 63 = .ok (.iconst 0, 1) := by decide +kernel
theorem dX4_now_64 : decode cX4_now 64 = .ok (.ireturn, 1) := by decide +kernel
theorem dX4_now_65 : decode cX4_now 65 = .ok (.aload_n 0, 1) := by decide +kernel
theorem dX4_now_66 : decode cX4_now 66 = .ok (.invokevirtual 159, 3) := by decide +kernel
theorem dX4_now_69 : decode cX4_now 69 = .ok (.ireturn, 1) := by decide +kernel
theorem dX4_now_70 : decode cX4_now 70 = .ok (.sipush 10000, 3) := by decide +kernel
theorem dX4_now_73 : decode cX4_now 73 = .ok (.aload_n 0, 1) := by decide +kernel
theorem dX4_now_74 : decode cX4_now 74 = .ok (.invokevirtual 162, 3) := by decide +kernel
theorem dX4_now_77 : decode cX4_now 77 = .ok (.iadd, 1) := by decide +kernel
theorem dX4_now_78 : decode cX4_now 78 = .ok (.ireturn, 1) := by decide +kernel
theorem dX4_now_79 : decode cX4_now 79 = .ok (.aload_n 0, 1) := by decide +kernel
theorem dX4_now_80 : decode cX4_now 80 = .ok (.invokevirtual 165, 3) := by decide +kernel
theorem dX4_now_83 : decode cX4_now 83 = .ok (.ireturn, 1) := by decide +kernel
theorem dX4_now_84 : decode cX4_now 84 = .ok (.aload_n 0, 1) := by decide +kernel
theorem dX4_now_85 : decode cX4_now 85 = .ok (.ldc 48, 2) := by decide +kernel
theorem dX4_now_87 : decode cX4_now 87 = .ok (.invokevirtual 77, 3) := by decide +kernel
theorem dX4_now_90 : decode cX4_now 90 = .ok (.ireturn, 1) := by decide +kernel
theorem dX4_on_0 : decode cX4_on 0 = .ok (.aload_n 0, 1) := by decide +kernel
theorem dX4_on_1 : decode cX4_on 1 = .ok (.iload_n 1, 1) := by decide +kernel
theorem dX4_on_2 : decode cX4_on 2 = .ok (.invokevirtual 55, 3) := by decide +kernel
theorem dX4_on_5 : decode cX4_on 5 = .ok (.ifCond .eq 25, 3) := by decide +kernel
theorem dX4_on_8 : decode cX4_on 8 = .ok (.iload_n 2, 1) := by decide +kernel
theorem dX4_on_9 : decode cX4_on 9 = .ok (.i2l, 1) := by decide +kernel
theorem dX4_on_10 : decode cX4_on 10 = .ok (.lconst 0, 1) := by decide +kernel
theorem dX4_on_11 : decode cX4_on 11 = .ok (.ldc2_w 153, 3) := by decide +kernel
theorem dX4_on_14 : decode cX4_on 14 = .ok (.invokestatic 51, 3) := by decide +kernel
theorem dX4_on_17 : decode cX4_on 17 = .ok (.ifCond .eq 13, 3) := by decide +kernel
theorem dX4_on_20 : decode cX4_on 20 = .ok (.iload_n 3, 1) := by decide +kernel
theorem dX4_on_21 : decode cX4_on 21 = .ok (.i2l, 1) := by decide +kernel
theorem dX4_on_22 : decode cX4_on 22 = .ok (.lconst 0, 1) := by decide +kernel
theorem dX4_on_23 : decode cX4_on 23 = .ok (.lconst 1, 1) := by decide +kernel
theorem dX4_on_24 : decode cX4_on 24 = .ok (.invokestatic 51, 3) := by decide +kernel
theorem dX4_on_27 : decode cX4_on 27 = .ok (.ifCond .ne 10, 3) := by decide +kernel
theorem dX4_on_30 : decode cX4_on 30 = .ok (.aload_n 0, 1) := by decide +kernel
theorem dX4_on_31 : decode cX4_on 31 = .ok (.ldc 48, 2) := by decide +kernel
theorem dX4_on_33 : decode cX4_on 33 = .ok (.invokevirtual 77, 3) := by decide +kernel
theorem dX4_on_36 : decode cX4_on 36 = .ok (.ireturn, 1) := by decide +kernel
theorem dX4_on_37 : decode cX4_on 37 = .ok (.aload_n 0, 1) := by decide +kernel
theorem dX4_on_38 : decode cX4_on 38 = .ok (.invokevirtual 168, 3) := by decide +kernel
theorem dX4_on_41 : decode cX4_on 41 = .ok (.aload_n 0, 1) := by decide +kernel
theorem dX4_on_42 : decode cX4_on 42 = .ok (.iload_n 2, 1) := by decide +kernel
theorem dX4_on_43 : decode cX4_on 43 = .ok (.invokevirtual 156, 3) := by decide +kernel
theorem dX4_on_46 : decode cX4_on 46 = .ok (.istore 4, 2) := by decide +kernel
theorem dX4_on_48 : decode cX4_on 48 = .ok (.aload_n 0, 1) := by decide +kernel
theorem dX4_on_49 : decode cX4_on 49 = .ok (.aload_n 0, 1) := by decide +kernel
theorem dX4_on_50 : decode cX4_on 50 = .ok (.iload_n 1, 1) := by decide +kernel
theorem dX4_on_51 : decode cX4_on 51 = .ok (.iload_n 3, 1) := by decide +kernel
theorem dX4_on_52 : decode cX4_on 52 = .ok (.ifCond .ne 7, 3) := by decide +kernel
theorem dX4_on_55 : decode cX4_on 55 = .ok (.iconst 5, 1) := by decide +kernel
theorem dX4_on_56 : decode cX4_on 56 = .ok (.goto 4, 3) := by decide +kernel
theorem dX4_on_59 : decode cX4_on 59 = .ok (.iconst 4, 1) := by decide +kernel
theorem dX4_on_60 : decode cX4_on 60 = .ok (.invokevirtual 64, 3) := by decide +kernel
theorem dX4_on_63 : decode cX4_on 63 = .ok (.invokevirtual 171, 3) := by decide +kernel
theorem dX4_on_66 : decode cX4_on 66 = .ok (.ireturn, 1) := by decide +kernel
theorem dX4_peaceIn_0 : decode cX4_peaceIn 0 = .ok (.aload_n 0, 1) := by decide +kernel
theorem dX4_peaceIn_1 : decode cX4_peaceIn 1 = .ok (.invokevirtual 168, 3) := by decide +kernel
theorem dX4_peaceIn_4 : decode cX4_peaceIn 4 = .ok (.aload_n 0, 1) := by decide +kernel
theorem dX4_peaceIn_5 : decode cX4_peaceIn 5 = .ok (.iload_n 1, 1) := by decide +kernel
theorem dX4_peaceIn_6 : decode cX4_peaceIn 6 = .ok (.invokevirtual 156, 3) := by decide +kernel
theorem dX4_peaceIn_9 : decode cX4_peaceIn 9 = .ok (.istore_n 2, 1) := by decide +kernel
theorem dX4_peaceIn_10 : decode cX4_peaceIn 10 = .ok (.aload_n 0, 1) := by decide +kernel
theorem dX4_peaceIn_11 : decode cX4_peaceIn 11 = .ok (.aload_n 0, 1) := by decide +kernel
theorem dX4_peaceIn_12 : decode cX4_peaceIn 12 = .ok (.invokevirtual 162, 3) := by decide +kernel
theorem dX4_peaceIn_15 : decode cX4_peaceIn 15 = .ok (.invokevirtual 171, 3) := by decide +kernel
theorem dX4_peaceIn_18 : decode cX4_peaceIn 18 = .ok (.ireturn, 1) := by decide +kernel
theorem dX4_peace_0 : decode cX4_peace 0 = .ok (.iload_n 1, 1) := by decide +kernel
theorem dX4_peace_1 : decode cX4_peace 1 = .ok (.i2l, 1) := by decide +kernel
theorem dX4_peace_2 : decode cX4_peace 2 = .ok (.lconst 0, 1) := by decide +kernel
theorem dX4_peace_3 : decode cX4_peace 3 = .ok (.ldc2_w 153, 3) := by decide +kernel
theorem dX4_peace_6 : decode cX4_peace 6 = .ok (.invokestatic 51, 3) := by decide +kernel
theorem dX4_peace_9 : decode cX4_peace 9 = .ok (.ifCond .eq 15, 3) := by decide +kernel
theorem dX4_peace_12 : decode cX4_peace 12 = .ok (.sipush 10000, 3) := by decide +kernel
theorem dX4_peace_15 : decode cX4_peace 15 = .ok (.aload_n 0, 1) := by decide +kernel
theorem dX4_peace_16 : decode cX4_peace 16 = .ok (.iload_n 1, 1) := by decide +kernel
theorem dX4_peace_17 : decode cX4_peace 17 = .ok (.invokevirtual 174, 3) := by decide +kernel
theorem dX4_peace_20 : decode cX4_peace 20 = .ok (.iadd, 1) := by decide +kernel
theorem dX4_peace_21 : decode cX4_peace 21 = .ok (.goto 9, 3) := by decide +kernel
theorem dX4_peace_24 : decode cX4_peace 24 = .ok (.aload_n 0, 1) := by decide +kernel
theorem dX4_peace_25 : decode cX4_peace 25 = .ok (.ldc 48, 2) := by decide +kernel
theorem dX4_peace_27 : decode cX4_peace 27 = .ok (.invokevirtual 77, 3) := by decide +kernel
theorem dX4_peace_30 : decode cX4_peace 30 = .ok (.ireturn, 1) := by decide +kernel
theorem dX4_settles_0 : decode cX4_settles 0 = .ok (.aload_n 0, 1) := by decide +kernel
theorem dX4_settles_1 : decode cX4_settles 1 = .ok (.invokevirtual 168, 3) := by decide +kernel
theorem dX4_settles_4 : decode cX4_settles 4 = .ok (.iconst 0, 1) := by decide +kernel
theorem dX4_settles_5 : decode cX4_settles 5 = .ok (.istore_n 1, 1) := by decide +kernel
theorem dX4_settles_6 : decode cX4_settles 6 = .ok (.iload_n 1, 1) := by decide +kernel
theorem dX4_settles_7 : decode cX4_settles 7 = .ok (.bipush 60, 2) := by decide +kernel
theorem dX4_settles_9 : decode cX4_settles 9 = .ok (.if_icmp .gt 16, 3) := by decide +kernel
theorem dX4_settles_12 : decode cX4_settles 12 = .ok (.aload_n 0, 1) := by decide +kernel
theorem dX4_settles_13 : decode cX4_settles 13 = .ok (.invokevirtual 150, 3) := by decide +kernel
theorem dX4_settles_16 : decode cX4_settles 16 = .ok (.ifCond .le 9, 3) := by decide +kernel
theorem dX4_settles_19 : decode cX4_settles 19 = .ok (.iinc 1 1, 3) := by decide +kernel
theorem dX4_settles_22 : decode cX4_settles 22 = .ok (.goto (-16), 3) := by decide +kernel
theorem dX4_settles_25 : decode cX4_settles 25 = .ok (.aload_n 0, 1) := by decide +kernel
theorem dX4_settles_26 : decode cX4_settles 26 = .ok (.iload_n 1, 1) := by decide +kernel
theorem dX4_settles_27 : decode cX4_settles 27 = .ok (.invokevirtual 171, 3) := by decide +kernel
theorem dX4_settles_30 : decode cX4_settles 30 = .ok (.istore_n 2, 1) := by decide +kernel
theorem dX4_settles_31 : decode cX4_settles 31 = .ok (.iload_n 2, 1) := by decide +kernel
theorem dX4_settles_32 : decode cX4_settles 32 = .ok (.bipush 60, 2) := by decide +kernel
theorem dX4_settles_34 : decode cX4_settles 34 = .ok (.if_icmp .le 12, 3) := by decide +kernel
theorem dX4_settles_37 : decode cX4_settles 37 = .ok (.aload_n 0, 1) := by decide +kernel
theorem dX4_settles_38 : decode cX4_settles 38 = .ok (.ldc 177, 2) := by decide +kernel
theorem dX4_settles_40 : decode cX4_settles 40 = .ok (.invokevirtual 77, 3) := by decide +kernel
theorem dX4_settles_43 : decode cX4_settles 43 = .ok (.goto 4, 3) := by decide +kernel
theorem dX4_settles_46 : decode cX4_settles 46 = .ok (.iload_n 2, 1) := by decide +kernel
theorem dX4_settles_47 : decode cX4_settles 47 = .ok (.ireturn, 1) := by decide +kernel
theorem dX4_gets_0 : decode cX4_gets 0 = .ok (.aload_n 0, 1) := by decide +kernel
theorem dX4_gets_1 : decode cX4_gets 1 = .ok (.iload_n 1, 1) := by decide +kernel
theorem dX4_gets_2 : decode cX4_gets 2 = .ok (.invokevirtual 55, 3) := by decide +kernel
theorem dX4_gets_5 : decode cX4_gets 5 = .ok (.ifCond .eq 10, 3) := by decide +kernel
theorem dX4_gets_8 : decode cX4_gets 8 = .ok (.iload_n 2, 1) := by decide +kernel
theorem dX4_gets_9 : decode cX4_gets 9 = .ok (.invokestatic 71, 3) := by decide +kernel
theorem dX4_gets_12 : decode cX4_gets 12 = .ok (.ifCond .ne 10, 3) := by decide +kernel
theorem dX4_gets_15 : decode cX4_gets 15 = .ok (.aload_n 0, 1) := by decide +kernel
theorem dX4_gets_16 : decode cX4_gets 16 = .ok (.ldc 48, 2) := by decide +kernel
theorem dX4_gets_18 : decode cX4_gets 18 = .ok (.invokevirtual 77, 3) := by decide +kernel
theorem dX4_gets_21 : decode cX4_gets 21 = .ok (.ireturn, 1) := by decide +kernel
theorem dX4_gets_22 : decode cX4_gets 22 = .ok (.aload_n 0, 1) := by decide +kernel
theorem dX4_gets_23 : decode cX4_gets 23 = .ok (.invokevirtual 168, 3) := by decide +kernel
theorem dX4_gets_26 : decode cX4_gets 26 = .ok (.iconst 0, 1) := by decide +kernel
theorem dX4_gets_27 : decode cX4_gets 27 = .ok (.istore_n 3, 1) := by decide +kernel
theorem dX4_gets_28 : decode cX4_gets 28 = .ok (.iload_n 3, 1) := by decide +kernel
theorem dX4_gets_29 : decode cX4_gets 29 = .ok (.bipush 60, 2) := by decide +kernel
theorem dX4_gets_31 : decode cX4_gets 31 = .ok (.if_icmp .gt 25, 3) := by decide +kernel
theorem dX4_gets_34 : decode cX4_gets 34 = .ok (.aload_n 0, 1) := by decide +kernel
theorem dX4_gets_35 : decode cX4_gets 35 = .ok (.iload_n 1, 1) := by decide +kernel
theorem dX4_gets_36 : decode cX4_gets 36 = .ok (.iconst 5, 1) := by decide +kernel
theorem dX4_gets_37 : decode cX4_gets 37 = .ok (.invokevirtual 64, 3) := by decide +kernel
theorem dX4_gets_40 : decode cX4_gets 40 = .ok (.iload_n 2, 1) := by decide +kernel
theorem dX4_gets_41 : decode cX4_gets 41 = .ok (.if_icmp .eq 15, 3) := by decide +kernel
theorem dX4_gets_44 : decode cX4_gets 44 = .ok (.aload_n 0, 1) := by decide +kernel
theorem dX4_gets_45 : decode cX4_gets 45 = .ok (.invokevirtual 150, 3) := by decide +kernel
theorem dX4_gets_48 : decode cX4_gets 48 = .ok (.istore 4, 2) := by decide +kernel
theorem dX4_gets_50 : decode cX4_gets 50 = .ok (.iinc 3 1, 3) := by decide +kernel
theorem dX4_gets_53 : decode cX4_gets 53 = .ok (.goto (-25), 3) := by decide +kernel
theorem dX4_gets_56 : decode cX4_gets 56 = .ok (.aload_n 0, 1) := by decide +kernel
theorem dX4_gets_57 : decode cX4_gets 57 = .ok (.iload_n 3, 1) := by decide +kernel
theorem dX4_gets_58 : decode cX4_gets 58 = .ok (.invokevirtual 171, 3) := by decide +kernel
theorem dX4_gets_61 : decode cX4_gets 61 = .ok (.istore 4, 2) := by decide +kernel
theorem dX4_gets_63 : decode cX4_gets 63 = .ok (.iload 4, 2) := by decide +kernel
theorem dX4_gets_65 : decode cX4_gets 65 = .ok (.bipush 60, 2) := by decide +kernel
theorem dX4_gets_67 : decode cX4_gets 67 = .ok (.if_icmp .le 12, 3) := by decide +kernel
theorem dX4_gets_70 : decode cX4_gets 70 = .ok (.aload_n 0, 1) := by decide +kernel
theorem dX4_gets_71 : decode cX4_gets 71 = .ok (.ldc 177, 2) := by decide +kernel
theorem dX4_gets_73 : decode cX4_gets 73 = .ok (.invokevirtual 77, 3) := by decide +kernel
theorem dX4_gets_76 : decode cX4_gets 76 = .ok (.goto 5, 3) := by decide +kernel
theorem dX4_gets_79 : decode cX4_gets 79 = .ok (.iload 4, 2) := by decide +kernel
theorem dX4_gets_81 : decode cX4_gets 81 = .ok (.ireturn, 1) := by decide +kernel
theorem dX4_places_0 : decode cX4_places 0 = .ok (.iload_n 2, 1) := by decide +kernel
theorem dX4_places_1 : decode cX4_places 1 = .ok (.ifCond .ne 29, 3) := by decide +kernel
theorem dX4_places_4 : decode cX4_places 4 = .ok (.aload_n 0, 1) := by decide +kernel
theorem dX4_places_5 : decode cX4_places 5 = .ok (.invokevirtual 162, 3) := by decide +kernel
theorem dX4_places_8 : decode cX4_places 8 = .ok (.istore_n 3, 1) := by decide +kernel
theorem dX4_places_9 : decode cX4_places 9 = .ok (.aload_n 0, 1) := by decide +kernel
theorem dX4_places_10 : decode cX4_places 10 = .ok (.iload_n 3, 1) := by decide +kernel
theorem dX4_places_11 : decode cX4_places 11 = .ok (.aload_n 0, 1) := by decide +kernel
theorem dX4_places_12 : decode cX4_places 12 = .ok (.getfield 178, 3) := by decide +kernel
theorem dX4_places_15 : decode cX4_places 15 = .ok (.if_icmp .le 7, 3) := by decide +kernel
theorem dX4_places_18 : decode cX4_places 18 = .ok (.iload_n 3, 1) := by decide +kernel
theorem dX4_places_19 : decode cX4_places 19 = .ok (.goto 7, 3) := by decide +kernel
theorem dX4_places_22 : decode cX4_places 22 = .ok (.aload_n 0, 1) := by decide +kernel
theorem dX4_places_23 : decode cX4_places 23 = .ok (.getfield 178, 3) := by decide +kernel
theorem dX4_places_26 : decode cX4_places 26 = .ok (.putfield 178, 3) := by decide +kernel
theorem dX4_places_29 : decode cX4_places 29 = .ok (.return_, 1) := by decide +kernel
theorem dX4_places_30 : decode cX4_places 30 = .ok (.iconst 0, 1) := by decide +kernel
theorem dX4_places_31 : decode cX4_places 31 = .ok (.istore_n 3, 1) := by decide +kernel
theorem dX4_places_32 : decode cX4_places 32 = .ok (.iload_n 3, 1) := by decide +kernel
theorem dX4_places_33 : decode cX4_places 33 = .ok (.aload_n 0, 1) := by decide +kernel
theorem dX4_places_34 : decode cX4_places 34 = .ok (.getfield 7, 3) := by decide +kernel
theorem dX4_places_37 : decode cX4_places 37 = .ok (.iconst 0, 1) := by decide +kernel
theorem dX4_places_38 : decode cX4_places 38 = .ok (.iaload, 1) := by decide +kernel
theorem dX4_places_39 : decode cX4_places 39 = .ok (.if_icmp .ge 48, 3) := by decide +kernel
theorem dX4_places_42 : decode cX4_places 42 = .ok (.iload_n 2, 1) := by decide +kernel
theorem dX4_places_43 : decode cX4_places 43 = .ok (.iload_n 3, 1) := by decide +kernel
theorem dX4_places_44 : decode cX4_places 44 = .ok (.ishr, 1) := by decide +kernel
theorem dX4_places_45 : decode cX4_places 45 = .ok (.iconst 1, 1) := by decide +kernel
theorem dX4_places_46 : decode cX4_places 46 = .ok (.iand, 1) := by decide +kernel
theorem dX4_places_47 : decode cX4_places 47 = .ok (.iconst 1, 1) := by decide +kernel
theorem dX4_places_48 : decode cX4_places 48 = .ok (.if_icmp .ne 33, 3) := by decide +kernel
theorem dX4_places_51 : decode cX4_places 51 = .ok (.aload_n 0, 1) := by decide +kernel
theorem dX4_places_52 : decode cX4_places 52 = .ok (.getfield 7, 3) := by decide +kernel
theorem dX4_places_55 : decode cX4_places 55 = .ok (.iload_n 3, 1) := by decide +kernel
theorem dX4_places_56 : decode cX4_places 56 = .ok (.iconst 5, 1) := by decide +kernel
theorem dX4_places_57 : decode cX4_places 57 = .ok (.invokestatic 61, 3) := by decide +kernel
theorem dX4_places_60 : decode cX4_places 60 = .ok (.aload_n 0, 1) := by decide +kernel
theorem dX4_places_61 : decode cX4_places 61 = .ok (.getfield 25, 3) := by decide +kernel
theorem dX4_places_64 : decode cX4_places 64 = .ok (.iload_n 1, 1) := by decide +kernel
theorem dX4_places_65 : decode cX4_places 65 = .ok (.iaload, 1) := by decide +kernel
theorem dX4_places_66 : decode cX4_places 66 = .ok (.iastore, 1) := by decide +kernel
theorem dX4_places_67 : decode cX4_places 67 = .ok (.aload_n 0, 1) := by decide +kernel
theorem dX4_places_68 : decode cX4_places 68 = .ok (.iload_n 1, 1) := by decide +kernel
theorem dX4_places_69 : decode cX4_places 69 = .ok (.iconst 1, 1) := by decide +kernel
theorem dX4_places_70 : decode cX4_places 70 = .ok (.iadd, 1) := by decide +kernel
theorem dX4_places_71 : decode cX4_places 71 = .ok (.iload_n 2, 1) := by decide +kernel
theorem dX4_places_72 : decode cX4_places 72 = .ok (.iconst 1, 1) := by decide +kernel
theorem dX4_places_73 : decode cX4_places 73 = .ok (.iload_n 3, 1) := by decide +kernel
theorem dX4_places_74 : decode cX4_places 74 = .ok (.ishl, 1) := by decide +kernel
theorem dX4_places_75 : decode cX4_places 75 = .ok (.iconst (-1), 1) := by decide +kernel
theorem dX4_places_76 : decode cX4_places 76 = .ok (.ixor, 1) := by decide +kernel
theorem dX4_places_77 : decode cX4_places 77 = .ok (.iand, 1) := by decide +kernel
theorem dX4_places_78 : decode cX4_places 78 = .ok (.invokevirtual 182, 3) := by decide +kernel
theorem dX4_places_81 : decode cX4_places 81 = .ok (.iinc 3 1, 3) := by decide +kernel
theorem dX4_places_84 : decode cX4_places 84 = .ok (.goto (-52), 3) := by decide +kernel
theorem dX4_places_87 : decode cX4_places 87 = .ok (.return_, 1) := by decide +kernel
theorem dX4_best_0 : decode cX4_best 0 = .ok (.aload_n 0, 1) := by decide +kernel
theorem dX4_best_1 : decode cX4_best 1 = .ok (.invokevirtual 159, 3) := by decide +kernel
theorem dX4_best_4 : decode cX4_best 4 = .ok (.istore_n 1, 1) := by decide +kernel
theorem dX4_best_5 : decode cX4_best 5 = .ok (.iload_n 1, 1) := by decide +kernel
theorem dX4_best_6 : decode cX4_best 6 = .ok (.invokestatic 185, 3) := by decide +kernel
theorem dX4_best_9 : decode cX4_best 9 = .ok (.bipush 6, 2) := by decide +kernel
theorem dX4_best_11 : decode cX4_best 11 = .ok (.if_icmp .le 10, 3) := by decide +kernel
theorem dX4_best_14 : decode cX4_best 14 = .ok (.aload_n 0, 1) := by decide +kernel
theorem dX4_best_15 : decode cX4_best 15 = .ok (.ldc 188, 2) := by decide +kernel
theorem dX4_best_17 : decode cX4_best 17 = .ok (.invokevirtual 77, 3) := by decide +kernel
theorem dX4_best_20 : decode cX4_best 20 = .ok (.ireturn, 1) := by decide +kernel
theorem dX4_best_21 : decode cX4_best 21 = .ok (.aload_n 0, 1) := by decide +kernel
theorem dX4_best_22 : decode cX4_best 22 = .ok (.iconst 0, 1) := by decide +kernel
theorem dX4_best_23 : decode cX4_best 23 = .ok (.putfield 189, 3) := by decide +kernel
theorem dX4_best_26 : decode cX4_best 26 = .ok (.iconst 0, 1) := by decide +kernel
theorem dX4_best_27 : decode cX4_best 27 = .ok (.istore_n 2, 1) := by decide +kernel
theorem dX4_best_28 : decode cX4_best 28 = .ok (.iload_n 2, 1) := by decide +kernel
theorem dX4_best_29 : decode cX4_best 29 = .ok (.bipush 8, 2) := by decide +kernel
theorem dX4_best_31 : decode cX4_best 31 = .ok (.if_icmp .ge 38, 3) := by decide +kernel
theorem dX4_best_34 : decode cX4_best 34 = .ok (.aload_n 0, 1) := by decide +kernel
theorem dX4_best_35 : decode cX4_best 35 = .ok (.iload_n 2, 1) := by decide +kernel
theorem dX4_best_36 : decode cX4_best 36 = .ok (.invokevirtual 83, 3) := by decide +kernel
theorem dX4_best_39 : decode cX4_best 39 = .ok (.iconst (-1), 1) := by decide +kernel
theorem dX4_best_40 : decode cX4_best 40 = .ok (.if_icmp .eq 23, 3) := by decide +kernel
theorem dX4_best_43 : decode cX4_best 43 = .ok (.aload_n 0, 1) := by decide +kernel
theorem dX4_best_44 : decode cX4_best 44 = .ok (.getfield 25, 3) := by decide +kernel
theorem dX4_best_47 : decode cX4_best 47 = .ok (.aload_n 0, 1) := by decide +kernel
theorem dX4_best_48 : decode cX4_best 48 = .ok (.getfield 189, 3) := by decide +kernel
theorem dX4_best_51 : decode cX4_best 51 = .ok (.iload_n 2, 1) := by decide +kernel
theorem dX4_best_52 : decode cX4_best 52 = .ok (.iastore, 1) := by decide +kernel
theorem dX4_best_53 : decode cX4_best 53 = .ok (.aload_n 0, 1) := by decide +kernel
theorem dX4_best_54 : decode cX4_best 54 = .ok (.dup, 1) := by decide +kernel
theorem dX4_best_55 : decode cX4_best 55 = .ok (.getfield 189, 3) := by decide +kernel
theorem dX4_best_58 : decode cX4_best 58 = .ok (.iconst 1, 1) := by decide +kernel
theorem dX4_best_59 : decode cX4_best 59 = .ok (.iadd, 1) := by decide +kernel
theorem dX4_best_60 : decode cX4_best 60 = .ok (.putfield 189, 3) := by decide +kernel
theorem dX4_best_63 : decode cX4_best 63 = .ok (.iinc 2 1, 3) := by decide +kernel
theorem dX4_best_66 : decode cX4_best 66 = .ok (.goto (-38), 3) := by decide +kernel
theorem dX4_best_69 : decode cX4_best 69 = .ok (.aload_n 0, 1) := by decide +kernel
theorem dX4_best_70 : decode cX4_best 70 = .ok (.sipush (-10000), 3) := by decide +kernel
theorem dX4_best_73 : decode cX4_best 73 = .ok (.putfield 178, 3) := by decide +kernel
theorem dX4_best_76 : decode cX4_best 76 = .ok (.aload_n 0, 1) := by decide +kernel
theorem dX4_best_77 : decode cX4_best 77 = .ok (.invokevirtual 168, 3) := by decide +kernel
theorem dX4_best_80 : decode cX4_best 80 = .ok (.aload_n 0, 1) := by decide +kernel
theorem dX4_best_81 : decode cX4_best 81 = .ok (.iconst 0, 1) := by decide +kernel
theorem dX4_best_82 : decode cX4_best 82 = .ok (.iload_n 1, 1) := by decide +kernel
theorem dX4_best_83 : decode cX4_best 83 = .ok (.invokevirtual 182, 3) := by decide +kernel
theorem dX4_best_86 : decode cX4_best 86 = .ok (.aload_n 0, 1) := by decide +kernel
theorem dX4_best_87 : decode cX4_best 87 = .ok (.sipush 10000, 3) := by decide +kernel
theorem dX4_best_90 : decode cX4_best 90 = .ok (.aload_n 0, 1) := by decide +kernel
theorem dX4_best_91 : decode cX4_best 91 = .ok (.getfield 178, 3) := by decide +kernel
theorem dX4_best_94 : decode cX4_best 94 = .ok (.iadd, 1) := by decide +kernel
theorem dX4_best_95 : decode cX4_best 95 = .ok (.invokevirtual 171, 3) := by decide +kernel
theorem dX4_best_98 : decode cX4_best 98 = .ok (.ireturn, 1) := by decide +kernel
theorem dX4_isSoon_0 : decode cX4_isSoon 0 = .ok (.iload_n 0, 1) := by decide +kernel
theorem dX4_isSoon_1 : decode cX4_isSoon 1 = .ok (.i2l, 1) := by decide +kernel
theorem dX4_isSoon_2 : decode cX4_isSoon 2 = .ok (.lconst 0, 1) := by decide +kernel
theorem dX4_isSoon_3 : decode cX4_isSoon 3 = .ok (.ldc2_w 192, 3) := by decide +kernel
theorem dX4_isSoon_6 : decode cX4_isSoon 6 = .ok (.invokestatic 51, 3) := by decide +kernel
theorem dX4_isSoon_9 : decode cX4_isSoon 9 = .ok (.ireturn, 1) := by decide +kernel
theorem dX4_mend_0 : decode cX4_mend 0 = .ok (.iload_n 1, 1) := by decide +kernel
theorem dX4_mend_1 : decode cX4_mend 1 = .ok (.invokestatic 194, 3) := by decide +kernel
theorem dX4_mend_4 : decode cX4_mend 4 = .ok (.ifCond .ne 10, 3) := by decide +kernel
theorem dX4_mend_7 : decode cX4_mend 7 = .ok (.aload_n 0, 1) := by decide +kernel
theorem dX4_mend_8 : decode cX4_mend 8 = .ok (.ldc 48, 2) := by decide +kernel
theorem dX4_mend_10 : decode cX4_mend 10 = .ok (.invokevirtual 77, 3) := by decide +kernel
theorem dX4_mend_13 : decode cX4_mend 13 = .ok (.ireturn, 1) := by decide +kernel
theorem dX4_mend_14 : decode cX4_mend 14 = .ok (.iconst (-1), 1) := by decide +kernel
theorem dX4_mend_15 : decode cX4_mend 15 = .ok (.istore_n 2, 1) := by decide +kernel
theorem dX4_mend_16 : decode cX4_mend 16 = .ok (.aload_n 0, 1) := by decide +kernel
theorem dX4_mend_17 : decode cX4_mend 17 = .ok (.iload_n 1, 1) := by decide +kernel
theorem dX4_mend_18 : decode cX4_mend 18 = .ok (.invokevirtual 174, 3) := by decide +kernel
theorem dX4_mend_21 : decode cX4_mend 21 = .ok (.istore_n 3, 1) := by decide +kernel
theorem dX4_mend_22 : decode cX4_mend 22 = .ok (.iconst 0, 1) := by decide +kernel
theorem dX4_mend_23 : decode cX4_mend 23 = .ok (.istore 4, 2) := by decide +kernel
theorem dX4_mend_25 : decode cX4_mend 25 = .ok (.iload 4, 2) := by decide +kernel
theorem dX4_mend_27 : decode cX4_mend 27 = .ok (.aload_n 0, 1) := by decide +kernel
theorem dX4_mend_28 : decode cX4_mend 28 = .ok (.getfield 7, 3) := by decide +kernel
theorem dX4_mend_31 : decode cX4_mend 31 = .ok (.iconst 0, 1) := by decide +kernel
theorem dX4_mend_32 : decode cX4_mend 32 = .ok (.iaload, 1) := by decide +kernel
theorem dX4_mend_33 : decode cX4_mend 33 = .ok (.if_icmp .ge 100, 3) := by decide +kernel
theorem dX4_mend_36 : decode cX4_mend 36 = .ok (.iload 4, 2) := by decide +kernel
theorem dX4_mend_38 : decode cX4_mend 38 = .ok (.iconst 1, 1) := by decide +kernel
theorem dX4_mend_39 : decode cX4_mend 39 = .ok (.iadd, 1) := by decide +kernel
theorem dX4_mend_40 : decode cX4_mend 40 = .ok (.istore 5, 2) := by decide +kernel
theorem dX4_mend_42 : decode cX4_mend 42 = .ok (.iload 5, 2) := by decide +kernel
theorem dX4_mend_44 : decode cX4_mend 44 = .ok (.aload_n 0, 1) := by decide +kernel
theorem dX4_mend_45 : decode cX4_mend 45 = .ok (.getfield 7, 3) := by decide +kernel
theorem dX4_mend_48 : decode cX4_mend 48 = .ok (.iconst 0, 1) := by decide +kernel
theorem dX4_mend_49 : decode cX4_mend 49 = .ok (.iaload, 1) := by decide +kernel
theorem dX4_mend_50 : decode cX4_mend 50 = .ok (.if_icmp .ge 77, 3) := by decide +kernel
theorem dX4_mend_53 : decode cX4_mend 53 = .ok (.aload_n 0, 1) := by decide +kernel
theorem dX4_mend_54 : decode cX4_mend 54 = .ok (.iload 4, 2) := by decide +kernel
theorem dX4_mend_56 : decode cX4_mend 56 = .ok (.iload 5, 2) := by decide +kernel
theorem dX4_mend_58 : decode cX4_mend 58 = .ok (.invokevirtual 115, 3) := by decide +kernel
theorem dX4_mend_61 : decode cX4_mend 61 = .ok (.ifCond .eq 60, 3) := by decide +kernel
theorem dX4_mend_64 : decode cX4_mend 64 = .ok (.aload_n 0, 1) := by decide +kernel
theorem dX4_mend_65 : decode cX4_mend 65 = .ok (.iload 4, 2) := by decide +kernel
theorem dX4_mend_67 : decode cX4_mend 67 = .ok (.iload 5, 2) := by decide +kernel
theorem dX4_mend_69 : decode cX4_mend 69 = .ok (.iconst 0, 1) := by decide +kernel
theorem dX4_mend_70 : decode cX4_mend 70 = .ok (.invokevirtual 118, 3) := by decide +kernel
theorem dX4_mend_73 : decode cX4_mend 73 = .ok (.aload_n 0, 1) := by decide +kernel
theorem dX4_mend_74 : decode cX4_mend 74 = .ok (.iload_n 1, 1) := by decide +kernel
theorem dX4_mend_75 : decode cX4_mend 75 = .ok (.invokevirtual 174, 3) := by decide +kernel
theorem dX4_mend_78 : decode cX4_mend 78 = .ok (.istore 6, 2) := by decide +kernel
theorem dX4_mend_80 : decode cX4_mend 80 = .ok (.aload_n 0, 1) := by decide +kernel
theorem dX4_mend_81 : decode cX4_mend 81 = .ok (.iload 4, 2) := by decide +kernel
theorem dX4_mend_83 : decode cX4_mend 83 = .ok (.iload 5, 2) := by decide +kernel
theorem dX4_mend_85 : decode cX4_mend 85 = .ok (.iconst 1, 1) := by decide +kernel
theorem dX4_mend_86 : decode cX4_mend 86 = .ok (.invokevirtual 118, 3) := by decide +kernel
theorem dX4_mend_89 : decode cX4_mend 89 = .ok (.iload 6, 2) := by decide +kernel
theorem dX4_mend_91 : decode cX4_mend 91 = .ok (.iload_n 3, 1) := by decide +kernel
theorem dX4_mend_92 : decode cX4_mend 92 = .ok (.if_icmp .le 14, 3) := by decide +kernel
theorem dX4_mend_95 : decode cX4_mend 95 = .ok (.bipush 10, 2) := by decide +kernel
theorem dX4_mend_97 : decode cX4_mend 97 = .ok (.iload 4, 2) := by decide +kernel
theorem dX4_mend_99 : decode cX4_mend 99 = .ok (.imul, 1) := by decide +kernel
theorem dX4_mend_100 : decode cX4_mend 100 = .ok (.iload 5, 2) := by decide +kernel
theorem dX4_mend_102 : decode cX4_mend 102 = .ok (.iadd, 1) := by decide +kernel
theorem dX4_mend_103 : decode cX4_mend 103 = .ok (.goto 4, 3) := by decide +kernel
theorem dX4_mend_106 : decode cX4_mend 106 = .ok (.iload_n 2, 1) := by decide +kernel
theorem dX4_mend_107 : decode cX4_mend 107 = .ok (.istore_n 2, 1) := by decide +kernel
theorem dX4_mend_108 : decode cX4_mend 108 = .ok (.iload 6, 2) := by decide +kernel
theorem dX4_mend_110 : decode cX4_mend 110 = .ok (.iload_n 3, 1) := by decide +kernel
theorem dX4_mend_111 : decode cX4_mend 111 = .ok (.if_icmp .le 8, 3) := by decide +kernel
theorem dX4_mend_114 : decode cX4_mend 114 = .ok (.iload 6, 2) := by decide +kernel
theorem dX4_mend_116 : decode cX4_mend 116 = .ok (.goto 4, 3) := by decide +kernel
theorem dX4_mend_119 : decode cX4_mend 119 = .ok (.iload_n 3, 1) := by decide +kernel
theorem dX4_mend_120 : decode cX4_mend 120 = .ok (.istore_n 3, 1) := by decide +kernel
theorem dX4_mend_121 : decode cX4_mend 121 = .ok (.iinc 5 1, 3) := by decide +kernel
theorem dX4_mend_124 : decode cX4_mend 124 = .ok (.goto (-82), 3) := by decide +kernel
theorem dX4_mend_127 : decode cX4_mend 127 = .ok (.iinc 4 1, 3) := by decide +kernel
theorem dX4_mend_130 : decode cX4_mend 130 = .ok (.goto (-105), 3) := by decide +kernel
theorem dX4_mend_133 : decode cX4_mend 133 = .ok (.iload_n 2, 1) := by decide +kernel
theorem dX4_mend_134 : decode cX4_mend 134 = .ok (.ifCond .ge 12, 3) := by decide +kernel
theorem dX4_mend_137 : decode cX4_mend 137 = .ok (.aload_n 0, 1) := by decide +kernel
theorem dX4_mend_138 : decode cX4_mend 138 = .ok (.ldc 177, 2) := by decide +kernel
theorem dX4_mend_140 : decode cX4_mend 140 = .ok (.invokevirtual 77, 3) := by decide +kernel
theorem dX4_mend_143 : decode cX4_mend 143 = .ok (.goto 4, 3) := by decide +kernel
theorem dX4_mend_146 : decode cX4_mend 146 = .ok (.iload_n 2, 1) := by decide +kernel
theorem dX4_mend_147 : decode cX4_mend 147 = .ok (.ireturn, 1) := by decide +kernel
theorem dX4_wellIn_0 : decode cX4_wellIn 0 = .ok (.aload_n 0, 1) := by decide +kernel
theorem dX4_wellIn_1 : decode cX4_wellIn 1 = .ok (.invokevirtual 168, 3) := by decide +kernel
theorem dX4_wellIn_4 : decode cX4_wellIn 4 = .ok (.aload_n 0, 1) := by decide +kernel
theorem dX4_wellIn_5 : decode cX4_wellIn 5 = .ok (.iload_n 2, 1) := by decide +kernel
theorem dX4_wellIn_6 : decode cX4_wellIn 6 = .ok (.invokevirtual 156, 3) := by decide +kernel
theorem dX4_wellIn_9 : decode cX4_wellIn 9 = .ok (.istore_n 3, 1) := by decide +kernel
theorem dX4_wellIn_10 : decode cX4_wellIn 10 = .ok (.aload_n 0, 1) := by decide +kernel
theorem dX4_wellIn_11 : decode cX4_wellIn 11 = .ok (.aload_n 0, 1) := by decide +kernel
theorem dX4_wellIn_12 : decode cX4_wellIn 12 = .ok (.iload_n 1, 1) := by decide +kernel
theorem dX4_wellIn_13 : decode cX4_wellIn 13 = .ok (.iconst 5, 1) := by decide +kernel
theorem dX4_wellIn_14 : decode cX4_wellIn 14 = .ok (.invokevirtual 64, 3) := by decide +kernel
theorem dX4_wellIn_17 : decode cX4_wellIn 17 = .ok (.iconst (-1), 1) := by decide +kernel
theorem dX4_wellIn_18 : decode cX4_wellIn 18 = .ok (.if_icmp .ne 9, 3) := by decide +kernel
theorem dX4_wellIn_21 : decode cX4_wellIn 21 = .ok (.sipush (-1000), 3) := by decide +kernel
theorem dX4_wellIn_24 : decode cX4_wellIn 24 = .ok (.goto 14, 3) := by decide +kernel
theorem dX4_wellIn_27 : decode cX4_wellIn 27 = .ok (.aload_n 0, 1) := by decide +kernel
theorem dX4_wellIn_28 : decode cX4_wellIn 28 = .ok (.iload_n 1, 1) := by decide +kernel
theorem dX4_wellIn_29 : decode cX4_wellIn 29 = .ok (.aload_n 0, 1) := by decide +kernel
theorem dX4_wellIn_30 : decode cX4_wellIn 30 = .ok (.iload_n 1, 1) := by decide +kernel
theorem dX4_wellIn_31 : decode cX4_wellIn 31 = .ok (.iconst 5, 1) := by decide +kernel
theorem dX4_wellIn_32 : decode cX4_wellIn 32 = .ok (.invokevirtual 64, 3) := by decide +kernel
theorem dX4_wellIn_35 : decode cX4_wellIn 35 = .ok (.invokevirtual 141, 3) := by decide +kernel
theorem dX4_wellIn_38 : decode cX4_wellIn 38 = .ok (.invokevirtual 171, 3) := by decide +kernel
theorem dX4_wellIn_41 : decode cX4_wellIn 41 = .ok (.ireturn, 1) := by decide +kernel
theorem dX4_bestBy_0 : decode cX4_bestBy 0 = .ok (.aload_n 0, 1) := by decide +kernel
theorem dX4_bestBy_1 : decode cX4_bestBy 1 = .ok (.getfield 7, 3) := by decide +kernel
theorem dX4_bestBy_4 : decode cX4_bestBy 4 = .ok (.iload_n 1, 1) := by decide +kernel
theorem dX4_bestBy_5 : decode cX4_bestBy 5 = .ok (.iaload, 1) := by decide +kernel
theorem dX4_bestBy_6 : decode cX4_bestBy 6 = .ok (.istore 6, 2) := by decide +kernel
theorem dX4_bestBy_8 : decode cX4_bestBy 8 = .ok (.iload_n 2, 1) := by decide +kernel
theorem dX4_bestBy_9 : decode cX4_bestBy 9 = .ok (.istore 7, 2) := by decide +kernel
theorem dX4_bestBy_11 : decode cX4_bestBy 11 = .ok (.sipush (-10000), 3) := by decide +kernel
theorem dX4_bestBy_14 : decode cX4_bestBy 14 = .ok (.istore 8, 2) := by decide +kernel
theorem dX4_bestBy_16 : decode cX4_bestBy 16 = .ok (.iload_n 2, 1) := by decide +kernel
theorem dX4_bestBy_17 : decode cX4_bestBy 17 = .ok (.istore 9, 2) := by decide +kernel
theorem dX4_bestBy_19 : decode cX4_bestBy 19 = .ok (.iload 9, 2) := by decide +kernel
theorem dX4_bestBy_21 : decode cX4_bestBy 21 = .ok (.iload_n 3, 1) := by decide +kernel
theorem dX4_bestBy_22 : decode cX4_bestBy 22 = .ok (.if_icmp .gt 59, 3) := by decide +kernel
theorem dX4_bestBy_25 : decode cX4_bestBy 25 = .ok (.aload_n 0, 1) := by decide +kernel
theorem dX4_bestBy_26 : decode cX4_bestBy 26 = .ok (.getfield 7, 3) := by decide +kernel
theorem dX4_bestBy_29 : decode cX4_bestBy 29 = .ok (.iload_n 1, 1) := by decide +kernel
theorem dX4_bestBy_30 : decode cX4_bestBy 30 = .ok (.iload 9, 2) := by decide +kernel
theorem dX4_bestBy_32 : decode cX4_bestBy 32 = .ok (.iastore, 1) := by decide +kernel
theorem dX4_bestBy_33 : decode cX4_bestBy 33 = .ok (.aload_n 0, 1) := by decide +kernel
theorem dX4_bestBy_34 : decode cX4_bestBy 34 = .ok (.iload 4, 2) := by decide +kernel
theorem dX4_bestBy_36 : decode cX4_bestBy 36 = .ok (.iload 5, 2) := by decide +kernel
theorem dX4_bestBy_38 : decode cX4_bestBy 38 = .ok (.invokevirtual 197, 3) := by decide +kernel
theorem dX4_bestBy_41 : decode cX4_bestBy 41 = .ok (.istore 10, 2) := by decide +kernel
theorem dX4_bestBy_43 : decode cX4_bestBy 43 = .ok (.iload 10, 2) := by decide +kernel
theorem dX4_bestBy_45 : decode cX4_bestBy 45 = .ok (.iload 8, 2) := by decide +kernel
theorem dX4_bestBy_47 : decode cX4_bestBy 47 = .ok (.if_icmp .le 8, 3) := by decide +kernel
theorem dX4_bestBy_50 : decode cX4_bestBy 50 = .ok (.iload 9, 2) := by decide +kernel
theorem dX4_bestBy_52 : decode cX4_bestBy 52 = .ok (.goto 5, 3) := by decide +kernel
theorem dX4_bestBy_55 : decode cX4_bestBy 55 = .ok (.iload 7, 2) := by decide +kernel
theorem dX4_bestBy_57 : decode cX4_bestBy 57 = .ok (.istore 7, 2) := by decide +kernel
theorem dX4_bestBy_59 : decode cX4_bestBy 59 = .ok (.iload 10, 2) := by decide +kernel
theorem dX4_bestBy_61 : decode cX4_bestBy 61 = .ok (.iload 8, 2) := by decide +kernel
theorem dX4_bestBy_63 : decode cX4_bestBy 63 = .ok (.if_icmp .le 8, 3) := by decide +kernel
theorem dX4_bestBy_66 : decode cX4_bestBy 66 = .ok (.iload 10, 2) := by decide +kernel
theorem dX4_bestBy_68 : decode cX4_bestBy 68 = .ok (.goto 5, 3) := by decide +kernel
theorem dX4_bestBy_71 : decode cX4_bestBy 71 = .ok (.iload 8, 2) := by decide +kernel
theorem dX4_bestBy_73 : decode cX4_bestBy 73 = .ok (.istore 8, 2) := by decide +kernel
theorem dX4_bestBy_75 : decode cX4_bestBy 75 = .ok (.iinc 9 1, 3) := by decide +kernel
theorem dX4_bestBy_78 : decode cX4_bestBy 78 = .ok (.goto (-59), 3) := by decide +kernel
theorem dX4_bestBy_81 : decode cX4_bestBy 81 = .ok (.aload_n 0, 1) := by decide +kernel
theorem dX4_bestBy_82 : decode cX4_bestBy 82 = .ok (.getfield 7, 3) := by decide +kernel
theorem dX4_bestBy_85 : decode cX4_bestBy 85 = .ok (.iload_n 1, 1) := by decide +kernel
theorem dX4_bestBy_86 : decode cX4_bestBy 86 = .ok (.iload 6, 2) := by decide +kernel
theorem dX4_bestBy_88 : decode cX4_bestBy 88 = .ok (.iastore, 1) := by decide +kernel
theorem dX4_bestBy_89 : decode cX4_bestBy 89 = .ok (.iload 7, 2) := by decide +kernel
theorem dX4_bestBy_91 : decode cX4_bestBy 91 = .ok (.ireturn, 1) := by decide +kernel
theorem dX4_kind_0 : decode cX4_kind 0 = .ok (.aload_n 0, 1) := by decide +kernel
theorem dX4_kind_1 : decode cX4_kind 1 = .ok (.iload_n 1, 1) := by decide +kernel
theorem dX4_kind_2 : decode cX4_kind 2 = .ok (.invokevirtual 55, 3) := by decide +kernel
theorem dX4_kind_5 : decode cX4_kind 5 = .ok (.ifCond .eq 26, 3) := by decide +kernel
theorem dX4_kind_8 : decode cX4_kind 8 = .ok (.iload_n 2, 1) := by decide +kernel
theorem dX4_kind_9 : decode cX4_kind 9 = .ok (.invokestatic 194, 3) := by decide +kernel
theorem dX4_kind_12 : decode cX4_kind 12 = .ok (.ifCond .eq 19, 3) := by decide +kernel
theorem dX4_kind_15 : decode cX4_kind 15 = .ok (.aload_n 0, 1) := by decide +kernel
theorem dX4_kind_16 : decode cX4_kind 16 = .ok (.iload_n 1, 1) := by decide +kernel
theorem dX4_kind_17 : decode cX4_kind 17 = .ok (.iconst 0, 1) := by decide +kernel
theorem dX4_kind_18 : decode cX4_kind 18 = .ok (.invokestatic 61, 3) := by decide +kernel
theorem dX4_kind_21 : decode cX4_kind 21 = .ok (.iconst 0, 1) := by decide +kernel
theorem dX4_kind_22 : decode cX4_kind 22 = .ok (.iconst 5, 1) := by decide +kernel
theorem dX4_kind_23 : decode cX4_kind 23 = .ok (.iload_n 1, 1) := by decide +kernel
theorem dX4_kind_24 : decode cX4_kind 24 = .ok (.iload_n 2, 1) := by decide +kernel
theorem dX4_kind_25 : decode cX4_kind 25 = .ok (.invokevirtual 200, 3) := by decide +kernel
theorem dX4_kind_28 : decode cX4_kind 28 = .ok (.goto 9, 3) := by decide +kernel
theorem dX4_kind_31 : decode cX4_kind 31 = .ok (.aload_n 0, 1) := by decide +kernel
theorem dX4_kind_32 : decode cX4_kind 32 = .ok (.ldc 48, 2) := by decide +kernel
theorem dX4_kind_34 : decode cX4_kind 34 = .ok (.invokevirtual 77, 3) := by decide +kernel
theorem dX4_kind_37 : decode cX4_kind 37 = .ok (.ireturn, 1) := by decide +kernel
theorem dX4_claim_0 : decode cX4_claim 0 = .ok (.aload_n 0, 1) := by decide +kernel
theorem dX4_claim_1 : decode cX4_claim 1 = .ok (.iload_n 1, 1) := by decide +kernel
theorem dX4_claim_2 : decode cX4_claim 2 = .ok (.invokevirtual 55, 3) := by decide +kernel
theorem dX4_claim_5 : decode cX4_claim 5 = .ok (.ifCond .eq 29, 3) := by decide +kernel
theorem dX4_claim_8 : decode cX4_claim 8 = .ok (.iload_n 2, 1) := by decide +kernel
theorem dX4_claim_9 : decode cX4_claim 9 = .ok (.invokestatic 194, 3) := by decide +kernel
theorem dX4_claim_12 : decode cX4_claim 12 = .ok (.ifCond .eq 22, 3) := by decide +kernel
theorem dX4_claim_15 : decode cX4_claim 15 = .ok (.iconst 1, 1) := by decide +kernel
theorem dX4_claim_16 : decode cX4_claim 16 = .ok (.aload_n 0, 1) := by decide +kernel
theorem dX4_claim_17 : decode cX4_claim 17 = .ok (.iload_n 1, 1) := by decide +kernel
theorem dX4_claim_18 : decode cX4_claim 18 = .ok (.iconst 2, 1) := by decide +kernel
theorem dX4_claim_19 : decode cX4_claim 19 = .ok (.invokestatic 61, 3) := by decide +kernel
theorem dX4_claim_22 : decode cX4_claim 22 = .ok (.iconst (-1), 1) := by decide +kernel
theorem dX4_claim_23 : decode cX4_claim 23 = .ok (.bipush 7, 2) := by decide +kernel
theorem dX4_claim_25 : decode cX4_claim 25 = .ok (.iload_n 1, 1) := by decide +kernel
theorem dX4_claim_26 : decode cX4_claim 26 = .ok (.iload_n 2, 1) := by decide +kernel
theorem dX4_claim_27 : decode cX4_claim 27 = .ok (.invokevirtual 200, 3) := by decide +kernel
theorem dX4_claim_30 : decode cX4_claim 30 = .ok (.iadd, 1) := by decide +kernel
theorem dX4_claim_31 : decode cX4_claim 31 = .ok (.goto 9, 3) := by decide +kernel
theorem dX4_claim_34 : decode cX4_claim 34 = .ok (.aload_n 0, 1) := by decide +kernel
theorem dX4_claim_35 : decode cX4_claim 35 = .ok (.ldc 48, 2) := by decide +kernel
theorem dX4_claim_37 : decode cX4_claim 37 = .ok (.invokevirtual 77, 3) := by decide +kernel
theorem dX4_claim_40 : decode cX4_claim 40 = .ok (.ireturn, 1) := by decide +kernel
theorem dX4_years_0 : decode cX4_years 0 = .ok (.aload_n 0, 1) := by decide +kernel
theorem dX4_years_1 : decode cX4_years 1 = .ok (.iload_n 1, 1) := by decide +kernel
theorem dX4_years_2 : decode cX4_years 2 = .ok (.invokevirtual 55, 3) := by decide +kernel
theorem dX4_years_5 : decode cX4_years 5 = .ok (.ifCond .eq 22, 3) := by decide +kernel
theorem dX4_years_8 : decode cX4_years 8 = .ok (.iload_n 2, 1) := by decide +kernel
theorem dX4_years_9 : decode cX4_years 9 = .ok (.invokestatic 71, 3) := by decide +kernel
theorem dX4_years_12 : decode cX4_years 12 = .ok (.ifCond .eq 15, 3) := by decide +kernel
theorem dX4_years_15 : decode cX4_years 15 = .ok (.iload_n 3, 1) := by decide +kernel
theorem dX4_years_16 : decode cX4_years 16 = .ok (.i2l, 1) := by decide +kernel
theorem dX4_years_17 : decode cX4_years 17 = .ok (.lconst 1, 1) := by decide +kernel
theorem dX4_years_18 : decode cX4_years 18 = .ok (.ldc2_w 192, 3) := by decide +kernel
theorem dX4_years_21 : decode cX4_years 21 = .ok (.invokestatic 51, 3) := by decide +kernel
theorem dX4_years_24 : decode cX4_years 24 = .ok (.ifCond .ne 10, 3) := by decide +kernel
theorem dX4_years_27 : decode cX4_years 27 = .ok (.aload_n 0, 1) := by decide +kernel
theorem dX4_years_28 : decode cX4_years 28 = .ok (.ldc 48, 2) := by decide +kernel
theorem dX4_years_30 : decode cX4_years 30 = .ok (.invokevirtual 77, 3) := by decide +kernel
theorem dX4_years_33 : decode cX4_years 33 = .ok (.ireturn, 1) := by decide +kernel
theorem dX4_years_34 : decode cX4_years 34 = .ok (.iconst (-1), 1) := by decide +kernel
theorem dX4_years_35 : decode cX4_years 35 = .ok (.istore 4, 2) := by decide +kernel
theorem dX4_years_37 : decode cX4_years 37 = .ok (.aload_n 0, 1) := by decide +kernel
theorem dX4_years_38 : decode cX4_years 38 = .ok (.invokevirtual 168, 3) := by decide +kernel
theorem dX4_years_41 : decode cX4_years 41 = .ok (.iconst 0, 1) := by decide +kernel
theorem dX4_years_42 : decode cX4_years 42 = .ok (.istore 5, 2) := by decide +kernel
theorem dX4_years_44 : decode cX4_years 44 = .ok (.iload 5, 2) := by decide +kernel
theorem dX4_years_46 : decode cX4_years 46 = .ok (.bipush 99, 2) := by decide +kernel
theorem dX4_years_48 : decode cX4_years 48 = .ok (.if_icmp .gt 55, 3) := by decide +kernel
theorem dX4_years_51 : decode cX4_years 51 = .ok (.iload 4, 2) := by decide +kernel
theorem dX4_years_53 : decode cX4_years 53 = .ok (.ifCond .ge 50, 3) := by decide +kernel
theorem dX4_years_56 : decode cX4_years 56 = .ok (.aload_n 0, 1) := by decide +kernel
theorem dX4_years_57 : decode cX4_years 57 = .ok (.getfield 7, 3) := by decide +kernel
theorem dX4_years_60 : decode cX4_years 60 = .ok (.iload_n 1, 1) := by decide +kernel
theorem dX4_years_61 : decode cX4_years 61 = .ok (.iconst 1, 1) := by decide +kernel
theorem dX4_years_62 : decode cX4_years 62 = .ok (.invokestatic 61, 3) := by decide +kernel
theorem dX4_years_65 : decode cX4_years 65 = .ok (.iload 5, 2) := by decide +kernel
theorem dX4_years_67 : decode cX4_years 67 = .ok (.iastore, 1) := by decide +kernel
theorem dX4_years_68 : decode cX4_years 68 = .ok (.aload_n 0, 1) := by decide +kernel
theorem dX4_years_69 : decode cX4_years 69 = .ok (.iload_n 3, 1) := by decide +kernel
theorem dX4_years_70 : decode cX4_years 70 = .ok (.invokevirtual 156, 3) := by decide +kernel
theorem dX4_years_73 : decode cX4_years 73 = .ok (.istore 6, 2) := by decide +kernel
theorem dX4_years_75 : decode cX4_years 75 = .ok (.aload_n 0, 1) := by decide +kernel
theorem dX4_years_76 : decode cX4_years 76 = .ok (.aload_n 0, 1) := by decide +kernel
theorem dX4_years_77 : decode cX4_years 77 = .ok (.iload_n 1, 1) := by decide +kernel
theorem dX4_years_78 : decode cX4_years 78 = .ok (.iconst 5, 1) := by decide +kernel
theorem dX4_years_79 : decode cX4_years 79 = .ok (.invokevirtual 64, 3) := by decide +kernel
theorem dX4_years_82 : decode cX4_years 82 = .ok (.iload_n 2, 1) := by decide +kernel
theorem dX4_years_83 : decode cX4_years 83 = .ok (.if_icmp .ne 8, 3) := by decide +kernel
theorem dX4_years_86 : decode cX4_years 86 = .ok (.iload 5, 2) := by decide +kernel
theorem dX4_years_88 : decode cX4_years 88 = .ok (.goto 4, 3) := by decide +kernel
theorem dX4_years_91 : decode cX4_years 91 = .ok (.iconst (-1), 1) := by decide +kernel
theorem dX4_years_92 : decode cX4_years 92 = .ok (.invokevirtual 171, 3) := by decide +kernel
theorem dX4_years_95 : decode cX4_years 95 = .ok (.istore 4, 2) := by decide +kernel
theorem dX4_years_97 : decode cX4_years 97 = .ok (.iinc 5 1, 3) := by decide +kernel
theorem dX4_years_100 : decode cX4_years 100 = .ok (.goto (-56), 3) := by decide +kernel
theorem dX4_years_103 : decode cX4_years 103 = .ok (.iload 4, 2) := by decide +kernel
theorem dX4_years_105 : decode cX4_years 105 = .ok (.ifCond .ge 12, 3) := by decide +kernel
theorem dX4_years_108 : decode cX4_years 108 = .ok (.aload_n 0, 1) := by decide +kernel
theorem dX4_years_109 : decode cX4_years 109 = .ok (.ldc 177, 2) := by decide +kernel
theorem dX4_years_111 : decode cX4_years 111 = .ok (.invokevirtual 77, 3) := by decide +kernel
theorem dX4_years_114 : decode cX4_years 114 = .ok (.goto 5, 3) := by decide +kernel
theorem dX4_years_117 : decode cX4_years 117 = .ok (.iload 4, 2) := by decide +kernel
theorem dX4_years_119 : decode cX4_years 119 = .ok (.ireturn, 1) := by decide +kernel
theorem dX4_always_0 : decode cX4_always 0 = .ok (.iload_n 1, 1) := by decide +kernel
theorem dX4_always_1 : decode cX4_always 1 = .ok (.i2l, 1) := by decide +kernel
theorem dX4_always_2 : decode cX4_always 2 = .ok (.lconst 0, 1) := by decide +kernel
theorem dX4_always_3 : decode cX4_always 3 = .ok (.ldc2_w 153, 3) := by decide +kernel
theorem dX4_always_6 : decode cX4_always 6 = .ok (.invokestatic 51, 3) := by decide +kernel
theorem dX4_always_9 : decode cX4_always 9 = .ok (.ifCond .ne 10, 3) := by decide +kernel
theorem dX4_always_12 : decode cX4_always 12 = .ok (.aload_n 0, 1) := by decide +kernel
theorem dX4_always_13 : decode cX4_always 13 = .ok (.ldc 48, 2) := by decide +kernel
theorem dX4_always_15 : decode cX4_always 15 = .ok (.invokevirtual 77, 3) := by decide +kernel
theorem dX4_always_18 : decode cX4_always 18 = .ok (.ireturn, 1) := by decide +kernel
theorem dX4_always_19 : decode cX4_always 19 = .ok (.aload_n 0, 1) := by decide +kernel
theorem dX4_always_20 : decode cX4_always 20 = .ok (.invokevirtual 168, 3) := by decide +kernel
theorem dX4_always_23 : decode cX4_always 23 = .ok (.aload_n 0, 1) := by decide +kernel
theorem dX4_always_24 : decode cX4_always 24 = .ok (.iload_n 1, 1) := by decide +kernel
theorem dX4_always_25 : decode cX4_always 25 = .ok (.invokevirtual 156, 3) := by decide +kernel
theorem dX4_always_28 : decode cX4_always 28 = .ok (.istore_n 2, 1) := by decide +kernel
theorem dX4_always_29 : decode cX4_always 29 = .ok (.iconst (-1), 1) := by decide +kernel
theorem dX4_always_30 : decode cX4_always 30 = .ok (.istore_n 3, 1) := by decide +kernel
theorem dX4_always_31 : decode cX4_always 31 = .ok (.iconst 0, 1) := by decide +kernel
theorem dX4_always_32 : decode cX4_always 32 = .ok (.istore 4, 2) := by decide +kernel
theorem dX4_always_34 : decode cX4_always 34 = .ok (.iload 4, 2) := by decide +kernel
theorem dX4_always_36 : decode cX4_always 36 = .ok (.aload_n 0, 1) := by decide +kernel
theorem dX4_always_37 : decode cX4_always 37 = .ok (.getfield 7, 3) := by decide +kernel
theorem dX4_always_40 : decode cX4_always 40 = .ok (.iconst 0, 1) := by decide +kernel
theorem dX4_always_41 : decode cX4_always 41 = .ok (.iaload, 1) := by decide +kernel
theorem dX4_always_42 : decode cX4_always 42 = .ok (.if_icmp .ge 36, 3) := by decide +kernel
theorem dX4_always_45 : decode cX4_always 45 = .ok (.iload_n 3, 1) := by decide +kernel
theorem dX4_always_46 : decode cX4_always 46 = .ok (.ifCond .lt 19, 3) := by decide +kernel
theorem dX4_always_49 : decode cX4_always 49 = .ok (.aload_n 0, 1) := by decide +kernel
theorem dX4_always_50 : decode cX4_always 50 = .ok (.iload 4, 2) := by decide +kernel
theorem dX4_always_52 : decode cX4_always 52 = .ok (.iconst 4, 1) := by decide +kernel
theorem dX4_always_53 : decode cX4_always 53 = .ok (.invokevirtual 64, 3) := by decide +kernel
theorem dX4_always_56 : decode cX4_always 56 = .ok (.aload_n 0, 1) := by decide +kernel
theorem dX4_always_57 : decode cX4_always 57 = .ok (.iload_n 3, 1) := by decide +kernel
theorem dX4_always_58 : decode cX4_always 58 = .ok (.iconst 4, 1) := by decide +kernel
theorem dX4_always_59 : decode cX4_always 59 = .ok (.invokevirtual 64, 3) := by decide +kernel
theorem dX4_always_62 : decode cX4_always 62 = .ok (.if_icmp .le 8, 3) := by decide +kernel
theorem dX4_always_65 : decode cX4_always 65 = .ok (.iload 4, 2) := by decide +kernel
theorem dX4_always_67 : decode cX4_always 67 = .ok (.goto 4, 3) := by decide +kernel
theorem dX4_always_70 : decode cX4_always 70 = .ok (.iload_n 3, 1) := by decide +kernel
theorem dX4_always_71 : decode cX4_always 71 = .ok (.istore_n 3, 1) := by decide +kernel
theorem dX4_always_72 : decode cX4_always 72 = .ok (.iinc 4 1, 3) := by decide +kernel
theorem dX4_always_75 : decode cX4_always 75 = .ok (.goto (-41), 3) := by decide +kernel
theorem dX4_always_78 : decode cX4_always 78 = .ok (.aload_n 0, 1) := by decide +kernel
theorem dX4_always_79 : decode cX4_always 79 = .ok (.iload_n 3, 1) := by decide +kernel
theorem dX4_always_80 : decode cX4_always 80 = .ok (.invokevirtual 171, 3) := by decide +kernel
theorem dX4_always_83 : decode cX4_always 83 = .ok (.istore 4, 2) := by decide +kernel
theorem dX4_always_85 : decode cX4_always 85 = .ok (.iload 4, 2) := by decide +kernel
theorem dX4_always_87 : decode cX4_always 87 = .ok (.ifCond .ge 12, 3) := by decide +kernel
theorem dX4_always_90 : decode cX4_always 90 = .ok (.aload_n 0, 1) := by decide +kernel
theorem dX4_always_91 : decode cX4_always 91 = .ok (.ldc 177, 2) := by decide +kernel
theorem dX4_always_93 : decode cX4_always 93 = .ok (.invokevirtual 77, 3) := by decide +kernel
theorem dX4_always_96 : decode cX4_always 96 = .ok (.goto 5, 3) := by decide +kernel
theorem dX4_always_99 : decode cX4_always 99 = .ok (.iload 4, 2) := by decide +kernel
theorem dX4_always_101 : decode cX4_always 101 = .ok (.ireturn, 1) := by decide +kernel
theorem dX4_beside_0 : decode cX4_beside 0 = .ok (.aload_n 0, 1) := by decide +kernel
theorem dX4_beside_1 : decode cX4_beside 1 = .ok (.iload_n 1, 1) := by decide +kernel
theorem dX4_beside_2 : decode cX4_beside 2 = .ok (.invokevirtual 55, 3) := by decide +kernel
theorem dX4_beside_5 : decode cX4_beside 5 = .ok (.ifCond .ne 10, 3) := by decide +kernel
theorem dX4_beside_8 : decode cX4_beside 8 = .ok (.aload_n 0, 1) := by decide +kernel
theorem dX4_beside_9 : decode cX4_beside 9 = .ok (.ldc 48, 2) := by decide +kernel
theorem dX4_beside_11 : decode cX4_beside 11 = .ok (.invokevirtual 77, 3) := by decide +kernel
theorem dX4_beside_14 : decode cX4_beside 14 = .ok (.ireturn, 1) := by decide +kernel
theorem dX4_beside_15 : decode cX4_beside 15 = .ok (.iconst (-1), 1) := by decide +kernel
theorem dX4_beside_16 : decode cX4_beside 16 = .ok (.istore_n 2, 1) := by decide +kernel
theorem dX4_beside_17 : decode cX4_beside 17 = .ok (.iconst 0, 1) := by decide +kernel
theorem dX4_beside_18 : decode cX4_beside 18 = .ok (.istore_n 3, 1) := by decide +kernel
theorem dX4_beside_19 : decode cX4_beside 19 = .ok (.iconst 0, 1) := by decide +kernel
theorem dX4_beside_20 : decode cX4_beside 20 = .ok (.istore 4, 2) := by decide +kernel
theorem dX4_beside_22 : decode cX4_beside 22 = .ok (.iload 4, 2) := by decide +kernel
theorem dX4_beside_24 : decode cX4_beside 24 = .ok (.aload_n 0, 1) := by decide +kernel
theorem dX4_beside_25 : decode cX4_beside 25 = .ok (.getfield 7, 3) := by decide +kernel
theorem dX4_beside_28 : decode cX4_beside 28 = .ok (.iconst 0, 1) := by decide +kernel
theorem dX4_beside_29 : decode cX4_beside 29 = .ok (.iaload, 1) := by decide +kernel
theorem dX4_beside_30 : decode cX4_beside 30 = .ok (.if_icmp .ge 140, 3) := by decide +kernel
theorem dX4_beside_33 : decode cX4_beside 33 = .ok (.aload_n 0, 1) := by decide +kernel
theorem dX4_beside_34 : decode cX4_beside 34 = .ok (.iload 4, 2) := by decide +kernel
theorem dX4_beside_36 : decode cX4_beside 36 = .ok (.iconst 5, 1) := by decide +kernel
theorem dX4_beside_37 : decode cX4_beside 37 = .ok (.invokevirtual 64, 3) := by decide +kernel
theorem dX4_beside_40 : decode cX4_beside 40 = .ok (.iconst 1, 1) := by decide +kernel
theorem dX4_beside_41 : decode cX4_beside 41 = .ok (.isub, 1) := by decide +kernel
theorem dX4_beside_42 : decode cX4_beside 42 = .ok (.istore 5, 2) := by decide +kernel
theorem dX4_beside_44 : decode cX4_beside 44 = .ok (.iload 5, 2) := by decide +kernel
theorem dX4_beside_46 : decode cX4_beside 46 = .ok (.aload_n 0, 1) := by decide +kernel
theorem dX4_beside_47 : decode cX4_beside 47 = .ok (.iload 4, 2) := by decide +kernel
theorem dX4_beside_49 : decode cX4_beside 49 = .ok (.iconst 5, 1) := by decide +kernel
theorem dX4_beside_50 : decode cX4_beside 50 = .ok (.invokevirtual 64, 3) := by decide +kernel
theorem dX4_beside_53 : decode cX4_beside 53 = .ok (.iconst 1, 1) := by decide +kernel
theorem dX4_beside_54 : decode cX4_beside 54 = .ok (.iadd, 1) := by decide +kernel
theorem dX4_beside_55 : decode cX4_beside 55 = .ok (.if_icmp .gt 109, 3) := by decide +kernel
theorem dX4_beside_58 : decode cX4_beside 58 = .ok (.iload 4, 2) := by decide +kernel
theorem dX4_beside_60 : decode cX4_beside 60 = .ok (.iload_n 1, 1) := by decide +kernel
theorem dX4_beside_61 : decode cX4_beside 61 = .ok (.if_icmp .eq 103, 3) := by decide +kernel
theorem dX4_beside_64 : decode cX4_beside 64 = .ok (.aload_n 0, 1) := by decide +kernel
theorem dX4_beside_65 : decode cX4_beside 65 = .ok (.iload 4, 2) := by decide +kernel
theorem dX4_beside_67 : decode cX4_beside 67 = .ok (.iconst 5, 1) := by decide +kernel
theorem dX4_beside_68 : decode cX4_beside 68 = .ok (.invokevirtual 64, 3) := by decide +kernel
theorem dX4_beside_71 : decode cX4_beside 71 = .ok (.iconst (-1), 1) := by decide +kernel
theorem dX4_beside_72 : decode cX4_beside 72 = .ok (.if_icmp .eq 92, 3) := by decide +kernel
theorem dX4_beside_75 : decode cX4_beside 75 = .ok (.iload 5, 2) := by decide +kernel
theorem dX4_beside_77 : decode cX4_beside 77 = .ok (.invokestatic 71, 3) := by decide +kernel
theorem dX4_beside_80 : decode cX4_beside 80 = .ok (.ifCond .eq 12, 3) := by decide +kernel
theorem dX4_beside_83 : decode cX4_beside 83 = .ok (.aload_n 0, 1) := by decide +kernel
theorem dX4_beside_84 : decode cX4_beside 84 = .ok (.iload 5, 2) := by decide +kernel
theorem dX4_beside_86 : decode cX4_beside 86 = .ok (.invokevirtual 83, 3) := by decide +kernel
theorem dX4_beside_89 : decode cX4_beside 89 = .ok (.goto 5, 3) := by decide +kernel
theorem dX4_beside_92 : decode cX4_beside 92 = .ok (.iload 4, 2) := by decide +kernel
theorem dX4_beside_94 : decode cX4_beside 94 = .ok (.istore 6, 2) := by decide +kernel
theorem dX4_beside_96 : decode cX4_beside 96 = .ok (.iload 6, 2) := by decide +kernel
theorem dX4_beside_98 : decode cX4_beside 98 = .ok (.iconst (-1), 1) := by decide +kernel
theorem dX4_beside_99 : decode cX4_beside 99 = .ok (.if_icmp .eq 9, 3) := by decide +kernel
theorem dX4_beside_102 : decode cX4_beside 102 = .ok (.iload 6, 2) := by decide +kernel
theorem dX4_beside_104 : decode cX4_beside 104 = .ok (.iload_n 1, 1) := by decide +kernel
theorem dX4_beside_105 : decode cX4_beside 105 = .ok (.if_icmp .ne 53, 3) := by decide +kernel
theorem dX4_beside_108 : decode cX4_beside 108 = .ok (.aload_n 0, 1) := by decide +kernel
theorem dX4_beside_109 : decode cX4_beside 109 = .ok (.iload_n 1, 1) := by decide +kernel
theorem dX4_beside_110 : decode cX4_beside 110 = .ok (.iload 5, 2) := by decide +kernel
theorem dX4_beside_112 : decode cX4_beside 112 = .ok (.invokevirtual 141, 3) := by decide +kernel
theorem dX4_beside_115 : decode cX4_beside 115 = .ok (.istore 7, 2) := by decide +kernel
theorem dX4_beside_117 : decode cX4_beside 117 = .ok (.iload_n 2, 1) := by decide +kernel
theorem dX4_beside_118 : decode cX4_beside 118 = .ok (.ifCond .lt 9, 3) := by decide +kernel
theorem dX4_beside_121 : decode cX4_beside 121 = .ok (.iload 7, 2) := by decide +kernel
theorem dX4_beside_123 : decode cX4_beside 123 = .ok (.iload_n 3, 1) := by decide +kernel
theorem dX4_beside_124 : decode cX4_beside 124 = .ok (.if_icmp .le 7, 3) := by decide +kernel
theorem dX4_beside_127 : decode cX4_beside 127 = .ok (.iconst 1, 1) := by decide +kernel
theorem dX4_beside_128 : decode cX4_beside 128 = .ok (.goto 4, 3) := by decide +kernel
theorem dX4_beside_131 : decode cX4_beside 131 = .ok (.iconst 0, 1) := by decide +kernel
theorem dX4_beside_132 : decode cX4_beside 132 = .ok (.istore 8, 2) := by decide +kernel
theorem dX4_beside_134 : decode cX4_beside 134 = .ok (.iload 8, 2) := by decide +kernel
theorem dX4_beside_136 : decode cX4_beside 136 = .ok (.ifCond .eq 8, 3) := by decide +kernel
theorem dX4_beside_139 : decode cX4_beside 139 = .ok (.iload 4, 2) := by decide +kernel
theorem dX4_beside_141 : decode cX4_beside 141 = .ok (.goto 4, 3) := by decide +kernel
theorem dX4_beside_144 : decode cX4_beside 144 = .ok (.iload_n 2, 1) := by decide +kernel
theorem dX4_beside_145 : decode cX4_beside 145 = .ok (.istore_n 2, 1) := by decide +kernel
theorem dX4_beside_146 : decode cX4_beside 146 = .ok (.iload 8, 2) := by decide +kernel
theorem dX4_beside_148 : decode cX4_beside 148 = .ok (.ifCond .eq 8, 3) := by decide +kernel
theorem dX4_beside_151 : decode cX4_beside 151 = .ok (.iload 7, 2) := by decide +kernel
theorem dX4_beside_153 : decode cX4_beside 153 = .ok (.goto 4, 3) := by decide +kernel
theorem dX4_beside_156 : decode cX4_beside 156 = .ok (.iload_n 3, 1) := by decide +kernel
theorem dX4_beside_157 : decode cX4_beside 157 = .ok (.istore_n 3, 1) := by decide +kernel
theorem dX4_beside_158 : decode cX4_beside 158 = .ok (.iinc 5 2, 3) := by decide +kernel
theorem dX4_beside_161 : decode cX4_beside 161 = .ok (.goto (-117), 3) := by decide +kernel
theorem dX4_beside_164 : decode cX4_beside 164 = .ok (.iinc 4 1, 3) := by decide +kernel
theorem dX4_beside_167 : decode cX4_beside 167 = .ok (.goto (-145), 3) := by decide +kernel
theorem dX4_beside_170 : decode cX4_beside 170 = .ok (.iload_n 2, 1) := by decide +kernel
theorem dX4_beside_171 : decode cX4_beside 171 = .ok (.ifCond .ge 12, 3) := by decide +kernel
theorem dX4_beside_174 : decode cX4_beside 174 = .ok (.aload_n 0, 1) := by decide +kernel
theorem dX4_beside_175 : decode cX4_beside 175 = .ok (.ldc 177, 2) := by decide +kernel
theorem dX4_beside_177 : decode cX4_beside 177 = .ok (.invokevirtual 77, 3) := by decide +kernel
theorem dX4_beside_180 : decode cX4_beside 180 = .ok (.goto 4, 3) := by decide +kernel
theorem dX4_beside_183 : decode cX4_beside 183 = .ok (.iload_n 2, 1) := by decide +kernel
theorem dX4_beside_184 : decode cX4_beside 184 = .ok (.ireturn, 1) := by decide +kernel
theorem dX4_feed_0 : decode cX4_feed 0 = .ok (.iload_n 2, 1) := by decide +kernel
theorem dX4_feed_1 : decode cX4_feed 1 = .ok (.i2l, 1) := by decide +kernel
theorem dX4_feed_2 : decode cX4_feed 2 = .ok (.lconst 1, 1) := by decide +kernel
theorem dX4_feed_3 : decode cX4_feed 3 = .ok (.ldc2_w 204, 3) := by decide +kernel
theorem dX4_feed_6 : decode cX4_feed 6 = .ok (.invokestatic 51, 3) := by decide +kernel
theorem dX4_feed_9 : decode cX4_feed 9 = .ok (.ifCond .ne 10, 3) := by decide +kernel
theorem dX4_feed_12 : decode cX4_feed 12 = .ok (.aload_n 0, 1) := by decide +kernel
theorem dX4_feed_13 : decode cX4_feed 13 = .ok (.ldc 48, 2) := by decide +kernel
theorem dX4_feed_15 : decode cX4_feed 15 = .ok (.invokevirtual 77, 3) := by decide +kernel
theorem dX4_feed_18 : decode cX4_feed 18 = .ok (.ireturn, 1) := by decide +kernel
theorem dX4_feed_19 : decode cX4_feed 19 = .ok (.aload_n 0, 1) := by decide +kernel
theorem dX4_feed_20 : decode cX4_feed 20 = .ok (.getfield 206, 3) := by decide +kernel
theorem dX4_feed_23 : decode cX4_feed 23 = .ok (.iload_n 2, 1) := by decide +kernel
theorem dX4_feed_24 : decode cX4_feed 24 = .ok (.iadd, 1) := by decide +kernel
theorem dX4_feed_25 : decode cX4_feed 25 = .ok (.bipush 120, 2) := by decide +kernel
theorem dX4_feed_27 : decode cX4_feed 27 = .ok (.if_icmp .le 10, 3) := by decide +kernel
theorem dX4_feed_30 : decode cX4_feed 30 = .ok (.aload_n 0, 1) := by decide +kernel
theorem dX4_feed_31 : decode cX4_feed 31 = .ok (.ldc 89, 2) := by decide +kernel
theorem dX4_feed_33 : decode cX4_feed 33 = .ok (.invokevirtual 77, 3) := by decide +kernel
theorem dX4_feed_36 : decode cX4_feed 36 = .ok (.ireturn, 1) := by decide +kernel
theorem dX4_feed_37 : decode cX4_feed 37 = .ok (.iload_n 2, 1) := by decide +kernel
theorem dX4_feed_38 : decode cX4_feed 38 = .ok (.iconst 1, 1) := by decide +kernel
theorem dX4_feed_39 : decode cX4_feed 39 = .ok (.isub, 1) := by decide +kernel
theorem dX4_feed_40 : decode cX4_feed 40 = .ok (.istore_n 3, 1) := by decide +kernel
theorem dX4_feed_41 : decode cX4_feed 41 = .ok (.iload_n 3, 1) := by decide +kernel
theorem dX4_feed_42 : decode cX4_feed 42 = .ok (.ifCond .lt 38, 3) := by decide +kernel
theorem dX4_feed_45 : decode cX4_feed 45 = .ok (.aload_n 0, 1) := by decide +kernel
theorem dX4_feed_46 : decode cX4_feed 46 = .ok (.getfield 28, 3) := by decide +kernel
theorem dX4_feed_49 : decode cX4_feed 49 = .ok (.aload_n 0, 1) := by decide +kernel
theorem dX4_feed_50 : decode cX4_feed 50 = .ok (.getfield 206, 3) := by decide +kernel
theorem dX4_feed_53 : decode cX4_feed 53 = .ok (.iload_n 1, 1) := by decide +kernel
theorem dX4_feed_54 : decode cX4_feed 54 = .ok (.bipush 8, 2) := by decide +kernel
theorem dX4_feed_56 : decode cX4_feed 56 = .ok (.iload_n 3, 1) := by decide +kernel
theorem dX4_feed_57 : decode cX4_feed 57 = .ok (.imul, 1) := by decide +kernel
theorem dX4_feed_58 : decode cX4_feed 58 = .ok (.ishr, 1) := by decide +kernel
theorem dX4_feed_59 : decode cX4_feed 59 = .ok (.sipush 255, 3) := by decide +kernel
theorem dX4_feed_62 : decode cX4_feed 62 = .ok (.iand, 1) := by decide +kernel
theorem dX4_feed_63 : decode cX4_feed 63 = .ok (.iastore, 1) := by decide +kernel
theorem dX4_feed_64 : decode cX4_feed 64 = .ok (.aload_n 0, 1) := by decide +kernel
theorem dX4_feed_65 : decode cX4_feed 65 = .ok (.dup, 1) := by decide +kernel
theorem dX4_feed_66 : decode cX4_feed 66 = .ok (.getfield 206, 3) := by decide +kernel
theorem dX4_feed_69 : decode cX4_feed 69 = .ok (.iconst 1, 1) := by decide +kernel
theorem dX4_feed_70 : decode cX4_feed 70 = .ok (.iadd, 1) := by decide +kernel
theorem dX4_feed_71 : decode cX4_feed 71 = .ok (.putfield 206, 3) := by decide +kernel
theorem dX4_feed_74 : decode cX4_feed 74 = .ok (.iinc 3 (-1), 3) := by decide +kernel
theorem dX4_feed_77 : decode cX4_feed 77 = .ok (.goto (-36), 3) := by decide +kernel
theorem dX4_feed_80 : decode cX4_feed 80 = .ok (.aload_n 0, 1) := by decide +kernel
theorem dX4_feed_81 : decode cX4_feed 81 = .ok (.getfield 206, 3) := by decide +kernel
theorem dX4_feed_84 : decode cX4_feed 84 = .ok (.ireturn, 1) := by decide +kernel
theorem dX4_wipe_0 : decode cX4_wipe 0 = .ok (.aload_n 0, 1) := by decide +kernel
theorem dX4_wipe_1 : decode cX4_wipe 1 = .ok (.getfield 206, 3) := by decide +kernel
theorem dX4_wipe_4 : decode cX4_wipe 4 = .ok (.istore_n 1, 1) := by decide +kernel
theorem dX4_wipe_5 : decode cX4_wipe 5 = .ok (.aload_n 0, 1) := by decide +kernel
theorem dX4_wipe_6 : decode cX4_wipe 6 = .ok (.iconst 0, 1) := by decide +kernel
theorem dX4_wipe_7 : decode cX4_wipe 7 = .ok (.putfield 206, 3) := by decide +kernel
theorem dX4_wipe_10 : decode cX4_wipe 10 = .ok (.iload_n 1, 1) := by decide +kernel
theorem dX4_wipe_11 : decode cX4_wipe 11 = .ok (.ireturn, 1) := by decide +kernel
theorem dX4_byteAt_0 : decode cX4_byteAt 0 = .ok (.iload_n 1, 1) := by decide +kernel
theorem dX4_byteAt_1 : decode cX4_byteAt 1 = .ok (.aload_n 0, 1) := by decide +kernel
theorem dX4_byteAt_2 : decode cX4_byteAt 2 = .ok (.getfield 206, 3) := by decide +kernel
theorem dX4_byteAt_5 : decode cX4_byteAt 5 = .ok (.if_icmp .ge 12, 3) := by decide +kernel
theorem dX4_byteAt_8 : decode cX4_byteAt 8 = .ok (.aload_n 0, 1) := by decide +kernel
theorem dX4_byteAt_9 : decode cX4_byteAt 9 = .ok (.getfield 28, 3) := by decide +kernel
theorem dX4_byteAt_12 : decode cX4_byteAt 12 = .ok (.iload_n 1, 1) := by decide +kernel
theorem dX4_byteAt_13 : decode cX4_byteAt 13 = .ok (.iaload, 1) := by decide +kernel
theorem dX4_byteAt_14 : decode cX4_byteAt 14 = .ok (.goto 4, 3) := by decide +kernel
theorem dX4_byteAt_17 : decode cX4_byteAt 17 = .ok (.iconst (-1), 1) := by decide +kernel
theorem dX4_byteAt_18 : decode cX4_byteAt 18 = .ok (.ireturn, 1) := by decide +kernel
theorem dX4_isLetter_0 : decode cX4_isLetter 0 = .ok (.iload_n 0, 1) := by decide +kernel
theorem dX4_isLetter_1 : decode cX4_isLetter 1 = .ok (.i2l, 1) := by decide +kernel
theorem dX4_isLetter_2 : decode cX4_isLetter 2 = .ok (.ldc2_w 209, 3) := by decide +kernel
theorem dX4_isLetter_5 : decode cX4_isLetter 5 = .ok (.ldc2_w 211, 3) := by decide +kernel
theorem dX4_isLetter_8 : decode cX4_isLetter 8 = .ok (.invokestatic 51, 3) := by decide +kernel
theorem dX4_isLetter_11 : decode cX4_isLetter 11 = .ok (.ireturn, 1) := by decide +kernel
theorem dX4_isDigit_0 : decode cX4_isDigit 0 = .ok (.iload_n 0, 1) := by decide +kernel
theorem dX4_isDigit_1 : decode cX4_isDigit 1 = .ok (.i2l, 1) := by decide +kernel
theorem dX4_isDigit_2 : decode cX4_isDigit 2 = .ok (.ldc2_w 213, 3) := by decide +kernel
theorem dX4_isDigit_5 : decode cX4_isDigit 5 = .ok (.ldc2_w 215, 3) := by decide +kernel
theorem dX4_isDigit_8 : decode cX4_isDigit 8 = .ok (.invokestatic 51, 3) := by decide +kernel
theorem dX4_isDigit_11 : decode cX4_isDigit 11 = .ok (.ireturn, 1) := by decide +kernel
theorem dX4_token_0 : decode cX4_token 0 = .ok (.aload_n 0, 1) := by decide +kernel
theorem dX4_token_1 : decode cX4_token 1 = .ok (.aload_n 0, 1) := by decide +kernel
theorem dX4_token_2 : decode cX4_token 2 = .ok (.getfield 217, 3) := by decide +kernel
theorem dX4_token_5 : decode cX4_token 5 = .ok (.putfield 220, 3) := by decide +kernel
theorem dX4_token_8 : decode cX4_token 8 = .ok (.aload_n 0, 1) := by decide +kernel
theorem dX4_token_9 : decode cX4_token 9 = .ok (.aload_n 0, 1) := by decide +kernel
theorem dX4_token_10 : decode cX4_token 10 = .ok (.getfield 220, 3) := by decide +kernel
theorem dX4_token_13 : decode cX4_token 13 = .ok (.invokevirtual 223, 3) := by decide +kernel
theorem dX4_token_16 : decode cX4_token 16 = .ok (.bipush 32, 2) := by decide +kernel
theorem dX4_token_18 : decode cX4_token 18 = .ok (.if_icmp .ne 16, 3) := by decide +kernel
theorem dX4_token_21 : decode cX4_token 21 = .ok (.aload_n 0, 1) := by decide +kernel
theorem dX4_token_22 : decode cX4_token 22 = .ok (.dup, 1) := by decide +kernel
theorem dX4_token_23 : decode cX4_token 23 = .ok (.getfield 220, 3) := by decide +kernel
theorem dX4_token_26 : decode cX4_token 26 = .ok (.iconst 1, 1) := by decide +kernel
theorem dX4_token_27 : decode cX4_token 27 = .ok (.iadd, 1) := by decide +kernel
theorem dX4_token_28 : decode cX4_token 28 = .ok (.putfield 220, 3) := by decide +kernel
theorem dX4_token_31 : decode cX4_token 31 = .ok (.goto (-23), 3) := by decide +kernel
theorem dX4_token_34 : decode cX4_token 34 = .ok (.aload_n 0, 1) := by decide +kernel
theorem dX4_token_35 : decode cX4_token 35 = .ok (.aload_n 0, 1) := by decide +kernel
theorem dX4_token_36 : decode cX4_token 36 = .ok (.getfield 220, 3) := by decide +kernel
theorem dX4_token_39 : decode cX4_token 39 = .ok (.invokevirtual 223, 3) := by decide +kernel
theorem dX4_token_42 : decode cX4_token 42 = .ok (.invokestatic 226, 3) := by decide +kernel
theorem dX4_token_45 : decode cX4_token 45 = .ok (.istore_n 1, 1) := by decide +kernel
theorem dX4_token_46 : decode cX4_token 46 = .ok (.aload_n 0, 1) := by decide +kernel
theorem dX4_token_47 : decode cX4_token 47 = .ok (.aload_n 0, 1) := by decide +kernel
theorem dX4_token_48 : decode cX4_token 48 = .ok (.getfield 220, 3) := by decide +kernel
theorem dX4_token_51 : decode cX4_token 51 = .ok (.invokevirtual 223, 3) := by decide +kernel
theorem dX4_token_54 : decode cX4_token 54 = .ok (.invokestatic 229, 3) := by decide +kernel
theorem dX4_token_57 : decode cX4_token 57 = .ok (.istore_n 2, 1) := by decide +kernel
theorem dX4_token_58 : decode cX4_token 58 = .ok (.aload_n 0, 1) := by decide +kernel
theorem dX4_token_59 : decode cX4_token 59 = .ok (.aload_n 0, 1) := by decide +kernel
theorem dX4_token_60 : decode cX4_token 60 = .ok (.getfield 220, 3) := by decide +kernel
theorem dX4_token_63 : decode cX4_token 63 = .ok (.aload_n 0, 1) := by decide +kernel
theorem dX4_token_64 : decode cX4_token 64 = .ok (.getfield 206, 3) := by decide +kernel
theorem dX4_token_67 : decode cX4_token 67 = .ok (.if_icmp .ge 12, 3) := by decide +kernel
theorem dX4_token_70 : decode cX4_token 70 = .ok (.aload_n 0, 1) := by decide +kernel
theorem dX4_token_71 : decode cX4_token 71 = .ok (.getfield 220, 3) := by decide +kernel
theorem dX4_token_74 : decode cX4_token 74 = .ok (.iconst 1, 1) := by decide +kernel
theorem dX4_token_75 : decode cX4_token 75 = .ok (.iadd, 1) := by decide +kernel
theorem dX4_token_76 : decode cX4_token 76 = .ok (.goto 7, 3) := by decide +kernel
theorem dX4_token_79 : decode cX4_token 79 = .ok (.aload_n 0, 1) := by decide +kernel
theorem dX4_token_80 : decode cX4_token 80 = .ok (.getfield 220, 3) := by decide +kernel
theorem dX4_token_83 : decode cX4_token 83 = .ok (.putfield 217, 3) := by decide +kernel
theorem dX4_token_86 : decode cX4_token 86 = .ok (.iload_n 1, 1) := by decide +kernel
theorem dX4_token_87 : decode cX4_token 87 = .ok (.ifCond .eq 17, 3) := by decide +kernel
theorem dX4_token_90 : decode cX4_token 90 = .ok (.aload_n 0, 1) := by decide +kernel
theorem dX4_token_91 : decode cX4_token 91 = .ok (.aload_n 0, 1) := by decide +kernel
theorem dX4_token_92 : decode cX4_token 92 = .ok (.getfield 217, 3) := by decide +kernel
theorem dX4_token_95 : decode cX4_token 95 = .ok (.invokevirtual 223, 3) := by decide +kernel
theorem dX4_token_98 : decode cX4_token 98 = .ok (.invokestatic 226, 3) := by decide +kernel
theorem dX4_token_101 : decode cX4_token 101 = .ok (.ifCond .ne 21, 3) := by decide +kernel
theorem dX4_token_104 : decode cX4_token 104 = .ok (.iload_n 2, 1) := by decide +kernel
theorem dX4_token_105 : decode cX4_token 105 = .ok (.ifCond .eq 30, 3) := by decide +kernel
theorem dX4_token_108 : decode cX4_token 108 = .ok (.aload_n 0, 1) := by decide +kernel
theorem dX4_token_109 : decode cX4_token 109 = .ok (.aload_n 0, 1) := by decide +kernel
theorem dX4_token_110 : decode cX4_token 110 = .ok (.getfield 217, 3) := by decide +kernel
theorem dX4_token_113 : decode cX4_token 113 = .ok (.invokevirtual 223, 3) := by decide +kernel
theorem dX4_token_116 : decode cX4_token 116 = .ok (.invokestatic 229, 3) := by decide +kernel
theorem dX4_token_119 : decode cX4_token 119 = .ok (.ifCond .eq 16, 3) := by decide +kernel
theorem dX4_token_122 : decode cX4_token 122 = .ok (.aload_n 0, 1) := by decide +kernel
theorem dX4_token_123 : decode cX4_token 123 = .ok (.dup, 1) := by decide +kernel
theorem dX4_token_124 : decode cX4_token 124 = .ok (.getfield 217, 3) := by decide +kernel
theorem dX4_token_127 : decode cX4_token 127 = .ok (.iconst 1, 1) := by decide +kernel
theorem dX4_token_128 : decode cX4_token 128 = .ok (.iadd, 1) := by decide +kernel
theorem dX4_token_129 : decode cX4_token 129 = .ok (.putfield 217, 3) := by decide +kernel
theorem dX4_token_132 : decode cX4_token 132 = .ok (.goto (-46), 3) := by decide +kernel
theorem dX4_token_135 : decode cX4_token 135 = .ok (.return_, 1) := by decide +kernel
theorem dX4_must_0 : decode cX4_must 0 = .ok (.aload_n 0, 1) := by decide +kernel
theorem dX4_must_1 : decode cX4_must 1 = .ok (.aload_n 0, 1) := by decide +kernel
theorem dX4_must_2 : decode cX4_must 2 = .ok (.getfield 232, 3) := by decide +kernel
theorem dX4_must_5 : decode cX4_must 5 = .ok (.ifCond .ne 7, 3) := by decide +kernel
theorem dX4_must_8 : decode cX4_must 8 = .ok (.iload_n 1, 1) := by decide +kernel
theorem dX4_must_9 : decode cX4_must 9 = .ok (.ifCond .ne 7, 3) := by decide +kernel
theorem dX4_must_12 : decode cX4_must 12 = .ok (.iconst 1, 1) := by decide +kernel
theorem dX4_must_13 : decode cX4_must 13 = .ok (.goto 4, 3) := by decide +kernel
theorem dX4_must_16 : decode cX4_must 16 = .ok (.iconst 0, 1) := by decide +kernel
theorem dX4_must_17 : decode cX4_must 17 = .ok (.putfield 232, 3) := by decide +kernel
theorem dX4_must_20 : decode cX4_must 20 = .ok (.aload_n 0, 1) := by decide +kernel
theorem dX4_must_21 : decode cX4_must 21 = .ok (.getfield 232, 3) := by decide +kernel
theorem dX4_must_24 : decode cX4_must 24 = .ok (.ifCond .ne 7, 3) := by decide +kernel
theorem dX4_must_27 : decode cX4_must 27 = .ok (.aload_n 0, 1) := by decide +kernel
theorem dX4_must_28 : decode cX4_must 28 = .ok (.invokevirtual 236, 3) := by decide +kernel
theorem dX4_must_31 : decode cX4_must 31 = .ok (.return_, 1) := by decide +kernel
theorem dX4_word_0 : decode cX4_word 0 = .ok (.lconst 0, 1) := by decide +kernel
theorem dX4_word_1 : decode cX4_word 1 = .ok (.lstore_n 1, 1) := by decide +kernel
theorem dX4_word_2 : decode cX4_word 2 = .ok (.aload_n 0, 1) := by decide +kernel
theorem dX4_word_3 : decode cX4_word 3 = .ok (.getfield 220, 3) := by decide +kernel
theorem dX4_word_6 : decode cX4_word 6 = .ok (.istore_n 3, 1) := by decide +kernel
theorem dX4_word_7 : decode cX4_word 7 = .ok (.iload_n 3, 1) := by decide +kernel
theorem dX4_word_8 : decode cX4_word 8 = .ok (.aload_n 0, 1) := by decide +kernel
theorem dX4_word_9 : decode cX4_word 9 = .ok (.getfield 217, 3) := by decide +kernel
theorem dX4_word_12 : decode cX4_word 12 = .ok (.if_icmp .ge 38, 3) := by decide +kernel
theorem dX4_word_15 : decode cX4_word 15 = .ok (.lload_n 1, 1) := by decide +kernel
theorem dX4_word_16 : decode cX4_word 16 = .ok (.ldc2_w 239, 3) := by decide +kernel
theorem dX4_word_19 : decode cX4_word 19 = .ok (.lcmp, 1) := by decide +kernel
theorem dX4_word_20 : decode cX4_word 20 = .ok (.ifCond .le 7, 3) := by decide +kernel
theorem dX4_word_23 : decode cX4_word 23 = .ok (.lload_n 1, 1) := by decide +kernel
theorem dX4_word_24 : decode cX4_word 24 = .ok (.goto 19, 3) := by decide +kernel
theorem dX4_word_27 : decode cX4_word 27 = .ok (.ldc2_w 241, 3) := by decide +kernel
theorem dX4_word_30 : decode cX4_word 30 = .ok (.lload_n 1, 1) := by decide +kernel
theorem dX4_word_31 : decode cX4_word 31 = .ok (.lmul, 1) := by decide +kernel
theorem dX4_word_32 : decode cX4_word 32 = .ok (.aload_n 0, 1) := by decide +kernel
theorem dX4_word_33 : decode cX4_word 33 = .ok (.getfield 28, 3) := by decide +kernel
theorem dX4_word_36 : decode cX4_word 36 = .ok (.iload_n 3, 1) := by decide +kernel
theorem dX4_word_37 : decode cX4_word 37 = .ok (.iaload, 1) := by decide +kernel
theorem dX4_word_38 : decode cX4_word 38 = .ok (.bipush 96, 2) := by decide +kernel
theorem dX4_word_40 : decode cX4_word 40 = .ok (.isub, 1) := by decide +kernel
theorem dX4_word_41 : decode cX4_word 41 = .ok (.i2l, 1) := by decide +kernel
theorem dX4_word_42 : decode cX4_word 42 = .ok (.ladd, 1) := by decide +kernel
theorem dX4_word_43 : decode cX4_word 43 = .ok (.lstore_n 1, 1) := by decide +kernel
theorem dX4_word_44 : decode cX4_word 44 = .ok (.iinc 3 1, 3) := by decide +kernel
theorem dX4_word_47 : decode cX4_word 47 = .ok (.goto (-40), 3) := by decide +kernel
theorem dX4_word_50 : decode cX4_word 50 = .ok (.aload_n 0, 1) := by decide +kernel
theorem dX4_word_51 : decode cX4_word 51 = .ok (.getfield 232, 3) := by decide +kernel
theorem dX4_word_54 : decode cX4_word 54 = .ok (.ifCond .ne 17, 3) := by decide +kernel
theorem dX4_word_57 : decode cX4_word 57 = .ok (.aload_n 0, 1) := by decide +kernel
theorem dX4_word_58 : decode cX4_word 58 = .ok (.aload_n 0, 1) := by decide +kernel
theorem dX4_word_59 : decode cX4_word 59 = .ok (.getfield 220, 3) := by decide +kernel
theorem dX4_word_62 : decode cX4_word 62 = .ok (.invokevirtual 223, 3) := by decide +kernel
theorem dX4_word_65 : decode cX4_word 65 = .ok (.invokestatic 226, 3) := by decide +kernel
theorem dX4_word_68 : decode cX4_word 68 = .ok (.ifCond .ne 7, 3) := by decide +kernel
theorem dX4_word_71 : decode cX4_word 71 = .ok (.lconst 0, 1) := by decide +kernel
theorem dX4_word_72 : decode cX4_word 72 = .ok (.goto 4, 3) := by decide +kernel
theorem dX4_word_75 : decode cX4_word 75 = .ok (.lload_n 1, 1) := by decide +kernel
theorem dX4_word_76 : decode cX4_word 76 = .ok (.lreturn, 1) := by decide +kernel
theorem dX4_number_0 : decode cX4_number 0 = .ok (.aload_n 0, 1) := by decide +kernel
theorem dX4_number_1 : decode cX4_number 1 = .ok (.getfield 232, 3) := by decide +kernel
theorem dX4_number_4 : decode cX4_number 4 = .ok (.ifCond .eq 4, 3) := by decide +kernel
theorem dX4_number_7 : decode cX4_number 7 = .ok (.return_, 1) := by decide +kernel
theorem dX4_number_8 : decode cX4_number 8 = .ok (.aload_n 0, 1) := by decide +kernel
theorem dX4_number_9 : decode cX4_number 9 = .ok (.aload_n 0, 1) := by decide +kernel
theorem dX4_number_10 : decode cX4_number 10 = .ok (.getfield 220, 3) := by decide +kernel
theorem dX4_number_13 : decode cX4_number 13 = .ok (.invokevirtual 223, 3) := by decide +kernel
theorem dX4_number_16 : decode cX4_number 16 = .ok (.invokestatic 229, 3) := by decide +kernel
theorem dX4_number_19 : decode cX4_number 19 = .ok (.istore_n 3, 1) := by decide +kernel
theorem dX4_number_20 : decode cX4_number 20 = .ok (.iconst 0, 1) := by decide +kernel
theorem dX4_number_21 : decode cX4_number 21 = .ok (.istore 4, 2) := by decide +kernel
theorem dX4_number_23 : decode cX4_number 23 = .ok (.aload_n 0, 1) := by decide +kernel
theorem dX4_number_24 : decode cX4_number 24 = .ok (.getfield 220, 3) := by decide +kernel
theorem dX4_number_27 : decode cX4_number 27 = .ok (.istore 5, 2) := by decide +kernel
theorem dX4_number_29 : decode cX4_number 29 = .ok (.iload 5, 2) := by decide +kernel
theorem dX4_number_31 : decode cX4_number 31 = .ok (.aload_n 0, 1) := by decide +kernel
theorem dX4_number_32 : decode cX4_number 32 = .ok (.getfield 217, 3) := by decide +kernel
theorem dX4_number_35 : decode cX4_number 35 = .ok (.if_icmp .ge 44, 3) := by decide +kernel
theorem dX4_number_38 : decode cX4_number 38 = .ok (.iload_n 3, 1) := by decide +kernel
theorem dX4_number_39 : decode cX4_number 39 = .ok (.ifCond .eq 40, 3) := by decide +kernel
theorem dX4_number_42 : decode cX4_number 42 = .ok (.iload 4, 2) := by decide +kernel
theorem dX4_number_44 : decode cX4_number 44 = .ok (.sipush 999, 3) := by decide +kernel
theorem dX4_number_47 : decode cX4_number 47 = .ok (.if_icmp .le 8, 3) := by decide +kernel
theorem dX4_number_50 : decode cX4_number 50 = .ok (.iload 4, 2) := by decide +kernel
theorem dX4_number_52 : decode cX4_number 52 = .ok (.goto 19, 3) := by decide +kernel
theorem dX4_number_55 : decode cX4_number 55 = .ok (.bipush 10, 2) := by decide +kernel
theorem dX4_number_57 : decode cX4_number 57 = .ok (.iload 4, 2) := by decide +kernel
theorem dX4_number_59 : decode cX4_number 59 = .ok (.imul, 1) := by decide +kernel
theorem dX4_number_60 : decode cX4_number 60 = .ok (.aload_n 0, 1) := by decide +kernel
theorem dX4_number_61 : decode cX4_number 61 = .ok (.getfield 28, 3) := by decide +kernel
theorem dX4_number_64 : decode cX4_number 64 = .ok (.iload 5, 2) := by decide +kernel
theorem dX4_number_66 : decode cX4_number 66 = .ok (.iaload, 1) := by decide +kernel
theorem dX4_number_67 : decode cX4_number 67 = .ok (.iadd, 1) := by decide +kernel
theorem dX4_number_68 : decode cX4_number 68 = .ok (.bipush 48, 2) := by decide +kernel
theorem dX4_number_70 : decode cX4_number 70 = .ok (.isub, 1) := by decide +kernel
theorem dX4_number_71 : decode cX4_number 71 = .ok (.istore 4, 2) := by decide +kernel
theorem dX4_number_73 : decode cX4_number 73 = .ok (.iinc 5 1, 3) := by decide +kernel
theorem dX4_number_76 : decode cX4_number 76 = .ok (.goto (-47), 3) := by decide +kernel
theorem dX4_number_79 : decode cX4_number 79 = .ok (.aload_n 0, 1) := by decide +kernel
theorem dX4_number_80 : decode cX4_number 80 = .ok (.iload 4, 2) := by decide +kernel
theorem dX4_number_82 : decode cX4_number 82 = .ok (.putfield 243, 3) := by decide +kernel
theorem dX4_number_85 : decode cX4_number 85 = .ok (.aload_n 0, 1) := by decide +kernel
theorem dX4_number_86 : decode cX4_number 86 = .ok (.iload_n 3, 1) := by decide +kernel
theorem dX4_number_87 : decode cX4_number 87 = .ok (.ifCond .eq 20, 3) := by decide +kernel
theorem dX4_number_90 : decode cX4_number 90 = .ok (.iload 4, 2) := by decide +kernel
theorem dX4_number_92 : decode cX4_number 92 = .ok (.i2l, 1) := by decide +kernel
theorem dX4_number_93 : decode cX4_number 93 = .ok (.iload_n 1, 1) := by decide +kernel
theorem dX4_number_94 : decode cX4_number 94 = .ok (.i2l, 1) := by decide +kernel
theorem dX4_number_95 : decode cX4_number 95 = .ok (.iload_n 2, 1) := by decide +kernel
theorem dX4_number_96 : decode cX4_number 96 = .ok (.i2l, 1) := by decide +kernel
theorem dX4_number_97 : decode cX4_number 97 = .ok (.invokestatic 51, 3) := by decide +kernel
theorem dX4_number_100 : decode cX4_number 100 = .ok (.ifCond .eq 7, 3) := by decide +kernel
theorem dX4_number_103 : decode cX4_number 103 = .ok (.iconst 1, 1) := by decide +kernel
theorem dX4_number_104 : decode cX4_number 104 = .ok (.goto 4, 3) := by decide +kernel
theorem dX4_number_107 : decode cX4_number 107 = .ok (.iconst 0, 1) := by decide +kernel
theorem dX4_number_108 : decode cX4_number 108 = .ok (.invokevirtual 246, 3) := by decide +kernel
theorem dX4_number_111 : decode cX4_number 111 = .ok (.return_, 1) := by decide +kernel
theorem dX4_kindHere_0 : decode cX4_kindHere 0 = .ok (.aload_n 0, 1) := by decide +kernel
theorem dX4_kindHere_1 : decode cX4_kindHere 1 = .ok (.invokevirtual 250, 3) := by decide +kernel
theorem dX4_kindHere_4 : decode cX4_kindHere 4 = .ok (.lstore_n 1, 1) := by decide +kernel
theorem dX4_kindHere_5 : decode cX4_kindHere 5 = .ok (.lload_n 1, 1) := by decide +kernel
theorem dX4_kindHere_6 : decode cX4_kindHere 6 = .ok (.ldc2_w 254, 3) := by decide +kernel
theorem dX4_kindHere_9 : decode cX4_kindHere 9 = .ok (.lcmp, 1) := by decide +kernel
theorem dX4_kindHere_10 : decode cX4_kindHere 10 = .ok (.ifCond .ne 7, 3) := by decide +kernel
theorem dX4_kindHere_13 : decode cX4_kindHere 13 = .ok (.iconst 0, 1) := by decide +kernel
theorem dX4_kindHere_14 : decode cX4_kindHere 14 = .ok (.goto 64, 3) := by decide +kernel
theorem dX4_kindHere_17 : decode cX4_kindHere 17 = .ok (.lload_n 1, 1) := by decide +kernel
theorem dX4_kindHere_18 : decode cX4_kindHere 18 = .ok (.ldc2_w 256, 3) := by decide +kernel
theorem dX4_kindHere_21 : decode cX4_kindHere 21 = .ok (.lcmp, 1) := by decide +kernel
theorem dX4_kindHere_22 : decode cX4_kindHere 22 = .ok (.ifCond .ne 7, 3) := by decide +kernel
theorem dX4_kindHere_25 : decode cX4_kindHere 25 = .ok (.iconst 1, 1) := by decide +kernel
theorem dX4_kindHere_26 : decode cX4_kindHere 26 = .ok (.goto 52, 3) := by decide +kernel
theorem dX4_kindHere_29 : decode cX4_kindHere 29 = .ok (.lload_n 1, 1) := by decide +kernel
theorem dX4_kindHere_30 : decode cX4_kindHere 30 = .ok (.ldc2_w 258, 3) := by decide +kernel
theorem dX4_kindHere_33 : decode cX4_kindHere 33 = .ok (.lcmp, 1) := by decide +kernel
theorem dX4_kindHere_34 : decode cX4_kindHere 34 = .ok (.ifCond .ne 7, 3) := by decide +kernel
theorem dX4_kindHere_37 : decode cX4_kindHere 37 = .ok (.iconst 2, 1) := by decide +kernel
theorem dX4_kindHere_38 : decode cX4_kindHere 38 = .ok (.goto 40, 3) := by decide +kernel
theorem dX4_kindHere_41 : decode cX4_kindHere 41 = .ok (.lload_n 1, 1) := by decide +kernel
theorem dX4_kindHere_42 : decode cX4_kindHere 42 = .ok (.ldc2_w 260, 3) := by decide +kernel
theorem dX4_kindHere_45 : decode cX4_kindHere 45 = .ok (.lcmp, 1) := by decide +kernel
theorem dX4_kindHere_46 : decode cX4_kindHere 46 = .ok (.ifCond .ne 7, 3) := by decide +kernel
theorem dX4_kindHere_49 : decode cX4_kindHere 49 = .ok (.iconst 3, 1) := by decide +kernel
theorem dX4_kindHere_50 : decode cX4_kindHere 50 = .ok (.goto 28, 3) := by decide +kernel
theorem dX4_kindHere_53 : decode cX4_kindHere 53 = .ok (.lload_n 1, 1) := by decide +kernel
theorem dX4_kindHere_54 : decode cX4_kindHere 54 = .ok (.ldc2_w 262, 3) := by decide +kernel
theorem dX4_kindHere_57 : decode cX4_kindHere 57 = .ok (.lcmp, 1) := by decide +kernel
theorem dX4_kindHere_58 : decode cX4_kindHere 58 = .ok (.ifCond .ne 7, 3) := by decide +kernel
theorem dX4_kindHere_61 : decode cX4_kindHere 61 = .ok (.iconst 4, 1) := by decide +kernel
theorem dX4_kindHere_62 : decode cX4_kindHere 62 = .ok (.goto 16, 3) := by decide +kernel
theorem dX4_kindHere_65 : decode cX4_kindHere 65 = .ok (.lload_n 1, 1) := by decide +kernel
theorem dX4_kindHere_66 : decode cX4_kindHere 66 = .ok (.ldc2_w 264, 3) := by decide +kernel
theorem dX4_kindHere_69 : decode cX4_kindHere 69 = .ok (.lcmp, 1) := by decide +kernel
theorem dX4_kindHere_70 : decode cX4_kindHere 70 = .ok (.ifCond .ne 7, 3) := by decide +kernel
theorem dX4_kindHere_73 : decode cX4_kindHere 73 = .ok (.iconst 5, 1) := by decide +kernel
theorem dX4_kindHere_74 : decode cX4_kindHere 74 = .ok (.goto 4, 3) := by decide +kernel
theorem dX4_kindHere_77 : decode cX4_kindHere 77 = .ok (.iconst (-1), 1) := by decide +kernel
theorem dX4_kindHere_78 : decode cX4_kindHere 78 = .ok (.ireturn, 1) := by decide +kernel
theorem dX4_partItem_0 : decode cX4_partItem 0 = .ok (.aload_n 0, 1) := by decide +kernel
theorem dX4_partItem_1 : decode cX4_partItem 1 = .ok (.invokevirtual 250, 3) := by decide +kernel
theorem dX4_partItem_4 : decode cX4_partItem 4 = .ok (.lload_n 1, 1) := by decide +kernel
theorem dX4_partItem_5 : decode cX4_partItem 5 = .ok (.lcmp, 1) := by decide +kernel
theorem dX4_partItem_6 : decode cX4_partItem 6 = .ok (.ifCond .ne 41, 3) := by decide +kernel
theorem dX4_partItem_9 : decode cX4_partItem 9 = .ok (.aload_n 0, 1) := by decide +kernel
theorem dX4_partItem_10 : decode cX4_partItem 10 = .ok (.iconst 1, 1) := by decide +kernel
theorem dX4_partItem_11 : decode cX4_partItem 11 = .ok (.invokevirtual 246, 3) := by decide +kernel
theorem dX4_partItem_14 : decode cX4_partItem 14 = .ok (.aload_n 0, 1) := by decide +kernel
theorem dX4_partItem_15 : decode cX4_partItem 15 = .ok (.iconst 0, 1) := by decide +kernel
theorem dX4_partItem_16 : decode cX4_partItem 16 = .ok (.iload 4, 2) := by decide +kernel
theorem dX4_partItem_18 : decode cX4_partItem 18 = .ok (.invokevirtual 266, 3) := by decide +kernel
theorem dX4_partItem_21 : decode cX4_partItem 21 = .ok (.aload_n 0, 1) := by decide +kernel
theorem dX4_partItem_22 : decode cX4_partItem 22 = .ok (.getfield 7, 3) := by decide +kernel
theorem dX4_partItem_25 : decode cX4_partItem 25 = .ok (.iload_n 3, 1) := by decide +kernel
theorem dX4_partItem_26 : decode cX4_partItem 26 = .ok (.aload_n 0, 1) := by decide +kernel
theorem dX4_partItem_27 : decode cX4_partItem 27 = .ok (.getfield 232, 3) := by decide +kernel
theorem dX4_partItem_30 : decode cX4_partItem 30 = .ok (.ifCond .eq 12, 3) := by decide +kernel
theorem dX4_partItem_33 : decode cX4_partItem 33 = .ok (.aload_n 0, 1) := by decide +kernel
theorem dX4_partItem_34 : decode cX4_partItem 34 = .ok (.getfield 7, 3) := by decide +kernel
theorem dX4_partItem_37 : decode cX4_partItem 37 = .ok (.iload_n 3, 1) := by decide +kernel
theorem dX4_partItem_38 : decode cX4_partItem 38 = .ok (.iaload, 1) := by decide +kernel
theorem dX4_partItem_39 : decode cX4_partItem 39 = .ok (.goto 7, 3) := by decide +kernel
theorem dX4_partItem_42 : decode cX4_partItem 42 = .ok (.aload_n 0, 1) := by decide +kernel
theorem dX4_partItem_43 : decode cX4_partItem 43 = .ok (.getfield 243, 3) := by decide +kernel
theorem dX4_partItem_46 : decode cX4_partItem 46 = .ok (.iastore, 1) := by decide +kernel
theorem dX4_partItem_47 : decode cX4_partItem 47 = .ok (.return_, 1) := by decide +kernel
theorem dX4_peeked_0 : decode cX4_peeked 0 = .ok (.aload_n 0, 1) := by decide +kernel
theorem dX4_peeked_1 : decode cX4_peeked 1 = .ok (.getfield 232, 3) := by decide +kernel
theorem dX4_peeked_4 : decode cX4_peeked 4 = .ok (.ifCond .ne 17, 3) := by decide +kernel
theorem dX4_peeked_7 : decode cX4_peeked 7 = .ok (.aload_n 0, 1) := by decide +kernel
theorem dX4_peeked_8 : decode cX4_peeked 8 = .ok (.aload_n 0, 1) := by decide +kernel
theorem dX4_peeked_9 : decode cX4_peeked 9 = .ok (.getfield 220, 3) := by decide +kernel
theorem dX4_peeked_12 : decode cX4_peeked 12 = .ok (.invokevirtual 223, 3) := by decide +kernel
theorem dX4_peeked_15 : decode cX4_peeked 15 = .ok (.invokestatic 229, 3) := by decide +kernel
theorem dX4_peeked_18 : decode cX4_peeked 18 = .ok (.ifCond .ne 5, 3) := by decide +kernel
theorem dX4_peeked_21 : decode cX4_peeked 21 = .ok (.iconst (-1), 1) := by decide +kernel
theorem dX4_peeked_22 : decode cX4_peeked 22 = .ok (.ireturn, 1) := by decide +kernel
theorem dX4_peeked_23 : decode cX4_peeked 23 = .ok (.iconst 0, 1) := by decide +kernel
theorem dX4_peeked_24 : decode cX4_peeked 24 = .ok (.istore_n 1, 1) := by decide +kernel
theorem dX4_peeked_25 : decode cX4_peeked 25 = .ok (.aload_n 0, 1) := by decide +kernel
theorem dX4_peeked_26 : decode cX4_peeked 26 = .ok (.getfield 220, 3) := by decide +kernel
theorem dX4_peeked_29 : decode cX4_peeked 29 = .ok (.istore_n 2, 1) := by decide +kernel
theorem dX4_peeked_30 : decode cX4_peeked 30 = .ok (.iload_n 2, 1) := by decide +kernel
theorem dX4_peeked_31 : decode cX4_peeked 31 = .ok (.aload_n 0, 1) := by decide +kernel
theorem dX4_peeked_32 : decode cX4_peeked 32 = .ok (.getfield 217, 3) := by decide +kernel
theorem dX4_peeked_35 : decode cX4_peeked 35 = .ok (.if_icmp .ge 36, 3) := by decide +kernel
theorem dX4_peeked_38 : decode cX4_peeked 38 = .ok (.iload_n 1, 1) := by decide +kernel
theorem dX4_peeked_39 : decode cX4_peeked 39 = .ok (.bipush 99, 2) := by decide +kernel
theorem dX4_peeked_41 : decode cX4_peeked 41 = .ok (.if_icmp .le 9, 3) := by decide +kernel
theorem dX4_peeked_44 : decode cX4_peeked 44 = .ok (.sipush 1000, 3) := by decide +kernel
theorem dX4_peeked_47 : decode cX4_peeked 47 = .ok (.goto 17, 3) := by decide +kernel
theorem dX4_peeked_50 : decode cX4_peeked 50 = .ok (.bipush 10, 2) := by decide +kernel
theorem dX4_peeked_52 : decode cX4_peeked 52 = .ok (.iload_n 1, 1) := by decide +kernel
theorem dX4_peeked_53 : decode cX4_peeked 53 = .ok (.imul, 1) := by decide +kernel
theorem dX4_peeked_54 : decode cX4_peeked 54 = .ok (.aload_n 0, 1) := by decide +kernel
theorem dX4_peeked_55 : decode cX4_peeked 55 = .ok (.getfield 28, 3) := by decide +kernel
theorem dX4_peeked_58 : decode cX4_peeked 58 = .ok (.iload_n 2, 1) := by decide +kernel
theorem dX4_peeked_59 : decode cX4_peeked 59 = .ok (.iaload, 1) := by decide +kernel
theorem dX4_peeked_60 : decode cX4_peeked 60 = .ok (.iadd, 1) := by decide +kernel
theorem dX4_peeked_61 : decode cX4_peeked 61 = .ok (.bipush 48, 2) := by decide +kernel
theorem dX4_peeked_63 : decode cX4_peeked 63 = .ok (.isub, 1) := by decide +kernel
theorem dX4_peeked_64 : decode cX4_peeked 64 = .ok (.istore_n 1, 1) := by decide +kernel
theorem dX4_peeked_65 : decode cX4_peeked 65 = .ok (.iinc 2 1, 3) := by decide +kernel
theorem dX4_peeked_68 : decode cX4_peeked 68 = .ok (.goto (-38), 3) := by decide +kernel
theorem dX4_peeked_71 : decode cX4_peeked 71 = .ok (.iload_n 1, 1) := by decide +kernel
theorem dX4_peeked_72 : decode cX4_peeked 72 = .ok (.ireturn, 1) := by decide +kernel
theorem dX4_personItem_0 : decode cX4_personItem 0 = .ok (.aload_n 0, 1) := by decide +kernel
theorem dX4_personItem_1 : decode cX4_personItem 1 = .ok (.aload_n 0, 1) := by decide +kernel
theorem dX4_personItem_2 : decode cX4_personItem 2 = .ok (.getfield 7, 3) := by decide +kernel
theorem dX4_personItem_5 : decode cX4_personItem 5 = .ok (.iconst 0, 1) := by decide +kernel
theorem dX4_personItem_6 : decode cX4_personItem 6 = .ok (.iaload, 1) := by decide +kernel
theorem dX4_personItem_7 : decode cX4_personItem 7 = .ok (.bipush 8, 2) := by decide +kernel
theorem dX4_personItem_9 : decode cX4_personItem 9 = .ok (.if_icmp .ge 7, 3) := by decide +kernel
theorem dX4_personItem_12 : decode cX4_personItem 12 = .ok (.iconst 1, 1) := by decide +kernel
theorem dX4_personItem_13 : decode cX4_personItem 13 = .ok (.goto 4, 3) := by decide +kernel
theorem dX4_personItem_16 : decode cX4_personItem 16 = .ok (.iconst 0, 1) := by decide +kernel
theorem dX4_personItem_17 : decode cX4_personItem 17 = .ok (.invokevirtual 246, 3) := by decide +kernel
theorem dX4_personItem_20 : decode cX4_personItem 20 = .ok (.aload_n 0, 1) := by decide +kernel
theorem dX4_personItem_21 : decode cX4_personItem 21 = .ok (.getfield 232, 3) := by decide +kernel
theorem dX4_personItem_24 : decode cX4_personItem 24 = .ok (.ifCond .eq 4, 3) := by decide +kernel
theorem dX4_personItem_27 : decode cX4_personItem 27 = .ok (.return_, 1) := by decide +kernel
theorem dX4_personItem_28 : decode cX4_personItem 28 = .ok (.aload_n 0, 1) := by decide +kernel
theorem dX4_personItem_29 : decode cX4_personItem 29 = .ok (.iload_n 1, 1) := by decide +kernel
theorem dX4_personItem_30 : decode cX4_personItem 30 = .ok (.invokevirtual 90, 3) := by decide +kernel
theorem dX4_personItem_33 : decode cX4_personItem 33 = .ok (.istore_n 2, 1) := by decide +kernel
theorem dX4_personItem_34 : decode cX4_personItem 34 = .ok (.aload_n 0, 1) := by decide +kernel
theorem dX4_personItem_35 : decode cX4_personItem 35 = .ok (.ldc2_w 269, 3) := by decide +kernel
theorem dX4_personItem_38 : decode cX4_personItem 38 = .ok (.iload_n 2, 1) := by decide +kernel
theorem dX4_personItem_39 : decode cX4_personItem 39 = .ok (.iconst 1, 1) := by decide +kernel
theorem dX4_personItem_40 : decode cX4_personItem 40 = .ok (.invokestatic 61, 3) := by decide +kernel
theorem dX4_personItem_43 : decode cX4_personItem 43 = .ok (.bipush 99, 2) := by decide +kernel
theorem dX4_personItem_45 : decode cX4_personItem 45 = .ok (.invokevirtual 271, 3) := by decide +kernel
theorem dX4_personItem_48 : decode cX4_personItem 48 = .ok (.aload_n 0, 1) := by decide +kernel
theorem dX4_personItem_49 : decode cX4_personItem 49 = .ok (.ldc2_w 275, 3) := by decide +kernel
theorem dX4_personItem_52 : decode cX4_personItem 52 = .ok (.iload_n 2, 1) := by decide +kernel
theorem dX4_personItem_53 : decode cX4_personItem 53 = .ok (.iconst 2, 1) := by decide +kernel
theorem dX4_personItem_54 : decode cX4_personItem 54 = .ok (.invokestatic 61, 3) := by decide +kernel
theorem dX4_personItem_57 : decode cX4_personItem 57 = .ok (.bipush 7, 2) := by decide +kernel
theorem dX4_personItem_59 : decode cX4_personItem 59 = .ok (.invokevirtual 271, 3) := by decide +kernel
theorem dX4_personItem_62 : decode cX4_personItem 62 = .ok (.aload_n 0, 1) := by decide +kernel
theorem dX4_personItem_63 : decode cX4_personItem 63 = .ok (.getfield 232, 3) := by decide +kernel
theorem dX4_personItem_66 : decode cX4_personItem 66 = .ok (.ifCond .ne 71, 3) := by decide +kernel
theorem dX4_personItem_69 : decode cX4_personItem 69 = .ok (.aload_n 0, 1) := by decide +kernel
theorem dX4_personItem_70 : decode cX4_personItem 70 = .ok (.invokevirtual 250, 3) := by decide +kernel
theorem dX4_personItem_73 : decode cX4_personItem 73 = .ok (.ldc2_w 277, 3) := by decide +kernel
theorem dX4_personItem_76 : decode cX4_personItem 76 = .ok (.lcmp, 1) := by decide +kernel
theorem dX4_personItem_77 : decode cX4_personItem 77 = .ok (.ifCond .ne 60, 3) := by decide +kernel
theorem dX4_personItem_80 : decode cX4_personItem 80 = .ok (.aload_n 0, 1) := by decide +kernel
theorem dX4_personItem_81 : decode cX4_personItem 81 = .ok (.iconst 1, 1) := by decide +kernel
theorem dX4_personItem_82 : decode cX4_personItem 82 = .ok (.invokevirtual 246, 3) := by decide +kernel
theorem dX4_personItem_85 : decode cX4_personItem 85 = .ok (.aload_n 0, 1) := by decide +kernel
theorem dX4_personItem_86 : decode cX4_personItem 86 = .ok (.invokevirtual 279, 3) := by decide +kernel
theorem dX4_personItem_89 : decode cX4_personItem 89 = .ok (.istore_n 3, 1) := by decide +kernel
theorem dX4_personItem_90 : decode cX4_personItem 90 = .ok (.aload_n 0, 1) := by decide +kernel
theorem dX4_personItem_91 : decode cX4_personItem 91 = .ok (.iload_n 3, 1) := by decide +kernel
theorem dX4_personItem_92 : decode cX4_personItem 92 = .ok (.invokestatic 71, 3) := by decide +kernel
theorem dX4_personItem_95 : decode cX4_personItem 95 = .ok (.ifCond .eq 16, 3) := by decide +kernel
theorem dX4_personItem_98 : decode cX4_personItem 98 = .ok (.aload_n 0, 1) := by decide +kernel
theorem dX4_personItem_99 : decode cX4_personItem 99 = .ok (.iload_n 3, 1) := by decide +kernel
theorem dX4_personItem_100 : decode cX4_personItem 100 = .ok (.invokevirtual 83, 3) := by decide +kernel
theorem dX4_personItem_103 : decode cX4_personItem 103 = .ok (.iconst (-1), 1) := by decide +kernel
theorem dX4_personItem_104 : decode cX4_personItem 104 = .ok (.if_icmp .ne 7, 3) := by decide +kernel
theorem dX4_personItem_107 : decode cX4_personItem 107 = .ok (.iconst 1, 1) := by decide +kernel
theorem dX4_personItem_108 : decode cX4_personItem 108 = .ok (.goto 4, 3) := by decide +kernel
theorem dX4_personItem_111 : decode cX4_personItem 111 = .ok (.iconst 0, 1) := by decide +kernel
theorem dX4_personItem_112 : decode cX4_personItem 112 = .ok (.invokevirtual 246, 3) := by decide +kernel
theorem dX4_personItem_115 : decode cX4_personItem 115 = .ok (.aload_n 0, 1) := by decide +kernel
theorem dX4_personItem_116 : decode cX4_personItem 116 = .ok (.getfield 7, 3) := by decide +kernel
theorem dX4_personItem_119 : decode cX4_personItem 119 = .ok (.iload_n 2, 1) := by decide +kernel
theorem dX4_personItem_120 : decode cX4_personItem 120 = .ok (.iconst 5, 1) := by decide +kernel
theorem dX4_personItem_121 : decode cX4_personItem 121 = .ok (.invokestatic 61, 3) := by decide +kernel
theorem dX4_personItem_124 : decode cX4_personItem 124 = .ok (.aload_n 0, 1) := by decide +kernel
theorem dX4_personItem_125 : decode cX4_personItem 125 = .ok (.getfield 232, 3) := by decide +kernel
theorem dX4_personItem_128 : decode cX4_personItem 128 = .ok (.ifCond .eq 7, 3) := by decide +kernel
theorem dX4_personItem_131 : decode cX4_personItem 131 = .ok (.iconst (-1), 1) := by decide +kernel
theorem dX4_personItem_132 : decode cX4_personItem 132 = .ok (.goto 4, 3) := by decide +kernel
theorem dX4_personItem_135 : decode cX4_personItem 135 = .ok (.iload_n 3, 1) := by decide +kernel
theorem dX4_personItem_136 : decode cX4_personItem 136 = .ok (.iastore, 1) := by decide +kernel
theorem dX4_personItem_137 : decode cX4_personItem 137 = .ok (.return_, 1) := by decide +kernel
theorem dX4_chairItem_0 : decode cX4_chairItem 0 = .ok (.aload_n 0, 1) := by decide +kernel
theorem dX4_chairItem_1 : decode cX4_chairItem 1 = .ok (.iconst 1, 1) := by decide +kernel
theorem dX4_chairItem_2 : decode cX4_chairItem 2 = .ok (.invokevirtual 246, 3) := by decide +kernel
theorem dX4_chairItem_5 : decode cX4_chairItem 5 = .ok (.aload_n 0, 1) := by decide +kernel
theorem dX4_chairItem_6 : decode cX4_chairItem 6 = .ok (.iconst 0, 1) := by decide +kernel
theorem dX4_chairItem_7 : decode cX4_chairItem 7 = .ok (.bipush 7, 2) := by decide +kernel
theorem dX4_chairItem_9 : decode cX4_chairItem 9 = .ok (.invokevirtual 266, 3) := by decide +kernel
theorem dX4_chairItem_12 : decode cX4_chairItem 12 = .ok (.aload_n 0, 1) := by decide +kernel
theorem dX4_chairItem_13 : decode cX4_chairItem 13 = .ok (.getfield 232, 3) := by decide +kernel
theorem dX4_chairItem_16 : decode cX4_chairItem 16 = .ok (.ifCond .eq 7, 3) := by decide +kernel
theorem dX4_chairItem_19 : decode cX4_chairItem 19 = .ok (.iconst 0, 1) := by decide +kernel
theorem dX4_chairItem_20 : decode cX4_chairItem 20 = .ok (.goto 7, 3) := by decide +kernel
theorem dX4_chairItem_23 : decode cX4_chairItem 23 = .ok (.aload_n 0, 1) := by decide +kernel
theorem dX4_chairItem_24 : decode cX4_chairItem 24 = .ok (.getfield 243, 3) := by decide +kernel
theorem dX4_chairItem_27 : decode cX4_chairItem 27 = .ok (.istore_n 1, 1) := by decide +kernel
theorem dX4_chairItem_28 : decode cX4_chairItem 28 = .ok (.aload_n 0, 1) := by decide +kernel
theorem dX4_chairItem_29 : decode cX4_chairItem 29 = .ok (.ldc2_w 282, 3) := by decide +kernel
theorem dX4_chairItem_32 : decode cX4_chairItem 32 = .ok (.iload_n 1, 1) := by decide +kernel
theorem dX4_chairItem_33 : decode cX4_chairItem 33 = .ok (.iconst 0, 1) := by decide +kernel
theorem dX4_chairItem_34 : decode cX4_chairItem 34 = .ok (.invokestatic 44, 3) := by decide +kernel
theorem dX4_chairItem_37 : decode cX4_chairItem 37 = .ok (.bipush 20, 2) := by decide +kernel
theorem dX4_chairItem_39 : decode cX4_chairItem 39 = .ok (.invokevirtual 271, 3) := by decide +kernel
theorem dX4_chairItem_42 : decode cX4_chairItem 42 = .ok (.aload_n 0, 1) := by decide +kernel
theorem dX4_chairItem_43 : decode cX4_chairItem 43 = .ok (.ldc2_w 284, 3) := by decide +kernel
theorem dX4_chairItem_46 : decode cX4_chairItem 46 = .ok (.iload_n 1, 1) := by decide +kernel
theorem dX4_chairItem_47 : decode cX4_chairItem 47 = .ok (.iconst 1, 1) := by decide +kernel
theorem dX4_chairItem_48 : decode cX4_chairItem 48 = .ok (.invokestatic 44, 3) := by decide +kernel
theorem dX4_chairItem_51 : decode cX4_chairItem 51 = .ok (.bipush 9, 2) := by decide +kernel
theorem dX4_chairItem_53 : decode cX4_chairItem 53 = .ok (.invokevirtual 271, 3) := by decide +kernel
theorem dX4_chairItem_56 : decode cX4_chairItem 56 = .ok (.return_, 1) := by decide +kernel
theorem dX4_item_0 : decode cX4_item 0 = .ok (.aload_n 0, 1) := by decide +kernel
theorem dX4_item_1 : decode cX4_item 1 = .ok (.invokevirtual 286, 3) := by decide +kernel
theorem dX4_item_4 : decode cX4_item 4 = .ok (.istore_n 1, 1) := by decide +kernel
theorem dX4_item_5 : decode cX4_item 5 = .ok (.aload_n 0, 1) := by decide +kernel
theorem dX4_item_6 : decode cX4_item 6 = .ok (.invokevirtual 250, 3) := by decide +kernel
theorem dX4_item_9 : decode cX4_item 9 = .ok (.lstore_n 2, 1) := by decide +kernel
theorem dX4_item_10 : decode cX4_item 10 = .ok (.iload_n 1, 1) := by decide +kernel
theorem dX4_item_11 : decode cX4_item 11 = .ok (.ifCond .lt 11, 3) := by decide +kernel
theorem dX4_item_14 : decode cX4_item 14 = .ok (.aload_n 0, 1) := by decide +kernel
theorem dX4_item_15 : decode cX4_item 15 = .ok (.iload_n 1, 1) := by decide +kernel
theorem dX4_item_16 : decode cX4_item 16 = .ok (.invokevirtual 289, 3) := by decide +kernel
theorem dX4_item_19 : decode cX4_item 19 = .ok (.goto 119, 3) := by decide +kernel
theorem dX4_item_22 : decode cX4_item 22 = .ok (.lload_n 2, 1) := by decide +kernel
theorem dX4_item_23 : decode cX4_item 23 = .ok (.ldc2_w 293, 3) := by decide +kernel
theorem dX4_item_26 : decode cX4_item 26 = .ok (.lcmp, 1) := by decide +kernel
theorem dX4_item_27 : decode cX4_item 27 = .ok (.ifCond .ne 10, 3) := by decide +kernel
theorem dX4_item_30 : decode cX4_item 30 = .ok (.aload_n 0, 1) := by decide +kernel
theorem dX4_item_31 : decode cX4_item 31 = .ok (.invokevirtual 295, 3) := by decide +kernel
theorem dX4_item_34 : decode cX4_item 34 = .ok (.goto 104, 3) := by decide +kernel
theorem dX4_item_37 : decode cX4_item 37 = .ok (.lload_n 2, 1) := by decide +kernel
theorem dX4_item_38 : decode cX4_item 38 = .ok (.ldc2_w 298, 3) := by decide +kernel
theorem dX4_item_41 : decode cX4_item 41 = .ok (.lcmp, 1) := by decide +kernel
theorem dX4_item_42 : decode cX4_item 42 = .ok (.ifCond .ne 7, 3) := by decide +kernel
theorem dX4_item_45 : decode cX4_item 45 = .ok (.iconst 1, 1) := by decide +kernel
theorem dX4_item_46 : decode cX4_item 46 = .ok (.goto 4, 3) := by decide +kernel
theorem dX4_item_49 : decode cX4_item 49 = .ok (.iconst 0, 1) := by decide +kernel
theorem dX4_item_50 : decode cX4_item 50 = .ok (.istore 4, 2) := by decide +kernel
theorem dX4_item_52 : decode cX4_item 52 = .ok (.aload_n 0, 1) := by decide +kernel
theorem dX4_item_53 : decode cX4_item 53 = .ok (.iload 4, 2) := by decide +kernel
theorem dX4_item_55 : decode cX4_item 55 = .ok (.ifCond .ne 11, 3) := by decide +kernel
theorem dX4_item_58 : decode cX4_item 58 = .ok (.lload_n 2, 1) := by decide +kernel
theorem dX4_item_59 : decode cX4_item 59 = .ok (.ldc2_w 300, 3) := by decide +kernel
theorem dX4_item_62 : decode cX4_item 62 = .ok (.lcmp, 1) := by decide +kernel
theorem dX4_item_63 : decode cX4_item 63 = .ok (.ifCond .ne 7, 3) := by decide +kernel
theorem dX4_item_66 : decode cX4_item 66 = .ok (.iconst 1, 1) := by decide +kernel
theorem dX4_item_67 : decode cX4_item 67 = .ok (.goto 4, 3) := by decide +kernel
theorem dX4_item_70 : decode cX4_item 70 = .ok (.iconst 0, 1) := by decide +kernel
theorem dX4_item_71 : decode cX4_item 71 = .ok (.invokevirtual 246, 3) := by decide +kernel
theorem dX4_item_74 : decode cX4_item 74 = .ok (.aload_n 0, 1) := by decide +kernel
theorem dX4_item_75 : decode cX4_item 75 = .ok (.invokevirtual 279, 3) := by decide +kernel
theorem dX4_item_78 : decode cX4_item 78 = .ok (.istore 5, 2) := by decide +kernel
theorem dX4_item_80 : decode cX4_item 80 = .ok (.aload_n 0, 1) := by decide +kernel
theorem dX4_item_81 : decode cX4_item 81 = .ok (.aload_n 0, 1) := by decide +kernel
theorem dX4_item_82 : decode cX4_item 82 = .ok (.iload 5, 2) := by decide +kernel
theorem dX4_item_84 : decode cX4_item 84 = .ok (.invokevirtual 55, 3) := by decide +kernel
theorem dX4_item_87 : decode cX4_item 87 = .ok (.invokevirtual 246, 3) := by decide +kernel
theorem dX4_item_90 : decode cX4_item 90 = .ok (.aload_n 0, 1) := by decide +kernel
theorem dX4_item_91 : decode cX4_item 91 = .ok (.invokevirtual 279, 3) := by decide +kernel
theorem dX4_item_94 : decode cX4_item 94 = .ok (.istore 6, 2) := by decide +kernel
theorem dX4_item_96 : decode cX4_item 96 = .ok (.aload_n 0, 1) := by decide +kernel
theorem dX4_item_97 : decode cX4_item 97 = .ok (.aload_n 0, 1) := by decide +kernel
theorem dX4_item_98 : decode cX4_item 98 = .ok (.iload 6, 2) := by decide +kernel
theorem dX4_item_100 : decode cX4_item 100 = .ok (.invokevirtual 55, 3) := by decide +kernel
theorem dX4_item_103 : decode cX4_item 103 = .ok (.ifCond .eq 14, 3) := by decide +kernel
theorem dX4_item_106 : decode cX4_item 106 = .ok (.iload 5, 2) := by decide +kernel
theorem dX4_item_108 : decode cX4_item 108 = .ok (.iload 6, 2) := by decide +kernel
theorem dX4_item_110 : decode cX4_item 110 = .ok (.if_icmp .eq 7, 3) := by decide +kernel
theorem dX4_item_113 : decode cX4_item 113 = .ok (.iconst 1, 1) := by decide +kernel
theorem dX4_item_114 : decode cX4_item 114 = .ok (.goto 4, 3) := by decide +kernel
theorem dX4_item_117 : decode cX4_item 117 = .ok (.iconst 0, 1) := by decide +kernel
theorem dX4_item_118 : decode cX4_item 118 = .ok (.invokevirtual 246, 3) := by decide +kernel
theorem dX4_item_121 : decode cX4_item 121 = .ok (.aload_n 0, 1) := by decide +kernel
theorem dX4_item_122 : decode cX4_item 122 = .ok (.getfield 232, 3) := by decide +kernel
theorem dX4_item_125 : decode cX4_item 125 = .ok (.ifCond .ne 13, 3) := by decide +kernel
theorem dX4_item_128 : decode cX4_item 128 = .ok (.aload_n 0, 1) := by decide +kernel
theorem dX4_item_129 : decode cX4_item 129 = .ok (.iload 5, 2) := by decide +kernel
theorem dX4_item_131 : decode cX4_item 131 = .ok (.iload 6, 2) := by decide +kernel
theorem dX4_item_133 : decode cX4_item 133 = .ok (.iload 4, 2) := by decide +kernel
theorem dX4_item_135 : decode cX4_item 135 = .ok (.invokevirtual 118, 3) := by decide +kernel
theorem dX4_item_138 : decode cX4_item 138 = .ok (.return_, 1) := by decide +kernel
theorem dX4_room_0 : decode cX4_room 0 = .ok (.aload_n 0, 1) := by decide +kernel
theorem dX4_room_1 : decode cX4_room 1 = .ok (.invokevirtual 302, 3) := by decide +kernel
theorem dX4_room_4 : decode cX4_room 4 = .ok (.aload_n 0, 1) := by decide +kernel
theorem dX4_room_5 : decode cX4_room 5 = .ok (.iconst 0, 1) := by decide +kernel
theorem dX4_room_6 : decode cX4_room 6 = .ok (.putfield 232, 3) := by decide +kernel
theorem dX4_room_9 : decode cX4_room 9 = .ok (.aload_n 0, 1) := by decide +kernel
theorem dX4_room_10 : decode cX4_room 10 = .ok (.iconst 0, 1) := by decide +kernel
theorem dX4_room_11 : decode cX4_room 11 = .ok (.putfield 217, 3) := by decide +kernel
theorem dX4_room_14 : decode cX4_room 14 = .ok (.aload_n 0, 1) := by decide +kernel
theorem dX4_room_15 : decode cX4_room 15 = .ok (.invokevirtual 236, 3) := by decide +kernel
theorem dX4_room_18 : decode cX4_room 18 = .ok (.iconst 1, 1) := by decide +kernel
theorem dX4_room_19 : decode cX4_room 19 = .ok (.istore_n 1, 1) := by decide +kernel
theorem dX4_room_20 : decode cX4_room 20 = .ok (.aload_n 0, 1) := by decide +kernel
theorem dX4_room_21 : decode cX4_room 21 = .ok (.invokevirtual 305, 3) := by decide +kernel
theorem dX4_room_24 : decode cX4_room 24 = .ok (.aload_n 0, 1) := by decide +kernel
theorem dX4_room_25 : decode cX4_room 25 = .ok (.getfield 232, 3) := by decide +kernel
theorem dX4_room_28 : decode cX4_room 28 = .ok (.ifCond .ne 31, 3) := by decide +kernel
theorem dX4_room_31 : decode cX4_room 31 = .ok (.aload_n 0, 1) := by decide +kernel
theorem dX4_room_32 : decode cX4_room 32 = .ok (.aload_n 0, 1) := by decide +kernel
theorem dX4_room_33 : decode cX4_room 33 = .ok (.getfield 220, 3) := by decide +kernel
theorem dX4_room_36 : decode cX4_room 36 = .ok (.invokevirtual 223, 3) := by decide +kernel
theorem dX4_room_39 : decode cX4_room 39 = .ok (.bipush 59, 2) := by decide +kernel
theorem dX4_room_41 : decode cX4_room 41 = .ok (.if_icmp .ne 18, 3) := by decide +kernel
theorem dX4_room_44 : decode cX4_room 44 = .ok (.aload_n 0, 1) := by decide +kernel
theorem dX4_room_45 : decode cX4_room 45 = .ok (.iconst 1, 1) := by decide +kernel
theorem dX4_room_46 : decode cX4_room 46 = .ok (.invokevirtual 246, 3) := by decide +kernel
theorem dX4_room_49 : decode cX4_room 49 = .ok (.aload_n 0, 1) := by decide +kernel
theorem dX4_room_50 : decode cX4_room 50 = .ok (.invokevirtual 305, 3) := by decide +kernel
theorem dX4_room_53 : decode cX4_room 53 = .ok (.iinc 1 1, 3) := by decide +kernel
theorem dX4_room_56 : decode cX4_room 56 = .ok (.goto (-32), 3) := by decide +kernel
theorem dX4_room_59 : decode cX4_room 59 = .ok (.aload_n 0, 1) := by decide +kernel
theorem dX4_room_60 : decode cX4_room 60 = .ok (.aload_n 0, 1) := by decide +kernel
theorem dX4_room_61 : decode cX4_room 61 = .ok (.getfield 232, 3) := by decide +kernel
theorem dX4_room_64 : decode cX4_room 64 = .ok (.ifCond .ne 14, 3) := by decide +kernel
theorem dX4_room_67 : decode cX4_room 67 = .ok (.aload_n 0, 1) := by decide +kernel
theorem dX4_room_68 : decode cX4_room 68 = .ok (.getfield 220, 3) := by decide +kernel
theorem dX4_room_71 : decode cX4_room 71 = .ok (.aload_n 0, 1) := by decide +kernel
theorem dX4_room_72 : decode cX4_room 72 = .ok (.getfield 206, 3) := by decide +kernel
theorem dX4_room_75 : decode cX4_room 75 = .ok (.if_icmp .ge 7, 3) := by decide +kernel
theorem dX4_room_78 : decode cX4_room 78 = .ok (.iconst 1, 1) := by decide +kernel
theorem dX4_room_79 : decode cX4_room 79 = .ok (.goto 4, 3) := by decide +kernel
theorem dX4_room_82 : decode cX4_room 82 = .ok (.iconst 0, 1) := by decide +kernel
theorem dX4_room_83 : decode cX4_room 83 = .ok (.putfield 232, 3) := by decide +kernel
theorem dX4_room_86 : decode cX4_room 86 = .ok (.aload_n 0, 1) := by decide +kernel
theorem dX4_room_87 : decode cX4_room 87 = .ok (.getfield 232, 3) := by decide +kernel
theorem dX4_room_90 : decode cX4_room 90 = .ok (.ifCond .eq 7, 3) := by decide +kernel
theorem dX4_room_93 : decode cX4_room 93 = .ok (.aload_n 0, 1) := by decide +kernel
theorem dX4_room_94 : decode cX4_room 94 = .ok (.invokevirtual 308, 3) := by decide +kernel
theorem dX4_room_97 : decode cX4_room 97 = .ok (.aload_n 0, 1) := by decide +kernel
theorem dX4_room_98 : decode cX4_room 98 = .ok (.iconst 0, 1) := by decide +kernel
theorem dX4_room_99 : decode cX4_room 99 = .ok (.putfield 206, 3) := by decide +kernel
theorem dX4_room_102 : decode cX4_room 102 = .ok (.aload_n 0, 1) := by decide +kernel
theorem dX4_room_103 : decode cX4_room 103 = .ok (.getfield 232, 3) := by decide +kernel
theorem dX4_room_106 : decode cX4_room 106 = .ok (.ifCond .eq 12, 3) := by decide +kernel
theorem dX4_room_109 : decode cX4_room 109 = .ok (.iconst (-1), 1) := by decide +kernel
theorem dX4_room_110 : decode cX4_room 110 = .ok (.aload_n 0, 1) := by decide +kernel
theorem dX4_room_111 : decode cX4_room 111 = .ok (.getfield 220, 3) := by decide +kernel
theorem dX4_room_114 : decode cX4_room 114 = .ok (.isub, 1) := by decide +kernel
theorem dX4_room_115 : decode cX4_room 115 = .ok (.goto 4, 3) := by decide +kernel
theorem dX4_room_118 : decode cX4_room 118 = .ok (.iload_n 1, 1) := by decide +kernel
theorem dX4_room_119 : decode cX4_room 119 = .ok (.ireturn, 1) := by decide +kernel
theorem dX4_isOne_0 : decode cX4_isOne 0 = .ok (.iload_n 0, 1) := by decide +kernel
theorem dX4_isOne_1 : decode cX4_isOne 1 = .ok (.i2l, 1) := by decide +kernel
theorem dX4_isOne_2 : decode cX4_isOne 2 = .ok (.lconst 0, 1) := by decide +kernel
theorem dX4_isOne_3 : decode cX4_isOne 3 = .ok (.ldc2_w 311, 3) := by decide +kernel
theorem dX4_isOne_6 : decode cX4_isOne 6 = .ok (.invokestatic 51, 3) := by decide +kernel
theorem dX4_isOne_9 : decode cX4_isOne 9 = .ok (.ireturn, 1) := by decide +kernel
theorem dX4_sheet_0 : decode cX4_sheet 0 = .ok (.iload_n 1, 1) := by decide +kernel
theorem dX4_sheet_1 : decode cX4_sheet 1 = .ok (.invokestatic 313, 3) := by decide +kernel
theorem dX4_sheet_4 : decode cX4_sheet 4 = .ok (.ifCond .eq 25, 3) := by decide +kernel
theorem dX4_sheet_7 : decode cX4_sheet 7 = .ok (.iload_n 2, 1) := by decide +kernel
theorem dX4_sheet_8 : decode cX4_sheet 8 = .ok (.ifCond .eq 28, 3) := by decide +kernel
theorem dX4_sheet_11 : decode cX4_sheet 11 = .ok (.iload_n 2, 1) := by decide +kernel
theorem dX4_sheet_12 : decode cX4_sheet 12 = .ok (.bipush 8, 2) := by decide +kernel
theorem dX4_sheet_14 : decode cX4_sheet 14 = .ok (.if_icmp .eq 22, 3) := by decide +kernel
theorem dX4_sheet_17 : decode cX4_sheet 17 = .ok (.iload_n 2, 1) := by decide +kernel
theorem dX4_sheet_18 : decode cX4_sheet 18 = .ok (.bipush 16, 2) := by decide +kernel
theorem dX4_sheet_20 : decode cX4_sheet 20 = .ok (.if_icmp .eq 16, 3) := by decide +kernel
theorem dX4_sheet_23 : decode cX4_sheet 23 = .ok (.iload_n 2, 1) := by decide +kernel
theorem dX4_sheet_24 : decode cX4_sheet 24 = .ok (.bipush 64, 2) := by decide +kernel
theorem dX4_sheet_26 : decode cX4_sheet 26 = .ok (.if_icmp .eq 10, 3) := by decide +kernel
theorem dX4_sheet_29 : decode cX4_sheet 29 = .ok (.aload_n 0, 1) := by decide +kernel
theorem dX4_sheet_30 : decode cX4_sheet 30 = .ok (.ldc 48, 2) := by decide +kernel
theorem dX4_sheet_32 : decode cX4_sheet 32 = .ok (.invokevirtual 77, 3) := by decide +kernel
theorem dX4_sheet_35 : decode cX4_sheet 35 = .ok (.ireturn, 1) := by decide +kernel
theorem dX4_sheet_36 : decode cX4_sheet 36 = .ok (.iload_n 3, 1) := by decide +kernel
theorem dX4_sheet_37 : decode cX4_sheet 37 = .ok (.ifCond .ge 10, 3) := by decide +kernel
theorem dX4_sheet_40 : decode cX4_sheet 40 = .ok (.aload_n 0, 1) := by decide +kernel
theorem dX4_sheet_41 : decode cX4_sheet 41 = .ok (.ldc 188, 2) := by decide +kernel
theorem dX4_sheet_43 : decode cX4_sheet 43 = .ok (.invokevirtual 77, 3) := by decide +kernel
theorem dX4_sheet_46 : decode cX4_sheet 46 = .ok (.ireturn, 1) := by decide +kernel
theorem dX4_sheet_47 : decode cX4_sheet 47 = .ok (.iload_n 3, 1) := by decide +kernel
theorem dX4_sheet_48 : decode cX4_sheet 48 = .ok (.bipush 40, 2) := by decide +kernel
theorem dX4_sheet_50 : decode cX4_sheet 50 = .ok (.if_icmp .le 10, 3) := by decide +kernel
theorem dX4_sheet_53 : decode cX4_sheet 53 = .ok (.aload_n 0, 1) := by decide +kernel
theorem dX4_sheet_54 : decode cX4_sheet 54 = .ok (.ldc 48, 2) := by decide +kernel
theorem dX4_sheet_56 : decode cX4_sheet 56 = .ok (.invokevirtual 77, 3) := by decide +kernel
theorem dX4_sheet_59 : decode cX4_sheet 59 = .ok (.ireturn, 1) := by decide +kernel
theorem dX4_sheet_60 : decode cX4_sheet 60 = .ok (.aload_n 0, 1) := by decide +kernel
theorem dX4_sheet_61 : decode cX4_sheet 61 = .ok (.getfield 31, 3) := by decide +kernel
theorem dX4_sheet_64 : decode cX4_sheet 64 = .ok (.iload_n 1, 1) := by decide +kernel
theorem dX4_sheet_65 : decode cX4_sheet 65 = .ok (.iload_n 2, 1) := by decide +kernel
theorem dX4_sheet_66 : decode cX4_sheet 66 = .ok (.iastore, 1) := by decide +kernel
theorem dX4_sheet_67 : decode cX4_sheet 67 = .ok (.aload_n 0, 1) := by decide +kernel
theorem dX4_sheet_68 : decode cX4_sheet 68 = .ok (.getfield 34, 3) := by decide +kernel
theorem dX4_sheet_71 : decode cX4_sheet 71 = .ok (.iload_n 1, 1) := by decide +kernel
theorem dX4_sheet_72 : decode cX4_sheet 72 = .ok (.iload_n 2, 1) := by decide +kernel
theorem dX4_sheet_73 : decode cX4_sheet 73 = .ok (.ifCond .ne 7, 3) := by decide +kernel
theorem dX4_sheet_76 : decode cX4_sheet 76 = .ok (.iconst 0, 1) := by decide +kernel
theorem dX4_sheet_77 : decode cX4_sheet 77 = .ok (.goto 4, 3) := by decide +kernel
theorem dX4_sheet_80 : decode cX4_sheet 80 = .ok (.iload_n 3, 1) := by decide +kernel
theorem dX4_sheet_81 : decode cX4_sheet 81 = .ok (.iastore, 1) := by decide +kernel
theorem dX4_sheet_82 : decode cX4_sheet 82 = .ok (.iconst 0, 1) := by decide +kernel
theorem dX4_sheet_83 : decode cX4_sheet 83 = .ok (.istore 4, 2) := by decide +kernel
theorem dX4_sheet_85 : decode cX4_sheet 85 = .ok (.iload 4, 2) := by decide +kernel
theorem dX4_sheet_87 : decode cX4_sheet 87 = .ok (.bipush 40, 2) := by decide +kernel
theorem dX4_sheet_89 : decode cX4_sheet 89 = .ok (.if_icmp .ge 22, 3) := by decide +kernel
theorem dX4_sheet_92 : decode cX4_sheet 92 = .ok (.aload_n 0, 1) := by decide +kernel
theorem dX4_sheet_93 : decode cX4_sheet 93 = .ok (.getfield 37, 3) := by decide +kernel
theorem dX4_sheet_96 : decode cX4_sheet 96 = .ok (.bipush 40, 2) := by decide +kernel
theorem dX4_sheet_98 : decode cX4_sheet 98 = .ok (.iload_n 1, 1) := by decide +kernel
theorem dX4_sheet_99 : decode cX4_sheet 99 = .ok (.imul, 1) := by decide +kernel
theorem dX4_sheet_100 : decode cX4_sheet 100 = .ok (.iload 4, 2) := by decide +kernel
theorem dX4_sheet_102 : decode cX4_sheet 102 = .ok (.iadd, 1) := by decide +kernel
theorem dX4_sheet_103 : decode cX4_sheet 103 = .ok (.lconst 0, 1) := by decide +kernel
theorem dX4_sheet_104 : decode cX4_sheet 104 = .ok (.lastore, 1) := by decide +kernel
theorem dX4_sheet_105 : decode cX4_sheet 105 = .ok (.iinc 4 1, 3) := by decide +kernel
theorem dX4_sheet_108 : decode cX4_sheet 108 = .ok (.goto (-23), 3) := by decide +kernel
theorem dX4_sheet_111 : decode cX4_sheet 111 = .ok (.aload_n 0, 1) := by decide +kernel
theorem dX4_sheet_112 : decode cX4_sheet 112 = .ok (.getfield 34, 3) := by decide +kernel
theorem dX4_sheet_115 : decode cX4_sheet 115 = .ok (.iload_n 1, 1) := by decide +kernel
theorem dX4_sheet_116 : decode cX4_sheet 116 = .ok (.iaload, 1) := by decide +kernel
theorem dX4_sheet_117 : decode cX4_sheet 117 = .ok (.ireturn, 1) := by decide +kernel
theorem dX4_narrowed_0 : decode cX4_narrowed 0 = .ok (.iload_n 0, 1) := by decide +kernel
theorem dX4_narrowed_1 : decode cX4_narrowed 1 = .ok (.bipush 8, 2) := by decide +kernel
theorem dX4_narrowed_3 : decode cX4_narrowed 3 = .ok (.if_icmp .ne 10, 3) := by decide +kernel
theorem dX4_narrowed_6 : decode cX4_narrowed 6 = .ok (.lload_n 1, 1) := by decide +kernel
theorem dX4_narrowed_7 : decode cX4_narrowed 7 = .ok (.l2i, 1) := by decide +kernel
theorem dX4_narrowed_8 : decode cX4_narrowed 8 = .ok (.i2b, 1) := by decide +kernel
theorem dX4_narrowed_9 : decode cX4_narrowed 9 = .ok (.i2l, 1) := by decide +kernel
theorem dX4_narrowed_10 : decode cX4_narrowed 10 = .ok (.goto 17, 3) := by decide +kernel
theorem dX4_narrowed_13 : decode cX4_narrowed 13 = .ok (.iload_n 0, 1) := by decide +kernel
theorem dX4_narrowed_14 : decode cX4_narrowed 14 = .ok (.bipush 16, 2) := by decide +kernel
theorem dX4_narrowed_16 : decode cX4_narrowed 16 = .ok (.if_icmp .ne 10, 3) := by decide +kernel
theorem dX4_narrowed_19 : decode cX4_narrowed 19 = .ok (.lload_n 1, 1) := by decide +kernel
theorem dX4_narrowed_20 : decode cX4_narrowed 20 = .ok (.l2i, 1) := by decide +kernel
theorem dX4_narrowed_21 : decode cX4_narrowed 21 = .ok (.i2s, 1) := by decide +kernel
theorem dX4_narrowed_22 : decode cX4_narrowed 22 = .ok (.i2l, 1) := by decide +kernel
theorem dX4_narrowed_23 : decode cX4_narrowed 23 = .ok (.goto 4, 3) := by decide +kernel
theorem dX4_narrowed_26 : decode cX4_narrowed 26 = .ok (.lload_n 1, 1) := by decide +kernel
theorem dX4_narrowed_27 : decode cX4_narrowed 27 = .ok (.lreturn, 1) := by decide +kernel
theorem dX4_wrongSheet_0 : decode cX4_wrongSheet 0 = .ok (.iload_n 1, 1) := by decide +kernel
theorem dX4_wrongSheet_1 : decode cX4_wrongSheet 1 = .ok (.invokestatic 313, 3) := by decide +kernel
theorem dX4_wrongSheet_4 : decode cX4_wrongSheet 4 = .ok (.ifCond .ne 8, 3) := by decide +kernel
theorem dX4_wrongSheet_7 : decode cX4_wrongSheet 7 = .ok (.ldc 48, 2) := by decide +kernel
theorem dX4_wrongSheet_9 : decode cX4_wrongSheet 9 = .ok (.goto 19, 3) := by decide +kernel
theorem dX4_wrongSheet_12 : decode cX4_wrongSheet 12 = .ok (.aload_n 0, 1) := by decide +kernel
theorem dX4_wrongSheet_13 : decode cX4_wrongSheet 13 = .ok (.getfield 31, 3) := by decide +kernel
theorem dX4_wrongSheet_16 : decode cX4_wrongSheet 16 = .ok (.iload_n 1, 1) := by decide +kernel
theorem dX4_wrongSheet_17 : decode cX4_wrongSheet 17 = .ok (.iaload, 1) := by decide +kernel
theorem dX4_wrongSheet_18 : decode cX4_wrongSheet 18 = .ok (.ifCond .ne 9, 3) := by decide +kernel
theorem dX4_wrongSheet_21 : decode cX4_wrongSheet 21 = .ok (.ldc_w 316, 3) := by decide +kernel
theorem dX4_wrongSheet_24 : decode cX4_wrongSheet 24 = .ok (.goto 4, 3) := by decide +kernel
theorem dX4_wrongSheet_27 : decode cX4_wrongSheet 27 = .ok (.iconst 0, 1) := by decide +kernel
theorem dX4_wrongSheet_28 : decode cX4_wrongSheet 28 = .ok (.ireturn, 1) := by decide +kernel
theorem dX4_write_0 : decode cX4_write 0 = .ok (.aload_n 0, 1) := by decide +kernel
theorem dX4_write_1 : decode cX4_write 1 = .ok (.iload_n 1, 1) := by decide +kernel
theorem dX4_write_2 : decode cX4_write 2 = .ok (.invokevirtual 317, 3) := by decide +kernel
theorem dX4_write_5 : decode cX4_write 5 = .ok (.istore 5, 2) := by decide +kernel
theorem dX4_write_7 : decode cX4_write 7 = .ok (.iload 5, 2) := by decide +kernel
theorem dX4_write_9 : decode cX4_write 9 = .ok (.ifCond .eq 11, 3) := by decide +kernel
theorem dX4_write_12 : decode cX4_write 12 = .ok (.aload_n 0, 1) := by decide +kernel
theorem dX4_write_13 : decode cX4_write 13 = .ok (.iload 5, 2) := by decide +kernel
theorem dX4_write_15 : decode cX4_write 15 = .ok (.invokevirtual 77, 3) := by decide +kernel
theorem dX4_write_18 : decode cX4_write 18 = .ok (.i2l, 1) := by decide +kernel
theorem dX4_write_19 : decode cX4_write 19 = .ok (.lreturn, 1) := by decide +kernel
theorem dX4_write_20 : decode cX4_write 20 = .ok (.iload_n 2, 1) := by decide +kernel
theorem dX4_write_21 : decode cX4_write 21 = .ok (.i2l, 1) := by decide +kernel
theorem dX4_write_22 : decode cX4_write 22 = .ok (.lconst 0, 1) := by decide +kernel
theorem dX4_write_23 : decode cX4_write 23 = .ok (.aload_n 0, 1) := by decide +kernel
theorem dX4_write_24 : decode cX4_write 24 = .ok (.getfield 34, 3) := by decide +kernel
theorem dX4_write_27 : decode cX4_write 27 = .ok (.iload_n 1, 1) := by decide +kernel
theorem dX4_write_28 : decode cX4_write 28 = .ok (.iaload, 1) := by decide +kernel
theorem dX4_write_29 : decode cX4_write 29 = .ok (.iconst 1, 1) := by decide +kernel
theorem dX4_write_30 : decode cX4_write 30 = .ok (.isub, 1) := by decide +kernel
theorem dX4_write_31 : decode cX4_write 31 = .ok (.i2l, 1) := by decide +kernel
theorem dX4_write_32 : decode cX4_write 32 = .ok (.invokestatic 51, 3) := by decide +kernel
theorem dX4_write_35 : decode cX4_write 35 = .ok (.ifCond .ne 11, 3) := by decide +kernel
theorem dX4_write_38 : decode cX4_write 38 = .ok (.aload_n 0, 1) := by decide +kernel
theorem dX4_write_39 : decode cX4_write 39 = .ok (.ldc 48, 2) := by decide +kernel
theorem dX4_write_41 : decode cX4_write 41 = .ok (.invokevirtual 77, 3) := by decide +kernel
theorem dX4_write_44 : decode cX4_write 44 = .ok (.i2l, 1) := by decide +kernel
theorem dX4_write_45 : decode cX4_write 45 = .ok (.lreturn, 1) := by decide +kernel
theorem dX4_write_46 : decode cX4_write 46 = .ok (.aload_n 0, 1) := by decide +kernel
theorem dX4_write_47 : decode cX4_write 47 = .ok (.getfield 37, 3) := by decide +kernel
theorem dX4_write_50 : decode cX4_write 50 = .ok (.bipush 40, 2) := by decide +kernel
theorem dX4_write_52 : decode cX4_write 52 = .ok (.iload_n 1, 1) := by decide +kernel
theorem dX4_write_53 : decode cX4_write 53 = .ok (.imul, 1) := by decide +kernel
theorem dX4_write_54 : decode cX4_write 54 = .ok (.iload_n 2, 1) := by decide +kernel
theorem dX4_write_55 : decode cX4_write 55 = .ok (.iadd, 1) := by decide +kernel
theorem dX4_write_56 : decode cX4_write 56 = .ok (.laload, 1) := by decide +kernel
theorem dX4_write_57 : decode cX4_write 57 = .ok (.lstore 6, 2) := by decide +kernel
theorem dX4_write_59 : decode cX4_write 59 = .ok (.aload_n 0, 1) := by decide +kernel
theorem dX4_write_60 : decode cX4_write 60 = .ok (.getfield 37, 3) := by decide +kernel
theorem dX4_write_63 : decode cX4_write 63 = .ok (.bipush 40, 2) := by decide +kernel
theorem dX4_write_65 : decode cX4_write 65 = .ok (.iload_n 1, 1) := by decide +kernel
theorem dX4_write_66 : decode cX4_write 66 = .ok (.imul, 1) := by decide +kernel
theorem dX4_write_67 : decode cX4_write 67 = .ok (.iload_n 2, 1) := by decide +kernel
theorem dX4_write_68 : decode cX4_write 68 = .ok (.iadd, 1) := by decide +kernel
theorem dX4_write_69 : decode cX4_write 69 = .ok (.aload_n 0, 1) := by decide +kernel
theorem dX4_write_70 : decode cX4_write 70 = .ok (.getfield 31, 3) := by decide +kernel
theorem dX4_write_73 : decode cX4_write 73 = .ok (.iload_n 1, 1) := by decide +kernel
theorem dX4_write_74 : decode cX4_write 74 = .ok (.iaload, 1) := by decide +kernel
theorem dX4_write_75 : decode cX4_write 75 = .ok (.lload_n 3, 1) := by decide +kernel
theorem dX4_write_76 : decode cX4_write 76 = .ok (.invokestatic 320, 3) := by decide +kernel
theorem dX4_write_79 : decode cX4_write 79 = .ok (.lastore, 1) := by decide +kernel
theorem dX4_write_80 : decode cX4_write 80 = .ok (.lload 6, 2) := by decide +kernel
theorem dX4_write_82 : decode cX4_write 82 = .ok (.lreturn, 1) := by decide +kernel
theorem dX4_copy_0 : decode cX4_copy 0 = .ok (.iload_n 1, 1) := by decide +kernel
theorem dX4_copy_1 : decode cX4_copy 1 = .ok (.invokestatic 313, 3) := by decide +kernel
theorem dX4_copy_4 : decode cX4_copy 4 = .ok (.ifCond .eq 10, 3) := by decide +kernel
theorem dX4_copy_7 : decode cX4_copy 7 = .ok (.iload_n 3, 1) := by decide +kernel
theorem dX4_copy_8 : decode cX4_copy 8 = .ok (.invokestatic 313, 3) := by decide +kernel
theorem dX4_copy_11 : decode cX4_copy 11 = .ok (.ifCond .ne 10, 3) := by decide +kernel
theorem dX4_copy_14 : decode cX4_copy 14 = .ok (.aload_n 0, 1) := by decide +kernel
theorem dX4_copy_15 : decode cX4_copy 15 = .ok (.ldc 48, 2) := by decide +kernel
theorem dX4_copy_17 : decode cX4_copy 17 = .ok (.invokevirtual 77, 3) := by decide +kernel
theorem dX4_copy_20 : decode cX4_copy 20 = .ok (.ireturn, 1) := by decide +kernel
theorem dX4_copy_21 : decode cX4_copy 21 = .ok (.aload_n 0, 1) := by decide +kernel
theorem dX4_copy_22 : decode cX4_copy 22 = .ok (.getfield 31, 3) := by decide +kernel
theorem dX4_copy_25 : decode cX4_copy 25 = .ok (.iload_n 1, 1) := by decide +kernel
theorem dX4_copy_26 : decode cX4_copy 26 = .ok (.iaload, 1) := by decide +kernel
theorem dX4_copy_27 : decode cX4_copy 27 = .ok (.ifCond .eq 12, 3) := by decide +kernel
theorem dX4_copy_30 : decode cX4_copy 30 = .ok (.aload_n 0, 1) := by decide +kernel
theorem dX4_copy_31 : decode cX4_copy 31 = .ok (.getfield 31, 3) := by decide +kernel
theorem dX4_copy_34 : decode cX4_copy 34 = .ok (.iload_n 3, 1) := by decide +kernel
theorem dX4_copy_35 : decode cX4_copy 35 = .ok (.iaload, 1) := by decide +kernel
theorem dX4_copy_36 : decode cX4_copy 36 = .ok (.ifCond .ne 11, 3) := by decide +kernel
theorem dX4_copy_39 : decode cX4_copy 39 = .ok (.aload_n 0, 1) := by decide +kernel
theorem dX4_copy_40 : decode cX4_copy 40 = .ok (.ldc_w 316, 3) := by decide +kernel
theorem dX4_copy_43 : decode cX4_copy 43 = .ok (.invokevirtual 77, 3) := by decide +kernel
theorem dX4_copy_46 : decode cX4_copy 46 = .ok (.ireturn, 1) := by decide +kernel
theorem dX4_copy_47 : decode cX4_copy 47 = .ok (.aload_n 0, 1) := by decide +kernel
theorem dX4_copy_48 : decode cX4_copy 48 = .ok (.getfield 31, 3) := by decide +kernel
theorem dX4_copy_51 : decode cX4_copy 51 = .ok (.iload_n 1, 1) := by decide +kernel
theorem dX4_copy_52 : decode cX4_copy 52 = .ok (.iaload, 1) := by decide +kernel
theorem dX4_copy_53 : decode cX4_copy 53 = .ok (.aload_n 0, 1) := by decide +kernel
theorem dX4_copy_54 : decode cX4_copy 54 = .ok (.getfield 31, 3) := by decide +kernel
theorem dX4_copy_57 : decode cX4_copy 57 = .ok (.iload_n 3, 1) := by decide +kernel
theorem dX4_copy_58 : decode cX4_copy 58 = .ok (.iaload, 1) := by decide +kernel
theorem dX4_copy_59 : decode cX4_copy 59 = .ok (.if_icmp .eq 10, 3) := by decide +kernel
theorem dX4_copy_62 : decode cX4_copy 62 = .ok (.aload_n 0, 1) := by decide +kernel
theorem dX4_copy_63 : decode cX4_copy 63 = .ok (.ldc 111, 2) := by decide +kernel
theorem dX4_copy_65 : decode cX4_copy 65 = .ok (.invokevirtual 77, 3) := by decide +kernel
theorem dX4_copy_68 : decode cX4_copy 68 = .ok (.ireturn, 1) := by decide +kernel
theorem dX4_copy_69 : decode cX4_copy 69 = .ok (.iload_n 2, 1) := by decide +kernel
theorem dX4_copy_70 : decode cX4_copy 70 = .ok (.ifCond .lt 40, 3) := by decide +kernel
theorem dX4_copy_73 : decode cX4_copy 73 = .ok (.iload 4, 2) := by decide +kernel
theorem dX4_copy_75 : decode cX4_copy 75 = .ok (.ifCond .lt 35, 3) := by decide +kernel
theorem dX4_copy_78 : decode cX4_copy 78 = .ok (.iload 5, 2) := by decide +kernel
theorem dX4_copy_80 : decode cX4_copy 80 = .ok (.ifCond .lt 30, 3) := by decide +kernel
theorem dX4_copy_83 : decode cX4_copy 83 = .ok (.iload 5, 2) := by decide +kernel
theorem dX4_copy_85 : decode cX4_copy 85 = .ok (.aload_n 0, 1) := by decide +kernel
theorem dX4_copy_86 : decode cX4_copy 86 = .ok (.getfield 34, 3) := by decide +kernel
theorem dX4_copy_89 : decode cX4_copy 89 = .ok (.iload_n 1, 1) := by decide +kernel
theorem dX4_copy_90 : decode cX4_copy 90 = .ok (.iaload, 1) := by decide +kernel
theorem dX4_copy_91 : decode cX4_copy 91 = .ok (.iload_n 2, 1) := by decide +kernel
theorem dX4_copy_92 : decode cX4_copy 92 = .ok (.isub, 1) := by decide +kernel
theorem dX4_copy_93 : decode cX4_copy 93 = .ok (.if_icmp .gt 17, 3) := by decide +kernel
theorem dX4_copy_96 : decode cX4_copy 96 = .ok (.iload 5, 2) := by decide +kernel
theorem dX4_copy_98 : decode cX4_copy 98 = .ok (.aload_n 0, 1) := by decide +kernel
theorem dX4_copy_99 : decode cX4_copy 99 = .ok (.getfield 34, 3) := by decide +kernel
theorem dX4_copy_102 : decode cX4_copy 102 = .ok (.iload_n 3, 1) := by decide +kernel
theorem dX4_copy_103 : decode cX4_copy 103 = .ok (.iaload, 1) := by decide +kernel
theorem dX4_copy_104 : decode cX4_copy 104 = .ok (.iload 4, 2) := by decide +kernel
theorem dX4_copy_106 : decode cX4_copy 106 = .ok (.isub, 1) := by decide +kernel
theorem dX4_copy_107 : decode cX4_copy 107 = .ok (.if_icmp .le 10, 3) := by decide +kernel
theorem dX4_copy_110 : decode cX4_copy 110 = .ok (.aload_n 0, 1) := by decide +kernel
theorem dX4_copy_111 : decode cX4_copy 111 = .ok (.ldc 48, 2) := by decide +kernel
theorem dX4_copy_113 : decode cX4_copy 113 = .ok (.invokevirtual 77, 3) := by decide +kernel
theorem dX4_copy_116 : decode cX4_copy 116 = .ok (.ireturn, 1) := by decide +kernel
theorem dX4_copy_117 : decode cX4_copy 117 = .ok (.iconst 0, 1) := by decide +kernel
theorem dX4_copy_118 : decode cX4_copy 118 = .ok (.istore 6, 2) := by decide +kernel
theorem dX4_copy_120 : decode cX4_copy 120 = .ok (.iload 6, 2) := by decide +kernel
theorem dX4_copy_122 : decode cX4_copy 122 = .ok (.iload 5, 2) := by decide +kernel
theorem dX4_copy_124 : decode cX4_copy 124 = .ok (.if_icmp .ge 30, 3) := by decide +kernel
theorem dX4_copy_127 : decode cX4_copy 127 = .ok (.aload_n 0, 1) := by decide +kernel
theorem dX4_copy_128 : decode cX4_copy 128 = .ok (.getfield 41, 3) := by decide +kernel
theorem dX4_copy_131 : decode cX4_copy 131 = .ok (.iload 6, 2) := by decide +kernel
theorem dX4_copy_133 : decode cX4_copy 133 = .ok (.aload_n 0, 1) := by decide +kernel
theorem dX4_copy_134 : decode cX4_copy 134 = .ok (.getfield 37, 3) := by decide +kernel
theorem dX4_copy_137 : decode cX4_copy 137 = .ok (.bipush 40, 2) := by decide +kernel
theorem dX4_copy_139 : decode cX4_copy 139 = .ok (.iload_n 1, 1) := by decide +kernel
theorem dX4_copy_140 : decode cX4_copy 140 = .ok (.imul, 1) := by decide +kernel
theorem dX4_copy_141 : decode cX4_copy 141 = .ok (.iload_n 2, 1) := by decide +kernel
theorem dX4_copy_142 : decode cX4_copy 142 = .ok (.iadd, 1) := by decide +kernel
theorem dX4_copy_143 : decode cX4_copy 143 = .ok (.iload 6, 2) := by decide +kernel
theorem dX4_copy_145 : decode cX4_copy 145 = .ok (.iadd, 1) := by decide +kernel
theorem dX4_copy_146 : decode cX4_copy 146 = .ok (.laload, 1) := by decide +kernel
theorem dX4_copy_147 : decode cX4_copy 147 = .ok (.lastore, 1) := by decide +kernel
theorem dX4_copy_148 : decode cX4_copy 148 = .ok (.iinc 6 1, 3) := by decide +kernel
theorem dX4_copy_151 : decode cX4_copy 151 = .ok (.goto (-31), 3) := by decide +kernel
theorem dX4_copy_154 : decode cX4_copy 154 = .ok (.iconst 0, 1) := by decide +kernel
theorem dX4_copy_155 : decode cX4_copy 155 = .ok (.istore 6, 2) := by decide +kernel
theorem dX4_copy_157 : decode cX4_copy 157 = .ok (.iload 6, 2) := by decide +kernel
theorem dX4_copy_159 : decode cX4_copy 159 = .ok (.iload 5, 2) := by decide +kernel
theorem dX4_copy_161 : decode cX4_copy 161 = .ok (.if_icmp .ge 31, 3) := by decide +kernel
theorem dX4_copy_164 : decode cX4_copy 164 = .ok (.aload_n 0, 1) := by decide +kernel
theorem dX4_copy_165 : decode cX4_copy 165 = .ok (.getfield 37, 3) := by decide +kernel
theorem dX4_copy_168 : decode cX4_copy 168 = .ok (.bipush 40, 2) := by decide +kernel
theorem dX4_copy_170 : decode cX4_copy 170 = .ok (.iload_n 3, 1) := by decide +kernel
theorem dX4_copy_171 : decode cX4_copy 171 = .ok (.imul, 1) := by decide +kernel
theorem dX4_copy_172 : decode cX4_copy 172 = .ok (.iload 4, 2) := by decide +kernel
theorem dX4_copy_174 : decode cX4_copy 174 = .ok (.iadd, 1) := by decide +kernel
theorem dX4_copy_175 : decode cX4_copy 175 = .ok (.iload 6, 2) := by decide +kernel
theorem dX4_copy_177 : decode cX4_copy 177 = .ok (.iadd, 1) := by decide +kernel
theorem dX4_copy_178 : decode cX4_copy 178 = .ok (.aload_n 0, 1) := by decide +kernel
theorem dX4_copy_179 : decode cX4_copy 179 = .ok (.getfield 41, 3) := by decide +kernel
theorem dX4_copy_182 : decode cX4_copy 182 = .ok (.iload 6, 2) := by decide +kernel
theorem dX4_copy_184 : decode cX4_copy 184 = .ok (.laload, 1) := by decide +kernel
theorem dX4_copy_185 : decode cX4_copy 185 = .ok (.lastore, 1) := by decide +kernel
theorem dX4_copy_186 : decode cX4_copy 186 = .ok (.iinc 6 1, 3) := by decide +kernel
theorem dX4_copy_189 : decode cX4_copy 189 = .ok (.goto (-32), 3) := by decide +kernel
theorem dX4_copy_192 : decode cX4_copy 192 = .ok (.iload 5, 2) := by decide +kernel
theorem dX4_copy_194 : decode cX4_copy 194 = .ok (.ireturn, 1) := by decide +kernel
theorem dX4_lays_0 : decode cX4_lays 0 = .ok (.aload_n 0, 1) := by decide +kernel
theorem dX4_lays_1 : decode cX4_lays 1 = .ok (.iload_n 1, 1) := by decide +kernel
theorem dX4_lays_2 : decode cX4_lays 2 = .ok (.invokevirtual 317, 3) := by decide +kernel
theorem dX4_lays_5 : decode cX4_lays 5 = .ok (.istore_n 2, 1) := by decide +kernel
theorem dX4_lays_6 : decode cX4_lays 6 = .ok (.iload_n 2, 1) := by decide +kernel
theorem dX4_lays_7 : decode cX4_lays 7 = .ok (.ifCond .eq 9, 3) := by decide +kernel
theorem dX4_lays_10 : decode cX4_lays 10 = .ok (.aload_n 0, 1) := by decide +kernel
theorem dX4_lays_11 : decode cX4_lays 11 = .ok (.iload_n 2, 1) := by decide +kernel
theorem dX4_lays_12 : decode cX4_lays 12 = .ok (.invokevirtual 77, 3) := by decide +kernel
theorem dX4_lays_15 : decode cX4_lays 15 = .ok (.ireturn, 1) := by decide +kernel
theorem dX4_lays_16 : decode cX4_lays 16 = .ok (.iconst 0, 1) := by decide +kernel
theorem dX4_lays_17 : decode cX4_lays 17 = .ok (.istore_n 3, 1) := by decide +kernel
theorem dX4_lays_18 : decode cX4_lays 18 = .ok (.iconst 0, 1) := by decide +kernel
theorem dX4_lays_19 : decode cX4_lays 19 = .ok (.istore 4, 2) := by decide +kernel
theorem dX4_lays_21 : decode cX4_lays 21 = .ok (.iload 4, 2) := by decide +kernel
theorem dX4_lays_23 : decode cX4_lays 23 = .ok (.aload_n 0, 1) := by decide +kernel
theorem dX4_lays_24 : decode cX4_lays 24 = .ok (.getfield 34, 3) := by decide +kernel
theorem dX4_lays_27 : decode cX4_lays 27 = .ok (.iload_n 1, 1) := by decide +kernel
theorem dX4_lays_28 : decode cX4_lays 28 = .ok (.iaload, 1) := by decide +kernel
theorem dX4_lays_29 : decode cX4_lays 29 = .ok (.if_icmp .ge 93, 3) := by decide +kernel
theorem dX4_lays_32 : decode cX4_lays 32 = .ok (.iload 4, 2) := by decide +kernel
theorem dX4_lays_34 : decode cX4_lays 34 = .ok (.bipush 8, 2) := by decide +kernel
theorem dX4_lays_36 : decode cX4_lays 36 = .ok (.if_icmp .ge 86, 3) := by decide +kernel
theorem dX4_lays_39 : decode cX4_lays 39 = .ok (.aload_n 0, 1) := by decide +kernel
theorem dX4_lays_40 : decode cX4_lays 40 = .ok (.getfield 37, 3) := by decide +kernel
theorem dX4_lays_43 : decode cX4_lays 43 = .ok (.bipush 40, 2) := by decide +kernel
theorem dX4_lays_45 : decode cX4_lays 45 = .ok (.iload_n 1, 1) := by decide +kernel
theorem dX4_lays_46 : decode cX4_lays 46 = .ok (.imul, 1) := by decide +kernel
theorem dX4_lays_47 : decode cX4_lays 47 = .ok (.iload 4, 2) := by decide +kernel
theorem dX4_lays_49 : decode cX4_lays 49 = .ok (.iadd, 1) := by decide +kernel
theorem dX4_lays_50 : decode cX4_lays 50 = .ok (.laload, 1) := by decide +kernel
theorem dX4_lays_51 : decode cX4_lays 51 = .ok (.lconst 0, 1) := by decide +kernel
theorem dX4_lays_52 : decode cX4_lays 52 = .ok (.ldc2_w 67, 3) := by decide +kernel
theorem dX4_lays_55 : decode cX4_lays 55 = .ok (.invokestatic 51, 3) := by decide +kernel
theorem dX4_lays_58 : decode cX4_lays 58 = .ok (.istore 5, 2) := by decide +kernel
theorem dX4_lays_60 : decode cX4_lays 60 = .ok (.aload_n 0, 1) := by decide +kernel
theorem dX4_lays_61 : decode cX4_lays 61 = .ok (.getfield 7, 3) := by decide +kernel
theorem dX4_lays_64 : decode cX4_lays 64 = .ok (.iload 4, 2) := by decide +kernel
theorem dX4_lays_66 : decode cX4_lays 66 = .ok (.iconst 0, 1) := by decide +kernel
theorem dX4_lays_67 : decode cX4_lays 67 = .ok (.invokestatic 44, 3) := by decide +kernel
theorem dX4_lays_70 : decode cX4_lays 70 = .ok (.iload 5, 2) := by decide +kernel
theorem dX4_lays_72 : decode cX4_lays 72 = .ok (.ifCond .eq 19, 3) := by decide +kernel
theorem dX4_lays_75 : decode cX4_lays 75 = .ok (.aload_n 0, 1) := by decide +kernel
theorem dX4_lays_76 : decode cX4_lays 76 = .ok (.getfield 37, 3) := by decide +kernel
theorem dX4_lays_79 : decode cX4_lays 79 = .ok (.bipush 40, 2) := by decide +kernel
theorem dX4_lays_81 : decode cX4_lays 81 = .ok (.iload_n 1, 1) := by decide +kernel
theorem dX4_lays_82 : decode cX4_lays 82 = .ok (.imul, 1) := by decide +kernel
theorem dX4_lays_83 : decode cX4_lays 83 = .ok (.iload 4, 2) := by decide +kernel
theorem dX4_lays_85 : decode cX4_lays 85 = .ok (.iadd, 1) := by decide +kernel
theorem dX4_lays_86 : decode cX4_lays 86 = .ok (.laload, 1) := by decide +kernel
theorem dX4_lays_87 : decode cX4_lays 87 = .ok (.l2i, 1) := by decide +kernel
theorem dX4_lays_88 : decode cX4_lays 88 = .ok (.goto 14, 3) := by decide +kernel
theorem dX4_lays_91 : decode cX4_lays 91 = .ok (.aload_n 0, 1) := by decide +kernel
theorem dX4_lays_92 : decode cX4_lays 92 = .ok (.getfield 7, 3) := by decide +kernel
theorem dX4_lays_95 : decode cX4_lays 95 = .ok (.iload 4, 2) := by decide +kernel
theorem dX4_lays_97 : decode cX4_lays 97 = .ok (.iconst 0, 1) := by decide +kernel
theorem dX4_lays_98 : decode cX4_lays 98 = .ok (.invokestatic 44, 3) := by decide +kernel
theorem dX4_lays_101 : decode cX4_lays 101 = .ok (.iaload, 1) := by decide +kernel
theorem dX4_lays_102 : decode cX4_lays 102 = .ok (.iastore, 1) := by decide +kernel
theorem dX4_lays_103 : decode cX4_lays 103 = .ok (.iload_n 3, 1) := by decide +kernel
theorem dX4_lays_104 : decode cX4_lays 104 = .ok (.iload 5, 2) := by decide +kernel
theorem dX4_lays_106 : decode cX4_lays 106 = .ok (.ifCond .eq 7, 3) := by decide +kernel
theorem dX4_lays_109 : decode cX4_lays 109 = .ok (.iconst 1, 1) := by decide +kernel
theorem dX4_lays_110 : decode cX4_lays 110 = .ok (.goto 4, 3) := by decide +kernel
theorem dX4_lays_113 : decode cX4_lays 113 = .ok (.iconst 0, 1) := by decide +kernel
theorem dX4_lays_114 : decode cX4_lays 114 = .ok (.iadd, 1) := by decide +kernel
theorem dX4_lays_115 : decode cX4_lays 115 = .ok (.istore_n 3, 1) := by decide +kernel
theorem dX4_lays_116 : decode cX4_lays 116 = .ok (.iinc 4 1, 3) := by decide +kernel
theorem dX4_lays_119 : decode cX4_lays 119 = .ok (.goto (-98), 3) := by decide +kernel
theorem dX4_lays_122 : decode cX4_lays 122 = .ok (.iload_n 3, 1) := by decide +kernel
theorem dX4_lays_123 : decode cX4_lays 123 = .ok (.ireturn, 1) := by decide +kernel
theorem dX4_wrongBook_0 : decode cX4_wrongBook 0 = .ok (.aload_n 0, 1) := by decide +kernel
theorem dX4_wrongBook_1 : decode cX4_wrongBook 1 = .ok (.iload_n 1, 1) := by decide +kernel
theorem dX4_wrongBook_2 : decode cX4_wrongBook 2 = .ok (.invokevirtual 317, 3) := by decide +kernel
theorem dX4_wrongBook_5 : decode cX4_wrongBook 5 = .ok (.istore_n 3, 1) := by decide +kernel
theorem dX4_wrongBook_6 : decode cX4_wrongBook 6 = .ok (.iload_n 3, 1) := by decide +kernel
theorem dX4_wrongBook_7 : decode cX4_wrongBook 7 = .ok (.ifCond .eq 7, 3) := by decide +kernel
theorem dX4_wrongBook_10 : decode cX4_wrongBook 10 = .ok (.iload_n 3, 1) := by decide +kernel
theorem dX4_wrongBook_11 : decode cX4_wrongBook 11 = .ok (.goto 17, 3) := by decide +kernel
theorem dX4_wrongBook_14 : decode cX4_wrongBook 14 = .ok (.aload_n 0, 1) := by decide +kernel
theorem dX4_wrongBook_15 : decode cX4_wrongBook 15 = .ok (.iload_n 2, 1) := by decide +kernel
theorem dX4_wrongBook_16 : decode cX4_wrongBook 16 = .ok (.invokevirtual 55, 3) := by decide +kernel
theorem dX4_wrongBook_19 : decode cX4_wrongBook 19 = .ok (.ifCond .eq 7, 3) := by decide +kernel
theorem dX4_wrongBook_22 : decode cX4_wrongBook 22 = .ok (.iconst 0, 1) := by decide +kernel
theorem dX4_wrongBook_23 : decode cX4_wrongBook 23 = .ok (.goto 5, 3) := by decide +kernel
theorem dX4_wrongBook_26 : decode cX4_wrongBook 26 = .ok (.ldc 48, 2) := by decide +kernel
theorem dX4_wrongBook_28 : decode cX4_wrongBook 28 = .ok (.ireturn, 1) := by decide +kernel
theorem dX4_book_0 : decode cX4_book 0 = .ok (.aload_n 0, 1) := by decide +kernel
theorem dX4_book_1 : decode cX4_book 1 = .ok (.iload_n 1, 1) := by decide +kernel
theorem dX4_book_2 : decode cX4_book 2 = .ok (.iload_n 2, 1) := by decide +kernel
theorem dX4_book_3 : decode cX4_book 3 = .ok (.invokevirtual 324, 3) := by decide +kernel
theorem dX4_book_6 : decode cX4_book 6 = .ok (.istore_n 3, 1) := by decide +kernel
theorem dX4_book_7 : decode cX4_book 7 = .ok (.iload_n 3, 1) := by decide +kernel
theorem dX4_book_8 : decode cX4_book 8 = .ok (.ifCond .eq 9, 3) := by decide +kernel
theorem dX4_book_11 : decode cX4_book 11 = .ok (.aload_n 0, 1) := by decide +kernel
theorem dX4_book_12 : decode cX4_book 12 = .ok (.iload_n 3, 1) := by decide +kernel
theorem dX4_book_13 : decode cX4_book 13 = .ok (.invokevirtual 77, 3) := by decide +kernel
theorem dX4_book_16 : decode cX4_book 16 = .ok (.ireturn, 1) := by decide +kernel
theorem dX4_book_17 : decode cX4_book 17 = .ok (.aload_n 0, 1) := by decide +kernel
theorem dX4_book_18 : decode cX4_book 18 = .ok (.invokevirtual 168, 3) := by decide +kernel
theorem dX4_book_21 : decode cX4_book 21 = .ok (.iconst 0, 1) := by decide +kernel
theorem dX4_book_22 : decode cX4_book 22 = .ok (.istore 4, 2) := by decide +kernel
theorem dX4_book_24 : decode cX4_book 24 = .ok (.iload 4, 2) := by decide +kernel
theorem dX4_book_26 : decode cX4_book 26 = .ok (.aload_n 0, 1) := by decide +kernel
theorem dX4_book_27 : decode cX4_book 27 = .ok (.getfield 34, 3) := by decide +kernel
theorem dX4_book_30 : decode cX4_book 30 = .ok (.iload_n 1, 1) := by decide +kernel
theorem dX4_book_31 : decode cX4_book 31 = .ok (.iaload, 1) := by decide +kernel
theorem dX4_book_32 : decode cX4_book 32 = .ok (.if_icmp .ge 43, 3) := by decide +kernel
theorem dX4_book_35 : decode cX4_book 35 = .ok (.aload_n 0, 1) := by decide +kernel
theorem dX4_book_36 : decode cX4_book 36 = .ok (.getfield 37, 3) := by decide +kernel
theorem dX4_book_39 : decode cX4_book 39 = .ok (.bipush 40, 2) := by decide +kernel
theorem dX4_book_41 : decode cX4_book 41 = .ok (.iload_n 1, 1) := by decide +kernel
theorem dX4_book_42 : decode cX4_book 42 = .ok (.imul, 1) := by decide +kernel
theorem dX4_book_43 : decode cX4_book 43 = .ok (.iload 4, 2) := by decide +kernel
theorem dX4_book_45 : decode cX4_book 45 = .ok (.iadd, 1) := by decide +kernel
theorem dX4_book_46 : decode cX4_book 46 = .ok (.aload_n 0, 1) := by decide +kernel
theorem dX4_book_47 : decode cX4_book 47 = .ok (.getfield 31, 3) := by decide +kernel
theorem dX4_book_50 : decode cX4_book 50 = .ok (.iload_n 1, 1) := by decide +kernel
theorem dX4_book_51 : decode cX4_book 51 = .ok (.iaload, 1) := by decide +kernel
theorem dX4_book_52 : decode cX4_book 52 = .ok (.aload_n 0, 1) := by decide +kernel
theorem dX4_book_53 : decode cX4_book 53 = .ok (.iload_n 2, 1) := by decide +kernel
theorem dX4_book_54 : decode cX4_book 54 = .ok (.iconst 5, 1) := by decide +kernel
theorem dX4_book_55 : decode cX4_book 55 = .ok (.invokevirtual 64, 3) := by decide +kernel
theorem dX4_book_58 : decode cX4_book 58 = .ok (.i2l, 1) := by decide +kernel
theorem dX4_book_59 : decode cX4_book 59 = .ok (.invokestatic 320, 3) := by decide +kernel
theorem dX4_book_62 : decode cX4_book 62 = .ok (.lastore, 1) := by decide +kernel
theorem dX4_book_63 : decode cX4_book 63 = .ok (.aload_n 0, 1) := by decide +kernel
theorem dX4_book_64 : decode cX4_book 64 = .ok (.invokevirtual 150, 3) := by decide +kernel
theorem dX4_book_67 : decode cX4_book 67 = .ok (.istore 5, 2) := by decide +kernel
theorem dX4_book_69 : decode cX4_book 69 = .ok (.iinc 4 1, 3) := by decide +kernel
theorem dX4_book_72 : decode cX4_book 72 = .ok (.goto (-48), 3) := by decide +kernel
theorem dX4_book_75 : decode cX4_book 75 = .ok (.aload_n 0, 1) := by decide +kernel
theorem dX4_book_76 : decode cX4_book 76 = .ok (.aload_n 0, 1) := by decide +kernel
theorem dX4_book_77 : decode cX4_book 77 = .ok (.getfield 34, 3) := by decide +kernel
theorem dX4_book_80 : decode cX4_book 80 = .ok (.iload_n 1, 1) := by decide +kernel
theorem dX4_book_81 : decode cX4_book 81 = .ok (.iaload, 1) := by decide +kernel
theorem dX4_book_82 : decode cX4_book 82 = .ok (.invokevirtual 171, 3) := by decide +kernel
theorem dX4_book_85 : decode cX4_book 85 = .ok (.ireturn, 1) := by decide +kernel
theorem dX4_isBook_0 : decode cX4_isBook 0 = .ok (.iconst 0, 1) := by decide +kernel
theorem dX4_isBook_1 : decode cX4_isBook 1 = .ok (.istore_n 3, 1) := by decide +kernel
theorem dX4_isBook_2 : decode cX4_isBook 2 = .ok (.iload_n 3, 1) := by decide +kernel
theorem dX4_isBook_3 : decode cX4_isBook 3 = .ok (.aload_n 0, 1) := by decide +kernel
theorem dX4_isBook_4 : decode cX4_isBook 4 = .ok (.getfield 34, 3) := by decide +kernel
theorem dX4_isBook_7 : decode cX4_isBook 7 = .ok (.iload_n 1, 1) := by decide +kernel
theorem dX4_isBook_8 : decode cX4_isBook 8 = .ok (.iaload, 1) := by decide +kernel
theorem dX4_isBook_9 : decode cX4_isBook 9 = .ok (.if_icmp .ge 39, 3) := by decide +kernel
theorem dX4_isBook_12 : decode cX4_isBook 12 = .ok (.aload_n 0, 1) := by decide +kernel
theorem dX4_isBook_13 : decode cX4_isBook 13 = .ok (.getfield 37, 3) := by decide +kernel
theorem dX4_isBook_16 : decode cX4_isBook 16 = .ok (.bipush 40, 2) := by decide +kernel
theorem dX4_isBook_18 : decode cX4_isBook 18 = .ok (.iload_n 1, 1) := by decide +kernel
theorem dX4_isBook_19 : decode cX4_isBook 19 = .ok (.imul, 1) := by decide +kernel
theorem dX4_isBook_20 : decode cX4_isBook 20 = .ok (.iload_n 3, 1) := by decide +kernel
theorem dX4_isBook_21 : decode cX4_isBook 21 = .ok (.iadd, 1) := by decide +kernel
theorem dX4_isBook_22 : decode cX4_isBook 22 = .ok (.laload, 1) := by decide +kernel
theorem dX4_isBook_23 : decode cX4_isBook 23 = .ok (.aload_n 0, 1) := by decide +kernel
theorem dX4_isBook_24 : decode cX4_isBook 24 = .ok (.iload_n 2, 1) := by decide +kernel
theorem dX4_isBook_25 : decode cX4_isBook 25 = .ok (.iconst 5, 1) := by decide +kernel
theorem dX4_isBook_26 : decode cX4_isBook 26 = .ok (.invokevirtual 64, 3) := by decide +kernel
theorem dX4_isBook_29 : decode cX4_isBook 29 = .ok (.i2l, 1) := by decide +kernel
theorem dX4_isBook_30 : decode cX4_isBook 30 = .ok (.lcmp, 1) := by decide +kernel
theorem dX4_isBook_31 : decode cX4_isBook 31 = .ok (.ifCond .eq 5, 3) := by decide +kernel
theorem dX4_isBook_34 : decode cX4_isBook 34 = .ok (.iconst 0, 1) := by decide +kernel
theorem dX4_isBook_35 : decode cX4_isBook 35 = .ok (.ireturn, 1) := by decide +kernel
theorem dX4_isBook_36 : decode cX4_isBook 36 = .ok (.aload_n 0, 1) := by decide +kernel
theorem dX4_isBook_37 : decode cX4_isBook 37 = .ok (.invokevirtual 150, 3) := by decide +kernel
theorem dX4_isBook_40 : decode cX4_isBook 40 = .ok (.istore 4, 2) := by decide +kernel
theorem dX4_isBook_42 : decode cX4_isBook 42 = .ok (.iinc 3 1, 3) := by decide +kernel
theorem dX4_isBook_45 : decode cX4_isBook 45 = .ok (.goto (-43), 3) := by decide +kernel
theorem dX4_isBook_48 : decode cX4_isBook 48 = .ok (.iconst 1, 1) := by decide +kernel
theorem dX4_isBook_49 : decode cX4_isBook 49 = .ok (.ireturn, 1) := by decide +kernel
theorem dX4_read_0 : decode cX4_read 0 = .ok (.aload_n 0, 1) := by decide +kernel
theorem dX4_read_1 : decode cX4_read 1 = .ok (.iload_n 1, 1) := by decide +kernel
theorem dX4_read_2 : decode cX4_read 2 = .ok (.iload_n 2, 1) := by decide +kernel
theorem dX4_read_3 : decode cX4_read 3 = .ok (.invokevirtual 324, 3) := by decide +kernel
theorem dX4_read_6 : decode cX4_read 6 = .ok (.istore_n 3, 1) := by decide +kernel
theorem dX4_read_7 : decode cX4_read 7 = .ok (.iload_n 3, 1) := by decide +kernel
theorem dX4_read_8 : decode cX4_read 8 = .ok (.ifCond .eq 9, 3) := by decide +kernel
theorem dX4_read_11 : decode cX4_read 11 = .ok (.aload_n 0, 1) := by decide +kernel
theorem dX4_read_12 : decode cX4_read 12 = .ok (.iload_n 3, 1) := by decide +kernel
theorem dX4_read_13 : decode cX4_read 13 = .ok (.invokevirtual 77, 3) := by decide +kernel
theorem dX4_read_16 : decode cX4_read 16 = .ok (.ireturn, 1) := by decide +kernel
theorem dX4_read_17 : decode cX4_read 17 = .ok (.aload_n 0, 1) := by decide +kernel
theorem dX4_read_18 : decode cX4_read 18 = .ok (.invokevirtual 168, 3) := by decide +kernel
theorem dX4_read_21 : decode cX4_read 21 = .ok (.iconst 0, 1) := by decide +kernel
theorem dX4_read_22 : decode cX4_read 22 = .ok (.istore 4, 2) := by decide +kernel
theorem dX4_read_24 : decode cX4_read 24 = .ok (.iconst 0, 1) := by decide +kernel
theorem dX4_read_25 : decode cX4_read 25 = .ok (.istore 5, 2) := by decide +kernel
theorem dX4_read_27 : decode cX4_read 27 = .ok (.iload 5, 2) := by decide +kernel
theorem dX4_read_29 : decode cX4_read 29 = .ok (.bipush 54, 2) := by decide +kernel
theorem dX4_read_31 : decode cX4_read 31 = .ok (.if_icmp .ge 64, 3) := by decide +kernel
theorem dX4_read_34 : decode cX4_read 34 = .ok (.aload_n 0, 1) := by decide +kernel
theorem dX4_read_35 : decode cX4_read 35 = .ok (.getfield 7, 3) := by decide +kernel
theorem dX4_read_38 : decode cX4_read 38 = .ok (.iload_n 2, 1) := by decide +kernel
theorem dX4_read_39 : decode cX4_read 39 = .ok (.iconst 0, 1) := by decide +kernel
theorem dX4_read_40 : decode cX4_read 40 = .ok (.invokestatic 61, 3) := by decide +kernel
theorem dX4_read_43 : decode cX4_read 43 = .ok (.iload 5, 2) := by decide +kernel
theorem dX4_read_45 : decode cX4_read 45 = .ok (.bipush 9, 2) := by decide +kernel
theorem dX4_read_47 : decode cX4_read 47 = .ok (.idiv, 1) := by decide +kernel
theorem dX4_read_48 : decode cX4_read 48 = .ok (.iastore, 1) := by decide +kernel
theorem dX4_read_49 : decode cX4_read 49 = .ok (.aload_n 0, 1) := by decide +kernel
theorem dX4_read_50 : decode cX4_read 50 = .ok (.getfield 7, 3) := by decide +kernel
theorem dX4_read_53 : decode cX4_read 53 = .ok (.iload_n 2, 1) := by decide +kernel
theorem dX4_read_54 : decode cX4_read 54 = .ok (.iconst 2, 1) := by decide +kernel
theorem dX4_read_55 : decode cX4_read 55 = .ok (.invokestatic 61, 3) := by decide +kernel
theorem dX4_read_58 : decode cX4_read 58 = .ok (.iload 5, 2) := by decide +kernel
theorem dX4_read_60 : decode cX4_read 60 = .ok (.bipush 9, 2) := by decide +kernel
theorem dX4_read_62 : decode cX4_read 62 = .ok (.irem, 1) := by decide +kernel
theorem dX4_read_63 : decode cX4_read 63 = .ok (.iconst 1, 1) := by decide +kernel
theorem dX4_read_64 : decode cX4_read 64 = .ok (.isub, 1) := by decide +kernel
theorem dX4_read_65 : decode cX4_read 65 = .ok (.iastore, 1) := by decide +kernel
theorem dX4_read_66 : decode cX4_read 66 = .ok (.aload_n 0, 1) := by decide +kernel
theorem dX4_read_67 : decode cX4_read 67 = .ok (.iload 4, 2) := by decide +kernel
theorem dX4_read_69 : decode cX4_read 69 = .ok (.aload_n 0, 1) := by decide +kernel
theorem dX4_read_70 : decode cX4_read 70 = .ok (.iload_n 1, 1) := by decide +kernel
theorem dX4_read_71 : decode cX4_read 71 = .ok (.iload_n 2, 1) := by decide +kernel
theorem dX4_read_72 : decode cX4_read 72 = .ok (.invokevirtual 327, 3) := by decide +kernel
theorem dX4_read_75 : decode cX4_read 75 = .ok (.ifCond .eq 7, 3) := by decide +kernel
theorem dX4_read_78 : decode cX4_read 78 = .ok (.iconst 1, 1) := by decide +kernel
theorem dX4_read_79 : decode cX4_read 79 = .ok (.goto 4, 3) := by decide +kernel
theorem dX4_read_82 : decode cX4_read 82 = .ok (.iconst 0, 1) := by decide +kernel
theorem dX4_read_83 : decode cX4_read 83 = .ok (.iadd, 1) := by decide +kernel
theorem dX4_read_84 : decode cX4_read 84 = .ok (.invokevirtual 171, 3) := by decide +kernel
theorem dX4_read_87 : decode cX4_read 87 = .ok (.istore 4, 2) := by decide +kernel
theorem dX4_read_89 : decode cX4_read 89 = .ok (.iinc 5 1, 3) := by decide +kernel
theorem dX4_read_92 : decode cX4_read 92 = .ok (.goto (-65), 3) := by decide +kernel
theorem dX4_read_95 : decode cX4_read 95 = .ok (.iload 4, 2) := by decide +kernel
theorem dX4_read_97 : decode cX4_read 97 = .ok (.ireturn, 1) := by decide +kernel
theorem dX4_image_0 : decode cX4_image 0 = .ok (.iconst 0, 1) := by decide +kernel
theorem dX4_image_1 : decode cX4_image 1 = .ok (.istore_n 1, 1) := by decide +kernel
theorem dX4_image_2 : decode cX4_image 2 = .ok (.iload_n 1, 1) := by decide +kernel
theorem dX4_image_3 : decode cX4_image 3 = .ok (.bipush 66, 2) := by decide +kernel
theorem dX4_image_5 : decode cX4_image 5 = .ok (.if_icmp .ge 21, 3) := by decide +kernel
theorem dX4_image_8 : decode cX4_image 8 = .ok (.aload_n 0, 1) := by decide +kernel
theorem dX4_image_9 : decode cX4_image 9 = .ok (.getfield 13, 3) := by decide +kernel
theorem dX4_image_12 : decode cX4_image 12 = .ok (.iload_n 1, 1) := by decide +kernel
theorem dX4_image_13 : decode cX4_image 13 = .ok (.aload_n 0, 1) := by decide +kernel
theorem dX4_image_14 : decode cX4_image 14 = .ok (.getfield 7, 3) := by decide +kernel
theorem dX4_image_17 : decode cX4_image 17 = .ok (.iload_n 1, 1) := by decide +kernel
theorem dX4_image_18 : decode cX4_image 18 = .ok (.iaload, 1) := by decide +kernel
theorem dX4_image_19 : decode cX4_image 19 = .ok (.iastore, 1) := by decide +kernel
theorem dX4_image_20 : decode cX4_image 20 = .ok (.iinc 1 1, 3) := by decide +kernel
theorem dX4_image_23 : decode cX4_image 23 = .ok (.goto (-21), 3) := by decide +kernel
theorem dX4_image_26 : decode cX4_image 26 = .ok (.aload_n 0, 1) := by decide +kernel
theorem dX4_image_27 : decode cX4_image 27 = .ok (.iconst 1, 1) := by decide +kernel
theorem dX4_image_28 : decode cX4_image 28 = .ok (.putfield 330, 3) := by decide +kernel
theorem dX4_image_31 : decode cX4_image 31 = .ok (.iconst 1, 1) := by decide +kernel
theorem dX4_image_32 : decode cX4_image 32 = .ok (.ireturn, 1) := by decide +kernel
theorem dX4_undo_0 : decode cX4_undo 0 = .ok (.aload_n 0, 1) := by decide +kernel
theorem dX4_undo_1 : decode cX4_undo 1 = .ok (.getfield 330, 3) := by decide +kernel
theorem dX4_undo_4 : decode cX4_undo 4 = .ok (.ifCond .ne 10, 3) := by decide +kernel
theorem dX4_undo_7 : decode cX4_undo 7 = .ok (.aload_n 0, 1) := by decide +kernel
theorem dX4_undo_8 : decode cX4_undo 8 = .ok (.ldc 177, 2) := by decide +kernel
theorem dX4_undo_10 : decode cX4_undo 10 = .ok (.invokevirtual 77, 3) := by decide +kernel
theorem dX4_undo_13 : decode cX4_undo 13 = .ok (.ireturn, 1) := by decide +kernel
theorem dX4_undo_14 : decode cX4_undo 14 = .ok (.iconst 0, 1) := by decide +kernel
theorem dX4_undo_15 : decode cX4_undo 15 = .ok (.istore_n 1, 1) := by decide +kernel
theorem dX4_undo_16 : decode cX4_undo 16 = .ok (.iload_n 1, 1) := by decide +kernel
theorem dX4_undo_17 : decode cX4_undo 17 = .ok (.bipush 66, 2) := by decide +kernel
theorem dX4_undo_19 : decode cX4_undo 19 = .ok (.if_icmp .ge 21, 3) := by decide +kernel
theorem dX4_undo_22 : decode cX4_undo 22 = .ok (.aload_n 0, 1) := by decide +kernel
theorem dX4_undo_23 : decode cX4_undo 23 = .ok (.getfield 7, 3) := by decide +kernel
theorem dX4_undo_26 : decode cX4_undo 26 = .ok (.iload_n 1, 1) := by decide +kernel
theorem dX4_undo_27 : decode cX4_undo 27 = .ok (.aload_n 0, 1) := by decide +kernel
theorem dX4_undo_28 : decode cX4_undo 28 = .ok (.getfield 13, 3) := by decide +kernel
theorem dX4_undo_31 : decode cX4_undo 31 = .ok (.iload_n 1, 1) := by decide +kernel
theorem dX4_undo_32 : decode cX4_undo 32 = .ok (.iaload, 1) := by decide +kernel
theorem dX4_undo_33 : decode cX4_undo 33 = .ok (.iastore, 1) := by decide +kernel
theorem dX4_undo_34 : decode cX4_undo 34 = .ok (.iinc 1 1, 3) := by decide +kernel
theorem dX4_undo_37 : decode cX4_undo 37 = .ok (.goto (-21), 3) := by decide +kernel
theorem dX4_undo_40 : decode cX4_undo 40 = .ok (.aload_n 0, 1) := by decide +kernel
theorem dX4_undo_41 : decode cX4_undo 41 = .ok (.getfield 7, 3) := by decide +kernel
theorem dX4_undo_44 : decode cX4_undo 44 = .ok (.iconst 0, 1) := by decide +kernel
theorem dX4_undo_45 : decode cX4_undo 45 = .ok (.iaload, 1) := by decide +kernel
theorem dX4_undo_46 : decode cX4_undo 46 = .ok (.ireturn, 1) := by decide +kernel
theorem dX4_tear_0 : decode cX4_tear 0 = .ok (.aload_n 0, 1) := by decide +kernel
theorem dX4_tear_1 : decode cX4_tear 1 = .ok (.getfield 330, 3) := by decide +kernel
theorem dX4_tear_4 : decode cX4_tear 4 = .ok (.ifCond .eq 7, 3) := by decide +kernel
theorem dX4_tear_7 : decode cX4_tear 7 = .ok (.iconst 1, 1) := by decide +kernel
theorem dX4_tear_8 : decode cX4_tear 8 = .ok (.goto 4, 3) := by decide +kernel
theorem dX4_tear_11 : decode cX4_tear 11 = .ok (.iconst 0, 1) := by decide +kernel
theorem dX4_tear_12 : decode cX4_tear 12 = .ok (.istore_n 1, 1) := by decide +kernel
theorem dX4_tear_13 : decode cX4_tear 13 = .ok (.aload_n 0, 1) := by decide +kernel
theorem dX4_tear_14 : decode cX4_tear 14 = .ok (.iconst 0, 1) := by decide +kernel
theorem dX4_tear_15 : decode cX4_tear 15 = .ok (.putfield 330, 3) := by decide +kernel
theorem dX4_tear_18 : decode cX4_tear 18 = .ok (.iload_n 1, 1) := by decide +kernel
theorem dX4_tear_19 : decode cX4_tear 19 = .ok (.ireturn, 1) := by decide +kernel
theorem dX4_pairs_0 : decode cX4_pairs 0 = .ok (.iconst 0, 1) := by decide +kernel
theorem dX4_pairs_1 : decode cX4_pairs 1 = .ok (.istore_n 1, 1) := by decide +kernel
theorem dX4_pairs_2 : decode cX4_pairs 2 = .ok (.iconst 0, 1) := by decide +kernel
theorem dX4_pairs_3 : decode cX4_pairs 3 = .ok (.istore_n 2, 1) := by decide +kernel
theorem dX4_pairs_4 : decode cX4_pairs 4 = .ok (.iload_n 2, 1) := by decide +kernel
theorem dX4_pairs_5 : decode cX4_pairs 5 = .ok (.aload_n 0, 1) := by decide +kernel
theorem dX4_pairs_6 : decode cX4_pairs 6 = .ok (.getfield 7, 3) := by decide +kernel
theorem dX4_pairs_9 : decode cX4_pairs 9 = .ok (.iconst 0, 1) := by decide +kernel
theorem dX4_pairs_10 : decode cX4_pairs 10 = .ok (.iaload, 1) := by decide +kernel
theorem dX4_pairs_11 : decode cX4_pairs 11 = .ok (.if_icmp .ge 21, 3) := by decide +kernel
theorem dX4_pairs_14 : decode cX4_pairs 14 = .ok (.iload_n 1, 1) := by decide +kernel
theorem dX4_pairs_15 : decode cX4_pairs 15 = .ok (.aload_n 0, 1) := by decide +kernel
theorem dX4_pairs_16 : decode cX4_pairs 16 = .ok (.iload_n 2, 1) := by decide +kernel
theorem dX4_pairs_17 : decode cX4_pairs 17 = .ok (.iconst 3, 1) := by decide +kernel
theorem dX4_pairs_18 : decode cX4_pairs 18 = .ok (.invokevirtual 64, 3) := by decide +kernel
theorem dX4_pairs_21 : decode cX4_pairs 21 = .ok (.invokestatic 185, 3) := by decide +kernel
theorem dX4_pairs_24 : decode cX4_pairs 24 = .ok (.iadd, 1) := by decide +kernel
theorem dX4_pairs_25 : decode cX4_pairs 25 = .ok (.istore_n 1, 1) := by decide +kernel
theorem dX4_pairs_26 : decode cX4_pairs 26 = .ok (.iinc 2 1, 3) := by decide +kernel
theorem dX4_pairs_29 : decode cX4_pairs 29 = .ok (.goto (-25), 3) := by decide +kernel
theorem dX4_pairs_32 : decode cX4_pairs 32 = .ok (.iload_n 1, 1) := by decide +kernel
theorem dX4_pairs_33 : decode cX4_pairs 33 = .ok (.iconst 2, 1) := by decide +kernel
theorem dX4_pairs_34 : decode cX4_pairs 34 = .ok (.idiv, 1) := by decide +kernel
theorem dX4_pairs_35 : decode cX4_pairs 35 = .ok (.ireturn, 1) := by decide +kernel
theorem dX4_count_0 : decode cX4_count 0 = .ok (.iload_n 1, 1) := by decide +kernel
theorem dX4_count_1 : decode cX4_count 1 = .ok (.tableswitch 56 0 3 #[31, 38, 43, 51], 31) := by decide +kernel
theorem dX4_count_32 : decode cX4_count 32 = .ok (.aload_n 0, 1) := by decide +kernel
theorem dX4_count_33 : decode cX4_count 33 = .ok (.getfield 7, 3) := by decide +kernel
theorem dX4_count_36 : decode cX4_count 36 = .ok (.iconst 0, 1) := by decide +kernel
theorem dX4_count_37 : decode cX4_count 37 = .ok (.iaload, 1) := by decide +kernel
theorem dX4_count_38 : decode cX4_count 38 = .ok (.ireturn, 1) := by decide +kernel
theorem dX4_count_39 : decode cX4_count 39 = .ok (.aload_n 0, 1) := by decide +kernel
theorem dX4_count_40 : decode cX4_count 40 = .ok (.getfield 206, 3) := by decide +kernel
theorem dX4_count_43 : decode cX4_count 43 = .ok (.ireturn, 1) := by decide +kernel
theorem dX4_count_44 : decode cX4_count 44 = .ok (.aload_n 0, 1) := by decide +kernel
theorem dX4_count_45 : decode cX4_count 45 = .ok (.invokevirtual 159, 3) := by decide +kernel
theorem dX4_count_48 : decode cX4_count 48 = .ok (.invokestatic 185, 3) := by decide +kernel
theorem dX4_count_51 : decode cX4_count 51 = .ok (.ireturn, 1) := by decide +kernel
theorem dX4_count_52 : decode cX4_count 52 = .ok (.aload_n 0, 1) := by decide +kernel
theorem dX4_count_53 : decode cX4_count 53 = .ok (.invokevirtual 333, 3) := by decide +kernel
theorem dX4_count_56 : decode cX4_count 56 = .ok (.ireturn, 1) := by decide +kernel
theorem dX4_count_57 : decode cX4_count 57 = .ok (.aload_n 0, 1) := by decide +kernel
theorem dX4_count_58 : decode cX4_count 58 = .ok (.ldc 48, 2) := by decide +kernel
theorem dX4_count_60 : decode cX4_count 60 = .ok (.invokevirtual 77, 3) := by decide +kernel
theorem dX4_count_63 : decode cX4_count 63 = .ok (.ireturn, 1) := by decide +kernel
theorem dX4_status_0 : decode cX4_status 0 = .ok (.iload_n 1, 1) := by decide +kernel
theorem dX4_status_1 : decode cX4_status 1 = .ok (.i2l, 1) := by decide +kernel
theorem dX4_status_2 : decode cX4_status 2 = .ok (.ldc2_w 100, 3) := by decide +kernel
theorem dX4_status_5 : decode cX4_status 5 = .ok (.ldc2_w 93, 3) := by decide +kernel
theorem dX4_status_8 : decode cX4_status 8 = .ok (.invokestatic 51, 3) := by decide +kernel
theorem dX4_status_11 : decode cX4_status 11 = .ok (.ifCond .ne 10, 3) := by decide +kernel
theorem dX4_status_14 : decode cX4_status 14 = .ok (.aload_n 0, 1) := by decide +kernel
theorem dX4_status_15 : decode cX4_status 15 = .ok (.ldc 48, 2) := by decide +kernel
theorem dX4_status_17 : decode cX4_status 17 = .ok (.invokevirtual 77, 3) := by decide +kernel
theorem dX4_status_20 : decode cX4_status 20 = .ok (.ireturn, 1) := by decide +kernel
theorem dX4_status_21 : decode cX4_status 21 = .ok (.iconst 0, 1) := by decide +kernel
theorem dX4_status_22 : decode cX4_status 22 = .ok (.istore_n 2, 1) := by decide +kernel
theorem dX4_status_23 : decode cX4_status 23 = .ok (.iconst 0, 1) := by decide +kernel
theorem dX4_status_24 : decode cX4_status 24 = .ok (.istore_n 3, 1) := by decide +kernel
theorem dX4_status_25 : decode cX4_status 25 = .ok (.iload_n 3, 1) := by decide +kernel
theorem dX4_status_26 : decode cX4_status 26 = .ok (.bipush 7, 2) := by decide +kernel
theorem dX4_status_28 : decode cX4_status 28 = .ok (.if_icmp .ge 31, 3) := by decide +kernel
theorem dX4_status_31 : decode cX4_status 31 = .ok (.iload_n 2, 1) := by decide +kernel
theorem dX4_status_32 : decode cX4_status 32 = .ok (.iload_n 1, 1) := by decide +kernel
theorem dX4_status_33 : decode cX4_status 33 = .ok (.ifCond .lt 8, 3) := by decide +kernel
theorem dX4_status_36 : decode cX4_status 36 = .ok (.iload_n 3, 1) := by decide +kernel
theorem dX4_status_37 : decode cX4_status 37 = .ok (.iload_n 1, 1) := by decide +kernel
theorem dX4_status_38 : decode cX4_status 38 = .ok (.if_icmp .ne 12, 3) := by decide +kernel
theorem dX4_status_41 : decode cX4_status 41 = .ok (.aload_n 0, 1) := by decide +kernel
theorem dX4_status_42 : decode cX4_status 42 = .ok (.getfield 22, 3) := by decide +kernel
theorem dX4_status_45 : decode cX4_status 45 = .ok (.iload_n 3, 1) := by decide +kernel
theorem dX4_status_46 : decode cX4_status 46 = .ok (.iaload, 1) := by decide +kernel
theorem dX4_status_47 : decode cX4_status 47 = .ok (.goto 4, 3) := by decide +kernel
theorem dX4_status_50 : decode cX4_status 50 = .ok (.iconst 0, 1) := by decide +kernel
theorem dX4_status_51 : decode cX4_status 51 = .ok (.iadd, 1) := by decide +kernel
theorem dX4_status_52 : decode cX4_status 52 = .ok (.istore_n 2, 1) := by decide +kernel
theorem dX4_status_53 : decode cX4_status 53 = .ok (.iinc 3 1, 3) := by decide +kernel
theorem dX4_status_56 : decode cX4_status 56 = .ok (.goto (-31), 3) := by decide +kernel
theorem dX4_status_59 : decode cX4_status 59 = .ok (.iload_n 2, 1) := by decide +kernel
theorem dX4_status_60 : decode cX4_status 60 = .ok (.ireturn, 1) := by decide +kernel
