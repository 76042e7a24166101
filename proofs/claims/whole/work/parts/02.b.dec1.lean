theorem dX0_init_0 : decode cX0_init 0 = .ok (.aload_n 0, 1) := by decide +kernel
theorem dX0_init_1 : decode cX0_init 1 = .ok (.invokespecial 3, 3) := by decide +kernel
theorem dX0_init_4 : decode cX0_init 4 = .ok (.aload_n 0, 1) := by decide +kernel
theorem dX0_init_5 : decode cX0_init 5 = .ok (.bipush 8, 2) := by decide +kernel
theorem dX0_init_7 : decode cX0_init 7 = .ok (.newarray .int, 2) := by decide +kernel
theorem dX0_init_9 : decode cX0_init 9 = .ok (.putfield 9, 3) := by decide +kernel
theorem dX0_init_12 : decode cX0_init 12 = .ok (.aload_n 0, 1) := by decide +kernel
theorem dX0_init_13 : decode cX0_init 13 = .ok (.getfield 9, 3) := by decide +kernel
theorem dX0_init_16 : decode cX0_init 16 = .ok (.iconst 3, 1) := by decide +kernel
theorem dX0_init_17 : decode cX0_init 17 = .ok (.invokestatic 15, 3) := by decide +kernel
theorem dX0_init_20 : decode cX0_init 20 = .ok (.aload_n 0, 1) := by decide +kernel
theorem dX0_init_21 : decode cX0_init 21 = .ok (.getfield 9, 3) := by decide +kernel
theorem dX0_init_24 : decode cX0_init 24 = .ok (.iconst 0, 1) := by decide +kernel
theorem dX0_init_25 : decode cX0_init 25 = .ok (.bipush 15, 2) := by decide +kernel
theorem dX0_init_27 : decode cX0_init 27 = .ok (.iastore, 1) := by decide +kernel
theorem dX0_init_28 : decode cX0_init 28 = .ok (.aload_n 0, 1) := by decide +kernel
theorem dX0_init_29 : decode cX0_init 29 = .ok (.bipush 8, 2) := by decide +kernel
theorem dX0_init_31 : decode cX0_init 31 = .ok (.newarray .int, 2) := by decide +kernel
theorem dX0_init_33 : decode cX0_init 33 = .ok (.putfield 21, 3) := by decide +kernel
theorem dX0_init_36 : decode cX0_init 36 = .ok (.aload_n 0, 1) := by decide +kernel
theorem dX0_init_37 : decode cX0_init 37 = .ok (.getfield 21, 3) := by decide +kernel
theorem dX0_init_40 : decode cX0_init 40 = .ok (.iconst 1, 1) := by decide +kernel
theorem dX0_init_41 : decode cX0_init 41 = .ok (.invokestatic 15, 3) := by decide +kernel
theorem dX0_init_44 : decode cX0_init 44 = .ok (.aload_n 0, 1) := by decide +kernel
theorem dX0_init_45 : decode cX0_init 45 = .ok (.bipush 8, 2) := by decide +kernel
theorem dX0_init_47 : decode cX0_init 47 = .ok (.newarray .int, 2) := by decide +kernel
theorem dX0_init_49 : decode cX0_init 49 = .ok (.putfield 24, 3) := by decide +kernel
theorem dX0_init_52 : decode cX0_init 52 = .ok (.aload_n 0, 1) := by decide +kernel
theorem dX0_init_53 : decode cX0_init 53 = .ok (.getfield 24, 3) := by decide +kernel
theorem dX0_init_56 : decode cX0_init 56 = .ok (.iconst (-1), 1) := by decide +kernel
theorem dX0_init_57 : decode cX0_init 57 = .ok (.invokestatic 15, 3) := by decide +kernel
theorem dX0_init_60 : decode cX0_init 60 = .ok (.aload_n 0, 1) := by decide +kernel
theorem dX0_init_61 : decode cX0_init 61 = .ok (.bipush 8, 2) := by decide +kernel
theorem dX0_init_63 : decode cX0_init 63 = .ok (.newarray .int, 2) := by decide +kernel
theorem dX0_init_65 : decode cX0_init 65 = .ok (.putfield 27, 3) := by decide +kernel
theorem dX0_init_68 : decode cX0_init 68 = .ok (.aload_n 0, 1) := by decide +kernel
theorem dX0_init_69 : decode cX0_init 69 = .ok (.bipush 8, 2) := by decide +kernel
theorem dX0_init_71 : decode cX0_init 71 = .ok (.newarray .int, 2) := by decide +kernel
theorem dX0_init_73 : decode cX0_init 73 = .ok (.putfield 30, 3) := by decide +kernel
theorem dX0_init_76 : decode cX0_init 76 = .ok (.aload_n 0, 1) := by decide +kernel
theorem dX0_init_77 : decode cX0_init 77 = .ok (.bipush 8, 2) := by decide +kernel
theorem dX0_init_79 : decode cX0_init 79 = .ok (.newarray .int, 2) := by decide +kernel
theorem dX0_init_81 : decode cX0_init 81 = .ok (.putfield 33, 3) := by decide +kernel
theorem dX0_init_84 : decode cX0_init 84 = .ok (.aload_n 0, 1) := by decide +kernel
theorem dX0_init_85 : decode cX0_init 85 = .ok (.getfield 33, 3) := by decide +kernel
theorem dX0_init_88 : decode cX0_init 88 = .ok (.iconst (-1), 1) := by decide +kernel
theorem dX0_init_89 : decode cX0_init 89 = .ok (.invokestatic 15, 3) := by decide +kernel
theorem dX0_init_92 : decode cX0_init 92 = .ok (.aload_n 0, 1) := by decide +kernel
theorem dX0_init_93 : decode cX0_init 93 = .ok (.bipush 8, 2) := by decide +kernel
theorem dX0_init_95 : decode cX0_init 95 = .ok (.newarray .int, 2) := by decide +kernel
theorem dX0_init_97 : decode cX0_init 97 = .ok (.putfield 36, 3) := by decide +kernel
theorem dX0_init_100 : decode cX0_init 100 = .ok (.aload_n 0, 1) := by decide +kernel
theorem dX0_init_101 : decode cX0_init 101 = .ok (.bipush 8, 2) := by decide +kernel
theorem dX0_init_103 : decode cX0_init 103 = .ok (.newarray .int, 2) := by decide +kernel
theorem dX0_init_105 : decode cX0_init 105 = .ok (.putfield 39, 3) := by decide +kernel
theorem dX0_init_108 : decode cX0_init 108 = .ok (.aload_n 0, 1) := by decide +kernel
theorem dX0_init_109 : decode cX0_init 109 = .ok (.bipush 8, 2) := by decide +kernel
theorem dX0_init_111 : decode cX0_init 111 = .ok (.newarray .int, 2) := by decide +kernel
theorem dX0_init_113 : decode cX0_init 113 = .ok (.putfield 42, 3) := by decide +kernel
theorem dX0_init_116 : decode cX0_init 116 = .ok (.aload_n 0, 1) := by decide +kernel
theorem dX0_init_117 : decode cX0_init 117 = .ok (.getfield 42, 3) := by decide +kernel
theorem dX0_init_120 : decode cX0_init 120 = .ok (.iconst (-1), 1) := by decide +kernel
theorem dX0_init_121 : decode cX0_init 121 = .ok (.invokestatic 15, 3) := by decide +kernel
theorem dX0_init_124 : decode cX0_init 124 = .ok (.return_, 1) := by decide +kernel
theorem dX0_become_0 : decode cX0_become 0 = .ok (.aload_n 1, 1) := by decide +kernel
theorem dX0_become_1 : decode cX0_become 1 = .ok (.getfield 9, 3) := by decide +kernel
theorem dX0_become_4 : decode cX0_become 4 = .ok (.iconst 0, 1) := by decide +kernel
theorem dX0_become_5 : decode cX0_become 5 = .ok (.aload_n 0, 1) := by decide +kernel
theorem dX0_become_6 : decode cX0_become 6 = .ok (.getfield 9, 3) := by decide +kernel
theorem dX0_become_9 : decode cX0_become 9 = .ok (.iconst 0, 1) := by decide +kernel
theorem dX0_become_10 : decode cX0_become 10 = .ok (.bipush 8, 2) := by decide +kernel
theorem dX0_become_12 : decode cX0_become 12 = .ok (.invokestatic 45, 3) := by decide +kernel
theorem dX0_become_15 : decode cX0_become 15 = .ok (.aload_n 1, 1) := by decide +kernel
theorem dX0_become_16 : decode cX0_become 16 = .ok (.getfield 21, 3) := by decide +kernel
theorem dX0_become_19 : decode cX0_become 19 = .ok (.iconst 0, 1) := by decide +kernel
theorem dX0_become_20 : decode cX0_become 20 = .ok (.aload_n 0, 1) := by decide +kernel
theorem dX0_become_21 : decode cX0_become 21 = .ok (.getfield 21, 3) := by decide +kernel
theorem dX0_become_24 : decode cX0_become 24 = .ok (.iconst 0, 1) := by decide +kernel
theorem dX0_become_25 : decode cX0_become 25 = .ok (.bipush 8, 2) := by decide +kernel
theorem dX0_become_27 : decode cX0_become 27 = .ok (.invokestatic 45, 3) := by decide +kernel
theorem dX0_become_30 : decode cX0_become 30 = .ok (.aload_n 1, 1) := by decide +kernel
theorem dX0_become_31 : decode cX0_become 31 = .ok (.getfield 24, 3) := by decide +kernel
theorem dX0_become_34 : decode cX0_become 34 = .ok (.iconst 0, 1) := by decide +kernel
theorem dX0_become_35 : decode cX0_become 35 = .ok (.aload_n 0, 1) := by decide +kernel
theorem dX0_become_36 : decode cX0_become 36 = .ok (.getfield 24, 3) := by decide +kernel
theorem dX0_become_39 : decode cX0_become 39 = .ok (.iconst 0, 1) := by decide +kernel
theorem dX0_become_40 : decode cX0_become 40 = .ok (.bipush 8, 2) := by decide +kernel
theorem dX0_become_42 : decode cX0_become 42 = .ok (.invokestatic 45, 3) := by decide +kernel
theorem dX0_become_45 : decode cX0_become 45 = .ok (.aload_n 1, 1) := by decide +kernel
theorem dX0_become_46 : decode cX0_become 46 = .ok (.getfield 27, 3) := by decide +kernel
theorem dX0_become_49 : decode cX0_become 49 = .ok (.iconst 0, 1) := by decide +kernel
theorem dX0_become_50 : decode cX0_become 50 = .ok (.aload_n 0, 1) := by decide +kernel
theorem dX0_become_51 : decode cX0_become 51 = .ok (.getfield 27, 3) := by decide +kernel
theorem dX0_become_54 : decode cX0_become 54 = .ok (.iconst 0, 1) := by decide +kernel
theorem dX0_become_55 : decode cX0_become 55 = .ok (.bipush 8, 2) := by decide +kernel
theorem dX0_become_57 : decode cX0_become 57 = .ok (.invokestatic 45, 3) := by decide +kernel
theorem dX0_become_60 : decode cX0_become 60 = .ok (.aload_n 1, 1) := by decide +kernel
theorem dX0_become_61 : decode cX0_become 61 = .ok (.getfield 30, 3) := by decide +kernel
theorem dX0_become_64 : decode cX0_become 64 = .ok (.iconst 0, 1) := by decide +kernel
theorem dX0_become_65 : decode cX0_become 65 = .ok (.aload_n 0, 1) := by decide +kernel
theorem dX0_become_66 : decode cX0_become 66 = .ok (.getfield 30, 3) := by decide +kernel
theorem dX0_become_69 : decode cX0_become 69 = .ok (.iconst 0, 1) := by decide +kernel
theorem dX0_become_70 : decode cX0_become 70 = .ok (.bipush 8, 2) := by decide +kernel
theorem dX0_become_72 : decode cX0_become 72 = .ok (.invokestatic 45, 3) := by decide +kernel
theorem dX0_become_75 : decode cX0_become 75 = .ok (.aload_n 1, 1) := by decide +kernel
theorem dX0_become_76 : decode cX0_become 76 = .ok (.getfield 33, 3) := by decide +kernel
theorem dX0_become_79 : decode cX0_become 79 = .ok (.iconst 0, 1) := by decide +kernel
theorem dX0_become_80 : decode cX0_become 80 = .ok (.aload_n 0, 1) := by decide +kernel
theorem dX0_become_81 : decode cX0_become 81 = .ok (.getfield 33, 3) := by decide +kernel
theorem dX0_become_84 : decode cX0_become 84 = .ok (.iconst 0, 1) := by decide +kernel
theorem dX0_become_85 : decode cX0_become 85 = .ok (.bipush 8, 2) := by decide +kernel
theorem dX0_become_87 : decode cX0_become 87 = .ok (.invokestatic 45, 3) := by decide +kernel
theorem dX0_become_90 : decode cX0_become 90 = .ok (.aload_n 1, 1) := by decide +kernel
theorem dX0_become_91 : decode cX0_become 91 = .ok (.getfield 36, 3) := by decide +kernel
theorem dX0_become_94 : decode cX0_become 94 = .ok (.iconst 0, 1) := by decide +kernel
theorem dX0_become_95 : decode cX0_become 95 = .ok (.aload_n 0, 1) := by decide +kernel
theorem dX0_become_96 : decode cX0_become 96 = .ok (.getfield 36, 3) := by decide +kernel
theorem dX0_become_99 : decode cX0_become 99 = .ok (.iconst 0, 1) := by decide +kernel
theorem dX0_become_100 : decode cX0_become 100 = .ok (.bipush 8, 2) := by decide +kernel
theorem dX0_become_102 : decode cX0_become 102 = .ok (.invokestatic 45, 3) := by decide +kernel
theorem dX0_become_105 : decode cX0_become 105 = .ok (.aload_n 1, 1) := by decide +kernel
theorem dX0_become_106 : decode cX0_become 106 = .ok (.getfield 39, 3) := by decide +kernel
theorem dX0_become_109 : decode cX0_become 109 = .ok (.iconst 0, 1) := by decide +kernel
theorem dX0_become_110 : decode cX0_become 110 = .ok (.aload_n 0, 1) := by decide +kernel
theorem dX0_become_111 : decode cX0_become 111 = .ok (.getfield 39, 3) := by decide +kernel
theorem dX0_become_114 : decode cX0_become 114 = .ok (.iconst 0, 1) := by decide +kernel
theorem dX0_become_115 : decode cX0_become 115 = .ok (.bipush 8, 2) := by decide +kernel
theorem dX0_become_117 : decode cX0_become 117 = .ok (.invokestatic 45, 3) := by decide +kernel
theorem dX0_become_120 : decode cX0_become 120 = .ok (.aload_n 1, 1) := by decide +kernel
theorem dX0_become_121 : decode cX0_become 121 = .ok (.getfield 42, 3) := by decide +kernel
theorem dX0_become_124 : decode cX0_become 124 = .ok (.iconst 0, 1) := by decide +kernel
theorem dX0_become_125 : decode cX0_become 125 = .ok (.aload_n 0, 1) := by decide +kernel
theorem dX0_become_126 : decode cX0_become 126 = .ok (.getfield 42, 3) := by decide +kernel
theorem dX0_become_129 : decode cX0_become 129 = .ok (.iconst 0, 1) := by decide +kernel
theorem dX0_become_130 : decode cX0_become 130 = .ok (.bipush 8, 2) := by decide +kernel
theorem dX0_become_132 : decode cX0_become 132 = .ok (.invokestatic 45, 3) := by decide +kernel
theorem dX0_become_135 : decode cX0_become 135 = .ok (.aload_n 0, 1) := by decide +kernel
theorem dX0_become_136 : decode cX0_become 136 = .ok (.aload_n 1, 1) := by decide +kernel
theorem dX0_become_137 : decode cX0_become 137 = .ok (.getfield 51, 3) := by decide +kernel
theorem dX0_become_140 : decode cX0_become 140 = .ok (.putfield 51, 3) := by decide +kernel
theorem dX0_become_143 : decode cX0_become 143 = .ok (.aload_n 0, 1) := by decide +kernel
theorem dX0_become_144 : decode cX0_become 144 = .ok (.aload_n 1, 1) := by decide +kernel
theorem dX0_become_145 : decode cX0_become 145 = .ok (.getfield 55, 3) := by decide +kernel
theorem dX0_become_148 : decode cX0_become 148 = .ok (.putfield 55, 3) := by decide +kernel
theorem dX0_become_151 : decode cX0_become 151 = .ok (.return_, 1) := by decide +kernel
theorem dX0_enter_0 : decode cX0_enter 0 = .ok (.aload_n 0, 1) := by decide +kernel
theorem dX0_enter_1 : decode cX0_enter 1 = .ok (.getfield 51, 3) := by decide +kernel
theorem dX0_enter_4 : decode cX0_enter 4 = .ok (.istore_n 2, 1) := by decide +kernel
theorem dX0_enter_5 : decode cX0_enter 5 = .ok (.aload_n 0, 1) := by decide +kernel
theorem dX0_enter_6 : decode cX0_enter 6 = .ok (.dup, 1) := by decide +kernel
theorem dX0_enter_7 : decode cX0_enter 7 = .ok (.getfield 51, 3) := by decide +kernel
theorem dX0_enter_10 : decode cX0_enter 10 = .ok (.iconst 1, 1) := by decide +kernel
theorem dX0_enter_11 : decode cX0_enter 11 = .ok (.iadd, 1) := by decide +kernel
theorem dX0_enter_12 : decode cX0_enter 12 = .ok (.putfield 51, 3) := by decide +kernel
theorem dX0_enter_15 : decode cX0_enter 15 = .ok (.aload_n 0, 1) := by decide +kernel
theorem dX0_enter_16 : decode cX0_enter 16 = .ok (.getfield 27, 3) := by decide +kernel
theorem dX0_enter_19 : decode cX0_enter 19 = .ok (.iload_n 2, 1) := by decide +kernel
theorem dX0_enter_20 : decode cX0_enter 20 = .ok (.iload_n 1, 1) := by decide +kernel
theorem dX0_enter_21 : decode cX0_enter 21 = .ok (.iastore, 1) := by decide +kernel
theorem dX0_enter_22 : decode cX0_enter 22 = .ok (.iload_n 2, 1) := by decide +kernel
theorem dX0_enter_23 : decode cX0_enter 23 = .ok (.ireturn, 1) := by decide +kernel
theorem dX0_areAtOdds_0 : decode cX0_areAtOdds 0 = .ok (.aload_n 0, 1) := by decide +kernel
theorem dX0_areAtOdds_1 : decode cX0_areAtOdds 1 = .ok (.getfield 36, 3) := by decide +kernel
theorem dX0_areAtOdds_4 : decode cX0_areAtOdds 4 = .ok (.iload_n 1, 1) := by decide +kernel
theorem dX0_areAtOdds_5 : decode cX0_areAtOdds 5 = .ok (.iaload, 1) := by decide +kernel
theorem dX0_areAtOdds_6 : decode cX0_areAtOdds 6 = .ok (.iload_n 2, 1) := by decide +kernel
theorem dX0_areAtOdds_7 : decode cX0_areAtOdds 7 = .ok (.ishr, 1) := by decide +kernel
theorem dX0_areAtOdds_8 : decode cX0_areAtOdds 8 = .ok (.iconst 1, 1) := by decide +kernel
theorem dX0_areAtOdds_9 : decode cX0_areAtOdds 9 = .ok (.iand, 1) := by decide +kernel
theorem dX0_areAtOdds_10 : decode cX0_areAtOdds 10 = .ok (.iconst 1, 1) := by decide +kernel
theorem dX0_areAtOdds_11 : decode cX0_areAtOdds 11 = .ok (.if_icmp .ne 7, 3) := by decide +kernel
theorem dX0_areAtOdds_14 : decode cX0_areAtOdds 14 = .ok (.iconst 1, 1) := by decide +kernel
theorem dX0_areAtOdds_15 : decode cX0_areAtOdds 15 = .ok (.goto 4, 3) := by decide +kernel
theorem dX0_areAtOdds_18 : decode cX0_areAtOdds 18 = .ok (.iconst 0, 1) := by decide +kernel
theorem dX0_areAtOdds_19 : decode cX0_areAtOdds 19 = .ok (.ireturn, 1) := by decide +kernel
theorem dX0_putAtOdds_0 : decode cX0_putAtOdds 0 = .ok (.iload_n 3, 1) := by decide +kernel
theorem dX0_putAtOdds_1 : decode cX0_putAtOdds 1 = .ok (.ifCond .eq 30, 3) := by decide +kernel
theorem dX0_putAtOdds_4 : decode cX0_putAtOdds 4 = .ok (.aload_n 0, 1) := by decide +kernel
theorem dX0_putAtOdds_5 : decode cX0_putAtOdds 5 = .ok (.getfield 36, 3) := by decide +kernel
theorem dX0_putAtOdds_8 : decode cX0_putAtOdds 8 = .ok (.iload_n 1, 1) := by decide +kernel
theorem dX0_putAtOdds_9 : decode cX0_putAtOdds 9 = .ok (.dup2, 1) := by decide +kernel
theorem dX0_putAtOdds_10 : decode cX0_putAtOdds 10 = .ok (.iaload, 1) := by decide +kernel
theorem dX0_putAtOdds_11 : decode cX0_putAtOdds 11 = .ok (.iconst 1, 1) := by decide +kernel
theorem dX0_putAtOdds_12 : decode cX0_putAtOdds 12 = .ok (.iload_n 2, 1) := by decide +kernel
theorem dX0_putAtOdds_13 : decode cX0_putAtOdds 13 = .ok (.ishl, 1) := by decide +kernel
theorem dX0_putAtOdds_14 : decode cX0_putAtOdds 14 = .ok (.ior, 1) := by decide +kernel
theorem dX0_putAtOdds_15 : decode cX0_putAtOdds 15 = .ok (.iastore, 1) := by decide +kernel
theorem dX0_putAtOdds_16 : decode cX0_putAtOdds 16 = .ok (.aload_n 0, 1) := by decide +kernel
theorem dX0_putAtOdds_17 : decode cX0_putAtOdds 17 = .ok (.getfield 36, 3) := by decide +kernel
theorem dX0_putAtOdds_20 : decode cX0_putAtOdds 20 = .ok (.iload_n 2, 1) := by decide +kernel
theorem dX0_putAtOdds_21 : decode cX0_putAtOdds 21 = .ok (.dup2, 1) := by decide +kernel
theorem dX0_putAtOdds_22 : decode cX0_putAtOdds 22 = .ok (.iaload, 1) := by decide +kernel
theorem dX0_putAtOdds_23 : decode cX0_putAtOdds 23 = .ok (.iconst 1, 1) := by decide +kernel
theorem dX0_putAtOdds_24 : decode cX0_putAtOdds 24 = .ok (.iload_n 1, 1) := by decide +kernel
theorem dX0_putAtOdds_25 : decode cX0_putAtOdds 25 = .ok (.ishl, 1) := by decide +kernel
theorem dX0_putAtOdds_26 : decode cX0_putAtOdds 26 = .ok (.ior, 1) := by decide +kernel
theorem dX0_putAtOdds_27 : decode cX0_putAtOdds 27 = .ok (.iastore, 1) := by decide +kernel
theorem dX0_putAtOdds_28 : decode cX0_putAtOdds 28 = .ok (.goto 31, 3) := by decide +kernel
theorem dX0_putAtOdds_31 : decode cX0_putAtOdds 31 = .ok (.aload_n 0, 1) := by decide +kernel
theorem dX0_putAtOdds_32 : decode cX0_putAtOdds 32 = .ok (.getfield 36, 3) := by decide +kernel
theorem dX0_putAtOdds_35 : decode cX0_putAtOdds 35 = .ok (.iload_n 1, 1) := by decide +kernel
theorem dX0_putAtOdds_36 : decode cX0_putAtOdds 36 = .ok (.dup2, 1) := by decide +kernel
theorem dX0_putAtOdds_37 : decode cX0_putAtOdds 37 = .ok (.iaload, 1) := by decide +kernel
theorem dX0_putAtOdds_38 : decode cX0_putAtOdds 38 = .ok (.iconst 1, 1) := by decide +kernel
theorem dX0_putAtOdds_39 : decode cX0_putAtOdds 39 = .ok (.iload_n 2, 1) := by decide +kernel
theorem dX0_putAtOdds_40 : decode cX0_putAtOdds 40 = .ok (.ishl, 1) := by decide +kernel
theorem dX0_putAtOdds_41 : decode cX0_putAtOdds 41 = .ok (.iconst (-1), 1) := by decide +kernel
theorem dX0_putAtOdds_42 : decode cX0_putAtOdds 42 = .ok (.ixor, 1) := by decide +kernel
theorem dX0_putAtOdds_43 : decode cX0_putAtOdds 43 = .ok (.iand, 1) := by decide +kernel
theorem dX0_putAtOdds_44 : decode cX0_putAtOdds 44 = .ok (.iastore, 1) := by decide +kernel
theorem dX0_putAtOdds_45 : decode cX0_putAtOdds 45 = .ok (.aload_n 0, 1) := by decide +kernel
theorem dX0_putAtOdds_46 : decode cX0_putAtOdds 46 = .ok (.getfield 36, 3) := by decide +kernel
theorem dX0_putAtOdds_49 : decode cX0_putAtOdds 49 = .ok (.iload_n 2, 1) := by decide +kernel
theorem dX0_putAtOdds_50 : decode cX0_putAtOdds 50 = .ok (.dup2, 1) := by decide +kernel
theorem dX0_putAtOdds_51 : decode cX0_putAtOdds 51 = .ok (.iaload, 1) := by decide +kernel
theorem dX0_putAtOdds_52 : decode cX0_putAtOdds 52 = .ok (.iconst 1, 1) := by decide +kernel
theorem dX0_putAtOdds_53 : decode cX0_putAtOdds 53 = .ok (.iload_n 1, 1) := by decide +kernel
theorem dX0_putAtOdds_54 : decode cX0_putAtOdds 54 = .ok (.ishl, 1) := by decide +kernel
theorem dX0_putAtOdds_55 : decode cX0_putAtOdds 55 = .ok (.iconst (-1), 1) := by decide +kernel
theorem dX0_putAtOdds_56 : decode cX0_putAtOdds 56 = .ok (.ixor, 1) := by decide +kernel
theorem dX0_putAtOdds_57 : decode cX0_putAtOdds 57 = .ok (.iand, 1) := by decide +kernel
theorem dX0_putAtOdds_58 : decode cX0_putAtOdds 58 = .ok (.iastore, 1) := by decide +kernel
theorem dX0_putAtOdds_59 : decode cX0_putAtOdds 59 = .ok (.return_, 1) := by decide +kernel
theorem dX0_pairsAtOdds_0 : decode cX0_pairsAtOdds 0 = .ok (.iconst 0, 1) := by decide +kernel
theorem dX0_pairsAtOdds_1 : decode cX0_pairsAtOdds 1 = .ok (.istore_n 1, 1) := by decide +kernel
theorem dX0_pairsAtOdds_2 : decode cX0_pairsAtOdds 2 = .ok (.iconst 0, 1) := by decide +kernel
theorem dX0_pairsAtOdds_3 : decode cX0_pairsAtOdds 3 = .ok (.istore_n 2, 1) := by decide +kernel
theorem dX0_pairsAtOdds_4 : decode cX0_pairsAtOdds 4 = .ok (.iload_n 2, 1) := by decide +kernel
theorem dX0_pairsAtOdds_5 : decode cX0_pairsAtOdds 5 = .ok (.aload_n 0, 1) := by decide +kernel
theorem dX0_pairsAtOdds_6 : decode cX0_pairsAtOdds 6 = .ok (.getfield 51, 3) := by decide +kernel
theorem dX0_pairsAtOdds_9 : decode cX0_pairsAtOdds 9 = .ok (.if_icmp .ge 21, 3) := by decide +kernel
theorem dX0_pairsAtOdds_12 : decode cX0_pairsAtOdds 12 = .ok (.iload_n 1, 1) := by decide +kernel
theorem dX0_pairsAtOdds_13 : decode cX0_pairsAtOdds 13 = .ok (.aload_n 0, 1) := by decide +kernel
theorem dX0_pairsAtOdds_14 : decode cX0_pairsAtOdds 14 = .ok (.getfield 36, 3) := by decide +kernel
theorem dX0_pairsAtOdds_17 : decode cX0_pairsAtOdds 17 = .ok (.iload_n 2, 1) := by decide +kernel
theorem dX0_pairsAtOdds_18 : decode cX0_pairsAtOdds 18 = .ok (.iaload, 1) := by decide +kernel
theorem dX0_pairsAtOdds_19 : decode cX0_pairsAtOdds 19 = .ok (.invokestatic 58, 3) := by decide +kernel
theorem dX0_pairsAtOdds_22 : decode cX0_pairsAtOdds 22 = .ok (.iadd, 1) := by decide +kernel
theorem dX0_pairsAtOdds_23 : decode cX0_pairsAtOdds 23 = .ok (.istore_n 1, 1) := by decide +kernel
theorem dX0_pairsAtOdds_24 : decode cX0_pairsAtOdds 24 = .ok (.iinc 2 1, 3) := by decide +kernel
theorem dX0_pairsAtOdds_27 : decode cX0_pairsAtOdds 27 = .ok (.goto (-23), 3) := by decide +kernel
theorem dX0_pairsAtOdds_30 : decode cX0_pairsAtOdds 30 = .ok (.iload_n 1, 1) := by decide +kernel
theorem dX0_pairsAtOdds_31 : decode cX0_pairsAtOdds 31 = .ok (.iconst 2, 1) := by decide +kernel
theorem dX0_pairsAtOdds_32 : decode cX0_pairsAtOdds 32 = .ok (.idiv, 1) := by decide +kernel
theorem dX0_pairsAtOdds_33 : decode cX0_pairsAtOdds 33 = .ok (.ireturn, 1) := by decide +kernel
theorem dX0_seat_0 : decode cX0_seat 0 = .ok (.aload_n 0, 1) := by decide +kernel
theorem dX0_seat_1 : decode cX0_seat 1 = .ok (.getfield 42, 3) := by decide +kernel
theorem dX0_seat_4 : decode cX0_seat 4 = .ok (.iload_n 1, 1) := by decide +kernel
theorem dX0_seat_5 : decode cX0_seat 5 = .ok (.iaload, 1) := by decide +kernel
theorem dX0_seat_6 : decode cX0_seat 6 = .ok (.ifCond .lt 15, 3) := by decide +kernel
theorem dX0_seat_9 : decode cX0_seat 9 = .ok (.aload_n 0, 1) := by decide +kernel
theorem dX0_seat_10 : decode cX0_seat 10 = .ok (.getfield 24, 3) := by decide +kernel
theorem dX0_seat_13 : decode cX0_seat 13 = .ok (.aload_n 0, 1) := by decide +kernel
theorem dX0_seat_14 : decode cX0_seat 14 = .ok (.getfield 42, 3) := by decide +kernel
theorem dX0_seat_17 : decode cX0_seat 17 = .ok (.iload_n 1, 1) := by decide +kernel
theorem dX0_seat_18 : decode cX0_seat 18 = .ok (.iaload, 1) := by decide +kernel
theorem dX0_seat_19 : decode cX0_seat 19 = .ok (.iconst (-1), 1) := by decide +kernel
theorem dX0_seat_20 : decode cX0_seat 20 = .ok (.iastore, 1) := by decide +kernel
theorem dX0_seat_21 : decode cX0_seat 21 = .ok (.aload_n 0, 1) := by decide +kernel
theorem dX0_seat_22 : decode cX0_seat 22 = .ok (.getfield 42, 3) := by decide +kernel
theorem dX0_seat_25 : decode cX0_seat 25 = .ok (.iload_n 1, 1) := by decide +kernel
theorem dX0_seat_26 : decode cX0_seat 26 = .ok (.iload_n 2, 1) := by decide +kernel
theorem dX0_seat_27 : decode cX0_seat 27 = .ok (.iastore, 1) := by decide +kernel
theorem dX0_seat_28 : decode cX0_seat 28 = .ok (.iload_n 2, 1) := by decide +kernel
theorem dX0_seat_29 : decode cX0_seat 29 = .ok (.ifCond .lt 10, 3) := by decide +kernel
theorem dX0_seat_32 : decode cX0_seat 32 = .ok (.aload_n 0, 1) := by decide +kernel
theorem dX0_seat_33 : decode cX0_seat 33 = .ok (.getfield 24, 3) := by decide +kernel
theorem dX0_seat_36 : decode cX0_seat 36 = .ok (.iload_n 2, 1) := by decide +kernel
theorem dX0_seat_37 : decode cX0_seat 37 = .ok (.iload_n 1, 1) := by decide +kernel
theorem dX0_seat_38 : decode cX0_seat 38 = .ok (.iastore, 1) := by decide +kernel
theorem dX0_seat_39 : decode cX0_seat 39 = .ok (.return_, 1) := by decide +kernel
theorem dX0_swap_0 : decode cX0_swap 0 = .ok (.aload_n 0, 1) := by decide +kernel
theorem dX0_swap_1 : decode cX0_swap 1 = .ok (.getfield 42, 3) := by decide +kernel
theorem dX0_swap_4 : decode cX0_swap 4 = .ok (.iload_n 1, 1) := by decide +kernel
theorem dX0_swap_5 : decode cX0_swap 5 = .ok (.iaload, 1) := by decide +kernel
theorem dX0_swap_6 : decode cX0_swap 6 = .ok (.istore_n 3, 1) := by decide +kernel
theorem dX0_swap_7 : decode cX0_swap 7 = .ok (.aload_n 0, 1) := by decide +kernel
theorem dX0_swap_8 : decode cX0_swap 8 = .ok (.getfield 42, 3) := by decide +kernel
theorem dX0_swap_11 : decode cX0_swap 11 = .ok (.iload_n 2, 1) := by decide +kernel
theorem dX0_swap_12 : decode cX0_swap 12 = .ok (.iaload, 1) := by decide +kernel
theorem dX0_swap_13 : decode cX0_swap 13 = .ok (.istore 4, 2) := by decide +kernel
theorem dX0_swap_15 : decode cX0_swap 15 = .ok (.aload_n 0, 1) := by decide +kernel
theorem dX0_swap_16 : decode cX0_swap 16 = .ok (.getfield 42, 3) := by decide +kernel
theorem dX0_swap_19 : decode cX0_swap 19 = .ok (.iload_n 1, 1) := by decide +kernel
theorem dX0_swap_20 : decode cX0_swap 20 = .ok (.iload 4, 2) := by decide +kernel
theorem dX0_swap_22 : decode cX0_swap 22 = .ok (.iastore, 1) := by decide +kernel
theorem dX0_swap_23 : decode cX0_swap 23 = .ok (.aload_n 0, 1) := by decide +kernel
theorem dX0_swap_24 : decode cX0_swap 24 = .ok (.getfield 42, 3) := by decide +kernel
theorem dX0_swap_27 : decode cX0_swap 27 = .ok (.iload_n 2, 1) := by decide +kernel
theorem dX0_swap_28 : decode cX0_swap 28 = .ok (.iload_n 3, 1) := by decide +kernel
theorem dX0_swap_29 : decode cX0_swap 29 = .ok (.iastore, 1) := by decide +kernel
theorem dX0_swap_30 : decode cX0_swap 30 = .ok (.iload 4, 2) := by decide +kernel
theorem dX0_swap_32 : decode cX0_swap 32 = .ok (.ifCond .lt 11, 3) := by decide +kernel
theorem dX0_swap_35 : decode cX0_swap 35 = .ok (.aload_n 0, 1) := by decide +kernel
theorem dX0_swap_36 : decode cX0_swap 36 = .ok (.getfield 24, 3) := by decide +kernel
theorem dX0_swap_39 : decode cX0_swap 39 = .ok (.iload 4, 2) := by decide +kernel
theorem dX0_swap_41 : decode cX0_swap 41 = .ok (.iload_n 1, 1) := by decide +kernel
theorem dX0_swap_42 : decode cX0_swap 42 = .ok (.iastore, 1) := by decide +kernel
theorem dX0_swap_43 : decode cX0_swap 43 = .ok (.iload_n 3, 1) := by decide +kernel
theorem dX0_swap_44 : decode cX0_swap 44 = .ok (.ifCond .lt 10, 3) := by decide +kernel
theorem dX0_swap_47 : decode cX0_swap 47 = .ok (.aload_n 0, 1) := by decide +kernel
theorem dX0_swap_48 : decode cX0_swap 48 = .ok (.getfield 24, 3) := by decide +kernel
theorem dX0_swap_51 : decode cX0_swap 51 = .ok (.iload_n 3, 1) := by decide +kernel
theorem dX0_swap_52 : decode cX0_swap 52 = .ok (.iload_n 2, 1) := by decide +kernel
theorem dX0_swap_53 : decode cX0_swap 53 = .ok (.iastore, 1) := by decide +kernel
theorem dX0_swap_54 : decode cX0_swap 54 = .ok (.return_, 1) := by decide +kernel
theorem dX0_isFreeFor_0 : decode cX0_isFreeFor 0 = .ok (.iload_n 2, 1) := by decide +kernel
theorem dX0_isFreeFor_1 : decode cX0_isFreeFor 1 = .ok (.invokestatic 64, 3) := by decide +kernel
theorem dX0_isFreeFor_4 : decode cX0_isFreeFor 4 = .ok (.ifCond .eq 27, 3) := by decide +kernel
theorem dX0_isFreeFor_7 : decode cX0_isFreeFor 7 = .ok (.aload_n 0, 1) := by decide +kernel
theorem dX0_isFreeFor_8 : decode cX0_isFreeFor 8 = .ok (.getfield 24, 3) := by decide +kernel
theorem dX0_isFreeFor_11 : decode cX0_isFreeFor 11 = .ok (.iload_n 2, 1) := by decide +kernel
theorem dX0_isFreeFor_12 : decode cX0_isFreeFor 12 = .ok (.iaload, 1) := by decide +kernel
theorem dX0_isFreeFor_13 : decode cX0_isFreeFor 13 = .ok (.iconst (-1), 1) := by decide +kernel
theorem dX0_isFreeFor_14 : decode cX0_isFreeFor 14 = .ok (.if_icmp .eq 13, 3) := by decide +kernel
theorem dX0_isFreeFor_17 : decode cX0_isFreeFor 17 = .ok (.aload_n 0, 1) := by decide +kernel
theorem dX0_isFreeFor_18 : decode cX0_isFreeFor 18 = .ok (.getfield 24, 3) := by decide +kernel
theorem dX0_isFreeFor_21 : decode cX0_isFreeFor 21 = .ok (.iload_n 2, 1) := by decide +kernel
theorem dX0_isFreeFor_22 : decode cX0_isFreeFor 22 = .ok (.iaload, 1) := by decide +kernel
theorem dX0_isFreeFor_23 : decode cX0_isFreeFor 23 = .ok (.iload_n 1, 1) := by decide +kernel
theorem dX0_isFreeFor_24 : decode cX0_isFreeFor 24 = .ok (.if_icmp .ne 7, 3) := by decide +kernel
theorem dX0_isFreeFor_27 : decode cX0_isFreeFor 27 = .ok (.iconst 1, 1) := by decide +kernel
theorem dX0_isFreeFor_28 : decode cX0_isFreeFor 28 = .ok (.goto 4, 3) := by decide +kernel
theorem dX0_isFreeFor_31 : decode cX0_isFreeFor 31 = .ok (.iconst 0, 1) := by decide +kernel
theorem dX0_isFreeFor_32 : decode cX0_isFreeFor 32 = .ok (.ireturn, 1) := by decide +kernel
theorem dX0_whoSits_0 : decode cX0_whoSits 0 = .ok (.iconst 0, 1) := by decide +kernel
theorem dX0_whoSits_1 : decode cX0_whoSits 1 = .ok (.istore_n 1, 1) := by decide +kernel
theorem dX0_whoSits_2 : decode cX0_whoSits 2 = .ok (.iconst 0, 1) := by decide +kernel
theorem dX0_whoSits_3 : decode cX0_whoSits 3 = .ok (.istore_n 2, 1) := by decide +kernel
theorem dX0_whoSits_4 : decode cX0_whoSits 4 = .ok (.iload_n 2, 1) := by decide +kernel
theorem dX0_whoSits_5 : decode cX0_whoSits 5 = .ok (.aload_n 0, 1) := by decide +kernel
theorem dX0_whoSits_6 : decode cX0_whoSits 6 = .ok (.getfield 51, 3) := by decide +kernel
theorem dX0_whoSits_9 : decode cX0_whoSits 9 = .ok (.if_icmp .ge 24, 3) := by decide +kernel
theorem dX0_whoSits_12 : decode cX0_whoSits 12 = .ok (.aload_n 0, 1) := by decide +kernel
theorem dX0_whoSits_13 : decode cX0_whoSits 13 = .ok (.getfield 42, 3) := by decide +kernel
theorem dX0_whoSits_16 : decode cX0_whoSits 16 = .ok (.iload_n 2, 1) := by decide +kernel
theorem dX0_whoSits_17 : decode cX0_whoSits 17 = .ok (.iaload, 1) := by decide +kernel
theorem dX0_whoSits_18 : decode cX0_whoSits 18 = .ok (.ifCond .lt 9, 3) := by decide +kernel
theorem dX0_whoSits_21 : decode cX0_whoSits 21 = .ok (.iload_n 1, 1) := by decide +kernel
theorem dX0_whoSits_22 : decode cX0_whoSits 22 = .ok (.iconst 1, 1) := by decide +kernel
theorem dX0_whoSits_23 : decode cX0_whoSits 23 = .ok (.iload_n 2, 1) := by decide +kernel
theorem dX0_whoSits_24 : decode cX0_whoSits 24 = .ok (.ishl, 1) := by decide +kernel
theorem dX0_whoSits_25 : decode cX0_whoSits 25 = .ok (.ior, 1) := by decide +kernel
theorem dX0_whoSits_26 : decode cX0_whoSits 26 = .ok (.istore_n 1, 1) := by decide +kernel
theorem dX0_whoSits_27 : decode cX0_whoSits 27 = .ok (.iinc 2 1, 3) := by decide +kernel
theorem dX0_whoSits_30 : decode cX0_whoSits 30 = .ok (.goto (-26), 3) := by decide +kernel
theorem dX0_whoSits_33 : decode cX0_whoSits 33 = .ok (.iload_n 1, 1) := by decide +kernel
theorem dX0_whoSits_34 : decode cX0_whoSits 34 = .ok (.ireturn, 1) := by decide +kernel
theorem dX0_emptyChairs_0 : decode cX0_emptyChairs 0 = .ok (.iconst 0, 1) := by decide +kernel
theorem dX0_emptyChairs_1 : decode cX0_emptyChairs 1 = .ok (.istore_n 1, 1) := by decide +kernel
theorem dX0_emptyChairs_2 : decode cX0_emptyChairs 2 = .ok (.iconst 0, 1) := by decide +kernel
theorem dX0_emptyChairs_3 : decode cX0_emptyChairs 3 = .ok (.istore_n 2, 1) := by decide +kernel
theorem dX0_emptyChairs_4 : decode cX0_emptyChairs 4 = .ok (.iload_n 2, 1) := by decide +kernel
theorem dX0_emptyChairs_5 : decode cX0_emptyChairs 5 = .ok (.bipush 8, 2) := by decide +kernel
theorem dX0_emptyChairs_7 : decode cX0_emptyChairs 7 = .ok (.if_icmp .ge 25, 3) := by decide +kernel
theorem dX0_emptyChairs_10 : decode cX0_emptyChairs 10 = .ok (.aload_n 0, 1) := by decide +kernel
theorem dX0_emptyChairs_11 : decode cX0_emptyChairs 11 = .ok (.getfield 24, 3) := by decide +kernel
theorem dX0_emptyChairs_14 : decode cX0_emptyChairs 14 = .ok (.iload_n 2, 1) := by decide +kernel
theorem dX0_emptyChairs_15 : decode cX0_emptyChairs 15 = .ok (.iaload, 1) := by decide +kernel
theorem dX0_emptyChairs_16 : decode cX0_emptyChairs 16 = .ok (.iconst (-1), 1) := by decide +kernel
theorem dX0_emptyChairs_17 : decode cX0_emptyChairs 17 = .ok (.if_icmp .ne 9, 3) := by decide +kernel
theorem dX0_emptyChairs_20 : decode cX0_emptyChairs 20 = .ok (.iload_n 1, 1) := by decide +kernel
theorem dX0_emptyChairs_21 : decode cX0_emptyChairs 21 = .ok (.iconst 1, 1) := by decide +kernel
theorem dX0_emptyChairs_22 : decode cX0_emptyChairs 22 = .ok (.iload_n 2, 1) := by decide +kernel
theorem dX0_emptyChairs_23 : decode cX0_emptyChairs 23 = .ok (.ishl, 1) := by decide +kernel
theorem dX0_emptyChairs_24 : decode cX0_emptyChairs 24 = .ok (.ior, 1) := by decide +kernel
theorem dX0_emptyChairs_25 : decode cX0_emptyChairs 25 = .ok (.istore_n 1, 1) := by decide +kernel
theorem dX0_emptyChairs_26 : decode cX0_emptyChairs 26 = .ok (.iinc 2 1, 3) := by decide +kernel
theorem dX0_emptyChairs_29 : decode cX0_emptyChairs 29 = .ok (.goto (-25), 3) := by decide +kernel
theorem dX0_emptyChairs_32 : decode cX0_emptyChairs 32 = .ok (.iload_n 1, 1) := by decide +kernel
theorem dX0_emptyChairs_33 : decode cX0_emptyChairs 33 = .ok (.ireturn, 1) := by decide +kernel
theorem dX0_hasSun_0 : decode cX0_hasSun 0 = .ok (.aload_n 0, 1) := by decide +kernel
theorem dX0_hasSun_1 : decode cX0_hasSun 1 = .ok (.getfield 55, 3) := by decide +kernel
theorem dX0_hasSun_4 : decode cX0_hasSun 4 = .ok (.bipush 24, 2) := by decide +kernel
theorem dX0_hasSun_6 : decode cX0_hasSun 6 = .ok (.irem, 1) := by decide +kernel
theorem dX0_hasSun_7 : decode cX0_hasSun 7 = .ok (.istore_n 1, 1) := by decide +kernel
theorem dX0_hasSun_8 : decode cX0_hasSun 8 = .ok (.iload_n 1, 1) := by decide +kernel
theorem dX0_hasSun_9 : decode cX0_hasSun 9 = .ok (.bipush 10, 2) := by decide +kernel
theorem dX0_hasSun_11 : decode cX0_hasSun 11 = .ok (.if_icmp .lt 13, 3) := by decide +kernel
theorem dX0_hasSun_14 : decode cX0_hasSun 14 = .ok (.iload_n 1, 1) := by decide +kernel
theorem dX0_hasSun_15 : decode cX0_hasSun 15 = .ok (.bipush 14, 2) := by decide +kernel
theorem dX0_hasSun_17 : decode cX0_hasSun 17 = .ok (.if_icmp .gt 7, 3) := by decide +kernel
theorem dX0_hasSun_20 : decode cX0_hasSun 20 = .ok (.iconst 1, 1) := by decide +kernel
theorem dX0_hasSun_21 : decode cX0_hasSun 21 = .ok (.goto 4, 3) := by decide +kernel
theorem dX0_hasSun_24 : decode cX0_hasSun 24 = .ok (.iconst 0, 1) := by decide +kernel
theorem dX0_hasSun_25 : decode cX0_hasSun 25 = .ok (.ireturn, 1) := by decide +kernel
theorem dX0_likes_0 : decode cX0_likes 0 = .ok (.aload_n 0, 1) := by decide +kernel
theorem dX0_likes_1 : decode cX0_likes 1 = .ok (.getfield 27, 3) := by decide +kernel
theorem dX0_likes_4 : decode cX0_likes 4 = .ok (.iload_n 1, 1) := by decide +kernel
theorem dX0_likes_5 : decode cX0_likes 5 = .ok (.iaload, 1) := by decide +kernel
theorem dX0_likes_6 : decode cX0_likes 6 = .ok (.istore_n 3, 1) := by decide +kernel
theorem dX0_likes_7 : decode cX0_likes 7 = .ok (.iload_n 3, 1) := by decide +kernel
theorem dX0_likes_8 : decode cX0_likes 8 = .ok (.iconst 3, 1) := by decide +kernel
theorem dX0_likes_9 : decode cX0_likes 9 = .ok (.if_icmp .eq 8, 3) := by decide +kernel
theorem dX0_likes_12 : decode cX0_likes 12 = .ok (.iload_n 3, 1) := by decide +kernel
theorem dX0_likes_13 : decode cX0_likes 13 = .ok (.iconst 5, 1) := by decide +kernel
theorem dX0_likes_14 : decode cX0_likes 14 = .ok (.if_icmp .ne 44, 3) := by decide +kernel
theorem dX0_likes_17 : decode cX0_likes 17 = .ok (.aload_n 0, 1) := by decide +kernel
theorem dX0_likes_18 : decode cX0_likes 18 = .ok (.getfield 9, 3) := by decide +kernel
theorem dX0_likes_21 : decode cX0_likes 21 = .ok (.iload_n 2, 1) := by decide +kernel
theorem dX0_likes_22 : decode cX0_likes 22 = .ok (.iaload, 1) := by decide +kernel
theorem dX0_likes_23 : decode cX0_likes 23 = .ok (.iconst 2, 1) := by decide +kernel
theorem dX0_likes_24 : decode cX0_likes 24 = .ok (.idiv, 1) := by decide +kernel
theorem dX0_likes_25 : decode cX0_likes 25 = .ok (.iconst 2, 1) := by decide +kernel
theorem dX0_likes_26 : decode cX0_likes 26 = .ok (.aload_n 0, 1) := by decide +kernel
theorem dX0_likes_27 : decode cX0_likes 27 = .ok (.getfield 21, 3) := by decide +kernel
theorem dX0_likes_30 : decode cX0_likes 30 = .ok (.iload_n 2, 1) := by decide +kernel
theorem dX0_likes_31 : decode cX0_likes 31 = .ok (.iaload, 1) := by decide +kernel
theorem dX0_likes_32 : decode cX0_likes 32 = .ok (.imul, 1) := by decide +kernel
theorem dX0_likes_33 : decode cX0_likes 33 = .ok (.isub, 1) := by decide +kernel
theorem dX0_likes_34 : decode cX0_likes 34 = .ok (.istore 4, 2) := by decide +kernel
theorem dX0_likes_36 : decode cX0_likes 36 = .ok (.iload_n 3, 1) := by decide +kernel
theorem dX0_likes_37 : decode cX0_likes 37 = .ok (.iconst 5, 1) := by decide +kernel
theorem dX0_likes_38 : decode cX0_likes 38 = .ok (.if_icmp .ne 17, 3) := by decide +kernel
theorem dX0_likes_41 : decode cX0_likes 41 = .ok (.iload_n 2, 1) := by decide +kernel
theorem dX0_likes_42 : decode cX0_likes 42 = .ok (.bipush 7, 2) := by decide +kernel
theorem dX0_likes_44 : decode cX0_likes 44 = .ok (.if_icmp .ne 11, 3) := by decide +kernel
theorem dX0_likes_47 : decode cX0_likes 47 = .ok (.iload 4, 2) := by decide +kernel
theorem dX0_likes_49 : decode cX0_likes 49 = .ok (.bipush 6, 2) := by decide +kernel
theorem dX0_likes_51 : decode cX0_likes 51 = .ok (.iadd, 1) := by decide +kernel
theorem dX0_likes_52 : decode cX0_likes 52 = .ok (.goto 5, 3) := by decide +kernel
theorem dX0_likes_55 : decode cX0_likes 55 = .ok (.iload 4, 2) := by decide +kernel
theorem dX0_likes_57 : decode cX0_likes 57 = .ok (.ireturn, 1) := by decide +kernel
theorem dX0_likes_58 : decode cX0_likes 58 = .ok (.aload_n 0, 1) := by decide +kernel
theorem dX0_likes_59 : decode cX0_likes 59 = .ok (.getfield 9, 3) := by decide +kernel
theorem dX0_likes_62 : decode cX0_likes 62 = .ok (.iload_n 2, 1) := by decide +kernel
theorem dX0_likes_63 : decode cX0_likes 63 = .ok (.iaload, 1) := by decide +kernel
theorem dX0_likes_64 : decode cX0_likes 64 = .ok (.aload_n 0, 1) := by decide +kernel
theorem dX0_likes_65 : decode cX0_likes 65 = .ok (.getfield 21, 3) := by decide +kernel
theorem dX0_likes_68 : decode cX0_likes 68 = .ok (.iload_n 2, 1) := by decide +kernel
theorem dX0_likes_69 : decode cX0_likes 69 = .ok (.iaload, 1) := by decide +kernel
theorem dX0_likes_70 : decode cX0_likes 70 = .ok (.isub, 1) := by decide +kernel
theorem dX0_likes_71 : decode cX0_likes 71 = .ok (.istore 4, 2) := by decide +kernel
theorem dX0_likes_73 : decode cX0_likes 73 = .ok (.aload_n 0, 1) := by decide +kernel
theorem dX0_likes_74 : decode cX0_likes 74 = .ok (.getfield 9, 3) := by decide +kernel
theorem dX0_likes_77 : decode cX0_likes 77 = .ok (.iload_n 2, 1) := by decide +kernel
theorem dX0_likes_78 : decode cX0_likes 78 = .ok (.iaload, 1) := by decide +kernel
theorem dX0_likes_79 : decode cX0_likes 79 = .ok (.bipush 10, 2) := by decide +kernel
theorem dX0_likes_81 : decode cX0_likes 81 = .ok (.if_icmp .le 13, 3) := by decide +kernel
theorem dX0_likes_84 : decode cX0_likes 84 = .ok (.aload_n 0, 1) := by decide +kernel
theorem dX0_likes_85 : decode cX0_likes 85 = .ok (.invokevirtual 68, 3) := by decide +kernel
theorem dX0_likes_88 : decode cX0_likes 88 = .ok (.ifCond .eq 6, 3) := by decide +kernel
theorem dX0_likes_91 : decode cX0_likes 91 = .ok (.iinc 4 (-4), 3) := by decide +kernel
theorem dX0_likes_94 : decode cX0_likes 94 = .ok (.iload_n 3, 1) := by decide +kernel
theorem dX0_likes_95 : decode cX0_likes 95 = .ok (.iconst 2, 1) := by decide +kernel
theorem dX0_likes_96 : decode cX0_likes 96 = .ok (.if_icmp .ne 6, 3) := by decide +kernel
theorem dX0_likes_99 : decode cX0_likes 99 = .ok (.iinc 4 3, 3) := by decide +kernel
theorem dX0_likes_102 : decode cX0_likes 102 = .ok (.aload_n 0, 1) := by decide +kernel
theorem dX0_likes_103 : decode cX0_likes 103 = .ok (.getfield 33, 3) := by decide +kernel
theorem dX0_likes_106 : decode cX0_likes 106 = .ok (.iload_n 1, 1) := by decide +kernel
theorem dX0_likes_107 : decode cX0_likes 107 = .ok (.iaload, 1) := by decide +kernel
theorem dX0_likes_108 : decode cX0_likes 108 = .ok (.iload_n 2, 1) := by decide +kernel
theorem dX0_likes_109 : decode cX0_likes 109 = .ok (.if_icmp .ne 42, 3) := by decide +kernel
theorem dX0_likes_112 : decode cX0_likes 112 = .ok (.iload_n 3, 1) := by decide +kernel
theorem dX0_likes_113 : decode cX0_likes 113 = .ok (.iconst 1, 1) := by decide +kernel
theorem dX0_likes_114 : decode cX0_likes 114 = .ok (.if_icmp .eq 8, 3) := by decide +kernel
theorem dX0_likes_117 : decode cX0_likes 117 = .ok (.iload_n 3, 1) := by decide +kernel
theorem dX0_likes_118 : decode cX0_likes 118 = .ok (.iconst 4, 1) := by decide +kernel
theorem dX0_likes_119 : decode cX0_likes 119 = .ok (.if_icmp .ne 32, 3) := by decide +kernel
theorem dX0_likes_122 : decode cX0_likes 122 = .ok (.iload 4, 2) := by decide +kernel
theorem dX0_likes_124 : decode cX0_likes 124 = .ok (.aload_n 0, 1) := by decide +kernel
theorem dX0_likes_125 : decode cX0_likes 125 = .ok (.getfield 30, 3) := by decide +kernel
theorem dX0_likes_128 : decode cX0_likes 128 = .ok (.iload_n 1, 1) := by decide +kernel
theorem dX0_likes_129 : decode cX0_likes 129 = .ok (.iaload, 1) := by decide +kernel
theorem dX0_likes_130 : decode cX0_likes 130 = .ok (.iconst 4, 1) := by decide +kernel
theorem dX0_likes_131 : decode cX0_likes 131 = .ok (.idiv, 1) := by decide +kernel
theorem dX0_likes_132 : decode cX0_likes 132 = .ok (.iadd, 1) := by decide +kernel
theorem dX0_likes_133 : decode cX0_likes 133 = .ok (.istore 4, 2) := by decide +kernel
theorem dX0_likes_135 : decode cX0_likes 135 = .ok (.iload 4, 2) := by decide +kernel
theorem dX0_likes_137 : decode cX0_likes 137 = .ok (.iload_n 3, 1) := by decide +kernel
theorem dX0_likes_138 : decode cX0_likes 138 = .ok (.iconst 4, 1) := by decide +kernel
theorem dX0_likes_139 : decode cX0_likes 139 = .ok (.if_icmp .ne 8, 3) := by decide +kernel
theorem dX0_likes_142 : decode cX0_likes 142 = .ok (.bipush 10, 2) := by decide +kernel
theorem dX0_likes_144 : decode cX0_likes 144 = .ok (.goto 4, 3) := by decide +kernel
theorem dX0_likes_147 : decode cX0_likes 147 = .ok (.iconst 0, 1) := by decide +kernel
theorem dX0_likes_148 : decode cX0_likes 148 = .ok (.iadd, 1) := by decide +kernel
theorem dX0_likes_149 : decode cX0_likes 149 = .ok (.istore 4, 2) := by decide +kernel
theorem dX0_likes_151 : decode cX0_likes 151 = .ok (.iload 4, 2) := by decide +kernel
theorem dX0_likes_153 : decode cX0_likes 153 = .ok (.ireturn, 1) := by decide +kernel
theorem dX0_minds_0 : decode cX0_minds 0 = .ok (.aload_n 0, 1) := by decide +kernel
theorem dX0_minds_1 : decode cX0_minds 1 = .ok (.iload_n 1, 1) := by decide +kernel
theorem dX0_minds_2 : decode cX0_minds 2 = .ok (.iload_n 2, 1) := by decide +kernel
theorem dX0_minds_3 : decode cX0_minds 3 = .ok (.invokevirtual 72, 3) := by decide +kernel
theorem dX0_minds_6 : decode cX0_minds 6 = .ok (.ifCond .eq 8, 3) := by decide +kernel
theorem dX0_minds_9 : decode cX0_minds 9 = .ok (.bipush (-6), 2) := by decide +kernel
theorem dX0_minds_11 : decode cX0_minds 11 = .ok (.goto 4, 3) := by decide +kernel
theorem dX0_minds_14 : decode cX0_minds 14 = .ok (.iconst 1, 1) := by decide +kernel
theorem dX0_minds_15 : decode cX0_minds 15 = .ok (.istore_n 3, 1) := by decide +kernel
theorem dX0_minds_16 : decode cX0_minds 16 = .ok (.aload_n 0, 1) := by decide +kernel
theorem dX0_minds_17 : decode cX0_minds 17 = .ok (.getfield 27, 3) := by decide +kernel
theorem dX0_minds_20 : decode cX0_minds 20 = .ok (.iload_n 1, 1) := by decide +kernel
theorem dX0_minds_21 : decode cX0_minds 21 = .ok (.iaload, 1) := by decide +kernel
theorem dX0_minds_22 : decode cX0_minds 22 = .ok (.tableswitch 59 2 5 #[30, 34, 36, 40], 30) := by decide +kernel
theorem dX0_minds_52 : decode cX0_minds 52 = .ok (.iconst 2, 1) := by decide +kernel
theorem dX0_minds_53 : decode cX0_minds 53 = .ok (.iload_n 3, 1) := by decide +kernel
theorem dX0_minds_54 : decode cX0_minds 54 = .ok (.imul, 1) := by decide +kernel
theorem dX0_minds_55 : decode cX0_minds 55 = .ok (.ireturn, 1) := by decide +kernel
theorem dX0_minds_56 : decode cX0_minds 56 = .ok (.iconst 0, 1) := by decide +kernel
theorem dX0_minds_57 : decode cX0_minds 57 = .ok (.ireturn, 1) := by decide +kernel
theorem dX0_minds_58 : decode cX0_minds 58 = .ok (.iload_n 3, 1) := by decide +kernel
theorem dX0_minds_59 : decode cX0_minds 59 = .ok (.iconst 2, 1) := by decide +kernel
theorem dX0_minds_60 : decode cX0_minds 60 = .ok (.isub, 1) := by decide +kernel
theorem dX0_minds_61 : decode cX0_minds 61 = .ok (.ireturn, 1) := by decide +kernel
theorem dX0_minds_62 : decode cX0_minds 62 = .ok (.aload_n 0, 1) := by decide +kernel
theorem dX0_minds_63 : decode cX0_minds 63 = .ok (.getfield 27, 3) := by decide +kernel
theorem dX0_minds_66 : decode cX0_minds 66 = .ok (.iload_n 2, 1) := by decide +kernel
theorem dX0_minds_67 : decode cX0_minds 67 = .ok (.iaload, 1) := by decide +kernel
theorem dX0_minds_68 : decode cX0_minds 68 = .ok (.iconst 2, 1) := by decide +kernel
theorem dX0_minds_69 : decode cX0_minds 69 = .ok (.invokestatic 76, 3) := by decide +kernel
theorem dX0_minds_72 : decode cX0_minds 72 = .ok (.ifCond .eq 7, 3) := by decide +kernel
theorem dX0_minds_75 : decode cX0_minds 75 = .ok (.iconst (-1), 1) := by decide +kernel
theorem dX0_minds_76 : decode cX0_minds 76 = .ok (.goto 4, 3) := by decide +kernel
theorem dX0_minds_79 : decode cX0_minds 79 = .ok (.iconst 0, 1) := by decide +kernel
theorem dX0_minds_80 : decode cX0_minds 80 = .ok (.ireturn, 1) := by decide +kernel
theorem dX0_minds_81 : decode cX0_minds 81 = .ok (.iload_n 3, 1) := by decide +kernel
theorem dX0_minds_82 : decode cX0_minds 82 = .ok (.ireturn, 1) := by decide +kernel
theorem dX0_givesUp_0 : decode cX0_givesUp 0 = .ok (.aload_n 0, 1) := by decide +kernel
theorem dX0_givesUp_1 : decode cX0_givesUp 1 = .ok (.getfield 27, 3) := by decide +kernel
theorem dX0_givesUp_4 : decode cX0_givesUp 4 = .ok (.iload_n 1, 1) := by decide +kernel
theorem dX0_givesUp_5 : decode cX0_givesUp 5 = .ok (.iaload, 1) := by decide +kernel
theorem dX0_givesUp_6 : decode cX0_givesUp 6 = .ok (.tableswitch 52 1 5 #[34, 52, 47, 49, 47], 34) := by decide +kernel
theorem dX0_givesUp_40 : decode cX0_givesUp 40 = .ok (.bipush 8, 2) := by decide +kernel
theorem dX0_givesUp_42 : decode cX0_givesUp 42 = .ok (.aload_n 0, 1) := by decide +kernel
theorem dX0_givesUp_43 : decode cX0_givesUp 43 = .ok (.getfield 30, 3) := by decide +kernel
theorem dX0_givesUp_46 : decode cX0_givesUp 46 = .ok (.iload_n 1, 1) := by decide +kernel
theorem dX0_givesUp_47 : decode cX0_givesUp 47 = .ok (.iaload, 1) := by decide +kernel
theorem dX0_givesUp_48 : decode cX0_givesUp 48 = .ok (.bipush 10, 2) := by decide +kernel
theorem dX0_givesUp_50 : decode cX0_givesUp 50 = .ok (.idiv, 1) := by decide +kernel
theorem dX0_givesUp_51 : decode cX0_givesUp 51 = .ok (.iadd, 1) := by decide +kernel
theorem dX0_givesUp_52 : decode cX0_givesUp 52 = .ok (.ireturn, 1) := by decide +kernel
theorem dX0_givesUp_53 : decode cX0_givesUp 53 = .ok (.iconst 4, 1) := by decide +kernel
theorem dX0_givesUp_54 : decode cX0_givesUp 54 = .ok (.ireturn, 1) := by decide +kernel
theorem dX0_givesUp_55 : decode cX0_givesUp 55 = .ok (.bipush 99, 2) := by decide +kernel
theorem dX0_givesUp_57 : decode cX0_givesUp 57 = .ok (.ireturn, 1) := by decide +kernel
theorem dX0_givesUp_58 : decode cX0_givesUp 58 = .ok (.bipush 8, 2) := by decide +kernel
theorem dX0_givesUp_60 : decode cX0_givesUp 60 = .ok (.ireturn, 1) := by decide +kernel
theorem dX0_howWell_0 : decode cX0_howWell 0 = .ok (.aload_n 0, 1) := by decide +kernel
theorem dX0_howWell_1 : decode cX0_howWell 1 = .ok (.iload_n 1, 1) := by decide +kernel
theorem dX0_howWell_2 : decode cX0_howWell 2 = .ok (.iload_n 2, 1) := by decide +kernel
theorem dX0_howWell_3 : decode cX0_howWell 3 = .ok (.invokevirtual 79, 3) := by decide +kernel
theorem dX0_howWell_6 : decode cX0_howWell 6 = .ok (.istore_n 3, 1) := by decide +kernel
theorem dX0_howWell_7 : decode cX0_howWell 7 = .ok (.iload_n 2, 1) := by decide +kernel
theorem dX0_howWell_8 : decode cX0_howWell 8 = .ok (.ifCond .le 42, 3) := by decide +kernel
theorem dX0_howWell_11 : decode cX0_howWell 11 = .ok (.aload_n 0, 1) := by decide +kernel
theorem dX0_howWell_12 : decode cX0_howWell 12 = .ok (.getfield 24, 3) := by decide +kernel
theorem dX0_howWell_15 : decode cX0_howWell 15 = .ok (.iload_n 2, 1) := by decide +kernel
theorem dX0_howWell_16 : decode cX0_howWell 16 = .ok (.iconst 1, 1) := by decide +kernel
theorem dX0_howWell_17 : decode cX0_howWell 17 = .ok (.isub, 1) := by decide +kernel
theorem dX0_howWell_18 : decode cX0_howWell 18 = .ok (.iaload, 1) := by decide +kernel
theorem dX0_howWell_19 : decode cX0_howWell 19 = .ok (.ifCond .lt 31, 3) := by decide +kernel
theorem dX0_howWell_22 : decode cX0_howWell 22 = .ok (.aload_n 0, 1) := by decide +kernel
theorem dX0_howWell_23 : decode cX0_howWell 23 = .ok (.getfield 24, 3) := by decide +kernel
theorem dX0_howWell_26 : decode cX0_howWell 26 = .ok (.iload_n 2, 1) := by decide +kernel
theorem dX0_howWell_27 : decode cX0_howWell 27 = .ok (.iconst 1, 1) := by decide +kernel
theorem dX0_howWell_28 : decode cX0_howWell 28 = .ok (.isub, 1) := by decide +kernel
theorem dX0_howWell_29 : decode cX0_howWell 29 = .ok (.iaload, 1) := by decide +kernel
theorem dX0_howWell_30 : decode cX0_howWell 30 = .ok (.iload_n 1, 1) := by decide +kernel
theorem dX0_howWell_31 : decode cX0_howWell 31 = .ok (.if_icmp .eq 19, 3) := by decide +kernel
theorem dX0_howWell_34 : decode cX0_howWell 34 = .ok (.iload_n 3, 1) := by decide +kernel
theorem dX0_howWell_35 : decode cX0_howWell 35 = .ok (.aload_n 0, 1) := by decide +kernel
theorem dX0_howWell_36 : decode cX0_howWell 36 = .ok (.iload_n 1, 1) := by decide +kernel
theorem dX0_howWell_37 : decode cX0_howWell 37 = .ok (.aload_n 0, 1) := by decide +kernel
theorem dX0_howWell_38 : decode cX0_howWell 38 = .ok (.getfield 24, 3) := by decide +kernel
theorem dX0_howWell_41 : decode cX0_howWell 41 = .ok (.iload_n 2, 1) := by decide +kernel
theorem dX0_howWell_42 : decode cX0_howWell 42 = .ok (.iconst 1, 1) := by decide +kernel
theorem dX0_howWell_43 : decode cX0_howWell 43 = .ok (.isub, 1) := by decide +kernel
theorem dX0_howWell_44 : decode cX0_howWell 44 = .ok (.iaload, 1) := by decide +kernel
theorem dX0_howWell_45 : decode cX0_howWell 45 = .ok (.invokevirtual 83, 3) := by decide +kernel
theorem dX0_howWell_48 : decode cX0_howWell 48 = .ok (.iadd, 1) := by decide +kernel
theorem dX0_howWell_49 : decode cX0_howWell 49 = .ok (.istore_n 3, 1) := by decide +kernel
theorem dX0_howWell_50 : decode cX0_howWell 50 = .ok (.iload_n 2, 1) := by decide +kernel
theorem dX0_howWell_51 : decode cX0_howWell 51 = .ok (.bipush 7, 2) := by decide +kernel
theorem dX0_howWell_53 : decode cX0_howWell 53 = .ok (.if_icmp .ge 42, 3) := by decide +kernel
theorem dX0_howWell_56 : decode cX0_howWell 56 = .ok (.aload_n 0, 1) := by decide +kernel
theorem dX0_howWell_57 : decode cX0_howWell 57 = .ok (.getfield 24, 3) := by decide +kernel
theorem dX0_howWell_60 : decode cX0_howWell 60 = .ok (.iload_n 2, 1) := by decide +kernel
theorem dX0_howWell_61 : decode cX0_howWell 61 = .ok (.iconst 1, 1) := by decide +kernel
theorem dX0_howWell_62 : decode cX0_howWell 62 = .ok (.iadd, 1) := by decide +kernel
theorem dX0_howWell_63 : decode cX0_howWell 63 = .ok (.iaload, 1) := by decide +kernel
theorem dX0_howWell_64 : decode cX0_howWell 64 = .ok (.ifCond .lt 31, 3) := by decide +kernel
theorem dX0_howWell_67 : decode cX0_howWell 67 = .ok (.aload_n 0, 1) := by decide +kernel
theorem dX0_howWell_68 : decode cX0_howWell 68 = .ok (.getfield 24, 3) := by decide +kernel
theorem dX0_howWell_71 : decode cX0_howWell 71 = .ok (.iload_n 2, 1) := by decide +kernel
theorem dX0_howWell_72 : decode cX0_howWell 72 = .ok (.iconst 1, 1) := by decide +kernel
theorem dX0_howWell_73 : decode cX0_howWell 73 = .ok (.iadd, 1) := by decide +kernel
theorem dX0_howWell_74 : decode cX0_howWell 74 = .ok (.iaload, 1) := by decide +kernel
theorem dX0_howWell_75 : decode cX0_howWell 75 = .ok (.iload_n 1, 1) := by decide +kernel
theorem dX0_howWell_76 : decode cX0_howWell 76 = .ok (.if_icmp .eq 19, 3) := by decide +kernel
theorem dX0_howWell_79 : decode cX0_howWell 79 = .ok (.iload_n 3, 1) := by decide +kernel
theorem dX0_howWell_80 : decode cX0_howWell 80 = .ok (.aload_n 0, 1) := by decide +kernel
theorem dX0_howWell_81 : decode cX0_howWell 81 = .ok (.iload_n 1, 1) := by decide +kernel
theorem dX0_howWell_82 : decode cX0_howWell 82 = .ok (.aload_n 0, 1) := by decide +kernel
theorem dX0_howWell_83 : decode cX0_howWell 83 = .ok (.getfield 24, 3) := by decide +kernel
theorem dX0_howWell_86 : decode cX0_howWell 86 = .ok (.iload_n 2, 1) := by decide +kernel
theorem dX0_howWell_87 : decode cX0_howWell 87 = .ok (.iconst 1, 1) := by decide +kernel
theorem dX0_howWell_88 : decode cX0_howWell 88 = .ok (.iadd, 1) := by decide +kernel
theorem dX0_howWell_89 : decode cX0_howWell 89 = .ok (.iaload, 1) := by decide +kernel
theorem dX0_howWell_90 : decode cX0_howWell 90 = .ok (.invokevirtual 83, 3) := by decide +kernel
theorem dX0_howWell_93 : decode cX0_howWell 93 = .ok (.iadd, 1) := by decide +kernel
theorem dX0_howWell_94 : decode cX0_howWell 94 = .ok (.istore_n 3, 1) := by decide +kernel
theorem dX0_howWell_95 : decode cX0_howWell 95 = .ok (.iload_n 3, 1) := by decide +kernel
theorem dX0_howWell_96 : decode cX0_howWell 96 = .ok (.ireturn, 1) := by decide +kernel
theorem dX0_howWellNow_0 : decode cX0_howWellNow 0 = .ok (.aload_n 0, 1) := by decide +kernel
theorem dX0_howWellNow_1 : decode cX0_howWellNow 1 = .ok (.getfield 42, 3) := by decide +kernel
theorem dX0_howWellNow_4 : decode cX0_howWellNow 4 = .ok (.iload_n 1, 1) := by decide +kernel
theorem dX0_howWellNow_5 : decode cX0_howWellNow 5 = .ok (.iaload, 1) := by decide +kernel
theorem dX0_howWellNow_6 : decode cX0_howWellNow 6 = .ok (.ifCond .lt 17, 3) := by decide +kernel
theorem dX0_howWellNow_9 : decode cX0_howWellNow 9 = .ok (.aload_n 0, 1) := by decide +kernel
theorem dX0_howWellNow_10 : decode cX0_howWellNow 10 = .ok (.iload_n 1, 1) := by decide +kernel
theorem dX0_howWellNow_11 : decode cX0_howWellNow 11 = .ok (.aload_n 0, 1) := by decide +kernel
theorem dX0_howWellNow_12 : decode cX0_howWellNow 12 = .ok (.getfield 42, 3) := by decide +kernel
theorem dX0_howWellNow_15 : decode cX0_howWellNow 15 = .ok (.iload_n 1, 1) := by decide +kernel
theorem dX0_howWellNow_16 : decode cX0_howWellNow 16 = .ok (.iaload, 1) := by decide +kernel
theorem dX0_howWellNow_17 : decode cX0_howWellNow 17 = .ok (.invokevirtual 86, 3) := by decide +kernel
theorem dX0_howWellNow_20 : decode cX0_howWellNow 20 = .ok (.goto 6, 3) := by decide +kernel
theorem dX0_howWellNow_23 : decode cX0_howWellNow 23 = .ok (.sipush (-1000), 3) := by decide +kernel
theorem dX0_howWellNow_26 : decode cX0_howWellNow 26 = .ok (.ireturn, 1) := by decide +kernel
theorem dX0_together_0 : decode cX0_together 0 = .ok (.iconst 0, 1) := by decide +kernel
theorem dX0_together_1 : decode cX0_together 1 = .ok (.istore_n 1, 1) := by decide +kernel
theorem dX0_together_2 : decode cX0_together 2 = .ok (.iconst 0, 1) := by decide +kernel
theorem dX0_together_3 : decode cX0_together 3 = .ok (.istore_n 2, 1) := by decide +kernel
theorem dX0_together_4 : decode cX0_together 4 = .ok (.iload_n 2, 1) := by decide +kernel
theorem dX0_together_5 : decode cX0_together 5 = .ok (.aload_n 0, 1) := by decide +kernel
theorem dX0_together_6 : decode cX0_together 6 = .ok (.getfield 51, 3) := by decide +kernel
theorem dX0_together_9 : decode cX0_together 9 = .ok (.if_icmp .ge 32, 3) := by decide +kernel
theorem dX0_together_12 : decode cX0_together 12 = .ok (.aload_n 0, 1) := by decide +kernel
theorem dX0_together_13 : decode cX0_together 13 = .ok (.getfield 42, 3) := by decide +kernel
theorem dX0_together_16 : decode cX0_together 16 = .ok (.iload_n 2, 1) := by decide +kernel
theorem dX0_together_17 : decode cX0_together 17 = .ok (.iaload, 1) := by decide +kernel
theorem dX0_together_18 : decode cX0_together 18 = .ok (.ifCond .lt 17, 3) := by decide +kernel
theorem dX0_together_21 : decode cX0_together 21 = .ok (.iload_n 1, 1) := by decide +kernel
theorem dX0_together_22 : decode cX0_together 22 = .ok (.aload_n 0, 1) := by decide +kernel
theorem dX0_together_23 : decode cX0_together 23 = .ok (.iload_n 2, 1) := by decide +kernel
theorem dX0_together_24 : decode cX0_together 24 = .ok (.aload_n 0, 1) := by decide +kernel
theorem dX0_together_25 : decode cX0_together 25 = .ok (.getfield 42, 3) := by decide +kernel
theorem dX0_together_28 : decode cX0_together 28 = .ok (.iload_n 2, 1) := by decide +kernel
theorem dX0_together_29 : decode cX0_together 29 = .ok (.iaload, 1) := by decide +kernel
theorem dX0_together_30 : decode cX0_together 30 = .ok (.invokevirtual 86, 3) := by decide +kernel
theorem dX0_together_33 : decode cX0_together 33 = .ok (.iadd, 1) := by decide +kernel
theorem dX0_together_34 : decode cX0_together 34 = .ok (.istore_n 1, 1) := by decide +kernel
theorem dX0_together_35 : decode cX0_together 35 = .ok (.iinc 2 1, 3) := by decide +kernel
theorem dX0_together_38 : decode cX0_together 38 = .ok (.goto (-34), 3) := by decide +kernel
theorem dX0_together_41 : decode cX0_together 41 = .ok (.iload_n 1, 1) := by decide +kernel
theorem dX0_together_42 : decode cX0_together 42 = .ok (.ireturn, 1) := by decide +kernel
theorem dX0_pass_0 : decode cX0_pass 0 = .ok (.iconst 0, 1) := by decide +kernel
theorem dX0_pass_1 : decode cX0_pass 1 = .ok (.istore_n 2, 1) := by decide +kernel
theorem dX0_pass_2 : decode cX0_pass 2 = .ok (.iconst 0, 1) := by decide +kernel
theorem dX0_pass_3 : decode cX0_pass 3 = .ok (.istore_n 3, 1) := by decide +kernel
theorem dX0_pass_4 : decode cX0_pass 4 = .ok (.iload_n 3, 1) := by decide +kernel
theorem dX0_pass_5 : decode cX0_pass 5 = .ok (.iload_n 1, 1) := by decide +kernel
theorem dX0_pass_6 : decode cX0_pass 6 = .ok (.if_icmp .ge 14, 3) := by decide +kernel
theorem dX0_pass_9 : decode cX0_pass 9 = .ok (.aload_n 0, 1) := by decide +kernel
theorem dX0_pass_10 : decode cX0_pass 10 = .ok (.invokevirtual 89, 3) := by decide +kernel
theorem dX0_pass_13 : decode cX0_pass 13 = .ok (.istore_n 2, 1) := by decide +kernel
theorem dX0_pass_14 : decode cX0_pass 14 = .ok (.iinc 3 1, 3) := by decide +kernel
theorem dX0_pass_17 : decode cX0_pass 17 = .ok (.goto (-13), 3) := by decide +kernel
theorem dX0_pass_20 : decode cX0_pass 20 = .ok (.iload_n 2, 1) := by decide +kernel
theorem dX0_pass_21 : decode cX0_pass 21 = .ok (.ireturn, 1) := by decide +kernel
theorem dX0_passOne_0 : decode cX0_passOne 0 = .ok (.iconst 0, 1) := by decide +kernel
theorem dX0_passOne_1 : decode cX0_passOne 1 = .ok (.istore_n 1, 1) := by decide +kernel
theorem dX0_passOne_2 : decode cX0_passOne 2 = .ok (.iconst 0, 1) := by decide +kernel
theorem dX0_passOne_3 : decode cX0_passOne 3 = .ok (.istore_n 2, 1) := by decide +kernel
theorem dX0_passOne_4 : decode cX0_passOne 4 = .ok (.iload_n 2, 1) := by decide +kernel
theorem dX0_passOne_5 : decode cX0_passOne 5 = .ok (.aload_n 0, 1) := by decide +kernel
theorem dX0_passOne_6 : decode cX0_passOne 6 = .ok (.getfield 51, 3) := by decide +kernel
theorem dX0_passOne_9 : decode cX0_passOne 9 = .ok (.if_icmp .ge 28, 3) := by decide +kernel
theorem dX0_passOne_12 : decode cX0_passOne 12 = .ok (.aload_n 0, 1) := by decide +kernel
theorem dX0_passOne_13 : decode cX0_passOne 13 = .ok (.iload_n 2, 1) := by decide +kernel
theorem dX0_passOne_14 : decode cX0_passOne 14 = .ok (.invokevirtual 93, 3) := by decide +kernel
theorem dX0_passOne_17 : decode cX0_passOne 17 = .ok (.ifCond .ne 11, 3) := by decide +kernel
theorem dX0_passOne_20 : decode cX0_passOne 20 = .ok (.aload_n 0, 1) := by decide +kernel
theorem dX0_passOne_21 : decode cX0_passOne 21 = .ok (.iload_n 2, 1) := by decide +kernel
theorem dX0_passOne_22 : decode cX0_passOne 22 = .ok (.invokevirtual 96, 3) := by decide +kernel
theorem dX0_passOne_25 : decode cX0_passOne 25 = .ok (.ifCond .eq 6, 3) := by decide +kernel
theorem dX0_passOne_28 : decode cX0_passOne 28 = .ok (.iinc 1 1, 3) := by decide +kernel
theorem dX0_passOne_31 : decode cX0_passOne 31 = .ok (.iinc 2 1, 3) := by decide +kernel
theorem dX0_passOne_34 : decode cX0_passOne 34 = .ok (.goto (-30), 3) := by decide +kernel
theorem dX0_passOne_37 : decode cX0_passOne 37 = .ok (.aload_n 0, 1) := by decide +kernel
theorem dX0_passOne_38 : decode cX0_passOne 38 = .ok (.dup, 1) := by decide +kernel
theorem dX0_passOne_39 : decode cX0_passOne 39 = .ok (.getfield 55, 3) := by decide +kernel
theorem dX0_passOne_42 : decode cX0_passOne 42 = .ok (.iconst 1, 1) := by decide +kernel
theorem dX0_passOne_43 : decode cX0_passOne 43 = .ok (.iadd, 1) := by decide +kernel
theorem dX0_passOne_44 : decode cX0_passOne 44 = .ok (.putfield 55, 3) := by decide +kernel
theorem dX0_passOne_47 : decode cX0_passOne 47 = .ok (.aload_n 0, 1) := by decide +kernel
theorem dX0_passOne_48 : decode cX0_passOne 48 = .ok (.getfield 24, 3) := by decide +kernel
theorem dX0_passOne_51 : decode cX0_passOne 51 = .ok (.bipush 7, 2) := by decide +kernel
theorem dX0_passOne_53 : decode cX0_passOne 53 = .ok (.iaload, 1) := by decide +kernel
theorem dX0_passOne_54 : decode cX0_passOne 54 = .ok (.istore_n 2, 1) := by decide +kernel
theorem dX0_passOne_55 : decode cX0_passOne 55 = .ok (.iload_n 2, 1) := by decide +kernel
theorem dX0_passOne_56 : decode cX0_passOne 56 = .ok (.ifCond .lt 25, 3) := by decide +kernel
theorem dX0_passOne_59 : decode cX0_passOne 59 = .ok (.aload_n 0, 1) := by decide +kernel
theorem dX0_passOne_60 : decode cX0_passOne 60 = .ok (.getfield 39, 3) := by decide +kernel
theorem dX0_passOne_63 : decode cX0_passOne 63 = .ok (.iload_n 2, 1) := by decide +kernel
theorem dX0_passOne_64 : decode cX0_passOne 64 = .ok (.iaload, 1) := by decide +kernel
theorem dX0_passOne_65 : decode cX0_passOne 65 = .ok (.sipush 9999, 3) := by decide +kernel
theorem dX0_passOne_68 : decode cX0_passOne 68 = .ok (.if_icmp .ge 13, 3) := by decide +kernel
theorem dX0_passOne_71 : decode cX0_passOne 71 = .ok (.aload_n 0, 1) := by decide +kernel
theorem dX0_passOne_72 : decode cX0_passOne 72 = .ok (.getfield 39, 3) := by decide +kernel
theorem dX0_passOne_75 : decode cX0_passOne 75 = .ok (.iload_n 2, 1) := by decide +kernel
theorem dX0_passOne_76 : decode cX0_passOne 76 = .ok (.dup2, 1) := by decide +kernel
theorem dX0_passOne_77 : decode cX0_passOne 77 = .ok (.iaload, 1) := by decide +kernel
theorem dX0_passOne_78 : decode cX0_passOne 78 = .ok (.iconst 1, 1) := by decide +kernel
theorem dX0_passOne_79 : decode cX0_passOne 79 = .ok (.iadd, 1) := by decide +kernel
theorem dX0_passOne_80 : decode cX0_passOne 80 = .ok (.iastore, 1) := by decide +kernel
theorem dX0_passOne_81 : decode cX0_passOne 81 = .ok (.iload_n 1, 1) := by decide +kernel
theorem dX0_passOne_82 : decode cX0_passOne 82 = .ok (.ireturn, 1) := by decide +kernel
theorem dX0_movesToEmpty_0 : decode cX0_movesToEmpty 0 = .ok (.iconst (-1), 1) := by decide +kernel
theorem dX0_movesToEmpty_1 : decode cX0_movesToEmpty 1 = .ok (.istore_n 2, 1) := by decide +kernel
theorem dX0_movesToEmpty_2 : decode cX0_movesToEmpty 2 = .ok (.iconst 0, 1) := by decide +kernel
theorem dX0_movesToEmpty_3 : decode cX0_movesToEmpty 3 = .ok (.istore_n 3, 1) := by decide +kernel
theorem dX0_movesToEmpty_4 : decode cX0_movesToEmpty 4 = .ok (.iconst 0, 1) := by decide +kernel
theorem dX0_movesToEmpty_5 : decode cX0_movesToEmpty 5 = .ok (.istore 4, 2) := by decide +kernel
theorem dX0_movesToEmpty_7 : decode cX0_movesToEmpty 7 = .ok (.iload 4, 2) := by decide +kernel
theorem dX0_movesToEmpty_9 : decode cX0_movesToEmpty 9 = .ok (.bipush 8, 2) := by decide +kernel
theorem dX0_movesToEmpty_11 : decode cX0_movesToEmpty 11 = .ok (.if_icmp .ge 46, 3) := by decide +kernel
theorem dX0_movesToEmpty_14 : decode cX0_movesToEmpty 14 = .ok (.aload_n 0, 1) := by decide +kernel
theorem dX0_movesToEmpty_15 : decode cX0_movesToEmpty 15 = .ok (.getfield 24, 3) := by decide +kernel
theorem dX0_movesToEmpty_18 : decode cX0_movesToEmpty 18 = .ok (.iload 4, 2) := by decide +kernel
theorem dX0_movesToEmpty_20 : decode cX0_movesToEmpty 20 = .ok (.iaload, 1) := by decide +kernel
theorem dX0_movesToEmpty_21 : decode cX0_movesToEmpty 21 = .ok (.iconst (-1), 1) := by decide +kernel
theorem dX0_movesToEmpty_22 : decode cX0_movesToEmpty 22 = .ok (.if_icmp .ne 29, 3) := by decide +kernel
theorem dX0_movesToEmpty_25 : decode cX0_movesToEmpty 25 = .ok (.aload_n 0, 1) := by decide +kernel
theorem dX0_movesToEmpty_26 : decode cX0_movesToEmpty 26 = .ok (.iload_n 1, 1) := by decide +kernel
theorem dX0_movesToEmpty_27 : decode cX0_movesToEmpty 27 = .ok (.iload 4, 2) := by decide +kernel
theorem dX0_movesToEmpty_29 : decode cX0_movesToEmpty 29 = .ok (.invokevirtual 86, 3) := by decide +kernel
theorem dX0_movesToEmpty_32 : decode cX0_movesToEmpty 32 = .ok (.istore 5, 2) := by decide +kernel
theorem dX0_movesToEmpty_34 : decode cX0_movesToEmpty 34 = .ok (.iload_n 2, 1) := by decide +kernel
theorem dX0_movesToEmpty_35 : decode cX0_movesToEmpty 35 = .ok (.iconst (-1), 1) := by decide +kernel
theorem dX0_movesToEmpty_36 : decode cX0_movesToEmpty 36 = .ok (.if_icmp .eq 9, 3) := by decide +kernel
theorem dX0_movesToEmpty_39 : decode cX0_movesToEmpty 39 = .ok (.iload 5, 2) := by decide +kernel
theorem dX0_movesToEmpty_41 : decode cX0_movesToEmpty 41 = .ok (.iload_n 3, 1) := by decide +kernel
theorem dX0_movesToEmpty_42 : decode cX0_movesToEmpty 42 = .ok (.if_icmp .le 9, 3) := by decide +kernel
theorem dX0_movesToEmpty_45 : decode cX0_movesToEmpty 45 = .ok (.iload 4, 2) := by decide +kernel
theorem dX0_movesToEmpty_47 : decode cX0_movesToEmpty 47 = .ok (.istore_n 2, 1) := by decide +kernel
theorem dX0_movesToEmpty_48 : decode cX0_movesToEmpty 48 = .ok (.iload 5, 2) := by decide +kernel
theorem dX0_movesToEmpty_50 : decode cX0_movesToEmpty 50 = .ok (.istore_n 3, 1) := by decide +kernel
theorem dX0_movesToEmpty_51 : decode cX0_movesToEmpty 51 = .ok (.iinc 4 1, 3) := by decide +kernel
theorem dX0_movesToEmpty_54 : decode cX0_movesToEmpty 54 = .ok (.goto (-47), 3) := by decide +kernel
theorem dX0_movesToEmpty_57 : decode cX0_movesToEmpty 57 = .ok (.iload_n 2, 1) := by decide +kernel
theorem dX0_movesToEmpty_58 : decode cX0_movesToEmpty 58 = .ok (.iconst (-1), 1) := by decide +kernel
theorem dX0_movesToEmpty_59 : decode cX0_movesToEmpty 59 = .ok (.if_icmp .eq 27, 3) := by decide +kernel
theorem dX0_movesToEmpty_62 : decode cX0_movesToEmpty 62 = .ok (.aload_n 0, 1) := by decide +kernel
theorem dX0_movesToEmpty_63 : decode cX0_movesToEmpty 63 = .ok (.getfield 42, 3) := by decide +kernel
theorem dX0_movesToEmpty_66 : decode cX0_movesToEmpty 66 = .ok (.iload_n 1, 1) := by decide +kernel
theorem dX0_movesToEmpty_67 : decode cX0_movesToEmpty 67 = .ok (.iaload, 1) := by decide +kernel
theorem dX0_movesToEmpty_68 : decode cX0_movesToEmpty 68 = .ok (.ifCond .lt 20, 3) := by decide +kernel
theorem dX0_movesToEmpty_71 : decode cX0_movesToEmpty 71 = .ok (.iload_n 3, 1) := by decide +kernel
theorem dX0_movesToEmpty_72 : decode cX0_movesToEmpty 72 = .ok (.aload_n 0, 1) := by decide +kernel
theorem dX0_movesToEmpty_73 : decode cX0_movesToEmpty 73 = .ok (.iload_n 1, 1) := by decide +kernel
theorem dX0_movesToEmpty_74 : decode cX0_movesToEmpty 74 = .ok (.aload_n 0, 1) := by decide +kernel
theorem dX0_movesToEmpty_75 : decode cX0_movesToEmpty 75 = .ok (.getfield 42, 3) := by decide +kernel
theorem dX0_movesToEmpty_78 : decode cX0_movesToEmpty 78 = .ok (.iload_n 1, 1) := by decide +kernel
theorem dX0_movesToEmpty_79 : decode cX0_movesToEmpty 79 = .ok (.iaload, 1) := by decide +kernel
theorem dX0_movesToEmpty_80 : decode cX0_movesToEmpty 80 = .ok (.invokevirtual 86, 3) := by decide +kernel
theorem dX0_movesToEmpty_83 : decode cX0_movesToEmpty 83 = .ok (.if_icmp .gt 5, 3) := by decide +kernel
theorem dX0_movesToEmpty_86 : decode cX0_movesToEmpty 86 = .ok (.iconst 0, 1) := by decide +kernel
theorem dX0_movesToEmpty_87 : decode cX0_movesToEmpty 87 = .ok (.ireturn, 1) := by decide +kernel
theorem dX0_movesToEmpty_88 : decode cX0_movesToEmpty 88 = .ok (.aload_n 0, 1) := by decide +kernel
theorem dX0_movesToEmpty_89 : decode cX0_movesToEmpty 89 = .ok (.iload_n 1, 1) := by decide +kernel
theorem dX0_movesToEmpty_90 : decode cX0_movesToEmpty 90 = .ok (.iload_n 2, 1) := by decide +kernel
theorem dX0_movesToEmpty_91 : decode cX0_movesToEmpty 91 = .ok (.invokevirtual 99, 3) := by decide +kernel
theorem dX0_movesToEmpty_94 : decode cX0_movesToEmpty 94 = .ok (.iconst 1, 1) := by decide +kernel
theorem dX0_movesToEmpty_95 : decode cX0_movesToEmpty 95 = .ok (.ireturn, 1) := by decide +kernel
theorem dX0_takesItsClaim_0 : decode cX0_takesItsClaim 0 = .ok (.aload_n 0, 1) := by decide +kernel
theorem dX0_takesItsClaim_1 : decode cX0_takesItsClaim 1 = .ok (.getfield 33, 3) := by decide +kernel
theorem dX0_takesItsClaim_4 : decode cX0_takesItsClaim 4 = .ok (.iload_n 1, 1) := by decide +kernel
theorem dX0_takesItsClaim_5 : decode cX0_takesItsClaim 5 = .ok (.iaload, 1) := by decide +kernel
theorem dX0_takesItsClaim_6 : decode cX0_takesItsClaim 6 = .ok (.istore_n 2, 1) := by decide +kernel
theorem dX0_takesItsClaim_7 : decode cX0_takesItsClaim 7 = .ok (.iload_n 2, 1) := by decide +kernel
theorem dX0_takesItsClaim_8 : decode cX0_takesItsClaim 8 = .ok (.ifCond .ge 5, 3) := by decide +kernel
theorem dX0_takesItsClaim_11 : decode cX0_takesItsClaim 11 = .ok (.iconst 0, 1) := by decide +kernel
theorem dX0_takesItsClaim_12 : decode cX0_takesItsClaim 12 = .ok (.ireturn, 1) := by decide +kernel
theorem dX0_takesItsClaim_13 : decode cX0_takesItsClaim 13 = .ok (.aload_n 0, 1) := by decide +kernel
theorem dX0_takesItsClaim_14 : decode cX0_takesItsClaim 14 = .ok (.getfield 24, 3) := by decide +kernel
theorem dX0_takesItsClaim_17 : decode cX0_takesItsClaim 17 = .ok (.iload_n 2, 1) := by decide +kernel
theorem dX0_takesItsClaim_18 : decode cX0_takesItsClaim 18 = .ok (.iaload, 1) := by decide +kernel
theorem dX0_takesItsClaim_19 : decode cX0_takesItsClaim 19 = .ok (.istore_n 3, 1) := by decide +kernel
theorem dX0_takesItsClaim_20 : decode cX0_takesItsClaim 20 = .ok (.iload_n 3, 1) := by decide +kernel
theorem dX0_takesItsClaim_21 : decode cX0_takesItsClaim 21 = .ok (.ifCond .lt 29, 3) := by decide +kernel
theorem dX0_takesItsClaim_24 : decode cX0_takesItsClaim 24 = .ok (.iload_n 3, 1) := by decide +kernel
theorem dX0_takesItsClaim_25 : decode cX0_takesItsClaim 25 = .ok (.iload_n 1, 1) := by decide +kernel
theorem dX0_takesItsClaim_26 : decode cX0_takesItsClaim 26 = .ok (.if_icmp .eq 24, 3) := by decide +kernel
theorem dX0_takesItsClaim_29 : decode cX0_takesItsClaim 29 = .ok (.aload_n 0, 1) := by decide +kernel
theorem dX0_takesItsClaim_30 : decode cX0_takesItsClaim 30 = .ok (.iload_n 1, 1) := by decide +kernel
theorem dX0_takesItsClaim_31 : decode cX0_takesItsClaim 31 = .ok (.iload_n 2, 1) := by decide +kernel
theorem dX0_takesItsClaim_32 : decode cX0_takesItsClaim 32 = .ok (.invokevirtual 86, 3) := by decide +kernel
theorem dX0_takesItsClaim_35 : decode cX0_takesItsClaim 35 = .ok (.aload_n 0, 1) := by decide +kernel
theorem dX0_takesItsClaim_36 : decode cX0_takesItsClaim 36 = .ok (.iload_n 3, 1) := by decide +kernel
theorem dX0_takesItsClaim_37 : decode cX0_takesItsClaim 37 = .ok (.iload_n 2, 1) := by decide +kernel
theorem dX0_takesItsClaim_38 : decode cX0_takesItsClaim 38 = .ok (.invokevirtual 86, 3) := by decide +kernel
theorem dX0_takesItsClaim_41 : decode cX0_takesItsClaim 41 = .ok (.aload_n 0, 1) := by decide +kernel
theorem dX0_takesItsClaim_42 : decode cX0_takesItsClaim 42 = .ok (.iload_n 3, 1) := by decide +kernel
theorem dX0_takesItsClaim_43 : decode cX0_takesItsClaim 43 = .ok (.invokevirtual 103, 3) := by decide +kernel
theorem dX0_takesItsClaim_46 : decode cX0_takesItsClaim 46 = .ok (.iadd, 1) := by decide +kernel
theorem dX0_takesItsClaim_47 : decode cX0_takesItsClaim 47 = .ok (.if_icmp .ge 5, 3) := by decide +kernel
theorem dX0_takesItsClaim_50 : decode cX0_takesItsClaim 50 = .ok (.iconst 0, 1) := by decide +kernel
theorem dX0_takesItsClaim_51 : decode cX0_takesItsClaim 51 = .ok (.ireturn, 1) := by decide +kernel
theorem dX0_takesItsClaim_52 : decode cX0_takesItsClaim 52 = .ok (.aload_n 0, 1) := by decide +kernel
theorem dX0_takesItsClaim_53 : decode cX0_takesItsClaim 53 = .ok (.iload_n 1, 1) := by decide +kernel
theorem dX0_takesItsClaim_54 : decode cX0_takesItsClaim 54 = .ok (.iload_n 3, 1) := by decide +kernel
theorem dX0_takesItsClaim_55 : decode cX0_takesItsClaim 55 = .ok (.invokevirtual 106, 3) := by decide +kernel
theorem dX0_takesItsClaim_58 : decode cX0_takesItsClaim 58 = .ok (.iconst 1, 1) := by decide +kernel
theorem dX0_takesItsClaim_59 : decode cX0_takesItsClaim 59 = .ok (.ireturn, 1) := by decide +kernel
theorem dX1_init_0 : decode cX1_init 0 = .ok (.aload_n 0, 1) := by decide +kernel
theorem dX1_init_1 : decode cX1_init 1 = .ok (.invokespecial 3, 3) := by decide +kernel
theorem dX1_init_4 : decode cX1_init 4 = .ok (.aload_n 0, 1) := by decide +kernel
theorem dX1_init_5 : decode cX1_init 5 = .ok (.bipush 40, 2) := by decide +kernel
theorem dX1_init_7 : decode cX1_init 7 = .ok (.newarray .long, 2) := by decide +kernel
theorem dX1_init_9 : decode cX1_init 9 = .ok (.putfield 9, 3) := by decide +kernel
theorem dX1_init_12 : decode cX1_init 12 = .ok (.return_, 1) := by decide +kernel
theorem dX1_isMissing_0 : decode cX1_isMissing 0 = .ok (.aload_n 0, 1) := by decide +kernel
theorem dX1_isMissing_1 : decode cX1_isMissing 1 = .ok (.getfield 15, 3) := by decide +kernel
theorem dX1_isMissing_4 : decode cX1_isMissing 4 = .ok (.ifCond .ne 7, 3) := by decide +kernel
theorem dX1_isMissing_7 : decode cX1_isMissing 7 = .ok (.iconst 1, 1) := by decide +kernel
theorem dX1_isMissing_8 : decode cX1_isMissing 8 = .ok (.goto 4, 3) := by decide +kernel
theorem dX1_isMissing_11 : decode cX1_isMissing 11 = .ok (.iconst 0, 1) := by decide +kernel
theorem dX1_isMissing_12 : decode cX1_isMissing 12 = .ok (.ireturn, 1) := by decide +kernel
theorem dX1_renew_0 : decode cX1_renew 0 = .ok (.aload_n 0, 1) := by decide +kernel
theorem dX1_renew_1 : decode cX1_renew 1 = .ok (.getfield 9, 3) := by decide +kernel
theorem dX1_renew_4 : decode cX1_renew 4 = .ok (.lconst 0, 1) := by decide +kernel
theorem dX1_renew_5 : decode cX1_renew 5 = .ok (.invokestatic 19, 3) := by decide +kernel
theorem dX1_renew_8 : decode cX1_renew 8 = .ok (.aload_n 0, 1) := by decide +kernel
theorem dX1_renew_9 : decode cX1_renew 9 = .ok (.iload_n 1, 1) := by decide +kernel
theorem dX1_renew_10 : decode cX1_renew 10 = .ok (.putfield 15, 3) := by decide +kernel
theorem dX1_renew_13 : decode cX1_renew 13 = .ok (.aload_n 0, 1) := by decide +kernel
theorem dX1_renew_14 : decode cX1_renew 14 = .ok (.iload_n 1, 1) := by decide +kernel
theorem dX1_renew_15 : decode cX1_renew 15 = .ok (.ifCond .ne 7, 3) := by decide +kernel
theorem dX1_renew_18 : decode cX1_renew 18 = .ok (.iconst 0, 1) := by decide +kernel
theorem dX1_renew_19 : decode cX1_renew 19 = .ok (.goto 4, 3) := by decide +kernel
theorem dX1_renew_22 : decode cX1_renew 22 = .ok (.iload_n 2, 1) := by decide +kernel
theorem dX1_renew_23 : decode cX1_renew 23 = .ok (.putfield 25, 3) := by decide +kernel
theorem dX1_renew_26 : decode cX1_renew 26 = .ok (.aload_n 0, 1) := by decide +kernel
theorem dX1_renew_27 : decode cX1_renew 27 = .ok (.getfield 25, 3) := by decide +kernel
theorem dX1_renew_30 : decode cX1_renew 30 = .ok (.ireturn, 1) := by decide +kernel
theorem dX1_cut_0 : decode cX1_cut 0 = .ok (.aload_n 0, 1) := by decide +kernel
theorem dX1_cut_1 : decode cX1_cut 1 = .ok (.getfield 15, 3) := by decide +kernel
theorem dX1_cut_4 : decode cX1_cut 4 = .ok (.lookupswitch 38 #[(8, 28), (16, 33)], 28) := by decide +kernel
theorem dX1_cut_32 : decode cX1_cut 32 = .ok (.lload_n 1, 1) := by decide +kernel
theorem dX1_cut_33 : decode cX1_cut 33 = .ok (.l2i, 1) := by decide +kernel
theorem dX1_cut_34 : decode cX1_cut 34 = .ok (.i2b, 1) := by decide +kernel
theorem dX1_cut_35 : decode cX1_cut 35 = .ok (.i2l, 1) := by decide +kernel
theorem dX1_cut_36 : decode cX1_cut 36 = .ok (.lreturn, 1) := by decide +kernel
theorem dX1_cut_37 : decode cX1_cut 37 = .ok (.lload_n 1, 1) := by decide +kernel
theorem dX1_cut_38 : decode cX1_cut 38 = .ok (.l2i, 1) := by decide +kernel
theorem dX1_cut_39 : decode cX1_cut 39 = .ok (.i2s, 1) := by decide +kernel
theorem dX1_cut_40 : decode cX1_cut 40 = .ok (.i2l, 1) := by decide +kernel
theorem dX1_cut_41 : decode cX1_cut 41 = .ok (.lreturn, 1) := by decide +kernel
theorem dX1_cut_42 : decode cX1_cut 42 = .ok (.lload_n 1, 1) := by decide +kernel
theorem dX1_cut_43 : decode cX1_cut 43 = .ok (.lreturn, 1) := by decide +kernel
theorem dX1_has_0 : decode cX1_has 0 = .ok (.iload_n 1, 1) := by decide +kernel
theorem dX1_has_1 : decode cX1_has 1 = .ok (.ifCond .lt 29, 3) := by decide +kernel
theorem dX1_has_4 : decode cX1_has 4 = .ok (.iload_n 2, 1) := by decide +kernel
theorem dX1_has_5 : decode cX1_has 5 = .ok (.ifCond .lt 25, 3) := by decide +kernel
theorem dX1_has_8 : decode cX1_has 8 = .ok (.iload_n 2, 1) := by decide +kernel
theorem dX1_has_9 : decode cX1_has 9 = .ok (.aload_n 0, 1) := by decide +kernel
theorem dX1_has_10 : decode cX1_has 10 = .ok (.getfield 25, 3) := by decide +kernel
theorem dX1_has_13 : decode cX1_has 13 = .ok (.if_icmp .gt 17, 3) := by decide +kernel
theorem dX1_has_16 : decode cX1_has 16 = .ok (.iload_n 1, 1) := by decide +kernel
theorem dX1_has_17 : decode cX1_has 17 = .ok (.aload_n 0, 1) := by decide +kernel
theorem dX1_has_18 : decode cX1_has 18 = .ok (.getfield 25, 3) := by decide +kernel
theorem dX1_has_21 : decode cX1_has 21 = .ok (.iload_n 2, 1) := by decide +kernel
theorem dX1_has_22 : decode cX1_has 22 = .ok (.isub, 1) := by decide +kernel
theorem dX1_has_23 : decode cX1_has 23 = .ok (.if_icmp .gt 7, 3) := by decide +kernel
theorem dX1_has_26 : decode cX1_has 26 = .ok (.iconst 1, 1) := by decide +kernel
theorem dX1_has_27 : decode cX1_has 27 = .ok (.goto 4, 3) := by decide +kernel
theorem dX1_has_30 : decode cX1_has 30 = .ok (.iconst 0, 1) := by decide +kernel
theorem dX1_has_31 : decode cX1_has 31 = .ok (.ireturn, 1) := by decide +kernel
theorem dX2_init_0 : decode cX2_init 0 = .ok (.aload_n 0, 1) := by decide +kernel
theorem dX2_init_1 : decode cX2_init 1 = .ok (.invokespecial 3, 3) := by decide +kernel
theorem dX2_init_4 : decode cX2_init 4 = .ok (.aload_n 0, 1) := by decide +kernel
theorem dX2_init_5 : decode cX2_init 5 = .ok (.bipush 120, 2) := by decide +kernel
theorem dX2_init_7 : decode cX2_init 7 = .ok (.newarray .int, 2) := by decide +kernel
theorem dX2_init_9 : decode cX2_init 9 = .ok (.putfield 9, 3) := by decide +kernel
theorem dX2_init_12 : decode cX2_init 12 = .ok (.return_, 1) := by decide +kernel
theorem dX2_append_0 : decode cX2_append 0 = .ok (.aload_n 0, 1) := by decide +kernel
theorem dX2_append_1 : decode cX2_append 1 = .ok (.getfield 15, 3) := by decide +kernel
theorem dX2_append_4 : decode cX2_append 4 = .ok (.bipush 120, 2) := by decide +kernel
theorem dX2_append_6 : decode cX2_append 6 = .ok (.if_icmp .ge 23, 3) := by decide +kernel
theorem dX2_append_9 : decode cX2_append 9 = .ok (.aload_n 0, 1) := by decide +kernel
theorem dX2_append_10 : decode cX2_append 10 = .ok (.getfield 9, 3) := by decide +kernel
theorem dX2_append_13 : decode cX2_append 13 = .ok (.aload_n 0, 1) := by decide +kernel
theorem dX2_append_14 : decode cX2_append 14 = .ok (.getfield 15, 3) := by decide +kernel
theorem dX2_append_17 : decode cX2_append 17 = .ok (.iload_n 1, 1) := by decide +kernel
theorem dX2_append_18 : decode cX2_append 18 = .ok (.iastore, 1) := by decide +kernel
theorem dX2_append_19 : decode cX2_append 19 = .ok (.aload_n 0, 1) := by decide +kernel
theorem dX2_append_20 : decode cX2_append 20 = .ok (.dup, 1) := by decide +kernel
theorem dX2_append_21 : decode cX2_append 21 = .ok (.getfield 15, 3) := by decide +kernel
theorem dX2_append_24 : decode cX2_append 24 = .ok (.iconst 1, 1) := by decide +kernel
theorem dX2_append_25 : decode cX2_append 25 = .ok (.iadd, 1) := by decide +kernel
theorem dX2_append_26 : decode cX2_append 26 = .ok (.putfield 15, 3) := by decide +kernel
theorem dX2_append_29 : decode cX2_append 29 = .ok (.return_, 1) := by decide +kernel
theorem dX2_comesTo_0 : decode cX2_comesTo 0 = .ok (.aload_n 0, 1) := by decide +kernel
theorem dX2_comesTo_1 : decode cX2_comesTo 1 = .ok (.iconst 0, 1) := by decide +kernel
theorem dX2_comesTo_2 : decode cX2_comesTo 2 = .ok (.putfield 19, 3) := by decide +kernel
theorem dX2_comesTo_5 : decode cX2_comesTo 5 = .ok (.aload_n 0, 1) := by decide +kernel
theorem dX2_comesTo_6 : decode cX2_comesTo 6 = .ok (.iconst 0, 1) := by decide +kernel
theorem dX2_comesTo_7 : decode cX2_comesTo 7 = .ok (.putfield 22, 3) := by decide +kernel
theorem dX2_comesTo_10 : decode cX2_comesTo 10 = .ok (.iconst 0, 1) := by decide +kernel
theorem dX2_comesTo_11 : decode cX2_comesTo 11 = .ok (.istore_n 2, 1) := by decide +kernel
theorem dX2_comesTo_12 : decode cX2_comesTo 12 = .ok (.iload_n 2, 1) := by decide +kernel
theorem dX2_comesTo_13 : decode cX2_comesTo 13 = .ok (.bipush 120, 2) := by decide +kernel
theorem dX2_comesTo_15 : decode cX2_comesTo 15 = .ok (.if_icmp .gt 54, 3) := by decide +kernel
theorem dX2_comesTo_18 : decode cX2_comesTo 18 = .ok (.aload_n 0, 1) := by decide +kernel
theorem dX2_comesTo_19 : decode cX2_comesTo 19 = .ok (.invokevirtual 25, 3) := by decide +kernel
theorem dX2_comesTo_22 : decode cX2_comesTo 22 = .ok (.aload_n 0, 1) := by decide +kernel
theorem dX2_comesTo_23 : decode cX2_comesTo 23 = .ok (.aload_n 1, 1) := by decide +kernel
theorem dX2_comesTo_24 : decode cX2_comesTo 24 = .ok (.invokevirtual 28, 3) := by decide +kernel
theorem dX2_comesTo_27 : decode cX2_comesTo 27 = .ok (.ifCond .ne 5, 3) := by decide +kernel
theorem dX2_comesTo_30 : decode cX2_comesTo 30 = .ok (.iconst 0, 1) := by decide +kernel
theorem dX2_comesTo_31 : decode cX2_comesTo 31 = .ok (.ireturn, 1) := by decide +kernel
theorem dX2_comesTo_32 : decode cX2_comesTo 32 = .ok (.aload_n 0, 1) := by decide +kernel
theorem dX2_comesTo_33 : decode cX2_comesTo 33 = .ok (.dup, 1) := by decide +kernel
theorem dX2_comesTo_34 : decode cX2_comesTo 34 = .ok (.getfield 19, 3) := by decide +kernel
theorem dX2_comesTo_37 : decode cX2_comesTo 37 = .ok (.iconst 1, 1) := by decide +kernel
theorem dX2_comesTo_38 : decode cX2_comesTo 38 = .ok (.iadd, 1) := by decide +kernel
theorem dX2_comesTo_39 : decode cX2_comesTo 39 = .ok (.putfield 19, 3) := by decide +kernel
theorem dX2_comesTo_42 : decode cX2_comesTo 42 = .ok (.aload_n 0, 1) := by decide +kernel
theorem dX2_comesTo_43 : decode cX2_comesTo 43 = .ok (.getfield 32, 3) := by decide +kernel
theorem dX2_comesTo_46 : decode cX2_comesTo 46 = .ok (.iconst 3, 1) := by decide +kernel
theorem dX2_comesTo_47 : decode cX2_comesTo 47 = .ok (.if_icmp .eq 16, 3) := by decide +kernel
theorem dX2_comesTo_50 : decode cX2_comesTo 50 = .ok (.aload_n 0, 1) := by decide +kernel
theorem dX2_comesTo_51 : decode cX2_comesTo 51 = .ok (.getfield 32, 3) := by decide +kernel
theorem dX2_comesTo_54 : decode cX2_comesTo 54 = .ok (.ifCond .ne 7, 3) := by decide +kernel
theorem dX2_comesTo_57 : decode cX2_comesTo 57 = .ok (.iconst 1, 1) := by decide +kernel
theorem dX2_comesTo_58 : decode cX2_comesTo 58 = .ok (.goto 4, 3) := by decide +kernel
theorem dX2_comesTo_61 : decode cX2_comesTo 61 = .ok (.iconst 0, 1) := by decide +kernel
theorem dX2_comesTo_62 : decode cX2_comesTo 62 = .ok (.ireturn, 1) := by decide +kernel
theorem dX2_comesTo_63 : decode cX2_comesTo 63 = .ok (.iinc 2 1, 3) := by decide +kernel
theorem dX2_comesTo_66 : decode cX2_comesTo 66 = .ok (.goto (-54), 3) := by decide +kernel
theorem dX2_comesTo_69 : decode cX2_comesTo 69 = .ok (.iconst 0, 1) := by decide +kernel
theorem dX2_comesTo_70 : decode cX2_comesTo 70 = .ok (.ireturn, 1) := by decide +kernel
theorem dX2_step_0 : decode cX2_step 0 = .ok (.aload_n 0, 1) := by decide +kernel
theorem dX2_step_1 : decode cX2_step 1 = .ok (.getfield 22, 3) := by decide +kernel
theorem dX2_step_4 : decode cX2_step 4 = .ok (.aload_n 0, 1) := by decide +kernel
theorem dX2_step_5 : decode cX2_step 5 = .ok (.getfield 15, 3) := by decide +kernel
theorem dX2_step_8 : decode cX2_step 8 = .ok (.if_icmp .ge 30, 3) := by decide +kernel
theorem dX2_step_11 : decode cX2_step 11 = .ok (.aload_n 0, 1) := by decide +kernel
theorem dX2_step_12 : decode cX2_step 12 = .ok (.getfield 9, 3) := by decide +kernel
theorem dX2_step_15 : decode cX2_step 15 = .ok (.aload_n 0, 1) := by decide +kernel
theorem dX2_step_16 : decode cX2_step 16 = .ok (.getfield 22, 3) := by decide +kernel
theorem dX2_step_19 : decode cX2_step 19 = .ok (.iaload, 1) := by decide +kernel
theorem dX2_step_20 : decode cX2_step 20 = .ok (.bipush 32, 2) := by decide +kernel
theorem dX2_step_22 : decode cX2_step 22 = .ok (.if_icmp .ne 16, 3) := by decide +kernel
theorem dX2_step_25 : decode cX2_step 25 = .ok (.aload_n 0, 1) := by decide +kernel
theorem dX2_step_26 : decode cX2_step 26 = .ok (.dup, 1) := by decide +kernel
theorem dX2_step_27 : decode cX2_step 27 = .ok (.getfield 22, 3) := by decide +kernel
theorem dX2_step_30 : decode cX2_step 30 = .ok (.iconst 1, 1) := by decide +kernel
theorem dX2_step_31 : decode cX2_step 31 = .ok (.iadd, 1) := by decide +kernel
theorem dX2_step_32 : decode cX2_step 32 = .ok (.putfield 22, 3) := by decide +kernel
theorem dX2_step_35 : decode cX2_step 35 = .ok (.goto (-35), 3) := by decide +kernel
theorem dX2_step_38 : decode cX2_step 38 = .ok (.aload_n 0, 1) := by decide +kernel
theorem dX2_step_39 : decode cX2_step 39 = .ok (.aload_n 0, 1) := by decide +kernel
theorem dX2_step_40 : decode cX2_step 40 = .ok (.getfield 22, 3) := by decide +kernel
theorem dX2_step_43 : decode cX2_step 43 = .ok (.putfield 35, 3) := by decide +kernel
theorem dX2_step_46 : decode cX2_step 46 = .ok (.aload_n 0, 1) := by decide +kernel
theorem dX2_step_47 : decode cX2_step 47 = .ok (.aload_n 0, 1) := by decide +kernel
theorem dX2_step_48 : decode cX2_step 48 = .ok (.aload_n 0, 1) := by decide +kernel
theorem dX2_step_49 : decode cX2_step 49 = .ok (.getfield 35, 3) := by decide +kernel
theorem dX2_step_52 : decode cX2_step 52 = .ok (.invokevirtual 38, 3) := by decide +kernel
theorem dX2_step_55 : decode cX2_step 55 = .ok (.putfield 32, 3) := by decide +kernel
theorem dX2_step_58 : decode cX2_step 58 = .ok (.aload_n 0, 1) := by decide +kernel
theorem dX2_step_59 : decode cX2_step 59 = .ok (.iconst 0, 1) := by decide +kernel
theorem dX2_step_60 : decode cX2_step 60 = .ok (.putfield 42, 3) := by decide +kernel
theorem dX2_step_63 : decode cX2_step 63 = .ok (.aload_n 0, 1) := by decide +kernel
theorem dX2_step_64 : decode cX2_step 64 = .ok (.getfield 32, 3) := by decide +kernel
theorem dX2_step_67 : decode cX2_step 67 = .ok (.iconst 3, 1) := by decide +kernel
theorem dX2_step_68 : decode cX2_step 68 = .ok (.if_icmp .eq 11, 3) := by decide +kernel
theorem dX2_step_71 : decode cX2_step 71 = .ok (.aload_n 0, 1) := by decide +kernel
theorem dX2_step_72 : decode cX2_step 72 = .ok (.getfield 32, 3) := by decide +kernel
theorem dX2_step_75 : decode cX2_step 75 = .ok (.iconst 4, 1) := by decide +kernel
theorem dX2_step_76 : decode cX2_step 76 = .ok (.if_icmp .ne 14, 3) := by decide +kernel
theorem dX2_step_79 : decode cX2_step 79 = .ok (.aload_n 0, 1) := by decide +kernel
theorem dX2_step_80 : decode cX2_step 80 = .ok (.dup, 1) := by decide +kernel
theorem dX2_step_81 : decode cX2_step 81 = .ok (.getfield 22, 3) := by decide +kernel
theorem dX2_step_84 : decode cX2_step 84 = .ok (.iconst 1, 1) := by decide +kernel
theorem dX2_step_85 : decode cX2_step 85 = .ok (.iadd, 1) := by decide +kernel
theorem dX2_step_86 : decode cX2_step 86 = .ok (.putfield 22, 3) := by decide +kernel
theorem dX2_step_89 : decode cX2_step 89 = .ok (.return_, 1) := by decide +kernel
theorem dX2_step_90 : decode cX2_step 90 = .ok (.aload_n 0, 1) := by decide +kernel
theorem dX2_step_91 : decode cX2_step 91 = .ok (.getfield 22, 3) := by decide +kernel
theorem dX2_step_94 : decode cX2_step 94 = .ok (.aload_n 0, 1) := by decide +kernel
theorem dX2_step_95 : decode cX2_step 95 = .ok (.getfield 15, 3) := by decide +kernel
theorem dX2_step_98 : decode cX2_step 98 = .ok (.if_icmp .ge 69, 3) := by decide +kernel
theorem dX2_step_101 : decode cX2_step 101 = .ok (.aload_n 0, 1) := by decide +kernel
theorem dX2_step_102 : decode cX2_step 102 = .ok (.aload_n 0, 1) := by decide +kernel
theorem dX2_step_103 : decode cX2_step 103 = .ok (.getfield 22, 3) := by decide +kernel
theorem dX2_step_106 : decode cX2_step 106 = .ok (.invokevirtual 38, 3) := by decide +kernel
theorem dX2_step_109 : decode cX2_step 109 = .ok (.aload_n 0, 1) := by decide +kernel
theorem dX2_step_110 : decode cX2_step 110 = .ok (.getfield 32, 3) := by decide +kernel
theorem dX2_step_113 : decode cX2_step 113 = .ok (.if_icmp .ne 54, 3) := by decide +kernel
theorem dX2_step_116 : decode cX2_step 116 = .ok (.aload_n 0, 1) := by decide +kernel
theorem dX2_step_117 : decode cX2_step 117 = .ok (.getfield 32, 3) := by decide +kernel
theorem dX2_step_120 : decode cX2_step 120 = .ok (.iconst 2, 1) := by decide +kernel
theorem dX2_step_121 : decode cX2_step 121 = .ok (.if_icmp .ne 33, 3) := by decide +kernel
theorem dX2_step_124 : decode cX2_step 124 = .ok (.aload_n 0, 1) := by decide +kernel
theorem dX2_step_125 : decode cX2_step 125 = .ok (.bipush 10, 2) := by decide +kernel
theorem dX2_step_127 : decode cX2_step 127 = .ok (.aload_n 0, 1) := by decide +kernel
theorem dX2_step_128 : decode cX2_step 128 = .ok (.getfield 42, 3) := by decide +kernel
theorem dX2_step_131 : decode cX2_step 131 = .ok (.imul, 1) := by decide +kernel
theorem dX2_step_132 : decode cX2_step 132 = .ok (.aload_n 0, 1) := by decide +kernel
theorem dX2_step_133 : decode cX2_step 133 = .ok (.getfield 9, 3) := by decide +kernel
theorem dX2_step_136 : decode cX2_step 136 = .ok (.aload_n 0, 1) := by decide +kernel
theorem dX2_step_137 : decode cX2_step 137 = .ok (.getfield 22, 3) := by decide +kernel
theorem dX2_step_140 : decode cX2_step 140 = .ok (.iaload, 1) := by decide +kernel
theorem dX2_step_141 : decode cX2_step 141 = .ok (.iadd, 1) := by decide +kernel
theorem dX2_step_142 : decode cX2_step 142 = .ok (.bipush 48, 2) := by decide +kernel
theorem dX2_step_144 : decode cX2_step 144 = .ok (.isub, 1) := by decide +kernel
theorem dX2_step_145 : decode cX2_step 145 = .ok (.sipush 1000, 3) := by decide +kernel
theorem dX2_step_148 : decode cX2_step 148 = .ok (.invokestatic 45, 3) := by decide +kernel
theorem dX2_step_151 : decode cX2_step 151 = .ok (.putfield 42, 3) := by decide +kernel
theorem dX2_step_154 : decode cX2_step 154 = .ok (.aload_n 0, 1) := by decide +kernel
theorem dX2_step_155 : decode cX2_step 155 = .ok (.dup, 1) := by decide +kernel
theorem dX2_step_156 : decode cX2_step 156 = .ok (.getfield 22, 3) := by decide +kernel
theorem dX2_step_159 : decode cX2_step 159 = .ok (.iconst 1, 1) := by decide +kernel
theorem dX2_step_160 : decode cX2_step 160 = .ok (.iadd, 1) := by decide +kernel
theorem dX2_step_161 : decode cX2_step 161 = .ok (.putfield 22, 3) := by decide +kernel
theorem dX2_step_164 : decode cX2_step 164 = .ok (.goto (-74), 3) := by decide +kernel
theorem dX2_step_167 : decode cX2_step 167 = .ok (.return_, 1) := by decide +kernel
theorem dX2_sortAt_0 : decode cX2_sortAt 0 = .ok (.iload_n 1, 1) := by decide +kernel
theorem dX2_sortAt_1 : decode cX2_sortAt 1 = .ok (.aload_n 0, 1) := by decide +kernel
theorem dX2_sortAt_2 : decode cX2_sortAt 2 = .ok (.getfield 15, 3) := by decide +kernel
theorem dX2_sortAt_5 : decode cX2_sortAt 5 = .ok (.if_icmp .lt 5, 3) := by decide +kernel
theorem dX2_sortAt_8 : decode cX2_sortAt 8 = .ok (.iconst 0, 1) := by decide +kernel
theorem dX2_sortAt_9 : decode cX2_sortAt 9 = .ok (.ireturn, 1) := by decide +kernel
theorem dX2_sortAt_10 : decode cX2_sortAt 10 = .ok (.aload_n 0, 1) := by decide +kernel
theorem dX2_sortAt_11 : decode cX2_sortAt 11 = .ok (.getfield 9, 3) := by decide +kernel
theorem dX2_sortAt_14 : decode cX2_sortAt 14 = .ok (.iload_n 1, 1) := by decide +kernel
theorem dX2_sortAt_15 : decode cX2_sortAt 15 = .ok (.iaload, 1) := by decide +kernel
theorem dX2_sortAt_16 : decode cX2_sortAt 16 = .ok (.istore_n 2, 1) := by decide +kernel
theorem dX2_sortAt_17 : decode cX2_sortAt 17 = .ok (.iload_n 2, 1) := by decide +kernel
theorem dX2_sortAt_18 : decode cX2_sortAt 18 = .ok (.bipush 97, 2) := by decide +kernel
theorem dX2_sortAt_20 : decode cX2_sortAt 20 = .ok (.if_icmp .lt 11, 3) := by decide +kernel
theorem dX2_sortAt_23 : decode cX2_sortAt 23 = .ok (.iload_n 2, 1) := by decide +kernel
theorem dX2_sortAt_24 : decode cX2_sortAt 24 = .ok (.bipush 122, 2) := by decide +kernel
theorem dX2_sortAt_26 : decode cX2_sortAt 26 = .ok (.if_icmp .gt 5, 3) := by decide +kernel
theorem dX2_sortAt_29 : decode cX2_sortAt 29 = .ok (.iconst 1, 1) := by decide +kernel
theorem dX2_sortAt_30 : decode cX2_sortAt 30 = .ok (.ireturn, 1) := by decide +kernel
theorem dX2_sortAt_31 : decode cX2_sortAt 31 = .ok (.iload_n 2, 1) := by decide +kernel
theorem dX2_sortAt_32 : decode cX2_sortAt 32 = .ok (.bipush 48, 2) := by decide +kernel
theorem dX2_sortAt_34 : decode cX2_sortAt 34 = .ok (.if_icmp .lt 11, 3) := by decide +kernel
theorem dX2_sortAt_37 : decode cX2_sortAt 37 = .ok (.iload_n 2, 1) := by decide +kernel
theorem dX2_sortAt_38 : decode cX2_sortAt 38 = .ok (.bipush 57, 2) := by decide +kernel
theorem dX2_sortAt_40 : decode cX2_sortAt 40 = .ok (.if_icmp .gt 5, 3) := by decide +kernel
theorem dX2_sortAt_43 : decode cX2_sortAt 43 = .ok (.iconst 2, 1) := by decide +kernel
theorem dX2_sortAt_44 : decode cX2_sortAt 44 = .ok (.ireturn, 1) := by decide +kernel
theorem dX2_sortAt_45 : decode cX2_sortAt 45 = .ok (.iload_n 2, 1) := by decide +kernel
theorem dX2_sortAt_46 : decode cX2_sortAt 46 = .ok (.bipush 59, 2) := by decide +kernel
theorem dX2_sortAt_48 : decode cX2_sortAt 48 = .ok (.if_icmp .ne 7, 3) := by decide +kernel
theorem dX2_sortAt_51 : decode cX2_sortAt 51 = .ok (.iconst 3, 1) := by decide +kernel
theorem dX2_sortAt_52 : decode cX2_sortAt 52 = .ok (.goto 4, 3) := by decide +kernel
theorem dX2_sortAt_55 : decode cX2_sortAt 55 = .ok (.iconst 4, 1) := by decide +kernel
theorem dX2_sortAt_56 : decode cX2_sortAt 56 = .ok (.ireturn, 1) := by decide +kernel
theorem dX2_isWord_0 : decode cX2_isWord 0 = .ok (.aload_n 0, 1) := by decide +kernel
theorem dX2_isWord_1 : decode cX2_isWord 1 = .ok (.getfield 32, 3) := by decide +kernel
theorem dX2_isWord_4 : decode cX2_isWord 4 = .ok (.iconst 1, 1) := by decide +kernel
theorem dX2_isWord_5 : decode cX2_isWord 5 = .ok (.if_icmp .ne 19, 3) := by decide +kernel
theorem dX2_isWord_8 : decode cX2_isWord 8 = .ok (.aload_n 0, 1) := by decide +kernel
theorem dX2_isWord_9 : decode cX2_isWord 9 = .ok (.getfield 22, 3) := by decide +kernel
theorem dX2_isWord_12 : decode cX2_isWord 12 = .ok (.aload_n 0, 1) := by decide +kernel
theorem dX2_isWord_13 : decode cX2_isWord 13 = .ok (.getfield 35, 3) := by decide +kernel
theorem dX2_isWord_16 : decode cX2_isWord 16 = .ok (.isub, 1) := by decide +kernel
theorem dX2_isWord_17 : decode cX2_isWord 17 = .ok (.aload_n 1, 1) := by decide +kernel
theorem dX2_isWord_18 : decode cX2_isWord 18 = .ok (.invokevirtual 51, 3) := by decide +kernel
theorem dX2_isWord_21 : decode cX2_isWord 21 = .ok (.if_icmp .eq 5, 3) := by decide +kernel
theorem dX2_isWord_24 : decode cX2_isWord 24 = .ok (.iconst 0, 1) := by decide +kernel
theorem dX2_isWord_25 : decode cX2_isWord 25 = .ok (.ireturn, 1) := by decide +kernel
theorem dX2_isWord_26 : decode cX2_isWord 26 = .ok (.iconst 0, 1) := by decide +kernel
theorem dX2_isWord_27 : decode cX2_isWord 27 = .ok (.istore_n 2, 1) := by decide +kernel
theorem dX2_isWord_28 : decode cX2_isWord 28 = .ok (.iload_n 2, 1) := by decide +kernel
theorem dX2_isWord_29 : decode cX2_isWord 29 = .ok (.aload_n 1, 1) := by decide +kernel
theorem dX2_isWord_30 : decode cX2_isWord 30 = .ok (.invokevirtual 51, 3) := by decide +kernel
theorem dX2_isWord_33 : decode cX2_isWord 33 = .ok (.if_icmp .ge 30, 3) := by decide +kernel
theorem dX2_isWord_36 : decode cX2_isWord 36 = .ok (.aload_n 0, 1) := by decide +kernel
theorem dX2_isWord_37 : decode cX2_isWord 37 = .ok (.getfield 9, 3) := by decide +kernel
theorem dX2_isWord_40 : decode cX2_isWord 40 = .ok (.aload_n 0, 1) := by decide +kernel
theorem dX2_isWord_41 : decode cX2_isWord 41 = .ok (.getfield 35, 3) := by decide +kernel
theorem dX2_isWord_44 : decode cX2_isWord 44 = .ok (.iload_n 2, 1) := by decide +kernel
theorem dX2_isWord_45 : decode cX2_isWord 45 = .ok (.iadd, 1) := by decide +kernel
theorem dX2_isWord_46 : decode cX2_isWord 46 = .ok (.iaload, 1) := by decide +kernel
theorem dX2_isWord_47 : decode cX2_isWord 47 = .ok (.aload_n 1, 1) := by decide +kernel
theorem dX2_isWord_48 : decode cX2_isWord 48 = .ok (.iload_n 2, 1) := by decide +kernel
theorem dX2_isWord_49 : decode cX2_isWord 49 = .ok (.invokevirtual 56, 3) := by decide +kernel
theorem dX2_isWord_52 : decode cX2_isWord 52 = .ok (.if_icmp .eq 5, 3) := by decide +kernel
theorem dX2_isWord_55 : decode cX2_isWord 55 = .ok (.iconst 0, 1) := by decide +kernel
theorem dX2_isWord_56 : decode cX2_isWord 56 = .ok (.ireturn, 1) := by decide +kernel
theorem dX2_isWord_57 : decode cX2_isWord 57 = .ok (.iinc 2 1, 3) := by decide +kernel
theorem dX2_isWord_60 : decode cX2_isWord 60 = .ok (.goto (-32), 3) := by decide +kernel
theorem dX2_isWord_63 : decode cX2_isWord 63 = .ok (.iconst 1, 1) := by decide +kernel
theorem dX2_isWord_64 : decode cX2_isWord 64 = .ok (.ireturn, 1) := by decide +kernel
theorem dX2_isNumber_0 : decode cX2_isNumber 0 = .ok (.aload_n 0, 1) := by decide +kernel
theorem dX2_isNumber_1 : decode cX2_isNumber 1 = .ok (.getfield 32, 3) := by decide +kernel
theorem dX2_isNumber_4 : decode cX2_isNumber 4 = .ok (.iconst 2, 1) := by decide +kernel
theorem dX2_isNumber_5 : decode cX2_isNumber 5 = .ok (.if_icmp .ne 15, 3) := by decide +kernel
theorem dX2_isNumber_8 : decode cX2_isNumber 8 = .ok (.aload_n 0, 1) := by decide +kernel
theorem dX2_isNumber_9 : decode cX2_isNumber 9 = .ok (.getfield 42, 3) := by decide +kernel
theorem dX2_isNumber_12 : decode cX2_isNumber 12 = .ok (.iload_n 1, 1) := by decide +kernel
theorem dX2_isNumber_13 : decode cX2_isNumber 13 = .ok (.if_icmp .gt 7, 3) := by decide +kernel
theorem dX2_isNumber_16 : decode cX2_isNumber 16 = .ok (.iconst 1, 1) := by decide +kernel
theorem dX2_isNumber_17 : decode cX2_isNumber 17 = .ok (.goto 4, 3) := by decide +kernel
theorem dX2_isNumber_20 : decode cX2_isNumber 20 = .ok (.iconst 0, 1) := by decide +kernel
theorem dX2_isNumber_21 : decode cX2_isNumber 21 = .ok (.ireturn, 1) := by decide +kernel
theorem dX2_takesItem_0 : decode cX2_takesItem 0 = .ok (.aload_n 0, 1) := by decide +kernel
theorem dX2_takesItem_1 : decode cX2_takesItem 1 = .ok (.invokevirtual 60, 3) := by decide +kernel
theorem dX2_takesItem_4 : decode cX2_takesItem 4 = .ok (.istore_n 2, 1) := by decide +kernel
theorem dX2_takesItem_5 : decode cX2_takesItem 5 = .ok (.iload_n 2, 1) := by decide +kernel
theorem dX2_takesItem_6 : decode cX2_takesItem 6 = .ok (.invokestatic 63, 3) := by decide +kernel
theorem dX2_takesItem_9 : decode cX2_takesItem 9 = .ok (.ifCond .eq 10, 3) := by decide +kernel
theorem dX2_takesItem_12 : decode cX2_takesItem 12 = .ok (.aload_n 0, 1) := by decide +kernel
theorem dX2_takesItem_13 : decode cX2_takesItem 13 = .ok (.aload_n 1, 1) := by decide +kernel
theorem dX2_takesItem_14 : decode cX2_takesItem 14 = .ok (.iload_n 2, 1) := by decide +kernel
theorem dX2_takesItem_15 : decode cX2_takesItem 15 = .ok (.invokevirtual 67, 3) := by decide +kernel
theorem dX2_takesItem_18 : decode cX2_takesItem 18 = .ok (.ireturn, 1) := by decide +kernel
theorem dX2_takesItem_19 : decode cX2_takesItem 19 = .ok (.aload_n 0, 1) := by decide +kernel
theorem dX2_takesItem_20 : decode cX2_takesItem 20 = .ok (.ldc 71, 2) := by decide +kernel
theorem dX2_takesItem_22 : decode cX2_takesItem 22 = .ok (.invokevirtual 73, 3) := by decide +kernel
theorem dX2_takesItem_25 : decode cX2_takesItem 25 = .ok (.ifCond .eq 9, 3) := by decide +kernel
theorem dX2_takesItem_28 : decode cX2_takesItem 28 = .ok (.aload_n 0, 1) := by decide +kernel
theorem dX2_takesItem_29 : decode cX2_takesItem 29 = .ok (.aload_n 1, 1) := by decide +kernel
theorem dX2_takesItem_30 : decode cX2_takesItem 30 = .ok (.invokevirtual 77, 3) := by decide +kernel
theorem dX2_takesItem_33 : decode cX2_takesItem 33 = .ok (.ireturn, 1) := by decide +kernel
theorem dX2_takesItem_34 : decode cX2_takesItem 34 = .ok (.aload_n 0, 1) := by decide +kernel
theorem dX2_takesItem_35 : decode cX2_takesItem 35 = .ok (.ldc 80, 2) := by decide +kernel
theorem dX2_takesItem_37 : decode cX2_takesItem 37 = .ok (.invokevirtual 73, 3) := by decide +kernel
theorem dX2_takesItem_40 : decode cX2_takesItem 40 = .ok (.ifCond .eq 10, 3) := by decide +kernel
theorem dX2_takesItem_43 : decode cX2_takesItem 43 = .ok (.aload_n 0, 1) := by decide +kernel
theorem dX2_takesItem_44 : decode cX2_takesItem 44 = .ok (.aload_n 1, 1) := by decide +kernel
theorem dX2_takesItem_45 : decode cX2_takesItem 45 = .ok (.iconst 1, 1) := by decide +kernel
theorem dX2_takesItem_46 : decode cX2_takesItem 46 = .ok (.invokevirtual 82, 3) := by decide +kernel
theorem dX2_takesItem_49 : decode cX2_takesItem 49 = .ok (.ireturn, 1) := by decide +kernel
theorem dX2_takesItem_50 : decode cX2_takesItem 50 = .ok (.aload_n 0, 1) := by decide +kernel
theorem dX2_takesItem_51 : decode cX2_takesItem 51 = .ok (.ldc 86, 2) := by decide +kernel
theorem dX2_takesItem_53 : decode cX2_takesItem 53 = .ok (.invokevirtual 73, 3) := by decide +kernel
theorem dX2_takesItem_56 : decode cX2_takesItem 56 = .ok (.ifCond .eq 16, 3) := by decide +kernel
theorem dX2_takesItem_59 : decode cX2_takesItem 59 = .ok (.aload_n 0, 1) := by decide +kernel
theorem dX2_takesItem_60 : decode cX2_takesItem 60 = .ok (.aload_n 1, 1) := by decide +kernel
theorem dX2_takesItem_61 : decode cX2_takesItem 61 = .ok (.iconst 0, 1) := by decide +kernel
theorem dX2_takesItem_62 : decode cX2_takesItem 62 = .ok (.invokevirtual 82, 3) := by decide +kernel
theorem dX2_takesItem_65 : decode cX2_takesItem 65 = .ok (.ifCond .eq 7, 3) := by decide +kernel
theorem dX2_takesItem_68 : decode cX2_takesItem 68 = .ok (.iconst 1, 1) := by decide +kernel
theorem dX2_takesItem_69 : decode cX2_takesItem 69 = .ok (.goto 4, 3) := by decide +kernel
theorem dX2_takesItem_72 : decode cX2_takesItem 72 = .ok (.iconst 0, 1) := by decide +kernel
theorem dX2_takesItem_73 : decode cX2_takesItem 73 = .ok (.ireturn, 1) := by decide +kernel
theorem dX2_kindNamed_0 : decode cX2_kindNamed 0 = .ok (.iconst 0, 1) := by decide +kernel
theorem dX2_kindNamed_1 : decode cX2_kindNamed 1 = .ok (.istore_n 1, 1) := by decide +kernel
theorem dX2_kindNamed_2 : decode cX2_kindNamed 2 = .ok (.iload_n 1, 1) := by decide +kernel
theorem dX2_kindNamed_3 : decode cX2_kindNamed 3 = .ok (.bipush 6, 2) := by decide +kernel
theorem dX2_kindNamed_5 : decode cX2_kindNamed 5 = .ok (.if_icmp .ge 22, 3) := by decide +kernel
theorem dX2_kindNamed_8 : decode cX2_kindNamed 8 = .ok (.aload_n 0, 1) := by decide +kernel
theorem dX2_kindNamed_9 : decode cX2_kindNamed 9 = .ok (.iload_n 1, 1) := by decide +kernel
theorem dX2_kindNamed_10 : decode cX2_kindNamed 10 = .ok (.invokestatic 88, 3) := by decide +kernel
theorem dX2_kindNamed_13 : decode cX2_kindNamed 13 = .ok (.invokevirtual 73, 3) := by decide +kernel
theorem dX2_kindNamed_16 : decode cX2_kindNamed 16 = .ok (.ifCond .eq 5, 3) := by decide +kernel
theorem dX2_kindNamed_19 : decode cX2_kindNamed 19 = .ok (.iload_n 1, 1) := by decide +kernel
theorem dX2_kindNamed_20 : decode cX2_kindNamed 20 = .ok (.ireturn, 1) := by decide +kernel
theorem dX2_kindNamed_21 : decode cX2_kindNamed 21 = .ok (.iinc 1 1, 3) := by decide +kernel
theorem dX2_kindNamed_24 : decode cX2_kindNamed 24 = .ok (.goto (-22), 3) := by decide +kernel
theorem dX2_kindNamed_27 : decode cX2_kindNamed 27 = .ok (.iconst (-1), 1) := by decide +kernel
theorem dX2_kindNamed_28 : decode cX2_kindNamed 28 = .ok (.ireturn, 1) := by decide +kernel
theorem dX2_nameOf_0 : decode cX2_nameOf 0 = .ok (.iload_n 0, 1) := by decide +kernel
theorem dX2_nameOf_1 : decode cX2_nameOf 1 = .ok (.tableswitch 50 1 5 #[35, 38, 41, 44, 47], 35) := by decide +kernel
theorem dX2_nameOf_36 : decode cX2_nameOf 36 = .ok (.ldc 92, 2) := by decide +kernel
theorem dX2_nameOf_38 : decode cX2_nameOf 38 = .ok (.areturn, 1) := by decide +kernel
theorem dX2_nameOf_39 : decode cX2_nameOf 39 = .ok (.ldc 94, 2) := by decide +kernel
theorem dX2_nameOf_41 : decode cX2_nameOf 41 = .ok (.areturn, 1) := by decide +kernel
theorem dX2_nameOf_42 : decode cX2_nameOf 42 = .ok (.ldc 96, 2) := by decide +kernel
theorem dX2_nameOf_44 : decode cX2_nameOf 44 = .ok (.areturn, 1) := by decide +kernel
theorem dX2_nameOf_45 : decode cX2_nameOf 45 = .ok (.ldc 98, 2) := by decide +kernel
theorem dX2_nameOf_47 : decode cX2_nameOf 47 = .ok (.areturn, 1) := by decide +kernel
theorem dX2_nameOf_48 : decode cX2_nameOf 48 = .ok (.ldc 100, 2) := by decide +kernel
theorem dX2_nameOf_50 : decode cX2_nameOf 50 = .ok (.areturn, 1) := by decide +kernel
theorem dX2_nameOf_51 : decode cX2_nameOf 51 = .ok (.ldc 102, 2) := by decide +kernel
theorem dX2_nameOf_53 : decode cX2_nameOf 53 = .ok (.areturn, 1) := by decide +kernel
theorem dX2_takesPerson_0 : decode cX2_takesPerson 0 = .ok (.aload_n 1, 1) := by decide +kernel
theorem dX2_takesPerson_1 : decode cX2_takesPerson 1 = .ok (.getfield 104, 3) := by decide +kernel
theorem dX2_takesPerson_4 : decode cX2_takesPerson 4 = .ok (.bipush 8, 2) := by decide +kernel
theorem dX2_takesPerson_6 : decode cX2_takesPerson 6 = .ok (.if_icmp .lt 5, 3) := by decide +kernel
theorem dX2_takesPerson_9 : decode cX2_takesPerson 9 = .ok (.iconst 0, 1) := by decide +kernel
theorem dX2_takesPerson_10 : decode cX2_takesPerson 10 = .ok (.ireturn, 1) := by decide +kernel
theorem dX2_takesPerson_11 : decode cX2_takesPerson 11 = .ok (.aload_n 1, 1) := by decide +kernel
theorem dX2_takesPerson_12 : decode cX2_takesPerson 12 = .ok (.iload_n 2, 1) := by decide +kernel
theorem dX2_takesPerson_13 : decode cX2_takesPerson 13 = .ok (.invokevirtual 109, 3) := by decide +kernel
theorem dX2_takesPerson_16 : decode cX2_takesPerson 16 = .ok (.istore_n 3, 1) := by decide +kernel
theorem dX2_takesPerson_17 : decode cX2_takesPerson 17 = .ok (.aload_n 0, 1) := by decide +kernel
theorem dX2_takesPerson_18 : decode cX2_takesPerson 18 = .ok (.invokevirtual 25, 3) := by decide +kernel
theorem dX2_takesPerson_21 : decode cX2_takesPerson 21 = .ok (.aload_n 0, 1) := by decide +kernel
theorem dX2_takesPerson_22 : decode cX2_takesPerson 22 = .ok (.ldc 112, 2) := by decide +kernel
theorem dX2_takesPerson_24 : decode cX2_takesPerson 24 = .ok (.aload_n 1, 1) := by decide +kernel
theorem dX2_takesPerson_25 : decode cX2_takesPerson 25 = .ok (.getfield 114, 3) := by decide +kernel
theorem dX2_takesPerson_28 : decode cX2_takesPerson 28 = .ok (.iload_n 3, 1) := by decide +kernel
theorem dX2_takesPerson_29 : decode cX2_takesPerson 29 = .ok (.bipush 99, 2) := by decide +kernel
theorem dX2_takesPerson_31 : decode cX2_takesPerson 31 = .ok (.invokevirtual 117, 3) := by decide +kernel
theorem dX2_takesPerson_34 : decode cX2_takesPerson 34 = .ok (.ifCond .ne 5, 3) := by decide +kernel
theorem dX2_takesPerson_37 : decode cX2_takesPerson 37 = .ok (.iconst 0, 1) := by decide +kernel
theorem dX2_takesPerson_38 : decode cX2_takesPerson 38 = .ok (.ireturn, 1) := by decide +kernel
theorem dX2_takesPerson_39 : decode cX2_takesPerson 39 = .ok (.aload_n 0, 1) := by decide +kernel
theorem dX2_takesPerson_40 : decode cX2_takesPerson 40 = .ok (.ldc 121, 2) := by decide +kernel
theorem dX2_takesPerson_42 : decode cX2_takesPerson 42 = .ok (.aload_n 1, 1) := by decide +kernel
theorem dX2_takesPerson_43 : decode cX2_takesPerson 43 = .ok (.getfield 123, 3) := by decide +kernel
theorem dX2_takesPerson_46 : decode cX2_takesPerson 46 = .ok (.iload_n 3, 1) := by decide +kernel
theorem dX2_takesPerson_47 : decode cX2_takesPerson 47 = .ok (.bipush 7, 2) := by decide +kernel
theorem dX2_takesPerson_49 : decode cX2_takesPerson 49 = .ok (.invokevirtual 117, 3) := by decide +kernel
theorem dX2_takesPerson_52 : decode cX2_takesPerson 52 = .ok (.ifCond .ne 5, 3) := by decide +kernel
theorem dX2_takesPerson_55 : decode cX2_takesPerson 55 = .ok (.iconst 0, 1) := by decide +kernel
theorem dX2_takesPerson_56 : decode cX2_takesPerson 56 = .ok (.ireturn, 1) := by decide +kernel
theorem dX2_takesPerson_57 : decode cX2_takesPerson 57 = .ok (.aload_n 0, 1) := by decide +kernel
theorem dX2_takesPerson_58 : decode cX2_takesPerson 58 = .ok (.ldc 125, 2) := by decide +kernel
theorem dX2_takesPerson_60 : decode cX2_takesPerson 60 = .ok (.invokevirtual 73, 3) := by decide +kernel
theorem dX2_takesPerson_63 : decode cX2_takesPerson 63 = .ok (.ifCond .eq 44, 3) := by decide +kernel
theorem dX2_takesPerson_66 : decode cX2_takesPerson 66 = .ok (.aload_n 0, 1) := by decide +kernel
theorem dX2_takesPerson_67 : decode cX2_takesPerson 67 = .ok (.invokevirtual 25, 3) := by decide +kernel
theorem dX2_takesPerson_70 : decode cX2_takesPerson 70 = .ok (.aload_n 0, 1) := by decide +kernel
theorem dX2_takesPerson_71 : decode cX2_takesPerson 71 = .ok (.bipush 7, 2) := by decide +kernel
theorem dX2_takesPerson_73 : decode cX2_takesPerson 73 = .ok (.invokevirtual 127, 3) := by decide +kernel
theorem dX2_takesPerson_76 : decode cX2_takesPerson 76 = .ok (.ifCond .eq 16, 3) := by decide +kernel
theorem dX2_takesPerson_79 : decode cX2_takesPerson 79 = .ok (.aload_n 1, 1) := by decide +kernel
theorem dX2_takesPerson_80 : decode cX2_takesPerson 80 = .ok (.getfield 130, 3) := by decide +kernel
theorem dX2_takesPerson_83 : decode cX2_takesPerson 83 = .ok (.aload_n 0, 1) := by decide +kernel
theorem dX2_takesPerson_84 : decode cX2_takesPerson 84 = .ok (.getfield 42, 3) := by decide +kernel
theorem dX2_takesPerson_87 : decode cX2_takesPerson 87 = .ok (.iaload, 1) := by decide +kernel
theorem dX2_takesPerson_88 : decode cX2_takesPerson 88 = .ok (.iconst (-1), 1) := by decide +kernel
theorem dX2_takesPerson_89 : decode cX2_takesPerson 89 = .ok (.if_icmp .eq 5, 3) := by decide +kernel
theorem dX2_takesPerson_92 : decode cX2_takesPerson 92 = .ok (.iconst 0, 1) := by decide +kernel
theorem dX2_takesPerson_93 : decode cX2_takesPerson 93 = .ok (.ireturn, 1) := by decide +kernel
theorem dX2_takesPerson_94 : decode cX2_takesPerson 94 = .ok (.aload_n 1, 1) := by decide +kernel
theorem dX2_takesPerson_95 : decode cX2_takesPerson 95 = .ok (.iload_n 3, 1) := by decide +kernel
theorem dX2_takesPerson_96 : decode cX2_takesPerson 96 = .ok (.aload_n 0, 1) := by decide +kernel
theorem dX2_takesPerson_97 : decode cX2_takesPerson 97 = .ok (.getfield 42, 3) := by decide +kernel
theorem dX2_takesPerson_100 : decode cX2_takesPerson 100 = .ok (.invokevirtual 133, 3) := by decide +kernel
theorem dX2_takesPerson_103 : decode cX2_takesPerson 103 = .ok (.aload_n 0, 1) := by decide +kernel
theorem dX2_takesPerson_104 : decode cX2_takesPerson 104 = .ok (.invokevirtual 25, 3) := by decide +kernel
theorem dX2_takesPerson_107 : decode cX2_takesPerson 107 = .ok (.iconst 1, 1) := by decide +kernel
theorem dX2_takesPerson_108 : decode cX2_takesPerson 108 = .ok (.ireturn, 1) := by decide +kernel
theorem dX2_takesChair_0 : decode cX2_takesChair 0 = .ok (.aload_n 0, 1) := by decide +kernel
theorem dX2_takesChair_1 : decode cX2_takesChair 1 = .ok (.invokevirtual 25, 3) := by decide +kernel
theorem dX2_takesChair_4 : decode cX2_takesChair 4 = .ok (.aload_n 0, 1) := by decide +kernel
theorem dX2_takesChair_5 : decode cX2_takesChair 5 = .ok (.bipush 7, 2) := by decide +kernel
theorem dX2_takesChair_7 : decode cX2_takesChair 7 = .ok (.invokevirtual 127, 3) := by decide +kernel
theorem dX2_takesChair_10 : decode cX2_takesChair 10 = .ok (.ifCond .ne 5, 3) := by decide +kernel
theorem dX2_takesChair_13 : decode cX2_takesChair 13 = .ok (.iconst 0, 1) := by decide +kernel
theorem dX2_takesChair_14 : decode cX2_takesChair 14 = .ok (.ireturn, 1) := by decide +kernel
theorem dX2_takesChair_15 : decode cX2_takesChair 15 = .ok (.aload_n 0, 1) := by decide +kernel
theorem dX2_takesChair_16 : decode cX2_takesChair 16 = .ok (.getfield 42, 3) := by decide +kernel
theorem dX2_takesChair_19 : decode cX2_takesChair 19 = .ok (.istore_n 2, 1) := by decide +kernel
theorem dX2_takesChair_20 : decode cX2_takesChair 20 = .ok (.aload_n 0, 1) := by decide +kernel
theorem dX2_takesChair_21 : decode cX2_takesChair 21 = .ok (.invokevirtual 25, 3) := by decide +kernel
theorem dX2_takesChair_24 : decode cX2_takesChair 24 = .ok (.aload_n 0, 1) := by decide +kernel
theorem dX2_takesChair_25 : decode cX2_takesChair 25 = .ok (.ldc 137, 2) := by decide +kernel
theorem dX2_takesChair_27 : decode cX2_takesChair 27 = .ok (.aload_n 1, 1) := by decide +kernel
theorem dX2_takesChair_28 : decode cX2_takesChair 28 = .ok (.getfield 139, 3) := by decide +kernel
theorem dX2_takesChair_31 : decode cX2_takesChair 31 = .ok (.iload_n 2, 1) := by decide +kernel
theorem dX2_takesChair_32 : decode cX2_takesChair 32 = .ok (.bipush 20, 2) := by decide +kernel
theorem dX2_takesChair_34 : decode cX2_takesChair 34 = .ok (.invokevirtual 117, 3) := by decide +kernel
theorem dX2_takesChair_37 : decode cX2_takesChair 37 = .ok (.ifCond .eq 23, 3) := by decide +kernel
theorem dX2_takesChair_40 : decode cX2_takesChair 40 = .ok (.aload_n 0, 1) := by decide +kernel
theorem dX2_takesChair_41 : decode cX2_takesChair 41 = .ok (.ldc 142, 2) := by decide +kernel
theorem dX2_takesChair_43 : decode cX2_takesChair 43 = .ok (.aload_n 1, 1) := by decide +kernel
theorem dX2_takesChair_44 : decode cX2_takesChair 44 = .ok (.getfield 144, 3) := by decide +kernel
theorem dX2_takesChair_47 : decode cX2_takesChair 47 = .ok (.iload_n 2, 1) := by decide +kernel
theorem dX2_takesChair_48 : decode cX2_takesChair 48 = .ok (.bipush 9, 2) := by decide +kernel
theorem dX2_takesChair_50 : decode cX2_takesChair 50 = .ok (.invokevirtual 117, 3) := by decide +kernel
theorem dX2_takesChair_53 : decode cX2_takesChair 53 = .ok (.ifCond .eq 7, 3) := by decide +kernel
theorem dX2_takesChair_56 : decode cX2_takesChair 56 = .ok (.iconst 1, 1) := by decide +kernel
theorem dX2_takesChair_57 : decode cX2_takesChair 57 = .ok (.goto 4, 3) := by decide +kernel
theorem dX2_takesChair_60 : decode cX2_takesChair 60 = .ok (.iconst 0, 1) := by decide +kernel
theorem dX2_takesChair_61 : decode cX2_takesChair 61 = .ok (.ireturn, 1) := by decide +kernel
theorem dX2_takesTwo_0 : decode cX2_takesTwo 0 = .ok (.aload_n 0, 1) := by decide +kernel
theorem dX2_takesTwo_1 : decode cX2_takesTwo 1 = .ok (.invokevirtual 25, 3) := by decide +kernel
theorem dX2_takesTwo_4 : decode cX2_takesTwo 4 = .ok (.aload_n 0, 1) := by decide +kernel
theorem dX2_takesTwo_5 : decode cX2_takesTwo 5 = .ok (.aload_n 1, 1) := by decide +kernel
theorem dX2_takesTwo_6 : decode cX2_takesTwo 6 = .ok (.getfield 104, 3) := by decide +kernel
theorem dX2_takesTwo_9 : decode cX2_takesTwo 9 = .ok (.iconst 1, 1) := by decide +kernel
theorem dX2_takesTwo_10 : decode cX2_takesTwo 10 = .ok (.isub, 1) := by decide +kernel
theorem dX2_takesTwo_11 : decode cX2_takesTwo 11 = .ok (.invokevirtual 127, 3) := by decide +kernel
theorem dX2_takesTwo_14 : decode cX2_takesTwo 14 = .ok (.ifCond .ne 5, 3) := by decide +kernel
theorem dX2_takesTwo_17 : decode cX2_takesTwo 17 = .ok (.iconst 0, 1) := by decide +kernel
theorem dX2_takesTwo_18 : decode cX2_takesTwo 18 = .ok (.ireturn, 1) := by decide +kernel
theorem dX2_takesTwo_19 : decode cX2_takesTwo 19 = .ok (.aload_n 0, 1) := by decide +kernel
theorem dX2_takesTwo_20 : decode cX2_takesTwo 20 = .ok (.getfield 42, 3) := by decide +kernel
theorem dX2_takesTwo_23 : decode cX2_takesTwo 23 = .ok (.istore_n 3, 1) := by decide +kernel
theorem dX2_takesTwo_24 : decode cX2_takesTwo 24 = .ok (.aload_n 0, 1) := by decide +kernel
theorem dX2_takesTwo_25 : decode cX2_takesTwo 25 = .ok (.invokevirtual 25, 3) := by decide +kernel
theorem dX2_takesTwo_28 : decode cX2_takesTwo 28 = .ok (.aload_n 0, 1) := by decide +kernel
theorem dX2_takesTwo_29 : decode cX2_takesTwo 29 = .ok (.aload_n 1, 1) := by decide +kernel
theorem dX2_takesTwo_30 : decode cX2_takesTwo 30 = .ok (.getfield 104, 3) := by decide +kernel
theorem dX2_takesTwo_33 : decode cX2_takesTwo 33 = .ok (.iconst 1, 1) := by decide +kernel
theorem dX2_takesTwo_34 : decode cX2_takesTwo 34 = .ok (.isub, 1) := by decide +kernel
theorem dX2_takesTwo_35 : decode cX2_takesTwo 35 = .ok (.invokevirtual 127, 3) := by decide +kernel
theorem dX2_takesTwo_38 : decode cX2_takesTwo 38 = .ok (.ifCond .eq 11, 3) := by decide +kernel
theorem dX2_takesTwo_41 : decode cX2_takesTwo 41 = .ok (.aload_n 0, 1) := by decide +kernel
theorem dX2_takesTwo_42 : decode cX2_takesTwo 42 = .ok (.getfield 42, 3) := by decide +kernel
theorem dX2_takesTwo_45 : decode cX2_takesTwo 45 = .ok (.iload_n 3, 1) := by decide +kernel
theorem dX2_takesTwo_46 : decode cX2_takesTwo 46 = .ok (.if_icmp .ne 5, 3) := by decide +kernel
theorem dX2_takesTwo_49 : decode cX2_takesTwo 49 = .ok (.iconst 0, 1) := by decide +kernel
theorem dX2_takesTwo_50 : decode cX2_takesTwo 50 = .ok (.ireturn, 1) := by decide +kernel
theorem dX2_takesTwo_51 : decode cX2_takesTwo 51 = .ok (.aload_n 1, 1) := by decide +kernel
theorem dX2_takesTwo_52 : decode cX2_takesTwo 52 = .ok (.iload_n 3, 1) := by decide +kernel
theorem dX2_takesTwo_53 : decode cX2_takesTwo 53 = .ok (.aload_n 0, 1) := by decide +kernel
theorem dX2_takesTwo_54 : decode cX2_takesTwo 54 = .ok (.getfield 42, 3) := by decide +kernel
theorem dX2_takesTwo_57 : decode cX2_takesTwo 57 = .ok (.iload_n 2, 1) := by decide +kernel
theorem dX2_takesTwo_58 : decode cX2_takesTwo 58 = .ok (.invokevirtual 147, 3) := by decide +kernel
theorem dX2_takesTwo_61 : decode cX2_takesTwo 61 = .ok (.aload_n 0, 1) := by decide +kernel
theorem dX2_takesTwo_62 : decode cX2_takesTwo 62 = .ok (.invokevirtual 25, 3) := by decide +kernel
theorem dX2_takesTwo_65 : decode cX2_takesTwo 65 = .ok (.iconst 1, 1) := by decide +kernel
theorem dX2_takesTwo_66 : decode cX2_takesTwo 66 = .ok (.ireturn, 1) := by decide +kernel
theorem dX2_takesPerhaps_0 : decode cX2_takesPerhaps 0 = .ok (.aload_n 0, 1) := by decide +kernel
theorem dX2_takesPerhaps_1 : decode cX2_takesPerhaps 1 = .ok (.aload_n 1, 1) := by decide +kernel
theorem dX2_takesPerhaps_2 : decode cX2_takesPerhaps 2 = .ok (.invokevirtual 73, 3) := by decide +kernel
theorem dX2_takesPerhaps_5 : decode cX2_takesPerhaps 5 = .ok (.ifCond .ne 5, 3) := by decide +kernel
theorem dX2_takesPerhaps_8 : decode cX2_takesPerhaps 8 = .ok (.iconst 1, 1) := by decide +kernel
theorem dX2_takesPerhaps_9 : decode cX2_takesPerhaps 9 = .ok (.ireturn, 1) := by decide +kernel
theorem dX2_takesPerhaps_10 : decode cX2_takesPerhaps 10 = .ok (.aload_n 0, 1) := by decide +kernel
theorem dX2_takesPerhaps_11 : decode cX2_takesPerhaps 11 = .ok (.invokevirtual 25, 3) := by decide +kernel
theorem dX2_takesPerhaps_14 : decode cX2_takesPerhaps 14 = .ok (.aload_n 0, 1) := by decide +kernel
theorem dX2_takesPerhaps_15 : decode cX2_takesPerhaps 15 = .ok (.iload 4, 2) := by decide +kernel
theorem dX2_takesPerhaps_17 : decode cX2_takesPerhaps 17 = .ok (.invokevirtual 127, 3) := by decide +kernel
theorem dX2_takesPerhaps_20 : decode cX2_takesPerhaps 20 = .ok (.ifCond .ne 5, 3) := by decide +kernel
theorem dX2_takesPerhaps_23 : decode cX2_takesPerhaps 23 = .ok (.iconst 0, 1) := by decide +kernel
theorem dX2_takesPerhaps_24 : decode cX2_takesPerhaps 24 = .ok (.ireturn, 1) := by decide +kernel
theorem dX2_takesPerhaps_25 : decode cX2_takesPerhaps 25 = .ok (.aload_n 2, 1) := by decide +kernel
theorem dX2_takesPerhaps_26 : decode cX2_takesPerhaps 26 = .ok (.iload_n 3, 1) := by decide +kernel
theorem dX2_takesPerhaps_27 : decode cX2_takesPerhaps 27 = .ok (.aload_n 0, 1) := by decide +kernel
theorem dX2_takesPerhaps_28 : decode cX2_takesPerhaps 28 = .ok (.getfield 42, 3) := by decide +kernel
theorem dX2_takesPerhaps_31 : decode cX2_takesPerhaps 31 = .ok (.iastore, 1) := by decide +kernel
theorem dX2_takesPerhaps_32 : decode cX2_takesPerhaps 32 = .ok (.aload_n 0, 1) := by decide +kernel
theorem dX2_takesPerhaps_33 : decode cX2_takesPerhaps 33 = .ok (.invokevirtual 25, 3) := by decide +kernel
theorem dX2_takesPerhaps_36 : decode cX2_takesPerhaps 36 = .ok (.iconst 1, 1) := by decide +kernel
theorem dX2_takesPerhaps_37 : decode cX2_takesPerhaps 37 = .ok (.ireturn, 1) := by decide +kernel
theorem dX3_init_0 : decode cX3_init 0 = .ok (.aload_n 0, 1) := by decide +kernel
theorem dX3_init_1 : decode cX3_init 1 = .ok (.invokespecial 1, 3) := by decide +kernel
theorem dX3_init_4 : decode cX3_init 4 = .ok (.aload_n 0, 1) := by decide +kernel
theorem dX3_init_5 : decode cX3_init 5 = .ok (.new 7, 3) := by decide +kernel
theorem dX3_init_8 : decode cX3_init 8 = .ok (.dup, 1) := by decide +kernel
theorem dX3_init_9 : decode cX3_init 9 = .ok (.invokespecial 9, 3) := by decide +kernel
theorem dX3_init_12 : decode cX3_init 12 = .ok (.putfield 10, 3) := by decide +kernel
theorem dX3_init_15 : decode cX3_init 15 = .ok (.aload_n 0, 1) := by decide +kernel
theorem dX3_init_16 : decode cX3_init 16 = .ok (.new 7, 3) := by decide +kernel
theorem dX3_init_19 : decode cX3_init 19 = .ok (.dup, 1) := by decide +kernel
theorem dX3_init_20 : decode cX3_init 20 = .ok (.invokespecial 9, 3) := by decide +kernel
theorem dX3_init_23 : decode cX3_init 23 = .ok (.putfield 16, 3) := by decide +kernel
theorem dX3_init_26 : decode cX3_init 26 = .ok (.aload_n 0, 1) := by decide +kernel
theorem dX3_init_27 : decode cX3_init 27 = .ok (.new 7, 3) := by decide +kernel
theorem dX3_init_30 : decode cX3_init 30 = .ok (.dup, 1) := by decide +kernel
theorem dX3_init_31 : decode cX3_init 31 = .ok (.invokespecial 9, 3) := by decide +kernel
theorem dX3_init_34 : decode cX3_init 34 = .ok (.putfield 19, 3) := by decide +kernel
theorem dX3_init_37 : decode cX3_init 37 = .ok (.aload_n 0, 1) := by decide +kernel
theorem dX3_init_38 : decode cX3_init 38 = .ok (.iconst 0, 1) := by decide +kernel
theorem dX3_init_39 : decode cX3_init 39 = .ok (.putfield 22, 3) := by decide +kernel
theorem dX3_init_42 : decode cX3_init 42 = .ok (.aload_n 0, 1) := by decide +kernel
theorem dX3_init_43 : decode cX3_init 43 = .ok (.new 26, 3) := by decide +kernel
theorem dX3_init_46 : decode cX3_init 46 = .ok (.dup, 1) := by decide +kernel
theorem dX3_init_47 : decode cX3_init 47 = .ok (.invokespecial 28, 3) := by decide +kernel
theorem dX3_init_50 : decode cX3_init 50 = .ok (.putfield 29, 3) := by decide +kernel
theorem dX3_init_53 : decode cX3_init 53 = .ok (.aload_n 0, 1) := by decide +kernel
theorem dX3_init_54 : decode cX3_init 54 = .ok (.iconst 4, 1) := by decide +kernel
theorem dX3_init_55 : decode cX3_init 55 = .ok (.anewarray 33, 3) := by decide +kernel
theorem dX3_init_58 : decode cX3_init 58 = .ok (.putfield 35, 3) := by decide +kernel
theorem dX3_init_61 : decode cX3_init 61 = .ok (.iconst 0, 1) := by decide +kernel
theorem dX3_init_62 : decode cX3_init 62 = .ok (.istore_n 1, 1) := by decide +kernel
theorem dX3_init_63 : decode cX3_init 63 = .ok (.iload_n 1, 1) := by decide +kernel
theorem dX3_init_64 : decode cX3_init 64 = .ok (.iconst 4, 1) := by decide +kernel
theorem dX3_init_65 : decode cX3_init 65 = .ok (.if_icmp .ge 22, 3) := by decide +kernel
theorem dX3_init_68 : decode cX3_init 68 = .ok (.aload_n 0, 1) := by decide +kernel
theorem dX3_init_69 : decode cX3_init 69 = .ok (.getfield 35, 3) := by decide +kernel
theorem dX3_init_72 : decode cX3_init 72 = .ok (.iload_n 1, 1) := by decide +kernel
theorem dX3_init_73 : decode cX3_init 73 = .ok (.new 33, 3) := by decide +kernel
theorem dX3_init_76 : decode cX3_init 76 = .ok (.dup, 1) := by decide +kernel
theorem dX3_init_77 : decode cX3_init 77 = .ok (.invokespecial 39, 3) := by decide +kernel
theorem dX3_init_80 : decode cX3_init 80 = .ok (.aastore, 1) := by decide +kernel
theorem dX3_init_81 : decode cX3_init 81 = .ok (.iinc 1 1, 3) := by decide +kernel
theorem dX3_init_84 : decode cX3_init 84 = .ok (.goto (-21), 3) := by decide +kernel
theorem dX3_init_87 : decode cX3_init 87 = .ok (.aload_n 0, 1) := by decide +kernel
theorem dX3_init_88 : decode cX3_init 88 = .ok (.bipush 7, 2) := by decide +kernel
theorem dX3_init_90 : decode cX3_init 90 = .ok (.newarray .int, 2) := by decide +kernel
theorem dX3_init_92 : decode cX3_init 92 = .ok (.putfield 40, 3) := by decide +kernel
theorem dX3_init_95 : decode cX3_init 95 = .ok (.aload_n 0, 1) := by decide +kernel
theorem dX3_init_96 : decode cX3_init 96 = .ok (.bipush 8, 2) := by decide +kernel
theorem dX3_init_98 : decode cX3_init 98 = .ok (.newarray .int, 2) := by decide +kernel
theorem dX3_init_100 : decode cX3_init 100 = .ok (.putfield 44, 3) := by decide +kernel
theorem dX3_init_103 : decode cX3_init 103 = .ok (.return_, 1) := by decide +kernel
theorem dX3_chair_0 : decode cX3_chair 0 = .ok (.iload_n 1, 1) := by decide +kernel
theorem dX3_chair_1 : decode cX3_chair 1 = .ok (.invokestatic 47, 3) := by decide +kernel
theorem dX3_chair_4 : decode cX3_chair 4 = .ok (.ifCond .eq 12, 3) := by decide +kernel
theorem dX3_chair_7 : decode cX3_chair 7 = .ok (.iload_n 2, 1) := by decide +kernel
theorem dX3_chair_8 : decode cX3_chair 8 = .ok (.iconst 0, 1) := by decide +kernel
theorem dX3_chair_9 : decode cX3_chair 9 = .ok (.iconst 1, 1) := by decide +kernel
theorem dX3_chair_10 : decode cX3_chair 10 = .ok (.invokestatic 51, 3) := by decide +kernel
theorem dX3_chair_13 : decode cX3_chair 13 = .ok (.ifCond .ne 9, 3) := by decide +kernel
theorem dX3_chair_16 : decode cX3_chair 16 = .ok (.aload_n 0, 1) := by decide +kernel
theorem dX3_chair_17 : decode cX3_chair 17 = .ok (.iconst 0, 1) := by decide +kernel
theorem dX3_chair_18 : decode cX3_chair 18 = .ok (.invokevirtual 55, 3) := by decide +kernel
theorem dX3_chair_21 : decode cX3_chair 21 = .ok (.ireturn, 1) := by decide +kernel
theorem dX3_chair_22 : decode cX3_chair 22 = .ok (.iload_n 2, 1) := by decide +kernel
theorem dX3_chair_23 : decode cX3_chair 23 = .ok (.ifCond .ne 13, 3) := by decide +kernel
theorem dX3_chair_26 : decode cX3_chair 26 = .ok (.aload_n 0, 1) := by decide +kernel
theorem dX3_chair_27 : decode cX3_chair 27 = .ok (.getfield 10, 3) := by decide +kernel
theorem dX3_chair_30 : decode cX3_chair 30 = .ok (.getfield 59, 3) := by decide +kernel
theorem dX3_chair_33 : decode cX3_chair 33 = .ok (.goto 10, 3) := by decide +kernel
theorem dX3_chair_36 : decode cX3_chair 36 = .ok (.aload_n 0, 1) := by decide +kernel
theorem dX3_chair_37 : decode cX3_chair 37 = .ok (.getfield 10, 3) := by decide +kernel
theorem dX3_chair_40 : decode cX3_chair 40 = .ok (.getfield 62, 3) := by decide +kernel
theorem dX3_chair_43 : decode cX3_chair 43 = .ok (.astore 4, 2) := by decide +kernel
theorem dX3_chair_45 : decode cX3_chair 45 = .ok (.iload_n 3, 1) := by decide +kernel
theorem dX3_chair_46 : decode cX3_chair 46 = .ok (.iconst 0, 1) := by decide +kernel
theorem dX3_chair_47 : decode cX3_chair 47 = .ok (.iload_n 2, 1) := by decide +kernel
theorem dX3_chair_48 : decode cX3_chair 48 = .ok (.ifCond .ne 8, 3) := by decide +kernel
theorem dX3_chair_51 : decode cX3_chair 51 = .ok (.bipush 20, 2) := by decide +kernel
theorem dX3_chair_53 : decode cX3_chair 53 = .ok (.goto 5, 3) := by decide +kernel
theorem dX3_chair_56 : decode cX3_chair 56 = .ok (.bipush 9, 2) := by decide +kernel
theorem dX3_chair_58 : decode cX3_chair 58 = .ok (.invokestatic 51, 3) := by decide +kernel
theorem dX3_chair_61 : decode cX3_chair 61 = .ok (.ifCond .ne 9, 3) := by decide +kernel
theorem dX3_chair_64 : decode cX3_chair 64 = .ok (.aload_n 0, 1) := by decide +kernel
theorem dX3_chair_65 : decode cX3_chair 65 = .ok (.iconst 0, 1) := by decide +kernel
theorem dX3_chair_66 : decode cX3_chair 66 = .ok (.invokevirtual 55, 3) := by decide +kernel
theorem dX3_chair_69 : decode cX3_chair 69 = .ok (.ireturn, 1) := by decide +kernel
theorem dX3_chair_70 : decode cX3_chair 70 = .ok (.aload 4, 2) := by decide +kernel
theorem dX3_chair_72 : decode cX3_chair 72 = .ok (.iload_n 1, 1) := by decide +kernel
theorem dX3_chair_73 : decode cX3_chair 73 = .ok (.iaload, 1) := by decide +kernel
theorem dX3_chair_74 : decode cX3_chair 74 = .ok (.istore 5, 2) := by decide +kernel
theorem dX3_chair_76 : decode cX3_chair 76 = .ok (.aload 4, 2) := by decide +kernel
theorem dX3_chair_78 : decode cX3_chair 78 = .ok (.iload_n 1, 1) := by decide +kernel
theorem dX3_chair_79 : decode cX3_chair 79 = .ok (.iload_n 3, 1) := by decide +kernel
theorem dX3_chair_80 : decode cX3_chair 80 = .ok (.iastore, 1) := by decide +kernel
theorem dX3_chair_81 : decode cX3_chair 81 = .ok (.iload 5, 2) := by decide +kernel
theorem dX3_chair_83 : decode cX3_chair 83 = .ok (.ireturn, 1) := by decide +kernel
theorem dX3_chairOf_0 : decode cX3_chairOf 0 = .ok (.iload_n 1, 1) := by decide +kernel
theorem dX3_chairOf_1 : decode cX3_chairOf 1 = .ok (.invokestatic 47, 3) := by decide +kernel
theorem dX3_chairOf_4 : decode cX3_chairOf 4 = .ok (.ifCond .ne 9, 3) := by decide +kernel
theorem dX3_chairOf_7 : decode cX3_chairOf 7 = .ok (.aload_n 0, 1) := by decide +kernel
theorem dX3_chairOf_8 : decode cX3_chairOf 8 = .ok (.iconst 0, 1) := by decide +kernel
theorem dX3_chairOf_9 : decode cX3_chairOf 9 = .ok (.invokevirtual 55, 3) := by decide +kernel
theorem dX3_chairOf_12 : decode cX3_chairOf 12 = .ok (.ireturn, 1) := by decide +kernel
theorem dX3_chairOf_13 : decode cX3_chairOf 13 = .ok (.iload_n 2, 1) := by decide +kernel
theorem dX3_chairOf_14 : decode cX3_chairOf 14 = .ok (.tableswitch 56 0 2 #[26, 36, 46], 26) := by decide +kernel
theorem dX3_chairOf_40 : decode cX3_chairOf 40 = .ok (.aload_n 0, 1) := by decide +kernel
theorem dX3_chairOf_41 : decode cX3_chairOf 41 = .ok (.getfield 10, 3) := by decide +kernel
theorem dX3_chairOf_44 : decode cX3_chairOf 44 = .ok (.getfield 59, 3) := by decide +kernel
theorem dX3_chairOf_47 : decode cX3_chairOf 47 = .ok (.iload_n 1, 1) := by decide +kernel
theorem dX3_chairOf_48 : decode cX3_chairOf 48 = .ok (.iaload, 1) := by decide +kernel
theorem dX3_chairOf_49 : decode cX3_chairOf 49 = .ok (.ireturn, 1) := by decide +kernel
theorem dX3_chairOf_50 : decode cX3_chairOf 50 = .ok (.aload_n 0, 1) := by decide +kernel
theorem dX3_chairOf_51 : decode cX3_chairOf 51 = .ok (.getfield 10, 3) := by decide +kernel
theorem dX3_chairOf_54 : decode cX3_chairOf 54 = .ok (.getfield 62, 3) := by decide +kernel
theorem dX3_chairOf_57 : decode cX3_chairOf 57 = .ok (.iload_n 1, 1) := by decide +kernel
theorem dX3_chairOf_58 : decode cX3_chairOf 58 = .ok (.iaload, 1) := by decide +kernel
theorem dX3_chairOf_59 : decode cX3_chairOf 59 = .ok (.ireturn, 1) := by decide +kernel
theorem dX3_chairOf_60 : decode cX3_chairOf 60 = .ok (.aload_n 0, 1) := by decide +kernel
theorem dX3_chairOf_61 : decode cX3_chairOf 61 = .ok (.getfield 10, 3) := by decide +kernel
theorem dX3_chairOf_64 : decode cX3_chairOf 64 = .ok (.getfield 65, 3) := by decide +kernel
theorem dX3_chairOf_67 : decode cX3_chairOf 67 = .ok (.iload_n 1, 1) := by decide +kernel
theorem dX3_chairOf_68 : decode cX3_chairOf 68 = .ok (.iaload, 1) := by decide +kernel
theorem dX3_chairOf_69 : decode cX3_chairOf 69 = .ok (.ireturn, 1) := by decide +kernel
theorem dX3_chairOf_70 : decode cX3_chairOf 70 = .ok (.aload_n 0, 1) := by decide +kernel
theorem dX3_chairOf_71 : decode cX3_chairOf 71 = .ok (.iconst 0, 1) := by decide +kernel
theorem dX3_chairOf_72 : decode cX3_chairOf 72 = .ok (.invokevirtual 55, 3) := by decide +kernel
theorem dX3_chairOf_75 : decode cX3_chairOf 75 = .ok (.ireturn, 1) := by decide +kernel
theorem dX3_person_0 : decode cX3_person 0 = .ok (.iload_n 1, 1) := by decide +kernel
theorem dX3_person_1 : decode cX3_person 1 = .ok (.invokestatic 68, 3) := by decide +kernel
theorem dX3_person_4 : decode cX3_person 4 = .ok (.ifCond .ne 9, 3) := by decide +kernel
theorem dX3_person_7 : decode cX3_person 7 = .ok (.aload_n 0, 1) := by decide +kernel
theorem dX3_person_8 : decode cX3_person 8 = .ok (.iconst 0, 1) := by decide +kernel
theorem dX3_person_9 : decode cX3_person 9 = .ok (.invokevirtual 55, 3) := by decide +kernel
theorem dX3_person_12 : decode cX3_person 12 = .ok (.ireturn, 1) := by decide +kernel
theorem dX3_person_13 : decode cX3_person 13 = .ok (.aload_n 0, 1) := by decide +kernel
theorem dX3_person_14 : decode cX3_person 14 = .ok (.getfield 10, 3) := by decide +kernel
theorem dX3_person_17 : decode cX3_person 17 = .ok (.getfield 71, 3) := by decide +kernel
theorem dX3_person_20 : decode cX3_person 20 = .ok (.bipush 8, 2) := by decide +kernel
theorem dX3_person_22 : decode cX3_person 22 = .ok (.if_icmp .lt 9, 3) := by decide +kernel
theorem dX3_person_25 : decode cX3_person 25 = .ok (.aload_n 0, 1) := by decide +kernel
theorem dX3_person_26 : decode cX3_person 26 = .ok (.iconst 1, 1) := by decide +kernel
theorem dX3_person_27 : decode cX3_person 27 = .ok (.invokevirtual 55, 3) := by decide +kernel
theorem dX3_person_30 : decode cX3_person 30 = .ok (.ireturn, 1) := by decide +kernel
theorem dX3_person_31 : decode cX3_person 31 = .ok (.aload_n 0, 1) := by decide +kernel
theorem dX3_person_32 : decode cX3_person 32 = .ok (.getfield 10, 3) := by decide +kernel
theorem dX3_person_35 : decode cX3_person 35 = .ok (.iload_n 1, 1) := by decide +kernel
theorem dX3_person_36 : decode cX3_person 36 = .ok (.invokevirtual 75, 3) := by decide +kernel
theorem dX3_person_39 : decode cX3_person 39 = .ok (.ireturn, 1) := by decide +kernel
theorem dX3_of_0 : decode cX3_of 0 = .ok (.aload_n 0, 1) := by decide +kernel
theorem dX3_of_1 : decode cX3_of 1 = .ok (.iload_n 1, 1) := by decide +kernel
theorem dX3_of_2 : decode cX3_of 2 = .ok (.invokevirtual 78, 3) := by decide +kernel
theorem dX3_of_5 : decode cX3_of 5 = .ok (.ifCond .ne 9, 3) := by decide +kernel
theorem dX3_of_8 : decode cX3_of 8 = .ok (.aload_n 0, 1) := by decide +kernel
theorem dX3_of_9 : decode cX3_of 9 = .ok (.iconst 0, 1) := by decide +kernel
theorem dX3_of_10 : decode cX3_of 10 = .ok (.invokevirtual 55, 3) := by decide +kernel
theorem dX3_of_13 : decode cX3_of 13 = .ok (.ireturn, 1) := by decide +kernel
theorem dX3_of_14 : decode cX3_of 14 = .ok (.iload_n 2, 1) := by decide +kernel
theorem dX3_of_15 : decode cX3_of 15 = .ok (.tableswitch 110 0 6 #[41, 51, 61, 71, 81, 91, 101], 41) := by decide +kernel
theorem dX3_of_56 : decode cX3_of 56 = .ok (.aload_n 0, 1) := by decide +kernel
theorem dX3_of_57 : decode cX3_of 57 = .ok (.getfield 10, 3) := by decide +kernel
theorem dX3_of_60 : decode cX3_of 60 = .ok (.getfield 81, 3) := by decide +kernel
theorem dX3_of_63 : decode cX3_of 63 = .ok (.iload_n 1, 1) := by decide +kernel
theorem dX3_of_64 : decode cX3_of 64 = .ok (.iaload, 1) := by decide +kernel
theorem dX3_of_65 : decode cX3_of 65 = .ok (.ireturn, 1) := by decide +kernel
theorem dX3_of_66 : decode cX3_of 66 = .ok (.aload_n 0, 1) := by decide +kernel
theorem dX3_of_67 : decode cX3_of 67 = .ok (.getfield 10, 3) := by decide +kernel
theorem dX3_of_70 : decode cX3_of 70 = .ok (.getfield 84, 3) := by decide +kernel
theorem dX3_of_73 : decode cX3_of 73 = .ok (.iload_n 1, 1) := by decide +kernel
theorem dX3_of_74 : decode cX3_of 74 = .ok (.iaload, 1) := by decide +kernel
theorem dX3_of_75 : decode cX3_of 75 = .ok (.ireturn, 1) := by decide +kernel
theorem dX3_of_76 : decode cX3_of 76 = .ok (.aload_n 0, 1) := by decide +kernel
theorem dX3_of_77 : decode cX3_of 77 = .ok (.getfield 10, 3) := by decide +kernel
theorem dX3_of_80 : decode cX3_of 80 = .ok (.getfield 87, 3) := by decide +kernel
theorem dX3_of_83 : decode cX3_of 83 = .ok (.iload_n 1, 1) := by decide +kernel
theorem dX3_of_84 : decode cX3_of 84 = .ok (.iaload, 1) := by decide +kernel
theorem dX3_of_85 : decode cX3_of 85 = .ok (.ireturn, 1) := by decide +kernel
theorem dX3_of_86 : decode cX3_of 86 = .ok (.aload_n 0, 1) := by decide +kernel
theorem dX3_of_87 : decode cX3_of 87 = .ok (.getfield 10, 3) := by decide +kernel
theorem dX3_of_90 : decode cX3_of 90 = .ok (.getfield 90, 3) := by decide +kernel
theorem dX3_of_93 : decode cX3_of 93 = .ok (.iload_n 1, 1) := by decide +kernel
theorem dX3_of_94 : decode cX3_of 94 = .ok (.iaload, 1) := by decide +kernel
theorem dX3_of_95 : decode cX3_of 95 = .ok (.ireturn, 1) := by decide +kernel
theorem dX3_of_96 : decode cX3_of 96 = .ok (.aload_n 0, 1) := by decide +kernel
theorem dX3_of_97 : decode cX3_of 97 = .ok (.getfield 10, 3) := by decide +kernel
theorem dX3_of_100 : decode cX3_of 100 = .ok (.getfield 93, 3) := by decide +kernel
theorem dX3_of_103 : decode cX3_of 103 = .ok (.iload_n 1, 1) := by decide +kernel
theorem dX3_of_104 : decode cX3_of 104 = .ok (.iaload, 1) := by decide +kernel
theorem dX3_of_105 : decode cX3_of 105 = .ok (.ireturn, 1) := by decide +kernel
theorem dX3_of_106 : decode cX3_of 106 = .ok (.aload_n 0, 1) := by decide +kernel
theorem dX3_of_107 : decode cX3_of 107 = .ok (.getfield 10, 3) := by decide +kernel
theorem dX3_of_110 : decode cX3_of 110 = .ok (.getfield 96, 3) := by decide +kernel
theorem dX3_of_113 : decode cX3_of 113 = .ok (.iload_n 1, 1) := by decide +kernel
theorem dX3_of_114 : decode cX3_of 114 = .ok (.iaload, 1) := by decide +kernel
theorem dX3_of_115 : decode cX3_of 115 = .ok (.ireturn, 1) := by decide +kernel
theorem dX3_of_116 : decode cX3_of 116 = .ok (.aload_n 0, 1) := by decide +kernel
theorem dX3_of_117 : decode cX3_of 117 = .ok (.getfield 10, 3) := by decide +kernel
theorem dX3_of_120 : decode cX3_of 120 = .ok (.iload_n 1, 1) := by decide +kernel
theorem dX3_of_121 : decode cX3_of 121 = .ok (.invokevirtual 99, 3) := by decide +kernel
theorem dX3_of_124 : decode cX3_of 124 = .ok (.ireturn, 1) := by decide +kernel
theorem dX3_of_125 : decode cX3_of 125 = .ok (.aload_n 0, 1) := by decide +kernel
theorem dX3_of_126 : decode cX3_of 126 = .ok (.iconst 0, 1) := by decide +kernel
theorem dX3_of_127 : decode cX3_of 127 = .ok (.invokevirtual 55, 3) := by decide +kernel
theorem dX3_of_130 : decode cX3_of 130 = .ok (.ireturn, 1) := by decide +kernel
theorem dX3_set_0 : decode cX3_set 0 = .ok (.aload_n 0, 1) := by decide +kernel
theorem dX3_set_1 : decode cX3_set 1 = .ok (.iload_n 1, 1) := by decide +kernel
theorem dX3_set_2 : decode cX3_set 2 = .ok (.invokevirtual 78, 3) := by decide +kernel
theorem dX3_set_5 : decode cX3_set 5 = .ok (.ifCond .ne 9, 3) := by decide +kernel
theorem dX3_set_8 : decode cX3_set 8 = .ok (.aload_n 0, 1) := by decide +kernel
theorem dX3_set_9 : decode cX3_set 9 = .ok (.iconst 0, 1) := by decide +kernel
theorem dX3_set_10 : decode cX3_set 10 = .ok (.invokevirtual 55, 3) := by decide +kernel
theorem dX3_set_13 : decode cX3_set 13 = .ok (.ireturn, 1) := by decide +kernel
theorem dX3_set_14 : decode cX3_set 14 = .ok (.iload_n 2, 1) := by decide +kernel
theorem dX3_set_15 : decode cX3_set 15 = .ok (.tableswitch 81 1 4 #[29, 46, 81, 63], 29) := by decide +kernel
theorem dX3_set_44 : decode cX3_set 44 = .ok (.aload_n 0, 1) := by decide +kernel
theorem dX3_set_45 : decode cX3_set 45 = .ok (.aload_n 0, 1) := by decide +kernel
theorem dX3_set_46 : decode cX3_set 46 = .ok (.getfield 10, 3) := by decide +kernel
theorem dX3_set_49 : decode cX3_set 49 = .ok (.getfield 84, 3) := by decide +kernel
theorem dX3_set_52 : decode cX3_set 52 = .ok (.iload_n 1, 1) := by decide +kernel
theorem dX3_set_53 : decode cX3_set 53 = .ok (.iload_n 3, 1) := by decide +kernel
theorem dX3_set_54 : decode cX3_set 54 = .ok (.iconst 0, 1) := by decide +kernel
theorem dX3_set_55 : decode cX3_set 55 = .ok (.bipush 99, 2) := by decide +kernel
theorem dX3_set_57 : decode cX3_set 57 = .ok (.invokevirtual 102, 3) := by decide +kernel
theorem dX3_set_60 : decode cX3_set 60 = .ok (.ireturn, 1) := by decide +kernel
theorem dX3_set_61 : decode cX3_set 61 = .ok (.aload_n 0, 1) := by decide +kernel
theorem dX3_set_62 : decode cX3_set 62 = .ok (.aload_n 0, 1) := by decide +kernel
theorem dX3_set_63 : decode cX3_set 63 = .ok (.getfield 10, 3) := by decide +kernel
theorem dX3_set_66 : decode cX3_set 66 = .ok (.getfield 87, 3) := by decide +kernel
theorem dX3_set_69 : decode cX3_set 69 = .ok (.iload_n 1, 1) := by decide +kernel
theorem dX3_set_70 : decode cX3_set 70 = .ok (.iload_n 3, 1) := by decide +kernel
theorem dX3_set_71 : decode cX3_set 71 = .ok (.iconst (-1), 1) := by decide +kernel
theorem dX3_set_72 : decode cX3_set 72 = .ok (.bipush 7, 2) := by decide +kernel
theorem dX3_set_74 : decode cX3_set 74 = .ok (.invokevirtual 102, 3) := by decide +kernel
theorem dX3_set_77 : decode cX3_set 77 = .ok (.ireturn, 1) := by decide +kernel
theorem dX3_set_78 : decode cX3_set 78 = .ok (.aload_n 0, 1) := by decide +kernel
theorem dX3_set_79 : decode cX3_set 79 = .ok (.aload_n 0, 1) := by decide +kernel
theorem dX3_set_80 : decode cX3_set 80 = .ok (.getfield 10, 3) := by decide +kernel
theorem dX3_set_83 : decode cX3_set 83 = .ok (.getfield 93, 3) := by decide +kernel
theorem dX3_set_86 : decode cX3_set 86 = .ok (.iload_n 1, 1) := by decide +kernel
theorem dX3_set_87 : decode cX3_set 87 = .ok (.iload_n 3, 1) := by decide +kernel
theorem dX3_set_88 : decode cX3_set 88 = .ok (.iconst 0, 1) := by decide +kernel
theorem dX3_set_89 : decode cX3_set 89 = .ok (.sipush 9999, 3) := by decide +kernel
theorem dX3_set_92 : decode cX3_set 92 = .ok (.invokevirtual 102, 3) := by decide +kernel
theorem dX3_set_95 : decode cX3_set 95 = .ok (.ireturn, 1) := by decide +kernel
theorem dX3_set_96 : decode cX3_set 96 = .ok (.aload_n 0, 1) := by decide +kernel
theorem dX3_set_97 : decode cX3_set 97 = .ok (.iconst 0, 1) := by decide +kernel
theorem dX3_set_98 : decode cX3_set 98 = .ok (.invokevirtual 55, 3) := by decide +kernel
theorem dX3_set_101 : decode cX3_set 101 = .ok (.ireturn, 1) := by decide +kernel
theorem dX3_turn_0 : decode cX3_turn 0 = .ok (.aload_n 0, 1) := by decide +kernel
theorem dX3_turn_1 : decode cX3_turn 1 = .ok (.iload_n 1, 1) := by decide +kernel
theorem dX3_turn_2 : decode cX3_turn 2 = .ok (.invokevirtual 78, 3) := by decide +kernel
theorem dX3_turn_5 : decode cX3_turn 5 = .ok (.ifCond .ne 9, 3) := by decide +kernel
theorem dX3_turn_8 : decode cX3_turn 8 = .ok (.aload_n 0, 1) := by decide +kernel
theorem dX3_turn_9 : decode cX3_turn 9 = .ok (.iconst 0, 1) := by decide +kernel
theorem dX3_turn_10 : decode cX3_turn 10 = .ok (.invokevirtual 55, 3) := by decide +kernel
theorem dX3_turn_13 : decode cX3_turn 13 = .ok (.ireturn, 1) := by decide +kernel
theorem dX3_turn_14 : decode cX3_turn 14 = .ok (.aload_n 0, 1) := by decide +kernel
theorem dX3_turn_15 : decode cX3_turn 15 = .ok (.aload_n 0, 1) := by decide +kernel
theorem dX3_turn_16 : decode cX3_turn 16 = .ok (.getfield 10, 3) := by decide +kernel
theorem dX3_turn_19 : decode cX3_turn 19 = .ok (.getfield 81, 3) := by decide +kernel
theorem dX3_turn_22 : decode cX3_turn 22 = .ok (.iload_n 1, 1) := by decide +kernel
theorem dX3_turn_23 : decode cX3_turn 23 = .ok (.iload_n 2, 1) := by decide +kernel
theorem dX3_turn_24 : decode cX3_turn 24 = .ok (.iconst 0, 1) := by decide +kernel
theorem dX3_turn_25 : decode cX3_turn 25 = .ok (.iconst 5, 1) := by decide +kernel
theorem dX3_turn_26 : decode cX3_turn 26 = .ok (.invokevirtual 102, 3) := by decide +kernel
theorem dX3_turn_29 : decode cX3_turn 29 = .ok (.ireturn, 1) := by decide +kernel
theorem dX3_as_0 : decode cX3_as 0 = .ok (.aload_n 0, 1) := by decide +kernel
theorem dX3_as_1 : decode cX3_as 1 = .ok (.iload_n 1, 1) := by decide +kernel
theorem dX3_as_2 : decode cX3_as 2 = .ok (.invokevirtual 78, 3) := by decide +kernel
theorem dX3_as_5 : decode cX3_as 5 = .ok (.ifCond .eq 10, 3) := by decide +kernel
theorem dX3_as_8 : decode cX3_as 8 = .ok (.iload_n 2, 1) := by decide +kernel
theorem dX3_as_9 : decode cX3_as 9 = .ok (.invokestatic 68, 3) := by decide +kernel
theorem dX3_as_12 : decode cX3_as 12 = .ok (.ifCond .ne 9, 3) := by decide +kernel
theorem dX3_as_15 : decode cX3_as 15 = .ok (.aload_n 0, 1) := by decide +kernel
theorem dX3_as_16 : decode cX3_as 16 = .ok (.iconst 0, 1) := by decide +kernel
theorem dX3_as_17 : decode cX3_as 17 = .ok (.invokevirtual 55, 3) := by decide +kernel
theorem dX3_as_20 : decode cX3_as 20 = .ok (.ireturn, 1) := by decide +kernel
theorem dX3_as_21 : decode cX3_as 21 = .ok (.aload_n 0, 1) := by decide +kernel
theorem dX3_as_22 : decode cX3_as 22 = .ok (.getfield 10, 3) := by decide +kernel
theorem dX3_as_25 : decode cX3_as 25 = .ok (.getfield 81, 3) := by decide +kernel
theorem dX3_as_28 : decode cX3_as 28 = .ok (.iload_n 1, 1) := by decide +kernel
theorem dX3_as_29 : decode cX3_as 29 = .ok (.iaload, 1) := by decide +kernel
theorem dX3_as_30 : decode cX3_as 30 = .ok (.iload_n 2, 1) := by decide +kernel
theorem dX3_as_31 : decode cX3_as 31 = .ok (.invokestatic 106, 3) := by decide +kernel
theorem dX3_as_34 : decode cX3_as 34 = .ok (.ifCond .ne 9, 3) := by decide +kernel
theorem dX3_as_37 : decode cX3_as 37 = .ok (.aload_n 0, 1) := by decide +kernel
theorem dX3_as_38 : decode cX3_as 38 = .ok (.iconst 2, 1) := by decide +kernel
theorem dX3_as_39 : decode cX3_as 39 = .ok (.invokevirtual 55, 3) := by decide +kernel
theorem dX3_as_42 : decode cX3_as 42 = .ok (.ireturn, 1) := by decide +kernel
theorem dX3_as_43 : decode cX3_as 43 = .ok (.aload_n 0, 1) := by decide +kernel
theorem dX3_as_44 : decode cX3_as 44 = .ok (.getfield 10, 3) := by decide +kernel
theorem dX3_as_47 : decode cX3_as 47 = .ok (.getfield 84, 3) := by decide +kernel
theorem dX3_as_50 : decode cX3_as 50 = .ok (.iload_n 1, 1) := by decide +kernel
theorem dX3_as_51 : decode cX3_as 51 = .ok (.iaload, 1) := by decide +kernel
theorem dX3_as_52 : decode cX3_as 52 = .ok (.ireturn, 1) := by decide +kernel
theorem dX3_quarrel_0 : decode cX3_quarrel 0 = .ok (.aload_n 0, 1) := by decide +kernel
theorem dX3_quarrel_1 : decode cX3_quarrel 1 = .ok (.iload_n 1, 1) := by decide +kernel
theorem dX3_quarrel_2 : decode cX3_quarrel 2 = .ok (.iload_n 2, 1) := by decide +kernel
theorem dX3_quarrel_3 : decode cX3_quarrel 3 = .ok (.invokevirtual 110, 3) := by decide +kernel
theorem dX3_quarrel_6 : decode cX3_quarrel 6 = .ok (.ifCond .eq 12, 3) := by decide +kernel
theorem dX3_quarrel_9 : decode cX3_quarrel 9 = .ok (.iload_n 3, 1) := by decide +kernel
theorem dX3_quarrel_10 : decode cX3_quarrel 10 = .ok (.iconst 0, 1) := by decide +kernel
theorem dX3_quarrel_11 : decode cX3_quarrel 11 = .ok (.iconst 1, 1) := by decide +kernel
theorem dX3_quarrel_12 : decode cX3_quarrel 12 = .ok (.invokestatic 51, 3) := by decide +kernel
theorem dX3_quarrel_15 : decode cX3_quarrel 15 = .ok (.ifCond .ne 9, 3) := by decide +kernel
theorem dX3_quarrel_18 : decode cX3_quarrel 18 = .ok (.aload_n 0, 1) := by decide +kernel
theorem dX3_quarrel_19 : decode cX3_quarrel 19 = .ok (.iconst 0, 1) := by decide +kernel
theorem dX3_quarrel_20 : decode cX3_quarrel 20 = .ok (.invokevirtual 55, 3) := by decide +kernel
theorem dX3_quarrel_23 : decode cX3_quarrel 23 = .ok (.ireturn, 1) := by decide +kernel
theorem dX3_quarrel_24 : decode cX3_quarrel 24 = .ok (.aload_n 0, 1) := by decide +kernel
theorem dX3_quarrel_25 : decode cX3_quarrel 25 = .ok (.getfield 10, 3) := by decide +kernel
theorem dX3_quarrel_28 : decode cX3_quarrel 28 = .ok (.iload_n 1, 1) := by decide +kernel
theorem dX3_quarrel_29 : decode cX3_quarrel 29 = .ok (.iload_n 2, 1) := by decide +kernel
theorem dX3_quarrel_30 : decode cX3_quarrel 30 = .ok (.invokevirtual 113, 3) := by decide +kernel
theorem dX3_quarrel_33 : decode cX3_quarrel 33 = .ok (.ifCond .eq 7, 3) := by decide +kernel
theorem dX3_quarrel_36 : decode cX3_quarrel 36 = .ok (.iconst 1, 1) := by decide +kernel
theorem dX3_quarrel_37 : decode cX3_quarrel 37 = .ok (.goto 4, 3) := by decide +kernel
theorem dX3_quarrel_40 : decode cX3_quarrel 40 = .ok (.iconst 0, 1) := by decide +kernel
theorem dX3_quarrel_41 : decode cX3_quarrel 41 = .ok (.istore 4, 2) := by decide +kernel
theorem dX3_quarrel_43 : decode cX3_quarrel 43 = .ok (.aload_n 0, 1) := by decide +kernel
theorem dX3_quarrel_44 : decode cX3_quarrel 44 = .ok (.getfield 10, 3) := by decide +kernel
theorem dX3_quarrel_47 : decode cX3_quarrel 47 = .ok (.iload_n 1, 1) := by decide +kernel
theorem dX3_quarrel_48 : decode cX3_quarrel 48 = .ok (.iload_n 2, 1) := by decide +kernel
theorem dX3_quarrel_49 : decode cX3_quarrel 49 = .ok (.iload_n 3, 1) := by decide +kernel
theorem dX3_quarrel_50 : decode cX3_quarrel 50 = .ok (.iconst 1, 1) := by decide +kernel
theorem dX3_quarrel_51 : decode cX3_quarrel 51 = .ok (.if_icmp .ne 7, 3) := by decide +kernel
theorem dX3_quarrel_54 : decode cX3_quarrel 54 = .ok (.iconst 1, 1) := by decide +kernel
theorem dX3_quarrel_55 : decode cX3_quarrel 55 = .ok (.goto 4, 3) := by decide +kernel
theorem dX3_quarrel_58 : decode cX3_quarrel 58 = .ok (.iconst 0, 1) := by decide +kernel
theorem dX3_quarrel_59 : decode cX3_quarrel 59 = .ok (.invokevirtual 116, 3) := by decide +kernel
theorem dX3_quarrel_62 : decode cX3_quarrel 62 = .ok (.iload 4, 2) := by decide +kernel
theorem dX3_quarrel_64 : decode cX3_quarrel 64 = .ok (.ireturn, 1) := by decide +kernel
theorem dX3_sit_0 : decode cX3_sit 0 = .ok (.aload_n 0, 1) := by decide +kernel
theorem dX3_sit_1 : decode cX3_sit 1 = .ok (.iload_n 1, 1) := by decide +kernel
theorem dX3_sit_2 : decode cX3_sit 2 = .ok (.invokevirtual 78, 3) := by decide +kernel
theorem dX3_sit_5 : decode cX3_sit 5 = .ok (.ifCond .eq 13, 3) := by decide +kernel
theorem dX3_sit_8 : decode cX3_sit 8 = .ok (.iload_n 2, 1) := by decide +kernel
theorem dX3_sit_9 : decode cX3_sit 9 = .ok (.iconst (-1), 1) := by decide +kernel
theorem dX3_sit_10 : decode cX3_sit 10 = .ok (.bipush 7, 2) := by decide +kernel
theorem dX3_sit_12 : decode cX3_sit 12 = .ok (.invokestatic 51, 3) := by decide +kernel
theorem dX3_sit_15 : decode cX3_sit 15 = .ok (.ifCond .ne 9, 3) := by decide +kernel
theorem dX3_sit_18 : decode cX3_sit 18 = .ok (.aload_n 0, 1) := by decide +kernel
theorem dX3_sit_19 : decode cX3_sit 19 = .ok (.iconst 0, 1) := by decide +kernel
theorem dX3_sit_20 : decode cX3_sit 20 = .ok (.invokevirtual 55, 3) := by decide +kernel
theorem dX3_sit_23 : decode cX3_sit 23 = .ok (.ireturn, 1) := by decide +kernel
theorem dX3_sit_24 : decode cX3_sit 24 = .ok (.iload_n 2, 1) := by decide +kernel
theorem dX3_sit_25 : decode cX3_sit 25 = .ok (.ifCond .lt 34, 3) := by decide +kernel
theorem dX3_sit_28 : decode cX3_sit 28 = .ok (.aload_n 0, 1) := by decide +kernel
theorem dX3_sit_29 : decode cX3_sit 29 = .ok (.getfield 10, 3) := by decide +kernel
theorem dX3_sit_32 : decode cX3_sit 32 = .ok (.getfield 65, 3) := by decide +kernel
theorem dX3_sit_35 : decode cX3_sit 35 = .ok (.iload_n 2, 1) := by decide +kernel
theorem dX3_sit_36 : decode cX3_sit 36 = .ok (.iaload, 1) := by decide +kernel
theorem dX3_sit_37 : decode cX3_sit 37 = .ok (.ifCond .lt 22, 3) := by decide +kernel
theorem dX3_sit_40 : decode cX3_sit 40 = .ok (.aload_n 0, 1) := by decide +kernel
theorem dX3_sit_41 : decode cX3_sit 41 = .ok (.getfield 10, 3) := by decide +kernel
theorem dX3_sit_44 : decode cX3_sit 44 = .ok (.getfield 65, 3) := by decide +kernel
theorem dX3_sit_47 : decode cX3_sit 47 = .ok (.iload_n 2, 1) := by decide +kernel
theorem dX3_sit_48 : decode cX3_sit 48 = .ok (.iaload, 1) := by decide +kernel
theorem dX3_sit_49 : decode cX3_sit 49 = .ok (.iload_n 1, 1) := by decide +kernel
theorem dX3_sit_50 : decode cX3_sit 50 = .ok (.if_icmp .eq 9, 3) := by decide +kernel
theorem dX3_sit_53 : decode cX3_sit 53 = .ok (.aload_n 0, 1) := by decide +kernel
theorem dX3_sit_54 : decode cX3_sit 54 = .ok (.iconst 4, 1) := by decide +kernel
theorem dX3_sit_55 : decode cX3_sit 55 = .ok (.invokevirtual 55, 3) := by decide +kernel
theorem dX3_sit_58 : decode cX3_sit 58 = .ok (.ireturn, 1) := by decide +kernel
theorem dX3_sit_59 : decode cX3_sit 59 = .ok (.aload_n 0, 1) := by decide +kernel
theorem dX3_sit_60 : decode cX3_sit 60 = .ok (.getfield 10, 3) := by decide +kernel
theorem dX3_sit_63 : decode cX3_sit 63 = .ok (.getfield 96, 3) := by decide +kernel
theorem dX3_sit_66 : decode cX3_sit 66 = .ok (.iload_n 1, 1) := by decide +kernel
theorem dX3_sit_67 : decode cX3_sit 67 = .ok (.iaload, 1) := by decide +kernel
theorem dX3_sit_68 : decode cX3_sit 68 = .ok (.istore_n 3, 1) := by decide +kernel
theorem dX3_sit_69 : decode cX3_sit 69 = .ok (.aload_n 0, 1) := by decide +kernel
theorem dX3_sit_70 : decode cX3_sit 70 = .ok (.getfield 10, 3) := by decide +kernel
theorem dX3_sit_73 : decode cX3_sit 73 = .ok (.iload_n 1, 1) := by decide +kernel
theorem dX3_sit_74 : decode cX3_sit 74 = .ok (.iload_n 2, 1) := by decide +kernel
theorem dX3_sit_75 : decode cX3_sit 75 = .ok (.invokevirtual 120, 3) := by decide +kernel
theorem dX3_sit_78 : decode cX3_sit 78 = .ok (.iload_n 3, 1) := by decide +kernel
theorem dX3_sit_79 : decode cX3_sit 79 = .ok (.ireturn, 1) := by decide +kernel
theorem dX3_change_0 : decode cX3_change 0 = .ok (.aload_n 0, 1) := by decide +kernel
theorem dX3_change_1 : decode cX3_change 1 = .ok (.iload_n 1, 1) := by decide +kernel
theorem dX3_change_2 : decode cX3_change 2 = .ok (.iload_n 2, 1) := by decide +kernel
theorem dX3_change_3 : decode cX3_change 3 = .ok (.invokevirtual 110, 3) := by decide +kernel
theorem dX3_change_6 : decode cX3_change 6 = .ok (.ifCond .ne 9, 3) := by decide +kernel
theorem dX3_change_9 : decode cX3_change 9 = .ok (.aload_n 0, 1) := by decide +kernel
theorem dX3_change_10 : decode cX3_change 10 = .ok (.iconst 0, 1) := by decide +kernel
theorem dX3_change_11 : decode cX3_change 11 = .ok (.invokevirtual 55, 3) := by decide +kernel
theorem dX3_change_14 : decode cX3_change 14 = .ok (.ireturn, 1) := by decide +kernel
theorem dX3_change_15 : decode cX3_change 15 = .ok (.aload_n 0, 1) := by decide +kernel
theorem dX3_change_16 : decode cX3_change 16 = .ok (.getfield 10, 3) := by decide +kernel
theorem dX3_change_19 : decode cX3_change 19 = .ok (.iload_n 1, 1) := by decide +kernel
theorem dX3_change_20 : decode cX3_change 20 = .ok (.iload_n 2, 1) := by decide +kernel
theorem dX3_change_21 : decode cX3_change 21 = .ok (.invokevirtual 124, 3) := by decide +kernel
theorem dX3_change_24 : decode cX3_change 24 = .ok (.iconst 1, 1) := by decide +kernel
theorem dX3_change_25 : decode cX3_change 25 = .ok (.ireturn, 1) := by decide +kernel
theorem dX3_well_0 : decode cX3_well 0 = .ok (.aload_n 0, 1) := by decide +kernel
theorem dX3_well_1 : decode cX3_well 1 = .ok (.iload_n 1, 1) := by decide +kernel
theorem dX3_well_2 : decode cX3_well 2 = .ok (.invokevirtual 78, 3) := by decide +kernel
theorem dX3_well_5 : decode cX3_well 5 = .ok (.ifCond .eq 10, 3) := by decide +kernel
theorem dX3_well_8 : decode cX3_well 8 = .ok (.iload_n 2, 1) := by decide +kernel
theorem dX3_well_9 : decode cX3_well 9 = .ok (.invokestatic 47, 3) := by decide +kernel
theorem dX3_well_12 : decode cX3_well 12 = .ok (.ifCond .ne 9, 3) := by decide +kernel
theorem dX3_well_15 : decode cX3_well 15 = .ok (.aload_n 0, 1) := by decide +kernel
theorem dX3_well_16 : decode cX3_well 16 = .ok (.iconst 0, 1) := by decide +kernel
theorem dX3_well_17 : decode cX3_well 17 = .ok (.invokevirtual 55, 3) := by decide +kernel
theorem dX3_well_20 : decode cX3_well 20 = .ok (.ireturn, 1) := by decide +kernel
theorem dX3_well_21 : decode cX3_well 21 = .ok (.sipush 1000, 3) := by decide +kernel
theorem dX3_well_24 : decode cX3_well 24 = .ok (.aload_n 0, 1) := by decide +kernel
theorem dX3_well_25 : decode cX3_well 25 = .ok (.getfield 10, 3) := by decide +kernel
theorem dX3_well_28 : decode cX3_well 28 = .ok (.iload_n 1, 1) := by decide +kernel
theorem dX3_well_29 : decode cX3_well 29 = .ok (.iload_n 2, 1) := by decide +kernel
theorem dX3_well_30 : decode cX3_well 30 = .ok (.invokevirtual 127, 3) := by decide +kernel
theorem dX3_well_33 : decode cX3_well 33 = .ok (.iadd, 1) := by decide +kernel
theorem dX3_well_34 : decode cX3_well 34 = .ok (.ireturn, 1) := by decide +kernel
theorem dX3_hours_0 : decode cX3_hours 0 = .ok (.iload_n 1, 1) := by decide +kernel
theorem dX3_hours_1 : decode cX3_hours 1 = .ok (.iconst 1, 1) := by decide +kernel
theorem dX3_hours_2 : decode cX3_hours 2 = .ok (.bipush 60, 2) := by decide +kernel
theorem dX3_hours_4 : decode cX3_hours 4 = .ok (.invokestatic 51, 3) := by decide +kernel
theorem dX3_hours_7 : decode cX3_hours 7 = .ok (.ifCond .ne 9, 3) := by decide +kernel
theorem dX3_hours_10 : decode cX3_hours 10 = .ok (.aload_n 0, 1) := by decide +kernel
theorem dX3_hours_11 : decode cX3_hours 11 = .ok (.iconst 0, 1) := by decide +kernel
theorem dX3_hours_12 : decode cX3_hours 12 = .ok (.invokevirtual 55, 3) := by decide +kernel
theorem dX3_hours_15 : decode cX3_hours 15 = .ok (.ireturn, 1) := by decide +kernel
theorem dX3_hours_16 : decode cX3_hours 16 = .ok (.aload_n 0, 1) := by decide +kernel
theorem dX3_hours_17 : decode cX3_hours 17 = .ok (.getfield 10, 3) := by decide +kernel
theorem dX3_hours_20 : decode cX3_hours 20 = .ok (.getfield 131, 3) := by decide +kernel
theorem dX3_hours_23 : decode cX3_hours 23 = .ok (.iload_n 1, 1) := by decide +kernel
theorem dX3_hours_24 : decode cX3_hours 24 = .ok (.iadd, 1) := by decide +kernel
theorem dX3_hours_25 : decode cX3_hours 25 = .ok (.ldc 134, 2) := by decide +kernel
theorem dX3_hours_27 : decode cX3_hours 27 = .ok (.if_icmp .le 9, 3) := by decide +kernel
theorem dX3_hours_30 : decode cX3_hours 30 = .ok (.aload_n 0, 1) := by decide +kernel
theorem dX3_hours_31 : decode cX3_hours 31 = .ok (.iconst 4, 1) := by decide +kernel
theorem dX3_hours_32 : decode cX3_hours 32 = .ok (.invokevirtual 55, 3) := by decide +kernel
theorem dX3_hours_35 : decode cX3_hours 35 = .ok (.ireturn, 1) := by decide +kernel
theorem dX3_hours_36 : decode cX3_hours 36 = .ok (.aload_n 0, 1) := by decide +kernel
theorem dX3_hours_37 : decode cX3_hours 37 = .ok (.getfield 10, 3) := by decide +kernel
theorem dX3_hours_40 : decode cX3_hours 40 = .ok (.iload_n 1, 1) := by decide +kernel
theorem dX3_hours_41 : decode cX3_hours 41 = .ok (.invokevirtual 135, 3) := by decide +kernel
theorem dX3_hours_44 : decode cX3_hours 44 = .ok (.ireturn, 1) := by decide +kernel
theorem dX3_now_0 : decode cX3_now 0 = .ok (.iload_n 1, 1) := by decide +kernel
theorem dX3_now_1 : decode cX3_now 1 = .ok (.tableswitch 102 0 5 #[39, 47, 58, 74, 82, 94], 39) := by decide +kernel
theorem dX3_now_40 : decode cX3_now 40 = .ok (.aload_n 0, 1) := by decide +kernel
theorem dX3_now_41 : decode cX3_now 41 = .ok (.getfield 10, 3) := by decide +kernel
theorem dX3_now_44 : decode cX3_now 44 = .ok (.getfield 131, 3) := by decide +kernel
theorem dX3_now_47 : decode cX3_now 47 = .ok (.ireturn, 1) := by decide +kernel
theorem dX3_now_48 : decode cX3_now 48 = .ok (.aload_n 0, 1) := by decide +kernel
theorem dX3_now_49 : decode cX3_now 49 = .ok (.getfield 10, 3) := by decide +kernel
theorem dX3_now_52 : decode cX3_now 52 = .ok (.getfield 131, 3) := by decide +kernel
theorem dX3_now_55 : decode cX3_now 55 = .ok (.bipush 24, 2) := by decide +kernel
theorem dX3_now_57 : decode cX3_now 57 = .ok (.irem, 1) := by decide +kernel
theorem dX3_now_58 : decode cX3_now 58 = .ok (.ireturn, 1) := by decide +kernel
theorem dX3_now_59 : decode cX3_now 59 = .ok (.aload_n 0, 1) := by decide +kernel
theorem dX3_now_60 : decode cX3_now 60 = .ok (.getfield 10, 3) := by decide +kernel
theorem dX3_now_63 : decode cX3_now 63 = .ok (.invokevirtual 138, 3) := by decide +kernel
theorem dX3_now_66 : decode cX3_now 66 = .ok (.ifCond .eq 7, 3) := by decide +kernel
theorem dX3_now_69 : decode cX3_now 69 = .ok (.iconst 1, 1) := by decide +kernel
theorem dX3_now_70 : decode cX3_now 70 = .ok (.goto 4, 3) := by decide +kernel
theorem dX3_now_73 : decode cX3_now 73 = .ok (.iconst 0, 1) := by decide +kernel
theorem dX3_now_74 : decode cX3_now 74 = .ok (.ireturn, 1) := by decide +kernel
theorem dX3_now_75 : decode cX3_now 75 = .ok (.aload_n 0, 1) := by decide +kernel
theorem dX3_now_76 : decode cX3_now 76 = .ok (.getfield 10, 3) := by decide +kernel
theorem dX3_now_79 : decode cX3_now 79 = .ok (.invokevirtual 142, 3) := by decide +kernel
theorem dX3_now_82 : decode cX3_now 82 = .ok (.ireturn, 1) := by decide +kernel
theorem dX3_now_83 : decode cX3_now 83 = .ok (.sipush 10000, 3) := by decide +kernel
theorem dX3_now_86 : decode cX3_now 86 = .ok (.aload_n 0, 1) := by decide +kernel
theorem dX3_now_87 : decode cX3_now 87 = .ok (.getfield 10, 3) := by decide +kernel
theorem dX3_now_90 : decode cX3_now 90 = .ok (.invokevirtual 146, 3) := by decide +kernel
theorem dX3_now_93 : decode cX3_now 93 = .ok (.iadd, 1) := by decide +kernel
theorem dX3_now_94 : decode cX3_now 94 = .ok (.ireturn, 1) := by decide +kernel
theorem dX3_now_95 : decode cX3_now 95 = .ok (.aload_n 0, 1) := by decide +kernel
theorem dX3_now_96 : decode cX3_now 96 = .ok (.getfield 10, 3) := by decide +kernel
theorem dX3_now_99 : decode cX3_now 99 = .ok (.invokevirtual 149, 3) := by decide +kernel
theorem dX3_now_102 : decode cX3_now 102 = .ok (.ireturn, 1) := by decide +kernel
theorem dX3_now_103 : decode cX3_now 103 = .ok (.aload_n 0, 1) := by decide +kernel
theorem dX3_now_104 : decode cX3_now 104 = .ok (.iconst 0, 1) := by decide +kernel
theorem dX3_now_105 : decode cX3_now 105 = .ok (.invokevirtual 55, 3) := by decide +kernel
theorem dX3_now_108 : decode cX3_now 108 = .ok (.ireturn, 1) := by decide +kernel
theorem dX3_on_0 : decode cX3_on 0 = .ok (.aload_n 0, 1) := by decide +kernel
theorem dX3_on_1 : decode cX3_on 1 = .ok (.iload_n 1, 1) := by decide +kernel
theorem dX3_on_2 : decode cX3_on 2 = .ok (.invokevirtual 78, 3) := by decide +kernel
theorem dX3_on_5 : decode cX3_on 5 = .ok (.ifCond .eq 22, 3) := by decide +kernel
theorem dX3_on_8 : decode cX3_on 8 = .ok (.iload_n 2, 1) := by decide +kernel
theorem dX3_on_9 : decode cX3_on 9 = .ok (.iconst 0, 1) := by decide +kernel
theorem dX3_on_10 : decode cX3_on 10 = .ok (.bipush 60, 2) := by decide +kernel
theorem dX3_on_12 : decode cX3_on 12 = .ok (.invokestatic 51, 3) := by decide +kernel
theorem dX3_on_15 : decode cX3_on 15 = .ok (.ifCond .eq 12, 3) := by decide +kernel
theorem dX3_on_18 : decode cX3_on 18 = .ok (.iload_n 3, 1) := by decide +kernel
theorem dX3_on_19 : decode cX3_on 19 = .ok (.iconst 0, 1) := by decide +kernel
theorem dX3_on_20 : decode cX3_on 20 = .ok (.iconst 1, 1) := by decide +kernel
theorem dX3_on_21 : decode cX3_on 21 = .ok (.invokestatic 51, 3) := by decide +kernel
theorem dX3_on_24 : decode cX3_on 24 = .ok (.ifCond .ne 9, 3) := by decide +kernel
theorem dX3_on_27 : decode cX3_on 27 = .ok (.aload_n 0, 1) := by decide +kernel
theorem dX3_on_28 : decode cX3_on 28 = .ok (.iconst 0, 1) := by decide +kernel
theorem dX3_on_29 : decode cX3_on 29 = .ok (.invokevirtual 55, 3) := by decide +kernel
theorem dX3_on_32 : decode cX3_on 32 = .ok (.ireturn, 1) := by decide +kernel
theorem dX3_on_33 : decode cX3_on 33 = .ok (.aload_n 0, 1) := by decide +kernel
theorem dX3_on_34 : decode cX3_on 34 = .ok (.getfield 16, 3) := by decide +kernel
theorem dX3_on_37 : decode cX3_on 37 = .ok (.aload_n 0, 1) := by decide +kernel
theorem dX3_on_38 : decode cX3_on 38 = .ok (.getfield 10, 3) := by decide +kernel
theorem dX3_on_41 : decode cX3_on 41 = .ok (.invokevirtual 152, 3) := by decide +kernel
theorem dX3_on_44 : decode cX3_on 44 = .ok (.aload_n 0, 1) := by decide +kernel
theorem dX3_on_45 : decode cX3_on 45 = .ok (.getfield 16, 3) := by decide +kernel
theorem dX3_on_48 : decode cX3_on 48 = .ok (.iload_n 2, 1) := by decide +kernel
theorem dX3_on_49 : decode cX3_on 49 = .ok (.invokevirtual 135, 3) := by decide +kernel
theorem dX3_on_52 : decode cX3_on 52 = .ok (.pop, 1) := by decide +kernel
theorem dX3_on_53 : decode cX3_on 53 = .ok (.iload_n 3, 1) := by decide +kernel
theorem dX3_on_54 : decode cX3_on 54 = .ok (.ifCond .ne 15, 3) := by decide +kernel
theorem dX3_on_57 : decode cX3_on 57 = .ok (.aload_n 0, 1) := by decide +kernel
theorem dX3_on_58 : decode cX3_on 58 = .ok (.getfield 16, 3) := by decide +kernel
theorem dX3_on_61 : decode cX3_on 61 = .ok (.getfield 96, 3) := by decide +kernel
theorem dX3_on_64 : decode cX3_on 64 = .ok (.iload_n 1, 1) := by decide +kernel
theorem dX3_on_65 : decode cX3_on 65 = .ok (.iaload, 1) := by decide +kernel
theorem dX3_on_66 : decode cX3_on 66 = .ok (.goto 12, 3) := by decide +kernel
theorem dX3_on_69 : decode cX3_on 69 = .ok (.aload_n 0, 1) := by decide +kernel
theorem dX3_on_70 : decode cX3_on 70 = .ok (.getfield 16, 3) := by decide +kernel
theorem dX3_on_73 : decode cX3_on 73 = .ok (.getfield 93, 3) := by decide +kernel
theorem dX3_on_76 : decode cX3_on 76 = .ok (.iload_n 1, 1) := by decide +kernel
theorem dX3_on_77 : decode cX3_on 77 = .ok (.iaload, 1) := by decide +kernel
theorem dX3_on_78 : decode cX3_on 78 = .ok (.ireturn, 1) := by decide +kernel
theorem dX3_peace_0 : decode cX3_peace 0 = .ok (.iload_n 1, 1) := by decide +kernel
theorem dX3_peace_1 : decode cX3_peace 1 = .ok (.iconst 0, 1) := by decide +kernel
theorem dX3_peace_2 : decode cX3_peace 2 = .ok (.bipush 60, 2) := by decide +kernel
theorem dX3_peace_4 : decode cX3_peace 4 = .ok (.invokestatic 51, 3) := by decide +kernel
theorem dX3_peace_7 : decode cX3_peace 7 = .ok (.ifCond .ne 9, 3) := by decide +kernel
theorem dX3_peace_10 : decode cX3_peace 10 = .ok (.aload_n 0, 1) := by decide +kernel
theorem dX3_peace_11 : decode cX3_peace 11 = .ok (.iconst 0, 1) := by decide +kernel
theorem dX3_peace_12 : decode cX3_peace 12 = .ok (.invokevirtual 55, 3) := by decide +kernel
theorem dX3_peace_15 : decode cX3_peace 15 = .ok (.ireturn, 1) := by decide +kernel
theorem dX3_peace_16 : decode cX3_peace 16 = .ok (.aload_n 0, 1) := by decide +kernel
theorem dX3_peace_17 : decode cX3_peace 17 = .ok (.getfield 16, 3) := by decide +kernel
theorem dX3_peace_20 : decode cX3_peace 20 = .ok (.aload_n 0, 1) := by decide +kernel
theorem dX3_peace_21 : decode cX3_peace 21 = .ok (.getfield 10, 3) := by decide +kernel
theorem dX3_peace_24 : decode cX3_peace 24 = .ok (.invokevirtual 152, 3) := by decide +kernel
theorem dX3_peace_27 : decode cX3_peace 27 = .ok (.aload_n 0, 1) := by decide +kernel
theorem dX3_peace_28 : decode cX3_peace 28 = .ok (.getfield 16, 3) := by decide +kernel
theorem dX3_peace_31 : decode cX3_peace 31 = .ok (.iload_n 1, 1) := by decide +kernel
theorem dX3_peace_32 : decode cX3_peace 32 = .ok (.invokevirtual 135, 3) := by decide +kernel
theorem dX3_peace_35 : decode cX3_peace 35 = .ok (.pop, 1) := by decide +kernel
theorem dX3_peace_36 : decode cX3_peace 36 = .ok (.sipush 10000, 3) := by decide +kernel
theorem dX3_peace_39 : decode cX3_peace 39 = .ok (.aload_n 0, 1) := by decide +kernel
theorem dX3_peace_40 : decode cX3_peace 40 = .ok (.getfield 16, 3) := by decide +kernel
theorem dX3_peace_43 : decode cX3_peace 43 = .ok (.invokevirtual 146, 3) := by decide +kernel
theorem dX3_peace_46 : decode cX3_peace 46 = .ok (.iadd, 1) := by decide +kernel
theorem dX3_peace_47 : decode cX3_peace 47 = .ok (.ireturn, 1) := by decide +kernel
theorem dX3_settles_0 : decode cX3_settles 0 = .ok (.aload_n 0, 1) := by decide +kernel
theorem dX3_settles_1 : decode cX3_settles 1 = .ok (.getfield 16, 3) := by decide +kernel
theorem dX3_settles_4 : decode cX3_settles 4 = .ok (.aload_n 0, 1) := by decide +kernel
theorem dX3_settles_5 : decode cX3_settles 5 = .ok (.getfield 10, 3) := by decide +kernel
theorem dX3_settles_8 : decode cX3_settles 8 = .ok (.invokevirtual 152, 3) := by decide +kernel
theorem dX3_settles_11 : decode cX3_settles 11 = .ok (.iconst 0, 1) := by decide +kernel
theorem dX3_settles_12 : decode cX3_settles 12 = .ok (.istore_n 1, 1) := by decide +kernel
theorem dX3_settles_13 : decode cX3_settles 13 = .ok (.iload_n 1, 1) := by decide +kernel
theorem dX3_settles_14 : decode cX3_settles 14 = .ok (.bipush 60, 2) := by decide +kernel
theorem dX3_settles_16 : decode cX3_settles 16 = .ok (.if_icmp .gt 21, 3) := by decide +kernel
theorem dX3_settles_19 : decode cX3_settles 19 = .ok (.aload_n 0, 1) := by decide +kernel
theorem dX3_settles_20 : decode cX3_settles 20 = .ok (.getfield 16, 3) := by decide +kernel
theorem dX3_settles_23 : decode cX3_settles 23 = .ok (.invokevirtual 156, 3) := by decide +kernel
theorem dX3_settles_26 : decode cX3_settles 26 = .ok (.ifCond .ne 5, 3) := by decide +kernel
theorem dX3_settles_29 : decode cX3_settles 29 = .ok (.iload_n 1, 1) := by decide +kernel
theorem dX3_settles_30 : decode cX3_settles 30 = .ok (.ireturn, 1) := by decide +kernel
theorem dX3_settles_31 : decode cX3_settles 31 = .ok (.iinc 1 1, 3) := by decide +kernel
theorem dX3_settles_34 : decode cX3_settles 34 = .ok (.goto (-21), 3) := by decide +kernel
theorem dX3_settles_37 : decode cX3_settles 37 = .ok (.aload_n 0, 1) := by decide +kernel
theorem dX3_settles_38 : decode cX3_settles 38 = .ok (.iconst 3, 1) := by decide +kernel
theorem dX3_settles_39 : decode cX3_settles 39 = .ok (.invokevirtual 55, 3) := by decide +kernel
theorem dX3_settles_42 : decode cX3_settles 42 = .ok (.ireturn, 1) := by decide +kernel
theorem dX3_gets_0 : decode cX3_gets 0 = .ok (.aload_n 0, 1) := by decide +kernel
theorem dX3_gets_1 : decode cX3_gets 1 = .ok (.iload_n 1, 1) := by decide +kernel
theorem dX3_gets_2 : decode cX3_gets 2 = .ok (.invokevirtual 78, 3) := by decide +kernel
theorem dX3_gets_5 : decode cX3_gets 5 = .ok (.ifCond .eq 10, 3) := by decide +kernel
theorem dX3_gets_8 : decode cX3_gets 8 = .ok (.iload_n 2, 1) := by decide +kernel
theorem dX3_gets_9 : decode cX3_gets 9 = .ok (.invokestatic 47, 3) := by decide +kernel
theorem dX3_gets_12 : decode cX3_gets 12 = .ok (.ifCond .ne 9, 3) := by decide +kernel
theorem dX3_gets_15 : decode cX3_gets 15 = .ok (.aload_n 0, 1) := by decide +kernel
theorem dX3_gets_16 : decode cX3_gets 16 = .ok (.iconst 0, 1) := by decide +kernel
theorem dX3_gets_17 : decode cX3_gets 17 = .ok (.invokevirtual 55, 3) := by decide +kernel
theorem dX3_gets_20 : decode cX3_gets 20 = .ok (.ireturn, 1) := by decide +kernel
theorem dX3_gets_21 : decode cX3_gets 21 = .ok (.aload_n 0, 1) := by decide +kernel
theorem dX3_gets_22 : decode cX3_gets 22 = .ok (.getfield 16, 3) := by decide +kernel
theorem dX3_gets_25 : decode cX3_gets 25 = .ok (.aload_n 0, 1) := by decide +kernel
theorem dX3_gets_26 : decode cX3_gets 26 = .ok (.getfield 10, 3) := by decide +kernel
theorem dX3_gets_29 : decode cX3_gets 29 = .ok (.invokevirtual 152, 3) := by decide +kernel
theorem dX3_gets_32 : decode cX3_gets 32 = .ok (.iconst 0, 1) := by decide +kernel
theorem dX3_gets_33 : decode cX3_gets 33 = .ok (.istore_n 3, 1) := by decide +kernel
theorem dX3_gets_34 : decode cX3_gets 34 = .ok (.iload_n 3, 1) := by decide +kernel
theorem dX3_gets_35 : decode cX3_gets 35 = .ok (.bipush 60, 2) := by decide +kernel
theorem dX3_gets_37 : decode cX3_gets 37 = .ok (.if_icmp .gt 32, 3) := by decide +kernel
theorem dX3_gets_40 : decode cX3_gets 40 = .ok (.aload_n 0, 1) := by decide +kernel
theorem dX3_gets_41 : decode cX3_gets 41 = .ok (.getfield 16, 3) := by decide +kernel
theorem dX3_gets_44 : decode cX3_gets 44 = .ok (.getfield 96, 3) := by decide +kernel
theorem dX3_gets_47 : decode cX3_gets 47 = .ok (.iload_n 1, 1) := by decide +kernel
theorem dX3_gets_48 : decode cX3_gets 48 = .ok (.iaload, 1) := by decide +kernel
theorem dX3_gets_49 : decode cX3_gets 49 = .ok (.iload_n 2, 1) := by decide +kernel
theorem dX3_gets_50 : decode cX3_gets 50 = .ok (.if_icmp .ne 5, 3) := by decide +kernel
theorem dX3_gets_53 : decode cX3_gets 53 = .ok (.iload_n 3, 1) := by decide +kernel
theorem dX3_gets_54 : decode cX3_gets 54 = .ok (.ireturn, 1) := by decide +kernel
theorem dX3_gets_55 : decode cX3_gets 55 = .ok (.aload_n 0, 1) := by decide +kernel
theorem dX3_gets_56 : decode cX3_gets 56 = .ok (.getfield 16, 3) := by decide +kernel
theorem dX3_gets_59 : decode cX3_gets 59 = .ok (.invokevirtual 156, 3) := by decide +kernel
theorem dX3_gets_62 : decode cX3_gets 62 = .ok (.pop, 1) := by decide +kernel
theorem dX3_gets_63 : decode cX3_gets 63 = .ok (.iinc 3 1, 3) := by decide +kernel
theorem dX3_gets_66 : decode cX3_gets 66 = .ok (.goto (-32), 3) := by decide +kernel
theorem dX3_gets_69 : decode cX3_gets 69 = .ok (.aload_n 0, 1) := by decide +kernel
theorem dX3_gets_70 : decode cX3_gets 70 = .ok (.iconst 3, 1) := by decide +kernel
theorem dX3_gets_71 : decode cX3_gets 71 = .ok (.invokevirtual 55, 3) := by decide +kernel
theorem dX3_gets_74 : decode cX3_gets 74 = .ok (.ireturn, 1) := by decide +kernel
theorem dX3_best_0 : decode cX3_best 0 = .ok (.iconst 0, 1) := by decide +kernel
theorem dX3_best_1 : decode cX3_best 1 = .ok (.istore_n 1, 1) := by decide +kernel
theorem dX3_best_2 : decode cX3_best 2 = .ok (.iconst 0, 1) := by decide +kernel
theorem dX3_best_3 : decode cX3_best 3 = .ok (.istore_n 2, 1) := by decide +kernel
theorem dX3_best_4 : decode cX3_best 4 = .ok (.iload_n 2, 1) := by decide +kernel
theorem dX3_best_5 : decode cX3_best 5 = .ok (.aload_n 0, 1) := by decide +kernel
theorem dX3_best_6 : decode cX3_best 6 = .ok (.getfield 10, 3) := by decide +kernel
theorem dX3_best_9 : decode cX3_best 9 = .ok (.getfield 71, 3) := by decide +kernel
theorem dX3_best_12 : decode cX3_best 12 = .ok (.if_icmp .ge 31, 3) := by decide +kernel
theorem dX3_best_15 : decode cX3_best 15 = .ok (.aload_n 0, 1) := by decide +kernel
theorem dX3_best_16 : decode cX3_best 16 = .ok (.getfield 10, 3) := by decide +kernel
theorem dX3_best_19 : decode cX3_best 19 = .ok (.getfield 96, 3) := by decide +kernel
theorem dX3_best_22 : decode cX3_best 22 = .ok (.iload_n 2, 1) := by decide +kernel
theorem dX3_best_23 : decode cX3_best 23 = .ok (.iaload, 1) := by decide +kernel
theorem dX3_best_24 : decode cX3_best 24 = .ok (.ifCond .lt 13, 3) := by decide +kernel
theorem dX3_best_27 : decode cX3_best 27 = .ok (.aload_n 0, 1) := by decide +kernel
theorem dX3_best_28 : decode cX3_best 28 = .ok (.getfield 44, 3) := by decide +kernel
theorem dX3_best_31 : decode cX3_best 31 = .ok (.iload_n 1, 1) := by decide +kernel
theorem dX3_best_32 : decode cX3_best 32 = .ok (.iload_n 2, 1) := by decide +kernel
theorem dX3_best_33 : decode cX3_best 33 = .ok (.iastore, 1) := by decide +kernel
theorem dX3_best_34 : decode cX3_best 34 = .ok (.iinc 1 1, 3) := by decide +kernel
theorem dX3_best_37 : decode cX3_best 37 = .ok (.iinc 2 1, 3) := by decide +kernel
theorem dX3_best_40 : decode cX3_best 40 = .ok (.goto (-36), 3) := by decide +kernel
theorem dX3_best_43 : decode cX3_best 43 = .ok (.iload_n 1, 1) := by decide +kernel
theorem dX3_best_44 : decode cX3_best 44 = .ok (.bipush 6, 2) := by decide +kernel
theorem dX3_best_46 : decode cX3_best 46 = .ok (.if_icmp .le 10, 3) := by decide +kernel
theorem dX3_best_49 : decode cX3_best 49 = .ok (.aload_n 0, 1) := by decide +kernel
theorem dX3_best_50 : decode cX3_best 50 = .ok (.bipush 6, 2) := by decide +kernel
theorem dX3_best_52 : decode cX3_best 52 = .ok (.invokevirtual 55, 3) := by decide +kernel
theorem dX3_best_55 : decode cX3_best 55 = .ok (.ireturn, 1) := by decide +kernel
theorem dX3_best_56 : decode cX3_best 56 = .ok (.aload_n 0, 1) := by decide +kernel
theorem dX3_best_57 : decode cX3_best 57 = .ok (.getfield 16, 3) := by decide +kernel
theorem dX3_best_60 : decode cX3_best 60 = .ok (.aload_n 0, 1) := by decide +kernel
theorem dX3_best_61 : decode cX3_best 61 = .ok (.getfield 10, 3) := by decide +kernel
theorem dX3_best_64 : decode cX3_best 64 = .ok (.invokevirtual 152, 3) := by decide +kernel
theorem dX3_best_67 : decode cX3_best 67 = .ok (.sipush 10000, 3) := by decide +kernel
theorem dX3_best_70 : decode cX3_best 70 = .ok (.aload_n 0, 1) := by decide +kernel
theorem dX3_best_71 : decode cX3_best 71 = .ok (.getfield 16, 3) := by decide +kernel
theorem dX3_best_74 : decode cX3_best 74 = .ok (.aload_n 0, 1) := by decide +kernel
theorem dX3_best_75 : decode cX3_best 75 = .ok (.getfield 44, 3) := by decide +kernel
theorem dX3_best_78 : decode cX3_best 78 = .ok (.iconst 0, 1) := by decide +kernel
theorem dX3_best_79 : decode cX3_best 79 = .ok (.iload_n 1, 1) := by decide +kernel
theorem dX3_best_80 : decode cX3_best 80 = .ok (.invokestatic 159, 3) := by decide +kernel
theorem dX3_best_83 : decode cX3_best 83 = .ok (.iadd, 1) := by decide +kernel
theorem dX3_best_84 : decode cX3_best 84 = .ok (.ireturn, 1) := by decide +kernel
theorem dX3_mend_0 : decode cX3_mend 0 = .ok (.iload_n 1, 1) := by decide +kernel
theorem dX3_mend_1 : decode cX3_mend 1 = .ok (.iconst 0, 1) := by decide +kernel
theorem dX3_mend_2 : decode cX3_mend 2 = .ok (.bipush 30, 2) := by decide +kernel
theorem dX3_mend_4 : decode cX3_mend 4 = .ok (.invokestatic 51, 3) := by decide +kernel
theorem dX3_mend_7 : decode cX3_mend 7 = .ok (.ifCond .ne 9, 3) := by decide +kernel
theorem dX3_mend_10 : decode cX3_mend 10 = .ok (.aload_n 0, 1) := by decide +kernel
theorem dX3_mend_11 : decode cX3_mend 11 = .ok (.iconst 0, 1) := by decide +kernel
theorem dX3_mend_12 : decode cX3_mend 12 = .ok (.invokevirtual 55, 3) := by decide +kernel
theorem dX3_mend_15 : decode cX3_mend 15 = .ok (.ireturn, 1) := by decide +kernel
theorem dX3_mend_16 : decode cX3_mend 16 = .ok (.aload_n 0, 1) := by decide +kernel
theorem dX3_mend_17 : decode cX3_mend 17 = .ok (.getfield 16, 3) := by decide +kernel
theorem dX3_mend_20 : decode cX3_mend 20 = .ok (.aload_n 0, 1) := by decide +kernel
theorem dX3_mend_21 : decode cX3_mend 21 = .ok (.getfield 10, 3) := by decide +kernel
theorem dX3_mend_24 : decode cX3_mend 24 = .ok (.invokevirtual 152, 3) := by decide +kernel
theorem dX3_mend_27 : decode cX3_mend 27 = .ok (.aload_n 0, 1) := by decide +kernel
theorem dX3_mend_28 : decode cX3_mend 28 = .ok (.getfield 16, 3) := by decide +kernel
theorem dX3_mend_31 : decode cX3_mend 31 = .ok (.iload_n 1, 1) := by decide +kernel
theorem dX3_mend_32 : decode cX3_mend 32 = .ok (.invokevirtual 135, 3) := by decide +kernel
theorem dX3_mend_35 : decode cX3_mend 35 = .ok (.pop, 1) := by decide +kernel
theorem dX3_mend_36 : decode cX3_mend 36 = .ok (.aload_n 0, 1) := by decide +kernel
theorem dX3_mend_37 : decode cX3_mend 37 = .ok (.getfield 16, 3) := by decide +kernel
theorem dX3_mend_40 : decode cX3_mend 40 = .ok (.invokevirtual 146, 3) := by decide +kernel
theorem dX3_mend_43 : decode cX3_mend 43 = .ok (.istore_n 2, 1) := by decide +kernel
theorem dX3_mend_44 : decode cX3_mend 44 = .ok (.iconst (-1), 1) := by decide +kernel
theorem dX3_mend_45 : decode cX3_mend 45 = .ok (.istore_n 3, 1) := by decide +kernel
theorem dX3_mend_46 : decode cX3_mend 46 = .ok (.iconst 0, 1) := by decide +kernel
theorem dX3_mend_47 : decode cX3_mend 47 = .ok (.istore 4, 2) := by decide +kernel
theorem dX3_mend_49 : decode cX3_mend 49 = .ok (.iload 4, 2) := by decide +kernel
theorem dX3_mend_51 : decode cX3_mend 51 = .ok (.aload_n 0, 1) := by decide +kernel
theorem dX3_mend_52 : decode cX3_mend 52 = .ok (.getfield 10, 3) := by decide +kernel
theorem dX3_mend_55 : decode cX3_mend 55 = .ok (.getfield 71, 3) := by decide +kernel
theorem dX3_mend_58 : decode cX3_mend 58 = .ok (.if_icmp .ge 107, 3) := by decide +kernel
theorem dX3_mend_61 : decode cX3_mend 61 = .ok (.iload 4, 2) := by decide +kernel
theorem dX3_mend_63 : decode cX3_mend 63 = .ok (.iconst 1, 1) := by decide +kernel
theorem dX3_mend_64 : decode cX3_mend 64 = .ok (.iadd, 1) := by decide +kernel
theorem dX3_mend_65 : decode cX3_mend 65 = .ok (.istore 5, 2) := by decide +kernel
theorem dX3_mend_67 : decode cX3_mend 67 = .ok (.iload 5, 2) := by decide +kernel
theorem dX3_mend_69 : decode cX3_mend 69 = .ok (.aload_n 0, 1) := by decide +kernel
theorem dX3_mend_70 : decode cX3_mend 70 = .ok (.getfield 10, 3) := by decide +kernel
theorem dX3_mend_73 : decode cX3_mend 73 = .ok (.getfield 71, 3) := by decide +kernel
theorem dX3_mend_76 : decode cX3_mend 76 = .ok (.if_icmp .ge 83, 3) := by decide +kernel
theorem dX3_mend_79 : decode cX3_mend 79 = .ok (.aload_n 0, 1) := by decide +kernel
theorem dX3_mend_80 : decode cX3_mend 80 = .ok (.getfield 10, 3) := by decide +kernel
theorem dX3_mend_83 : decode cX3_mend 83 = .ok (.iload 4, 2) := by decide +kernel
theorem dX3_mend_85 : decode cX3_mend 85 = .ok (.iload 5, 2) := by decide +kernel
theorem dX3_mend_87 : decode cX3_mend 87 = .ok (.invokevirtual 113, 3) := by decide +kernel
theorem dX3_mend_90 : decode cX3_mend 90 = .ok (.ifCond .eq 63, 3) := by decide +kernel
theorem dX3_mend_93 : decode cX3_mend 93 = .ok (.aload_n 0, 1) := by decide +kernel
theorem dX3_mend_94 : decode cX3_mend 94 = .ok (.getfield 16, 3) := by decide +kernel
theorem dX3_mend_97 : decode cX3_mend 97 = .ok (.aload_n 0, 1) := by decide +kernel
theorem dX3_mend_98 : decode cX3_mend 98 = .ok (.getfield 10, 3) := by decide +kernel
theorem dX3_mend_101 : decode cX3_mend 101 = .ok (.invokevirtual 152, 3) := by decide +kernel
theorem dX3_mend_104 : decode cX3_mend 104 = .ok (.aload_n 0, 1) := by decide +kernel
theorem dX3_mend_105 : decode cX3_mend 105 = .ok (.getfield 16, 3) := by decide +kernel
theorem dX3_mend_108 : decode cX3_mend 108 = .ok (.iload 4, 2) := by decide +kernel
theorem dX3_mend_110 : decode cX3_mend 110 = .ok (.iload 5, 2) := by decide +kernel
theorem dX3_mend_112 : decode cX3_mend 112 = .ok (.iconst 0, 1) := by decide +kernel
theorem dX3_mend_113 : decode cX3_mend 113 = .ok (.invokevirtual 116, 3) := by decide +kernel
theorem dX3_mend_116 : decode cX3_mend 116 = .ok (.aload_n 0, 1) := by decide +kernel
theorem dX3_mend_117 : decode cX3_mend 117 = .ok (.getfield 16, 3) := by decide +kernel
theorem dX3_mend_120 : decode cX3_mend 120 = .ok (.iload_n 1, 1) := by decide +kernel
theorem dX3_mend_121 : decode cX3_mend 121 = .ok (.invokevirtual 135, 3) := by decide +kernel
theorem dX3_mend_124 : decode cX3_mend 124 = .ok (.pop, 1) := by decide +kernel
theorem dX3_mend_125 : decode cX3_mend 125 = .ok (.aload_n 0, 1) := by decide +kernel
theorem dX3_mend_126 : decode cX3_mend 126 = .ok (.getfield 16, 3) := by decide +kernel
theorem dX3_mend_129 : decode cX3_mend 129 = .ok (.invokevirtual 146, 3) := by decide +kernel
theorem dX3_mend_132 : decode cX3_mend 132 = .ok (.iload_n 2, 1) := by decide +kernel
theorem dX3_mend_133 : decode cX3_mend 133 = .ok (.if_icmp .le 20, 3) := by decide +kernel
theorem dX3_mend_136 : decode cX3_mend 136 = .ok (.aload_n 0, 1) := by decide +kernel
theorem dX3_mend_137 : decode cX3_mend 137 = .ok (.getfield 16, 3) := by decide +kernel
theorem dX3_mend_140 : decode cX3_mend 140 = .ok (.invokevirtual 146, 3) := by decide +kernel
theorem dX3_mend_143 : decode cX3_mend 143 = .ok (.istore_n 2, 1) := by decide +kernel
theorem dX3_mend_144 : decode cX3_mend 144 = .ok (.bipush 10, 2) := by decide +kernel
theorem dX3_mend_146 : decode cX3_mend 146 = .ok (.iload 4, 2) := by decide +kernel
theorem dX3_mend_148 : decode cX3_mend 148 = .ok (.imul, 1) := by decide +kernel
theorem dX3_mend_149 : decode cX3_mend 149 = .ok (.iload 5, 2) := by decide +kernel
theorem dX3_mend_151 : decode cX3_mend 151 = .ok (.iadd, 1) := by decide +kernel
theorem dX3_mend_152 : decode cX3_mend 152 = .ok (.istore_n 3, 1) := by decide +kernel
theorem dX3_mend_153 : decode cX3_mend 153 = .ok (.iinc 5 1, 3) := by decide +kernel
theorem dX3_mend_156 : decode cX3_mend 156 = .ok (.goto (-89), 3) := by decide +kernel
theorem dX3_mend_159 : decode cX3_mend 159 = .ok (.iinc 4 1, 3) := by decide +kernel
theorem dX3_mend_162 : decode cX3_mend 162 = .ok (.goto (-113), 3) := by decide +kernel
theorem dX3_mend_165 : decode cX3_mend 165 = .ok (.iload_n 3, 1) := by decide +kernel
theorem dX3_mend_166 : decode cX3_mend 166 = .ok (.ifCond .ge 11, 3) := by decide +kernel
theorem dX3_mend_169 : decode cX3_mend 169 = .ok (.aload_n 0, 1) := by decide +kernel
theorem dX3_mend_170 : decode cX3_mend 170 = .ok (.iconst 3, 1) := by decide +kernel
theorem dX3_mend_171 : decode cX3_mend 171 = .ok (.invokevirtual 55, 3) := by decide +kernel
theorem dX3_mend_174 : decode cX3_mend 174 = .ok (.goto 4, 3) := by decide +kernel
theorem dX3_mend_177 : decode cX3_mend 177 = .ok (.iload_n 3, 1) := by decide +kernel
theorem dX3_mend_178 : decode cX3_mend 178 = .ok (.ireturn, 1) := by decide +kernel
theorem dX3_kind_0 : decode cX3_kind 0 = .ok (.aload_n 0, 1) := by decide +kernel
theorem dX3_kind_1 : decode cX3_kind 1 = .ok (.iload_n 1, 1) := by decide +kernel
theorem dX3_kind_2 : decode cX3_kind 2 = .ok (.invokevirtual 78, 3) := by decide +kernel
theorem dX3_kind_5 : decode cX3_kind 5 = .ok (.ifCond .eq 13, 3) := by decide +kernel
theorem dX3_kind_8 : decode cX3_kind 8 = .ok (.iload_n 2, 1) := by decide +kernel
theorem dX3_kind_9 : decode cX3_kind 9 = .ok (.iconst 0, 1) := by decide +kernel
theorem dX3_kind_10 : decode cX3_kind 10 = .ok (.bipush 30, 2) := by decide +kernel
theorem dX3_kind_12 : decode cX3_kind 12 = .ok (.invokestatic 51, 3) := by decide +kernel
theorem dX3_kind_15 : decode cX3_kind 15 = .ok (.ifCond .ne 9, 3) := by decide +kernel
theorem dX3_kind_18 : decode cX3_kind 18 = .ok (.aload_n 0, 1) := by decide +kernel
theorem dX3_kind_19 : decode cX3_kind 19 = .ok (.iconst 0, 1) := by decide +kernel
theorem dX3_kind_20 : decode cX3_kind 20 = .ok (.invokevirtual 55, 3) := by decide +kernel
theorem dX3_kind_23 : decode cX3_kind 23 = .ok (.ireturn, 1) := by decide +kernel
theorem dX3_kind_24 : decode cX3_kind 24 = .ok (.iconst 0, 1) := by decide +kernel
theorem dX3_kind_25 : decode cX3_kind 25 = .ok (.istore_n 3, 1) := by decide +kernel
theorem dX3_kind_26 : decode cX3_kind 26 = .ok (.iconst 0, 1) := by decide +kernel
theorem dX3_kind_27 : decode cX3_kind 27 = .ok (.istore 4, 2) := by decide +kernel
theorem dX3_kind_29 : decode cX3_kind 29 = .ok (.iconst 0, 1) := by decide +kernel
theorem dX3_kind_30 : decode cX3_kind 30 = .ok (.istore 5, 2) := by decide +kernel
theorem dX3_kind_32 : decode cX3_kind 32 = .ok (.iload 5, 2) := by decide +kernel
theorem dX3_kind_34 : decode cX3_kind 34 = .ok (.bipush 6, 2) := by decide +kernel
theorem dX3_kind_36 : decode cX3_kind 36 = .ok (.if_icmp .ge 69, 3) := by decide +kernel
theorem dX3_kind_39 : decode cX3_kind 39 = .ok (.aload_n 0, 1) := by decide +kernel
theorem dX3_kind_40 : decode cX3_kind 40 = .ok (.getfield 16, 3) := by decide +kernel
theorem dX3_kind_43 : decode cX3_kind 43 = .ok (.aload_n 0, 1) := by decide +kernel
theorem dX3_kind_44 : decode cX3_kind 44 = .ok (.getfield 10, 3) := by decide +kernel
theorem dX3_kind_47 : decode cX3_kind 47 = .ok (.invokevirtual 152, 3) := by decide +kernel
theorem dX3_kind_50 : decode cX3_kind 50 = .ok (.aload_n 0, 1) := by decide +kernel
theorem dX3_kind_51 : decode cX3_kind 51 = .ok (.getfield 16, 3) := by decide +kernel
theorem dX3_kind_54 : decode cX3_kind 54 = .ok (.getfield 81, 3) := by decide +kernel
theorem dX3_kind_57 : decode cX3_kind 57 = .ok (.iload_n 1, 1) := by decide +kernel
theorem dX3_kind_58 : decode cX3_kind 58 = .ok (.iload 5, 2) := by decide +kernel
theorem dX3_kind_60 : decode cX3_kind 60 = .ok (.iastore, 1) := by decide +kernel
theorem dX3_kind_61 : decode cX3_kind 61 = .ok (.aload_n 0, 1) := by decide +kernel
theorem dX3_kind_62 : decode cX3_kind 62 = .ok (.getfield 16, 3) := by decide +kernel
theorem dX3_kind_65 : decode cX3_kind 65 = .ok (.iload_n 2, 1) := by decide +kernel
theorem dX3_kind_66 : decode cX3_kind 66 = .ok (.invokevirtual 135, 3) := by decide +kernel
theorem dX3_kind_69 : decode cX3_kind 69 = .ok (.pop, 1) := by decide +kernel
theorem dX3_kind_70 : decode cX3_kind 70 = .ok (.aload_n 0, 1) := by decide +kernel
theorem dX3_kind_71 : decode cX3_kind 71 = .ok (.getfield 16, 3) := by decide +kernel
theorem dX3_kind_74 : decode cX3_kind 74 = .ok (.iload_n 1, 1) := by decide +kernel
theorem dX3_kind_75 : decode cX3_kind 75 = .ok (.invokevirtual 163, 3) := by decide +kernel
theorem dX3_kind_78 : decode cX3_kind 78 = .ok (.istore 6, 2) := by decide +kernel
theorem dX3_kind_80 : decode cX3_kind 80 = .ok (.iload 5, 2) := by decide +kernel
theorem dX3_kind_82 : decode cX3_kind 82 = .ok (.ifCond .eq 10, 3) := by decide +kernel
theorem dX3_kind_85 : decode cX3_kind 85 = .ok (.iload 6, 2) := by decide +kernel
theorem dX3_kind_87 : decode cX3_kind 87 = .ok (.iload 4, 2) := by decide +kernel
theorem dX3_kind_89 : decode cX3_kind 89 = .ok (.if_icmp .le 10, 3) := by decide +kernel
theorem dX3_kind_92 : decode cX3_kind 92 = .ok (.iload 5, 2) := by decide +kernel
theorem dX3_kind_94 : decode cX3_kind 94 = .ok (.istore_n 3, 1) := by decide +kernel
theorem dX3_kind_95 : decode cX3_kind 95 = .ok (.iload 6, 2) := by decide +kernel
theorem dX3_kind_97 : decode cX3_kind 97 = .ok (.istore 4, 2) := by decide +kernel
theorem dX3_kind_99 : decode cX3_kind 99 = .ok (.iinc 5 1, 3) := by decide +kernel
theorem dX3_kind_102 : decode cX3_kind 102 = .ok (.goto (-70), 3) := by decide +kernel
theorem dX3_kind_105 : decode cX3_kind 105 = .ok (.iload_n 3, 1) := by decide +kernel
theorem dX3_kind_106 : decode cX3_kind 106 = .ok (.ireturn, 1) := by decide +kernel
theorem dX3_claim_0 : decode cX3_claim 0 = .ok (.aload_n 0, 1) := by decide +kernel
theorem dX3_claim_1 : decode cX3_claim 1 = .ok (.iload_n 1, 1) := by decide +kernel
theorem dX3_claim_2 : decode cX3_claim 2 = .ok (.invokevirtual 78, 3) := by decide +kernel
theorem dX3_claim_5 : decode cX3_claim 5 = .ok (.ifCond .eq 13, 3) := by decide +kernel
theorem dX3_claim_8 : decode cX3_claim 8 = .ok (.iload_n 2, 1) := by decide +kernel
theorem dX3_claim_9 : decode cX3_claim 9 = .ok (.iconst 0, 1) := by decide +kernel
theorem dX3_claim_10 : decode cX3_claim 10 = .ok (.bipush 30, 2) := by decide +kernel
theorem dX3_claim_12 : decode cX3_claim 12 = .ok (.invokestatic 51, 3) := by decide +kernel
theorem dX3_claim_15 : decode cX3_claim 15 = .ok (.ifCond .ne 9, 3) := by decide +kernel
theorem dX3_claim_18 : decode cX3_claim 18 = .ok (.aload_n 0, 1) := by decide +kernel
theorem dX3_claim_19 : decode cX3_claim 19 = .ok (.iconst 0, 1) := by decide +kernel
theorem dX3_claim_20 : decode cX3_claim 20 = .ok (.invokevirtual 55, 3) := by decide +kernel
theorem dX3_claim_23 : decode cX3_claim 23 = .ok (.ireturn, 1) := by decide +kernel
theorem dX3_claim_24 : decode cX3_claim 24 = .ok (.iconst (-1), 1) := by decide +kernel
theorem dX3_claim_25 : decode cX3_claim 25 = .ok (.istore_n 3, 1) := by decide +kernel
theorem dX3_claim_26 : decode cX3_claim 26 = .ok (.iconst 0, 1) := by decide +kernel
theorem dX3_claim_27 : decode cX3_claim 27 = .ok (.istore 4, 2) := by decide +kernel
theorem dX3_claim_29 : decode cX3_claim 29 = .ok (.iconst (-1), 1) := by decide +kernel
theorem dX3_claim_30 : decode cX3_claim 30 = .ok (.istore 5, 2) := by decide +kernel
theorem dX3_claim_32 : decode cX3_claim 32 = .ok (.iload 5, 2) := by decide +kernel
theorem dX3_claim_34 : decode cX3_claim 34 = .ok (.bipush 8, 2) := by decide +kernel
theorem dX3_claim_36 : decode cX3_claim 36 = .ok (.if_icmp .ge 70, 3) := by decide +kernel
theorem dX3_claim_39 : decode cX3_claim 39 = .ok (.aload_n 0, 1) := by decide +kernel
theorem dX3_claim_40 : decode cX3_claim 40 = .ok (.getfield 16, 3) := by decide +kernel
theorem dX3_claim_43 : decode cX3_claim 43 = .ok (.aload_n 0, 1) := by decide +kernel
theorem dX3_claim_44 : decode cX3_claim 44 = .ok (.getfield 10, 3) := by decide +kernel
theorem dX3_claim_47 : decode cX3_claim 47 = .ok (.invokevirtual 152, 3) := by decide +kernel
theorem dX3_claim_50 : decode cX3_claim 50 = .ok (.aload_n 0, 1) := by decide +kernel
theorem dX3_claim_51 : decode cX3_claim 51 = .ok (.getfield 16, 3) := by decide +kernel
theorem dX3_claim_54 : decode cX3_claim 54 = .ok (.getfield 87, 3) := by decide +kernel
theorem dX3_claim_57 : decode cX3_claim 57 = .ok (.iload_n 1, 1) := by decide +kernel
theorem dX3_claim_58 : decode cX3_claim 58 = .ok (.iload 5, 2) := by decide +kernel
theorem dX3_claim_60 : decode cX3_claim 60 = .ok (.iastore, 1) := by decide +kernel
theorem dX3_claim_61 : decode cX3_claim 61 = .ok (.aload_n 0, 1) := by decide +kernel
theorem dX3_claim_62 : decode cX3_claim 62 = .ok (.getfield 16, 3) := by decide +kernel
theorem dX3_claim_65 : decode cX3_claim 65 = .ok (.iload_n 2, 1) := by decide +kernel
theorem dX3_claim_66 : decode cX3_claim 66 = .ok (.invokevirtual 135, 3) := by decide +kernel
theorem dX3_claim_69 : decode cX3_claim 69 = .ok (.pop, 1) := by decide +kernel
theorem dX3_claim_70 : decode cX3_claim 70 = .ok (.aload_n 0, 1) := by decide +kernel
theorem dX3_claim_71 : decode cX3_claim 71 = .ok (.getfield 16, 3) := by decide +kernel
theorem dX3_claim_74 : decode cX3_claim 74 = .ok (.iload_n 1, 1) := by decide +kernel
theorem dX3_claim_75 : decode cX3_claim 75 = .ok (.invokevirtual 163, 3) := by decide +kernel
theorem dX3_claim_78 : decode cX3_claim 78 = .ok (.istore 6, 2) := by decide +kernel
theorem dX3_claim_80 : decode cX3_claim 80 = .ok (.iload 5, 2) := by decide +kernel
theorem dX3_claim_82 : decode cX3_claim 82 = .ok (.iconst (-1), 1) := by decide +kernel
theorem dX3_claim_83 : decode cX3_claim 83 = .ok (.if_icmp .eq 10, 3) := by decide +kernel
theorem dX3_claim_86 : decode cX3_claim 86 = .ok (.iload 6, 2) := by decide +kernel
theorem dX3_claim_88 : decode cX3_claim 88 = .ok (.iload 4, 2) := by decide +kernel
theorem dX3_claim_90 : decode cX3_claim 90 = .ok (.if_icmp .le 10, 3) := by decide +kernel
theorem dX3_claim_93 : decode cX3_claim 93 = .ok (.iload 5, 2) := by decide +kernel
theorem dX3_claim_95 : decode cX3_claim 95 = .ok (.istore_n 3, 1) := by decide +kernel
theorem dX3_claim_96 : decode cX3_claim 96 = .ok (.iload 6, 2) := by decide +kernel
theorem dX3_claim_98 : decode cX3_claim 98 = .ok (.istore 4, 2) := by decide +kernel
theorem dX3_claim_100 : decode cX3_claim 100 = .ok (.iinc 5 1, 3) := by decide +kernel
theorem dX3_claim_103 : decode cX3_claim 103 = .ok (.goto (-71), 3) := by decide +kernel
theorem dX3_claim_106 : decode cX3_claim 106 = .ok (.iconst 1, 1) := by decide +kernel
theorem dX3_claim_107 : decode cX3_claim 107 = .ok (.iload_n 3, 1) := by decide +kernel
theorem dX3_claim_108 : decode cX3_claim 108 = .ok (.iadd, 1) := by decide +kernel
theorem dX3_claim_109 : decode cX3_claim 109 = .ok (.ireturn, 1) := by decide +kernel
theorem dX3_years_0 : decode cX3_years 0 = .ok (.aload_n 0, 1) := by decide +kernel
theorem dX3_years_1 : decode cX3_years 1 = .ok (.iload_n 1, 1) := by decide +kernel
theorem dX3_years_2 : decode cX3_years 2 = .ok (.invokevirtual 78, 3) := by decide +kernel
theorem dX3_years_5 : decode cX3_years 5 = .ok (.ifCond .eq 20, 3) := by decide +kernel
theorem dX3_years_8 : decode cX3_years 8 = .ok (.iload_n 2, 1) := by decide +kernel
theorem dX3_years_9 : decode cX3_years 9 = .ok (.invokestatic 47, 3) := by decide +kernel
theorem dX3_years_12 : decode cX3_years 12 = .ok (.ifCond .eq 13, 3) := by decide +kernel
theorem dX3_years_15 : decode cX3_years 15 = .ok (.iload_n 3, 1) := by decide +kernel
theorem dX3_years_16 : decode cX3_years 16 = .ok (.iconst 1, 1) := by decide +kernel
theorem dX3_years_17 : decode cX3_years 17 = .ok (.bipush 30, 2) := by decide +kernel
theorem dX3_years_19 : decode cX3_years 19 = .ok (.invokestatic 51, 3) := by decide +kernel
theorem dX3_years_22 : decode cX3_years 22 = .ok (.ifCond .ne 9, 3) := by decide +kernel
theorem dX3_years_25 : decode cX3_years 25 = .ok (.aload_n 0, 1) := by decide +kernel
theorem dX3_years_26 : decode cX3_years 26 = .ok (.iconst 0, 1) := by decide +kernel
theorem dX3_years_27 : decode cX3_years 27 = .ok (.invokevirtual 55, 3) := by decide +kernel
theorem dX3_years_30 : decode cX3_years 30 = .ok (.ireturn, 1) := by decide +kernel
theorem dX3_years_31 : decode cX3_years 31 = .ok (.iconst 0, 1) := by decide +kernel
theorem dX3_years_32 : decode cX3_years 32 = .ok (.istore 4, 2) := by decide +kernel
theorem dX3_years_34 : decode cX3_years 34 = .ok (.iload 4, 2) := by decide +kernel
theorem dX3_years_36 : decode cX3_years 36 = .ok (.bipush 99, 2) := by decide +kernel
theorem dX3_years_38 : decode cX3_years 38 = .ok (.if_icmp .gt 71, 3) := by decide +kernel
theorem dX3_years_41 : decode cX3_years 41 = .ok (.iload 4, 2) := by decide +kernel
theorem dX3_years_43 : decode cX3_years 43 = .ok (.iconst 4, 1) := by decide +kernel
theorem dX3_years_44 : decode cX3_years 44 = .ok (.irem, 1) := by decide +kernel
theorem dX3_years_45 : decode cX3_years 45 = .ok (.ifCond .eq 11, 3) := by decide +kernel
theorem dX3_years_48 : decode cX3_years 48 = .ok (.iload 4, 2) := by decide +kernel
theorem dX3_years_50 : decode cX3_years 50 = .ok (.bipush 10, 2) := by decide +kernel
theorem dX3_years_52 : decode cX3_years 52 = .ok (.irem, 1) := by decide +kernel
theorem dX3_years_53 : decode cX3_years 53 = .ok (.ifCond .ne 50, 3) := by decide +kernel
theorem dX3_years_56 : decode cX3_years 56 = .ok (.aload_n 0, 1) := by decide +kernel
theorem dX3_years_57 : decode cX3_years 57 = .ok (.getfield 16, 3) := by decide +kernel
theorem dX3_years_60 : decode cX3_years 60 = .ok (.aload_n 0, 1) := by decide +kernel
theorem dX3_years_61 : decode cX3_years 61 = .ok (.getfield 10, 3) := by decide +kernel
theorem dX3_years_64 : decode cX3_years 64 = .ok (.invokevirtual 152, 3) := by decide +kernel
theorem dX3_years_67 : decode cX3_years 67 = .ok (.aload_n 0, 1) := by decide +kernel
theorem dX3_years_68 : decode cX3_years 68 = .ok (.getfield 16, 3) := by decide +kernel
theorem dX3_years_71 : decode cX3_years 71 = .ok (.getfield 84, 3) := by decide +kernel
theorem dX3_years_74 : decode cX3_years 74 = .ok (.iload_n 1, 1) := by decide +kernel
theorem dX3_years_75 : decode cX3_years 75 = .ok (.iload 4, 2) := by decide +kernel
theorem dX3_years_77 : decode cX3_years 77 = .ok (.iastore, 1) := by decide +kernel
theorem dX3_years_78 : decode cX3_years 78 = .ok (.aload_n 0, 1) := by decide +kernel
theorem dX3_years_79 : decode cX3_years 79 = .ok (.getfield 16, 3) := by decide +kernel
theorem dX3_years_82 : decode cX3_years 82 = .ok (.iload_n 3, 1) := by decide +kernel
theorem dX3_years_83 : decode cX3_years 83 = .ok (.invokevirtual 135, 3) := by decide +kernel
theorem dX3_years_86 : decode cX3_years 86 = .ok (.pop, 1) := by decide +kernel
theorem dX3_years_87 : decode cX3_years 87 = .ok (.aload_n 0, 1) := by decide +kernel
theorem dX3_years_88 : decode cX3_years 88 = .ok (.getfield 16, 3) := by decide +kernel
theorem dX3_years_91 : decode cX3_years 91 = .ok (.getfield 96, 3) := by decide +kernel
theorem dX3_years_94 : decode cX3_years 94 = .ok (.iload_n 1, 1) := by decide +kernel
theorem dX3_years_95 : decode cX3_years 95 = .ok (.iaload, 1) := by decide +kernel
theorem dX3_years_96 : decode cX3_years 96 = .ok (.iload_n 2, 1) := by decide +kernel
theorem dX3_years_97 : decode cX3_years 97 = .ok (.if_icmp .ne 6, 3) := by decide +kernel
theorem dX3_years_100 : decode cX3_years 100 = .ok (.iload 4, 2) := by decide +kernel
theorem dX3_years_102 : decode cX3_years 102 = .ok (.ireturn, 1) := by decide +kernel
theorem dX3_years_103 : decode cX3_years 103 = .ok (.iinc 4 1, 3) := by decide +kernel
theorem dX3_years_106 : decode cX3_years 106 = .ok (.goto (-72), 3) := by decide +kernel
theorem dX3_years_109 : decode cX3_years 109 = .ok (.aload_n 0, 1) := by decide +kernel
theorem dX3_years_110 : decode cX3_years 110 = .ok (.iconst 3, 1) := by decide +kernel
theorem dX3_years_111 : decode cX3_years 111 = .ok (.invokevirtual 55, 3) := by decide +kernel
theorem dX3_years_114 : decode cX3_years 114 = .ok (.ireturn, 1) := by decide +kernel
theorem dX3_always_0 : decode cX3_always 0 = .ok (.iload_n 1, 1) := by decide +kernel
theorem dX3_always_1 : decode cX3_always 1 = .ok (.iconst 0, 1) := by decide +kernel
theorem dX3_always_2 : decode cX3_always 2 = .ok (.bipush 60, 2) := by decide +kernel
theorem dX3_always_4 : decode cX3_always 4 = .ok (.invokestatic 51, 3) := by decide +kernel
theorem dX3_always_7 : decode cX3_always 7 = .ok (.ifCond .ne 9, 3) := by decide +kernel
theorem dX3_always_10 : decode cX3_always 10 = .ok (.aload_n 0, 1) := by decide +kernel
theorem dX3_always_11 : decode cX3_always 11 = .ok (.iconst 0, 1) := by decide +kernel
theorem dX3_always_12 : decode cX3_always 12 = .ok (.invokevirtual 55, 3) := by decide +kernel
theorem dX3_always_15 : decode cX3_always 15 = .ok (.ireturn, 1) := by decide +kernel
theorem dX3_always_16 : decode cX3_always 16 = .ok (.aload_n 0, 1) := by decide +kernel
theorem dX3_always_17 : decode cX3_always 17 = .ok (.getfield 10, 3) := by decide +kernel
theorem dX3_always_20 : decode cX3_always 20 = .ok (.getfield 71, 3) := by decide +kernel
theorem dX3_always_23 : decode cX3_always 23 = .ok (.ifCond .ne 9, 3) := by decide +kernel
theorem dX3_always_26 : decode cX3_always 26 = .ok (.aload_n 0, 1) := by decide +kernel
theorem dX3_always_27 : decode cX3_always 27 = .ok (.iconst 3, 1) := by decide +kernel
theorem dX3_always_28 : decode cX3_always 28 = .ok (.invokevirtual 55, 3) := by decide +kernel
theorem dX3_always_31 : decode cX3_always 31 = .ok (.ireturn, 1) := by decide +kernel
theorem dX3_always_32 : decode cX3_always 32 = .ok (.aload_n 0, 1) := by decide +kernel
theorem dX3_always_33 : decode cX3_always 33 = .ok (.getfield 16, 3) := by decide +kernel
theorem dX3_always_36 : decode cX3_always 36 = .ok (.aload_n 0, 1) := by decide +kernel
theorem dX3_always_37 : decode cX3_always 37 = .ok (.getfield 10, 3) := by decide +kernel
theorem dX3_always_40 : decode cX3_always 40 = .ok (.invokevirtual 152, 3) := by decide +kernel
theorem dX3_always_43 : decode cX3_always 43 = .ok (.aload_n 0, 1) := by decide +kernel
theorem dX3_always_44 : decode cX3_always 44 = .ok (.getfield 16, 3) := by decide +kernel
theorem dX3_always_47 : decode cX3_always 47 = .ok (.iload_n 1, 1) := by decide +kernel
theorem dX3_always_48 : decode cX3_always 48 = .ok (.invokevirtual 135, 3) := by decide +kernel
theorem dX3_always_51 : decode cX3_always 51 = .ok (.pop, 1) := by decide +kernel
theorem dX3_always_52 : decode cX3_always 52 = .ok (.iconst 0, 1) := by decide +kernel
theorem dX3_always_53 : decode cX3_always 53 = .ok (.istore_n 2, 1) := by decide +kernel
theorem dX3_always_54 : decode cX3_always 54 = .ok (.iconst 1, 1) := by decide +kernel
theorem dX3_always_55 : decode cX3_always 55 = .ok (.istore_n 3, 1) := by decide +kernel
theorem dX3_always_56 : decode cX3_always 56 = .ok (.iload_n 3, 1) := by decide +kernel
theorem dX3_always_57 : decode cX3_always 57 = .ok (.aload_n 0, 1) := by decide +kernel
theorem dX3_always_58 : decode cX3_always 58 = .ok (.getfield 16, 3) := by decide +kernel
theorem dX3_always_61 : decode cX3_always 61 = .ok (.getfield 71, 3) := by decide +kernel
theorem dX3_always_64 : decode cX3_always 64 = .ok (.if_icmp .ge 32, 3) := by decide +kernel
theorem dX3_always_67 : decode cX3_always 67 = .ok (.aload_n 0, 1) := by decide +kernel
theorem dX3_always_68 : decode cX3_always 68 = .ok (.getfield 16, 3) := by decide +kernel
theorem dX3_always_71 : decode cX3_always 71 = .ok (.getfield 93, 3) := by decide +kernel
theorem dX3_always_74 : decode cX3_always 74 = .ok (.iload_n 3, 1) := by decide +kernel
theorem dX3_always_75 : decode cX3_always 75 = .ok (.iaload, 1) := by decide +kernel
theorem dX3_always_76 : decode cX3_always 76 = .ok (.aload_n 0, 1) := by decide +kernel
theorem dX3_always_77 : decode cX3_always 77 = .ok (.getfield 16, 3) := by decide +kernel
theorem dX3_always_80 : decode cX3_always 80 = .ok (.getfield 93, 3) := by decide +kernel
theorem dX3_always_83 : decode cX3_always 83 = .ok (.iload_n 2, 1) := by decide +kernel
theorem dX3_always_84 : decode cX3_always 84 = .ok (.iaload, 1) := by decide +kernel
theorem dX3_always_85 : decode cX3_always 85 = .ok (.if_icmp .le 5, 3) := by decide +kernel
theorem dX3_always_88 : decode cX3_always 88 = .ok (.iload_n 3, 1) := by decide +kernel
theorem dX3_always_89 : decode cX3_always 89 = .ok (.istore_n 2, 1) := by decide +kernel
theorem dX3_always_90 : decode cX3_always 90 = .ok (.iinc 3 1, 3) := by decide +kernel
theorem dX3_always_93 : decode cX3_always 93 = .ok (.goto (-37), 3) := by decide +kernel
theorem dX3_always_96 : decode cX3_always 96 = .ok (.iload_n 2, 1) := by decide +kernel
theorem dX3_always_97 : decode cX3_always 97 = .ok (.ireturn, 1) := by decide +kernel
theorem dX3_beside_0 : decode cX3_beside 0 = .ok (.aload_n 0, 1) := by decide +kernel
theorem dX3_beside_1 : decode cX3_beside 1 = .ok (.iload_n 1, 1) := by decide +kernel
theorem dX3_beside_2 : decode cX3_beside 2 = .ok (.invokevirtual 78, 3) := by decide +kernel
theorem dX3_beside_5 : decode cX3_beside 5 = .ok (.ifCond .ne 9, 3) := by decide +kernel
theorem dX3_beside_8 : decode cX3_beside 8 = .ok (.aload_n 0, 1) := by decide +kernel
theorem dX3_beside_9 : decode cX3_beside 9 = .ok (.iconst 0, 1) := by decide +kernel
theorem dX3_beside_10 : decode cX3_beside 10 = .ok (.invokevirtual 55, 3) := by decide +kernel
theorem dX3_beside_13 : decode cX3_beside 13 = .ok (.ireturn, 1) := by decide +kernel
theorem dX3_beside_14 : decode cX3_beside 14 = .ok (.iconst (-1), 1) := by decide +kernel
theorem dX3_beside_15 : decode cX3_beside 15 = .ok (.istore_n 2, 1) := by decide +kernel
theorem dX3_beside_16 : decode cX3_beside 16 = .ok (.iconst 0, 1) := by decide +kernel
theorem dX3_beside_17 : decode cX3_beside 17 = .ok (.istore_n 3, 1) := by decide +kernel
theorem dX3_beside_18 : decode cX3_beside 18 = .ok (.iconst 0, 1) := by decide +kernel
theorem dX3_beside_19 : decode cX3_beside 19 = .ok (.istore 4, 2) := by decide +kernel
theorem dX3_beside_21 : decode cX3_beside 21 = .ok (.iload 4, 2) := by decide +kernel
theorem dX3_beside_23 : decode cX3_beside 23 = .ok (.aload_n 0, 1) := by decide +kernel
theorem dX3_beside_24 : decode cX3_beside 24 = .ok (.getfield 10, 3) := by decide +kernel
theorem dX3_beside_27 : decode cX3_beside 27 = .ok (.getfield 71, 3) := by decide +kernel
theorem dX3_beside_30 : decode cX3_beside 30 = .ok (.if_icmp .ge 111, 3) := by decide +kernel
theorem dX3_beside_33 : decode cX3_beside 33 = .ok (.iload 4, 2) := by decide +kernel
theorem dX3_beside_35 : decode cX3_beside 35 = .ok (.iload_n 1, 1) := by decide +kernel
theorem dX3_beside_36 : decode cX3_beside 36 = .ok (.if_icmp .eq 99, 3) := by decide +kernel
theorem dX3_beside_39 : decode cX3_beside 39 = .ok (.aload_n 0, 1) := by decide +kernel
theorem dX3_beside_40 : decode cX3_beside 40 = .ok (.getfield 10, 3) := by decide +kernel
theorem dX3_beside_43 : decode cX3_beside 43 = .ok (.getfield 96, 3) := by decide +kernel
theorem dX3_beside_46 : decode cX3_beside 46 = .ok (.iload 4, 2) := by decide +kernel
theorem dX3_beside_48 : decode cX3_beside 48 = .ok (.iaload, 1) := by decide +kernel
theorem dX3_beside_49 : decode cX3_beside 49 = .ok (.ifCond .lt 86, 3) := by decide +kernel
theorem dX3_beside_52 : decode cX3_beside 52 = .ok (.aload_n 0, 1) := by decide +kernel
theorem dX3_beside_53 : decode cX3_beside 53 = .ok (.getfield 10, 3) := by decide +kernel
theorem dX3_beside_56 : decode cX3_beside 56 = .ok (.getfield 96, 3) := by decide +kernel
theorem dX3_beside_59 : decode cX3_beside 59 = .ok (.iload 4, 2) := by decide +kernel
theorem dX3_beside_61 : decode cX3_beside 61 = .ok (.iaload, 1) := by decide +kernel
theorem dX3_beside_62 : decode cX3_beside 62 = .ok (.iconst 1, 1) := by decide +kernel
theorem dX3_beside_63 : decode cX3_beside 63 = .ok (.isub, 1) := by decide +kernel
theorem dX3_beside_64 : decode cX3_beside 64 = .ok (.istore 5, 2) := by decide +kernel
theorem dX3_beside_66 : decode cX3_beside 66 = .ok (.iload 5, 2) := by decide +kernel
theorem dX3_beside_68 : decode cX3_beside 68 = .ok (.aload_n 0, 1) := by decide +kernel
theorem dX3_beside_69 : decode cX3_beside 69 = .ok (.getfield 10, 3) := by decide +kernel
theorem dX3_beside_72 : decode cX3_beside 72 = .ok (.getfield 96, 3) := by decide +kernel
theorem dX3_beside_75 : decode cX3_beside 75 = .ok (.iload 4, 2) := by decide +kernel
theorem dX3_beside_77 : decode cX3_beside 77 = .ok (.iaload, 1) := by decide +kernel
theorem dX3_beside_78 : decode cX3_beside 78 = .ok (.iconst 1, 1) := by decide +kernel
theorem dX3_beside_79 : decode cX3_beside 79 = .ok (.iadd, 1) := by decide +kernel
theorem dX3_beside_80 : decode cX3_beside 80 = .ok (.if_icmp .gt 55, 3) := by decide +kernel
theorem dX3_beside_83 : decode cX3_beside 83 = .ok (.aload_n 0, 1) := by decide +kernel
theorem dX3_beside_84 : decode cX3_beside 84 = .ok (.getfield 10, 3) := by decide +kernel
theorem dX3_beside_87 : decode cX3_beside 87 = .ok (.iload_n 1, 1) := by decide +kernel
theorem dX3_beside_88 : decode cX3_beside 88 = .ok (.iload 5, 2) := by decide +kernel
theorem dX3_beside_90 : decode cX3_beside 90 = .ok (.invokevirtual 166, 3) := by decide +kernel
theorem dX3_beside_93 : decode cX3_beside 93 = .ok (.ifCond .eq 36, 3) := by decide +kernel
theorem dX3_beside_96 : decode cX3_beside 96 = .ok (.iload_n 2, 1) := by decide +kernel
theorem dX3_beside_97 : decode cX3_beside 97 = .ok (.iconst (-1), 1) := by decide +kernel
theorem dX3_beside_98 : decode cX3_beside 98 = .ok (.if_icmp .eq 17, 3) := by decide +kernel
theorem dX3_beside_101 : decode cX3_beside 101 = .ok (.aload_n 0, 1) := by decide +kernel
theorem dX3_beside_102 : decode cX3_beside 102 = .ok (.getfield 10, 3) := by decide +kernel
theorem dX3_beside_105 : decode cX3_beside 105 = .ok (.iload_n 1, 1) := by decide +kernel
theorem dX3_beside_106 : decode cX3_beside 106 = .ok (.iload 5, 2) := by decide +kernel
theorem dX3_beside_108 : decode cX3_beside 108 = .ok (.invokevirtual 127, 3) := by decide +kernel
theorem dX3_beside_111 : decode cX3_beside 111 = .ok (.iload_n 3, 1) := by decide +kernel
theorem dX3_beside_112 : decode cX3_beside 112 = .ok (.if_icmp .le 17, 3) := by decide +kernel
theorem dX3_beside_115 : decode cX3_beside 115 = .ok (.iload 4, 2) := by decide +kernel
theorem dX3_beside_117 : decode cX3_beside 117 = .ok (.istore_n 2, 1) := by decide +kernel
theorem dX3_beside_118 : decode cX3_beside 118 = .ok (.aload_n 0, 1) := by decide +kernel
theorem dX3_beside_119 : decode cX3_beside 119 = .ok (.getfield 10, 3) := by decide +kernel
theorem dX3_beside_122 : decode cX3_beside 122 = .ok (.iload_n 1, 1) := by decide +kernel
theorem dX3_beside_123 : decode cX3_beside 123 = .ok (.iload 5, 2) := by decide +kernel
theorem dX3_beside_125 : decode cX3_beside 125 = .ok (.invokevirtual 127, 3) := by decide +kernel
theorem dX3_beside_128 : decode cX3_beside 128 = .ok (.istore_n 3, 1) := by decide +kernel
theorem dX3_beside_129 : decode cX3_beside 129 = .ok (.iinc 5 2, 3) := by decide +kernel
theorem dX3_beside_132 : decode cX3_beside 132 = .ok (.goto (-66), 3) := by decide +kernel
theorem dX3_beside_135 : decode cX3_beside 135 = .ok (.iinc 4 1, 3) := by decide +kernel
theorem dX3_beside_138 : decode cX3_beside 138 = .ok (.goto (-117), 3) := by decide +kernel
theorem dX3_beside_141 : decode cX3_beside 141 = .ok (.iload_n 2, 1) := by decide +kernel
theorem dX3_beside_142 : decode cX3_beside 142 = .ok (.iconst (-1), 1) := by decide +kernel
theorem dX3_beside_143 : decode cX3_beside 143 = .ok (.if_icmp .ne 11, 3) := by decide +kernel
theorem dX3_beside_146 : decode cX3_beside 146 = .ok (.aload_n 0, 1) := by decide +kernel
theorem dX3_beside_147 : decode cX3_beside 147 = .ok (.iconst 3, 1) := by decide +kernel
theorem dX3_beside_148 : decode cX3_beside 148 = .ok (.invokevirtual 55, 3) := by decide +kernel
theorem dX3_beside_151 : decode cX3_beside 151 = .ok (.goto 4, 3) := by decide +kernel
theorem dX3_beside_154 : decode cX3_beside 154 = .ok (.iload_n 2, 1) := by decide +kernel
theorem dX3_beside_155 : decode cX3_beside 155 = .ok (.ireturn, 1) := by decide +kernel
theorem dX3_feed_0 : decode cX3_feed 0 = .ok (.iload_n 2, 1) := by decide +kernel
theorem dX3_feed_1 : decode cX3_feed 1 = .ok (.iconst 1, 1) := by decide +kernel
theorem dX3_feed_2 : decode cX3_feed 2 = .ok (.iconst 4, 1) := by decide +kernel
theorem dX3_feed_3 : decode cX3_feed 3 = .ok (.invokestatic 51, 3) := by decide +kernel
theorem dX3_feed_6 : decode cX3_feed 6 = .ok (.ifCond .ne 9, 3) := by decide +kernel
theorem dX3_feed_9 : decode cX3_feed 9 = .ok (.aload_n 0, 1) := by decide +kernel
theorem dX3_feed_10 : decode cX3_feed 10 = .ok (.iconst 0, 1) := by decide +kernel
theorem dX3_feed_11 : decode cX3_feed 11 = .ok (.invokevirtual 55, 3) := by decide +kernel
theorem dX3_feed_14 : decode cX3_feed 14 = .ok (.ireturn, 1) := by decide +kernel
theorem dX3_feed_15 : decode cX3_feed 15 = .ok (.aload_n 0, 1) := by decide +kernel
theorem dX3_feed_16 : decode cX3_feed 16 = .ok (.getfield 29, 3) := by decide +kernel
theorem dX3_feed_19 : decode cX3_feed 19 = .ok (.getfield 169, 3) := by decide +kernel
theorem dX3_feed_22 : decode cX3_feed 22 = .ok (.iload_n 2, 1) := by decide +kernel
theorem dX3_feed_23 : decode cX3_feed 23 = .ok (.iadd, 1) := by decide +kernel
theorem dX3_feed_24 : decode cX3_feed 24 = .ok (.bipush 120, 2) := by decide +kernel
theorem dX3_feed_26 : decode cX3_feed 26 = .ok (.if_icmp .le 9, 3) := by decide +kernel
theorem dX3_feed_29 : decode cX3_feed 29 = .ok (.aload_n 0, 1) := by decide +kernel
theorem dX3_feed_30 : decode cX3_feed 30 = .ok (.iconst 1, 1) := by decide +kernel
theorem dX3_feed_31 : decode cX3_feed 31 = .ok (.invokevirtual 55, 3) := by decide +kernel
theorem dX3_feed_34 : decode cX3_feed 34 = .ok (.ireturn, 1) := by decide +kernel
theorem dX3_feed_35 : decode cX3_feed 35 = .ok (.iload_n 2, 1) := by decide +kernel
theorem dX3_feed_36 : decode cX3_feed 36 = .ok (.iconst 1, 1) := by decide +kernel
theorem dX3_feed_37 : decode cX3_feed 37 = .ok (.isub, 1) := by decide +kernel
theorem dX3_feed_38 : decode cX3_feed 38 = .ok (.istore_n 3, 1) := by decide +kernel
theorem dX3_feed_39 : decode cX3_feed 39 = .ok (.iload_n 3, 1) := by decide +kernel
theorem dX3_feed_40 : decode cX3_feed 40 = .ok (.ifCond .lt 26, 3) := by decide +kernel
theorem dX3_feed_43 : decode cX3_feed 43 = .ok (.aload_n 0, 1) := by decide +kernel
theorem dX3_feed_44 : decode cX3_feed 44 = .ok (.getfield 29, 3) := by decide +kernel
theorem dX3_feed_47 : decode cX3_feed 47 = .ok (.iload_n 1, 1) := by decide +kernel
theorem dX3_feed_48 : decode cX3_feed 48 = .ok (.bipush 8, 2) := by decide +kernel
theorem dX3_feed_50 : decode cX3_feed 50 = .ok (.iload_n 3, 1) := by decide +kernel
theorem dX3_feed_51 : decode cX3_feed 51 = .ok (.imul, 1) := by decide +kernel
theorem dX3_feed_52 : decode cX3_feed 52 = .ok (.iushr, 1) := by decide +kernel
theorem dX3_feed_53 : decode cX3_feed 53 = .ok (.sipush 255, 3) := by decide +kernel
theorem dX3_feed_56 : decode cX3_feed 56 = .ok (.iand, 1) := by decide +kernel
theorem dX3_feed_57 : decode cX3_feed 57 = .ok (.invokevirtual 172, 3) := by decide +kernel
theorem dX3_feed_60 : decode cX3_feed 60 = .ok (.iinc 3 (-1), 3) := by decide +kernel
theorem dX3_feed_63 : decode cX3_feed 63 = .ok (.goto (-24), 3) := by decide +kernel
theorem dX3_feed_66 : decode cX3_feed 66 = .ok (.aload_n 0, 1) := by decide +kernel
theorem dX3_feed_67 : decode cX3_feed 67 = .ok (.getfield 29, 3) := by decide +kernel
theorem dX3_feed_70 : decode cX3_feed 70 = .ok (.getfield 169, 3) := by decide +kernel
theorem dX3_feed_73 : decode cX3_feed 73 = .ok (.ireturn, 1) := by decide +kernel
theorem dX3_wipe_0 : decode cX3_wipe 0 = .ok (.aload_n 0, 1) := by decide +kernel
theorem dX3_wipe_1 : decode cX3_wipe 1 = .ok (.getfield 29, 3) := by decide +kernel
theorem dX3_wipe_4 : decode cX3_wipe 4 = .ok (.getfield 169, 3) := by decide +kernel
theorem dX3_wipe_7 : decode cX3_wipe 7 = .ok (.istore_n 1, 1) := by decide +kernel
theorem dX3_wipe_8 : decode cX3_wipe 8 = .ok (.aload_n 0, 1) := by decide +kernel
theorem dX3_wipe_9 : decode cX3_wipe 9 = .ok (.getfield 29, 3) := by decide +kernel
theorem dX3_wipe_12 : decode cX3_wipe 12 = .ok (.iconst 0, 1) := by decide +kernel
theorem dX3_wipe_13 : decode cX3_wipe 13 = .ok (.putfield 169, 3) := by decide +kernel
theorem dX3_wipe_16 : decode cX3_wipe 16 = .ok (.iload_n 1, 1) := by decide +kernel
theorem dX3_wipe_17 : decode cX3_wipe 17 = .ok (.ireturn, 1) := by decide +kernel
theorem dX3_room_0 : decode cX3_room 0 = .ok (.aload_n 0, 1) := by decide +kernel
theorem dX3_room_1 : decode cX3_room 1 = .ok (.getfield 16, 3) := by decide +kernel
theorem dX3_room_4 : decode cX3_room 4 = .ok (.aload_n 0, 1) := by decide +kernel
theorem dX3_room_5 : decode cX3_room 5 = .ok (.getfield 10, 3) := by decide +kernel
theorem dX3_room_8 : decode cX3_room 8 = .ok (.invokevirtual 152, 3) := by decide +kernel
theorem dX3_room_11 : decode cX3_room 11 = .ok (.aload_n 0, 1) := by decide +kernel
theorem dX3_room_12 : decode cX3_room 12 = .ok (.getfield 29, 3) := by decide +kernel
theorem dX3_room_15 : decode cX3_room 15 = .ok (.aload_n 0, 1) := by decide +kernel
theorem dX3_room_16 : decode cX3_room 16 = .ok (.getfield 16, 3) := by decide +kernel
theorem dX3_room_19 : decode cX3_room 19 = .ok (.invokevirtual 176, 3) := by decide +kernel
theorem dX3_room_22 : decode cX3_room 22 = .ok (.istore_n 1, 1) := by decide +kernel
theorem dX3_room_23 : decode cX3_room 23 = .ok (.aload_n 0, 1) := by decide +kernel
theorem dX3_room_24 : decode cX3_room 24 = .ok (.getfield 29, 3) := by decide +kernel
theorem dX3_room_27 : decode cX3_room 27 = .ok (.iconst 0, 1) := by decide +kernel
theorem dX3_room_28 : decode cX3_room 28 = .ok (.putfield 169, 3) := by decide +kernel
theorem dX3_room_31 : decode cX3_room 31 = .ok (.iload_n 1, 1) := by decide +kernel
theorem dX3_room_32 : decode cX3_room 32 = .ok (.ifCond .ne 13, 3) := by decide +kernel
theorem dX3_room_35 : decode cX3_room 35 = .ok (.iconst (-1), 1) := by decide +kernel
theorem dX3_room_36 : decode cX3_room 36 = .ok (.aload_n 0, 1) := by decide +kernel
theorem dX3_room_37 : decode cX3_room 37 = .ok (.getfield 29, 3) := by decide +kernel
theorem dX3_room_40 : decode cX3_room 40 = .ok (.getfield 180, 3) := by decide +kernel
theorem dX3_room_43 : decode cX3_room 43 = .ok (.isub, 1) := by decide +kernel
theorem dX3_room_44 : decode cX3_room 44 = .ok (.ireturn, 1) := by decide +kernel
theorem dX3_room_45 : decode cX3_room 45 = .ok (.aload_n 0, 1) := by decide +kernel
theorem dX3_room_46 : decode cX3_room 46 = .ok (.getfield 10, 3) := by decide +kernel
theorem dX3_room_49 : decode cX3_room 49 = .ok (.aload_n 0, 1) := by decide +kernel
theorem dX3_room_50 : decode cX3_room 50 = .ok (.getfield 16, 3) := by decide +kernel
theorem dX3_room_53 : decode cX3_room 53 = .ok (.invokevirtual 152, 3) := by decide +kernel
theorem dX3_room_56 : decode cX3_room 56 = .ok (.aload_n 0, 1) := by decide +kernel
theorem dX3_room_57 : decode cX3_room 57 = .ok (.getfield 29, 3) := by decide +kernel
theorem dX3_room_60 : decode cX3_room 60 = .ok (.getfield 183, 3) := by decide +kernel
theorem dX3_room_63 : decode cX3_room 63 = .ok (.ireturn, 1) := by decide +kernel
theorem dX3_sheet_0 : decode cX3_sheet 0 = .ok (.iload_n 1, 1) := by decide +kernel
theorem dX3_sheet_1 : decode cX3_sheet 1 = .ok (.invokestatic 186, 3) := by decide +kernel
theorem dX3_sheet_4 : decode cX3_sheet 4 = .ok (.ifCond .eq 25, 3) := by decide +kernel
theorem dX3_sheet_7 : decode cX3_sheet 7 = .ok (.iload_n 2, 1) := by decide +kernel
theorem dX3_sheet_8 : decode cX3_sheet 8 = .ok (.ifCond .eq 27, 3) := by decide +kernel
theorem dX3_sheet_11 : decode cX3_sheet 11 = .ok (.iload_n 2, 1) := by decide +kernel
theorem dX3_sheet_12 : decode cX3_sheet 12 = .ok (.bipush 8, 2) := by decide +kernel
theorem dX3_sheet_14 : decode cX3_sheet 14 = .ok (.if_icmp .eq 21, 3) := by decide +kernel
theorem dX3_sheet_17 : decode cX3_sheet 17 = .ok (.iload_n 2, 1) := by decide +kernel
theorem dX3_sheet_18 : decode cX3_sheet 18 = .ok (.bipush 16, 2) := by decide +kernel
theorem dX3_sheet_20 : decode cX3_sheet 20 = .ok (.if_icmp .eq 15, 3) := by decide +kernel
theorem dX3_sheet_23 : decode cX3_sheet 23 = .ok (.iload_n 2, 1) := by decide +kernel
theorem dX3_sheet_24 : decode cX3_sheet 24 = .ok (.bipush 64, 2) := by decide +kernel
theorem dX3_sheet_26 : decode cX3_sheet 26 = .ok (.if_icmp .eq 9, 3) := by decide +kernel
theorem dX3_sheet_29 : decode cX3_sheet 29 = .ok (.aload_n 0, 1) := by decide +kernel
theorem dX3_sheet_30 : decode cX3_sheet 30 = .ok (.iconst 0, 1) := by decide +kernel
theorem dX3_sheet_31 : decode cX3_sheet 31 = .ok (.invokevirtual 55, 3) := by decide +kernel
theorem dX3_sheet_34 : decode cX3_sheet 34 = .ok (.ireturn, 1) := by decide +kernel
theorem dX3_sheet_35 : decode cX3_sheet 35 = .ok (.iload_n 3, 1) := by decide +kernel
theorem dX3_sheet_36 : decode cX3_sheet 36 = .ok (.ifCond .ge 10, 3) := by decide +kernel
theorem dX3_sheet_39 : decode cX3_sheet 39 = .ok (.aload_n 0, 1) := by decide +kernel
theorem dX3_sheet_40 : decode cX3_sheet 40 = .ok (.bipush 6, 2) := by decide +kernel
theorem dX3_sheet_42 : decode cX3_sheet 42 = .ok (.invokevirtual 55, 3) := by decide +kernel
theorem dX3_sheet_45 : decode cX3_sheet 45 = .ok (.ireturn, 1) := by decide +kernel
theorem dX3_sheet_46 : decode cX3_sheet 46 = .ok (.iload_n 3, 1) := by decide +kernel
theorem dX3_sheet_47 : decode cX3_sheet 47 = .ok (.bipush 40, 2) := by decide +kernel
theorem dX3_sheet_49 : decode cX3_sheet 49 = .ok (.if_icmp .le 9, 3) := by decide +kernel
theorem dX3_sheet_52 : decode cX3_sheet 52 = .ok (.aload_n 0, 1) := by decide +kernel
theorem dX3_sheet_53 : decode cX3_sheet 53 = .ok (.iconst 0, 1) := by decide +kernel
theorem dX3_sheet_54 : decode cX3_sheet 54 = .ok (.invokevirtual 55, 3) := by decide +kernel
theorem dX3_sheet_57 : decode cX3_sheet 57 = .ok (.ireturn, 1) := by decide +kernel
theorem dX3_sheet_58 : decode cX3_sheet 58 = .ok (.aload_n 0, 1) := by decide +kernel
theorem dX3_sheet_59 : decode cX3_sheet 59 = .ok (.getfield 35, 3) := by decide +kernel
theorem dX3_sheet_62 : decode cX3_sheet 62 = .ok (.iload_n 1, 1) := by decide +kernel
theorem dX3_sheet_63 : decode cX3_sheet 63 = .ok (.aaload, 1) := by decide +kernel
theorem dX3_sheet_64 : decode cX3_sheet 64 = .ok (.iload_n 2, 1) := by decide +kernel
theorem dX3_sheet_65 : decode cX3_sheet 65 = .ok (.iload_n 3, 1) := by decide +kernel
theorem dX3_sheet_66 : decode cX3_sheet 66 = .ok (.invokevirtual 189, 3) := by decide +kernel
theorem dX3_sheet_69 : decode cX3_sheet 69 = .ok (.ireturn, 1) := by decide +kernel
theorem dX3_write_0 : decode cX3_write 0 = .ok (.iload_n 1, 1) := by decide +kernel
theorem dX3_write_1 : decode cX3_write 1 = .ok (.invokestatic 186, 3) := by decide +kernel
theorem dX3_write_4 : decode cX3_write 4 = .ok (.ifCond .ne 10, 3) := by decide +kernel
theorem dX3_write_7 : decode cX3_write 7 = .ok (.aload_n 0, 1) := by decide +kernel
theorem dX3_write_8 : decode cX3_write 8 = .ok (.iconst 0, 1) := by decide +kernel
theorem dX3_write_9 : decode cX3_write 9 = .ok (.invokevirtual 55, 3) := by decide +kernel
theorem dX3_write_12 : decode cX3_write 12 = .ok (.i2l, 1) := by decide +kernel
theorem dX3_write_13 : decode cX3_write 13 = .ok (.lreturn, 1) := by decide +kernel
theorem dX3_write_14 : decode cX3_write 14 = .ok (.aload_n 0, 1) := by decide +kernel
theorem dX3_write_15 : decode cX3_write 15 = .ok (.getfield 35, 3) := by decide +kernel
theorem dX3_write_18 : decode cX3_write 18 = .ok (.iload_n 1, 1) := by decide +kernel
theorem dX3_write_19 : decode cX3_write 19 = .ok (.aaload, 1) := by decide +kernel
theorem dX3_write_20 : decode cX3_write 20 = .ok (.astore 5, 2) := by decide +kernel
theorem dX3_write_22 : decode cX3_write 22 = .ok (.aload 5, 2) := by decide +kernel
theorem dX3_write_24 : decode cX3_write 24 = .ok (.invokevirtual 192, 3) := by decide +kernel
theorem dX3_write_27 : decode cX3_write 27 = .ok (.ifCond .eq 10, 3) := by decide +kernel
theorem dX3_write_30 : decode cX3_write 30 = .ok (.aload_n 0, 1) := by decide +kernel
theorem dX3_write_31 : decode cX3_write 31 = .ok (.iconst 5, 1) := by decide +kernel
theorem dX3_write_32 : decode cX3_write 32 = .ok (.invokevirtual 55, 3) := by decide +kernel
theorem dX3_write_35 : decode cX3_write 35 = .ok (.i2l, 1) := by decide +kernel
theorem dX3_write_36 : decode cX3_write 36 = .ok (.lreturn, 1) := by decide +kernel
theorem dX3_write_37 : decode cX3_write 37 = .ok (.iload_n 2, 1) := by decide +kernel
theorem dX3_write_38 : decode cX3_write 38 = .ok (.iconst 0, 1) := by decide +kernel
theorem dX3_write_39 : decode cX3_write 39 = .ok (.aload 5, 2) := by decide +kernel
theorem dX3_write_41 : decode cX3_write 41 = .ok (.getfield 195, 3) := by decide +kernel
theorem dX3_write_44 : decode cX3_write 44 = .ok (.iconst 1, 1) := by decide +kernel
theorem dX3_write_45 : decode cX3_write 45 = .ok (.isub, 1) := by decide +kernel
theorem dX3_write_46 : decode cX3_write 46 = .ok (.invokestatic 51, 3) := by decide +kernel
theorem dX3_write_49 : decode cX3_write 49 = .ok (.ifCond .ne 10, 3) := by decide +kernel
theorem dX3_write_52 : decode cX3_write 52 = .ok (.aload_n 0, 1) := by decide +kernel
theorem dX3_write_53 : decode cX3_write 53 = .ok (.iconst 0, 1) := by decide +kernel
theorem dX3_write_54 : decode cX3_write 54 = .ok (.invokevirtual 55, 3) := by decide +kernel
theorem dX3_write_57 : decode cX3_write 57 = .ok (.i2l, 1) := by decide +kernel
theorem dX3_write_58 : decode cX3_write 58 = .ok (.lreturn, 1) := by decide +kernel
theorem dX3_write_59 : decode cX3_write 59 = .ok (.aload 5, 2) := by decide +kernel
theorem dX3_write_61 : decode cX3_write 61 = .ok (.getfield 198, 3) := by decide +kernel
theorem dX3_write_64 : decode cX3_write 64 = .ok (.iload_n 2, 1) := by decide +kernel
theorem dX3_write_65 : decode cX3_write 65 = .ok (.laload, 1) := by decide +kernel
theorem dX3_write_66 : decode cX3_write 66 = .ok (.lstore 6, 2) := by decide +kernel
theorem dX3_write_68 : decode cX3_write 68 = .ok (.aload 5, 2) := by decide +kernel
theorem dX3_write_70 : decode cX3_write 70 = .ok (.getfield 198, 3) := by decide +kernel
theorem dX3_write_73 : decode cX3_write 73 = .ok (.iload_n 2, 1) := by decide +kernel
theorem dX3_write_74 : decode cX3_write 74 = .ok (.aload 5, 2) := by decide +kernel
theorem dX3_write_76 : decode cX3_write 76 = .ok (.lload_n 3, 1) := by decide +kernel
theorem dX3_write_77 : decode cX3_write 77 = .ok (.invokevirtual 202, 3) := by decide +kernel
theorem dX3_write_80 : decode cX3_write 80 = .ok (.lastore, 1) := by decide +kernel
theorem dX3_write_81 : decode cX3_write 81 = .ok (.lload 6, 2) := by decide +kernel
theorem dX3_write_83 : decode cX3_write 83 = .ok (.lreturn, 1) := by decide +kernel
theorem dX3_copy_0 : decode cX3_copy 0 = .ok (.iload_n 1, 1) := by decide +kernel
theorem dX3_copy_1 : decode cX3_copy 1 = .ok (.invokestatic 186, 3) := by decide +kernel
theorem dX3_copy_4 : decode cX3_copy 4 = .ok (.ifCond .eq 10, 3) := by decide +kernel
theorem dX3_copy_7 : decode cX3_copy 7 = .ok (.iload_n 3, 1) := by decide +kernel
theorem dX3_copy_8 : decode cX3_copy 8 = .ok (.invokestatic 186, 3) := by decide +kernel
theorem dX3_copy_11 : decode cX3_copy 11 = .ok (.ifCond .ne 9, 3) := by decide +kernel
theorem dX3_copy_14 : decode cX3_copy 14 = .ok (.aload_n 0, 1) := by decide +kernel
theorem dX3_copy_15 : decode cX3_copy 15 = .ok (.iconst 0, 1) := by decide +kernel
theorem dX3_copy_16 : decode cX3_copy 16 = .ok (.invokevirtual 55, 3) := by decide +kernel
theorem dX3_copy_19 : decode cX3_copy 19 = .ok (.ireturn, 1) := by decide +kernel
theorem dX3_copy_20 : decode cX3_copy 20 = .ok (.aload_n 0, 1) := by decide +kernel
theorem dX3_copy_21 : decode cX3_copy 21 = .ok (.getfield 35, 3) := by decide +kernel
theorem dX3_copy_24 : decode cX3_copy 24 = .ok (.iload_n 1, 1) := by decide +kernel
theorem dX3_copy_25 : decode cX3_copy 25 = .ok (.aaload, 1) := by decide +kernel
theorem dX3_copy_26 : decode cX3_copy 26 = .ok (.astore 6, 2) := by decide +kernel
theorem dX3_copy_28 : decode cX3_copy 28 = .ok (.aload_n 0, 1) := by decide +kernel
theorem dX3_copy_29 : decode cX3_copy 29 = .ok (.getfield 35, 3) := by decide +kernel
theorem dX3_copy_32 : decode cX3_copy 32 = .ok (.iload_n 3, 1) := by decide +kernel
theorem dX3_copy_33 : decode cX3_copy 33 = .ok (.aaload, 1) := by decide +kernel
theorem dX3_copy_34 : decode cX3_copy 34 = .ok (.astore 7, 2) := by decide +kernel
theorem dX3_copy_36 : decode cX3_copy 36 = .ok (.aload 6, 2) := by decide +kernel
theorem dX3_copy_38 : decode cX3_copy 38 = .ok (.invokevirtual 192, 3) := by decide +kernel
theorem dX3_copy_41 : decode cX3_copy 41 = .ok (.ifCond .ne 11, 3) := by decide +kernel
theorem dX3_copy_44 : decode cX3_copy 44 = .ok (.aload 7, 2) := by decide +kernel
theorem dX3_copy_46 : decode cX3_copy 46 = .ok (.invokevirtual 192, 3) := by decide +kernel
theorem dX3_copy_49 : decode cX3_copy 49 = .ok (.ifCond .eq 9, 3) := by decide +kernel
theorem dX3_copy_52 : decode cX3_copy 52 = .ok (.aload_n 0, 1) := by decide +kernel
theorem dX3_copy_53 : decode cX3_copy 53 = .ok (.iconst 5, 1) := by decide +kernel
theorem dX3_copy_54 : decode cX3_copy 54 = .ok (.invokevirtual 55, 3) := by decide +kernel
theorem dX3_copy_57 : decode cX3_copy 57 = .ok (.ireturn, 1) := by decide +kernel
theorem dX3_copy_58 : decode cX3_copy 58 = .ok (.aload 6, 2) := by decide +kernel
theorem dX3_copy_60 : decode cX3_copy 60 = .ok (.getfield 206, 3) := by decide +kernel
theorem dX3_copy_63 : decode cX3_copy 63 = .ok (.aload 7, 2) := by decide +kernel
theorem dX3_copy_65 : decode cX3_copy 65 = .ok (.getfield 206, 3) := by decide +kernel
theorem dX3_copy_68 : decode cX3_copy 68 = .ok (.if_icmp .eq 9, 3) := by decide +kernel
theorem dX3_copy_71 : decode cX3_copy 71 = .ok (.aload_n 0, 1) := by decide +kernel
theorem dX3_copy_72 : decode cX3_copy 72 = .ok (.iconst 2, 1) := by decide +kernel
theorem dX3_copy_73 : decode cX3_copy 73 = .ok (.invokevirtual 55, 3) := by decide +kernel
theorem dX3_copy_76 : decode cX3_copy 76 = .ok (.ireturn, 1) := by decide +kernel
theorem dX3_copy_77 : decode cX3_copy 77 = .ok (.aload 6, 2) := by decide +kernel
theorem dX3_copy_79 : decode cX3_copy 79 = .ok (.iload_n 2, 1) := by decide +kernel
theorem dX3_copy_80 : decode cX3_copy 80 = .ok (.iload 5, 2) := by decide +kernel
theorem dX3_copy_82 : decode cX3_copy 82 = .ok (.invokevirtual 209, 3) := by decide +kernel
theorem dX3_copy_85 : decode cX3_copy 85 = .ok (.ifCond .eq 15, 3) := by decide +kernel
theorem dX3_copy_88 : decode cX3_copy 88 = .ok (.aload 7, 2) := by decide +kernel
theorem dX3_copy_90 : decode cX3_copy 90 = .ok (.iload 4, 2) := by decide +kernel
theorem dX3_copy_92 : decode cX3_copy 92 = .ok (.iload 5, 2) := by decide +kernel
theorem dX3_copy_94 : decode cX3_copy 94 = .ok (.invokevirtual 209, 3) := by decide +kernel
theorem dX3_copy_97 : decode cX3_copy 97 = .ok (.ifCond .ne 9, 3) := by decide +kernel
theorem dX3_copy_100 : decode cX3_copy 100 = .ok (.aload_n 0, 1) := by decide +kernel
theorem dX3_copy_101 : decode cX3_copy 101 = .ok (.iconst 0, 1) := by decide +kernel
theorem dX3_copy_102 : decode cX3_copy 102 = .ok (.invokevirtual 55, 3) := by decide +kernel
theorem dX3_copy_105 : decode cX3_copy 105 = .ok (.ireturn, 1) := by decide +kernel
theorem dX3_copy_106 : decode cX3_copy 106 = .ok (.aload 6, 2) := by decide +kernel
theorem dX3_copy_108 : decode cX3_copy 108 = .ok (.getfield 198, 3) := by decide +kernel
theorem dX3_copy_111 : decode cX3_copy 111 = .ok (.iload_n 2, 1) := by decide +kernel
theorem dX3_copy_112 : decode cX3_copy 112 = .ok (.aload 7, 2) := by decide +kernel
theorem dX3_copy_114 : decode cX3_copy 114 = .ok (.getfield 198, 3) := by decide +kernel
theorem dX3_copy_117 : decode cX3_copy 117 = .ok (.iload 4, 2) := by decide +kernel
theorem dX3_copy_119 : decode cX3_copy 119 = .ok (.iload 5, 2) := by decide +kernel
theorem dX3_copy_121 : decode cX3_copy 121 = .ok (.invokestatic 212, 3) := by decide +kernel
theorem dX3_copy_124 : decode cX3_copy 124 = .ok (.iload 5, 2) := by decide +kernel
theorem dX3_copy_126 : decode cX3_copy 126 = .ok (.ireturn, 1) := by decide +kernel
theorem dX3_lays_0 : decode cX3_lays 0 = .ok (.iload_n 1, 1) := by decide +kernel
theorem dX3_lays_1 : decode cX3_lays 1 = .ok (.invokestatic 186, 3) := by decide +kernel
theorem dX3_lays_4 : decode cX3_lays 4 = .ok (.ifCond .ne 9, 3) := by decide +kernel
theorem dX3_lays_7 : decode cX3_lays 7 = .ok (.aload_n 0, 1) := by decide +kernel
theorem dX3_lays_8 : decode cX3_lays 8 = .ok (.iconst 0, 1) := by decide +kernel
theorem dX3_lays_9 : decode cX3_lays 9 = .ok (.invokevirtual 55, 3) := by decide +kernel
theorem dX3_lays_12 : decode cX3_lays 12 = .ok (.ireturn, 1) := by decide +kernel
theorem dX3_lays_13 : decode cX3_lays 13 = .ok (.aload_n 0, 1) := by decide +kernel
theorem dX3_lays_14 : decode cX3_lays 14 = .ok (.getfield 35, 3) := by decide +kernel
theorem dX3_lays_17 : decode cX3_lays 17 = .ok (.iload_n 1, 1) := by decide +kernel
theorem dX3_lays_18 : decode cX3_lays 18 = .ok (.aaload, 1) := by decide +kernel
theorem dX3_lays_19 : decode cX3_lays 19 = .ok (.astore_n 2, 1) := by decide +kernel
theorem dX3_lays_20 : decode cX3_lays 20 = .ok (.aload_n 2, 1) := by decide +kernel
theorem dX3_lays_21 : decode cX3_lays 21 = .ok (.invokevirtual 192, 3) := by decide +kernel
theorem dX3_lays_24 : decode cX3_lays 24 = .ok (.ifCond .eq 9, 3) := by decide +kernel
theorem dX3_lays_27 : decode cX3_lays 27 = .ok (.aload_n 0, 1) := by decide +kernel
theorem dX3_lays_28 : decode cX3_lays 28 = .ok (.iconst 5, 1) := by decide +kernel
theorem dX3_lays_29 : decode cX3_lays 29 = .ok (.invokevirtual 55, 3) := by decide +kernel
theorem dX3_lays_32 : decode cX3_lays 32 = .ok (.ireturn, 1) := by decide +kernel
theorem dX3_lays_33 : decode cX3_lays 33 = .ok (.iconst 0, 1) := by decide +kernel
theorem dX3_lays_34 : decode cX3_lays 34 = .ok (.istore_n 3, 1) := by decide +kernel
theorem dX3_lays_35 : decode cX3_lays 35 = .ok (.iconst 0, 1) := by decide +kernel
theorem dX3_lays_36 : decode cX3_lays 36 = .ok (.istore 4, 2) := by decide +kernel
theorem dX3_lays_38 : decode cX3_lays 38 = .ok (.iload 4, 2) := by decide +kernel
theorem dX3_lays_40 : decode cX3_lays 40 = .ok (.bipush 8, 2) := by decide +kernel
theorem dX3_lays_42 : decode cX3_lays 42 = .ok (.if_icmp .ge 59, 3) := by decide +kernel
theorem dX3_lays_45 : decode cX3_lays 45 = .ok (.iload 4, 2) := by decide +kernel
theorem dX3_lays_47 : decode cX3_lays 47 = .ok (.aload_n 2, 1) := by decide +kernel
theorem dX3_lays_48 : decode cX3_lays 48 = .ok (.getfield 195, 3) := by decide +kernel
theorem dX3_lays_51 : decode cX3_lays 51 = .ok (.if_icmp .ge 50, 3) := by decide +kernel
theorem dX3_lays_54 : decode cX3_lays 54 = .ok (.aload_n 2, 1) := by decide +kernel
theorem dX3_lays_55 : decode cX3_lays 55 = .ok (.getfield 198, 3) := by decide +kernel
theorem dX3_lays_58 : decode cX3_lays 58 = .ok (.iload 4, 2) := by decide +kernel
theorem dX3_lays_60 : decode cX3_lays 60 = .ok (.laload, 1) := by decide +kernel
theorem dX3_lays_61 : decode cX3_lays 61 = .ok (.lstore 5, 2) := by decide +kernel
theorem dX3_lays_63 : decode cX3_lays 63 = .ok (.lload 5, 2) := by decide +kernel
theorem dX3_lays_65 : decode cX3_lays 65 = .ok (.lconst 0, 1) := by decide +kernel
theorem dX3_lays_66 : decode cX3_lays 66 = .ok (.lcmp, 1) := by decide +kernel
theorem dX3_lays_67 : decode cX3_lays 67 = .ok (.ifCond .lt 28, 3) := by decide +kernel
theorem dX3_lays_70 : decode cX3_lays 70 = .ok (.lload 5, 2) := by decide +kernel
theorem dX3_lays_72 : decode cX3_lays 72 = .ok (.ldc2_w 218, 3) := by decide +kernel
theorem dX3_lays_75 : decode cX3_lays 75 = .ok (.lcmp, 1) := by decide +kernel
theorem dX3_lays_76 : decode cX3_lays 76 = .ok (.ifCond .gt 19, 3) := by decide +kernel
theorem dX3_lays_79 : decode cX3_lays 79 = .ok (.aload_n 0, 1) := by decide +kernel
theorem dX3_lays_80 : decode cX3_lays 80 = .ok (.getfield 10, 3) := by decide +kernel
theorem dX3_lays_83 : decode cX3_lays 83 = .ok (.getfield 59, 3) := by decide +kernel
theorem dX3_lays_86 : decode cX3_lays 86 = .ok (.iload 4, 2) := by decide +kernel
theorem dX3_lays_88 : decode cX3_lays 88 = .ok (.lload 5, 2) := by decide +kernel
theorem dX3_lays_90 : decode cX3_lays 90 = .ok (.l2i, 1) := by decide +kernel
theorem dX3_lays_91 : decode cX3_lays 91 = .ok (.iastore, 1) := by decide +kernel
theorem dX3_lays_92 : decode cX3_lays 92 = .ok (.iinc 3 1, 3) := by decide +kernel
theorem dX3_lays_95 : decode cX3_lays 95 = .ok (.iinc 4 1, 3) := by decide +kernel
theorem dX3_lays_98 : decode cX3_lays 98 = .ok (.goto (-60), 3) := by decide +kernel
theorem dX3_lays_101 : decode cX3_lays 101 = .ok (.iload_n 3, 1) := by decide +kernel
theorem dX3_lays_102 : decode cX3_lays 102 = .ok (.ireturn, 1) := by decide +kernel
theorem dX3_book_0 : decode cX3_book 0 = .ok (.iload_n 1, 1) := by decide +kernel
theorem dX3_book_1 : decode cX3_book 1 = .ok (.invokestatic 186, 3) := by decide +kernel
theorem dX3_book_4 : decode cX3_book 4 = .ok (.ifCond .ne 9, 3) := by decide +kernel
theorem dX3_book_7 : decode cX3_book 7 = .ok (.aload_n 0, 1) := by decide +kernel
theorem dX3_book_8 : decode cX3_book 8 = .ok (.iconst 0, 1) := by decide +kernel
theorem dX3_book_9 : decode cX3_book 9 = .ok (.invokevirtual 55, 3) := by decide +kernel
theorem dX3_book_12 : decode cX3_book 12 = .ok (.ireturn, 1) := by decide +kernel
theorem dX3_book_13 : decode cX3_book 13 = .ok (.aload_n 0, 1) := by decide +kernel
theorem dX3_book_14 : decode cX3_book 14 = .ok (.getfield 35, 3) := by decide +kernel
theorem dX3_book_17 : decode cX3_book 17 = .ok (.iload_n 1, 1) := by decide +kernel
theorem dX3_book_18 : decode cX3_book 18 = .ok (.aaload, 1) := by decide +kernel
theorem dX3_book_19 : decode cX3_book 19 = .ok (.astore_n 3, 1) := by decide +kernel
theorem dX3_book_20 : decode cX3_book 20 = .ok (.aload_n 3, 1) := by decide +kernel
theorem dX3_book_21 : decode cX3_book 21 = .ok (.invokevirtual 192, 3) := by decide +kernel
theorem dX3_book_24 : decode cX3_book 24 = .ok (.ifCond .eq 9, 3) := by decide +kernel
theorem dX3_book_27 : decode cX3_book 27 = .ok (.aload_n 0, 1) := by decide +kernel
theorem dX3_book_28 : decode cX3_book 28 = .ok (.iconst 5, 1) := by decide +kernel
theorem dX3_book_29 : decode cX3_book 29 = .ok (.invokevirtual 55, 3) := by decide +kernel
theorem dX3_book_32 : decode cX3_book 32 = .ok (.ireturn, 1) := by decide +kernel
theorem dX3_book_33 : decode cX3_book 33 = .ok (.aload_n 0, 1) := by decide +kernel
theorem dX3_book_34 : decode cX3_book 34 = .ok (.iload_n 2, 1) := by decide +kernel
theorem dX3_book_35 : decode cX3_book 35 = .ok (.invokevirtual 78, 3) := by decide +kernel
theorem dX3_book_38 : decode cX3_book 38 = .ok (.ifCond .ne 9, 3) := by decide +kernel
theorem dX3_book_41 : decode cX3_book 41 = .ok (.aload_n 0, 1) := by decide +kernel
theorem dX3_book_42 : decode cX3_book 42 = .ok (.iconst 0, 1) := by decide +kernel
theorem dX3_book_43 : decode cX3_book 43 = .ok (.invokevirtual 55, 3) := by decide +kernel
theorem dX3_book_46 : decode cX3_book 46 = .ok (.ireturn, 1) := by decide +kernel
theorem dX3_book_47 : decode cX3_book 47 = .ok (.aload_n 0, 1) := by decide +kernel
theorem dX3_book_48 : decode cX3_book 48 = .ok (.getfield 16, 3) := by decide +kernel
theorem dX3_book_51 : decode cX3_book 51 = .ok (.aload_n 0, 1) := by decide +kernel
theorem dX3_book_52 : decode cX3_book 52 = .ok (.getfield 10, 3) := by decide +kernel
theorem dX3_book_55 : decode cX3_book 55 = .ok (.invokevirtual 152, 3) := by decide +kernel
theorem dX3_book_58 : decode cX3_book 58 = .ok (.iconst 0, 1) := by decide +kernel
theorem dX3_book_59 : decode cX3_book 59 = .ok (.istore 4, 2) := by decide +kernel
theorem dX3_book_61 : decode cX3_book 61 = .ok (.iload 4, 2) := by decide +kernel
theorem dX3_book_63 : decode cX3_book 63 = .ok (.aload_n 3, 1) := by decide +kernel
theorem dX3_book_64 : decode cX3_book 64 = .ok (.getfield 195, 3) := by decide +kernel
theorem dX3_book_67 : decode cX3_book 67 = .ok (.if_icmp .ge 34, 3) := by decide +kernel
theorem dX3_book_70 : decode cX3_book 70 = .ok (.aload_n 3, 1) := by decide +kernel
theorem dX3_book_71 : decode cX3_book 71 = .ok (.getfield 198, 3) := by decide +kernel
theorem dX3_book_74 : decode cX3_book 74 = .ok (.iload 4, 2) := by decide +kernel
theorem dX3_book_76 : decode cX3_book 76 = .ok (.aload_n 0, 1) := by decide +kernel
theorem dX3_book_77 : decode cX3_book 77 = .ok (.getfield 16, 3) := by decide +kernel
theorem dX3_book_80 : decode cX3_book 80 = .ok (.getfield 96, 3) := by decide +kernel
theorem dX3_book_83 : decode cX3_book 83 = .ok (.iload_n 2, 1) := by decide +kernel
theorem dX3_book_84 : decode cX3_book 84 = .ok (.iaload, 1) := by decide +kernel
theorem dX3_book_85 : decode cX3_book 85 = .ok (.i2l, 1) := by decide +kernel
theorem dX3_book_86 : decode cX3_book 86 = .ok (.lastore, 1) := by decide +kernel
theorem dX3_book_87 : decode cX3_book 87 = .ok (.aload_n 0, 1) := by decide +kernel
theorem dX3_book_88 : decode cX3_book 88 = .ok (.getfield 16, 3) := by decide +kernel
theorem dX3_book_91 : decode cX3_book 91 = .ok (.invokevirtual 156, 3) := by decide +kernel
theorem dX3_book_94 : decode cX3_book 94 = .ok (.pop, 1) := by decide +kernel
theorem dX3_book_95 : decode cX3_book 95 = .ok (.iinc 4 1, 3) := by decide +kernel
theorem dX3_book_98 : decode cX3_book 98 = .ok (.goto (-37), 3) := by decide +kernel
theorem dX3_book_101 : decode cX3_book 101 = .ok (.aload_n 3, 1) := by decide +kernel
theorem dX3_book_102 : decode cX3_book 102 = .ok (.getfield 195, 3) := by decide +kernel
theorem dX3_book_105 : decode cX3_book 105 = .ok (.ireturn, 1) := by decide +kernel
theorem dX3_read_0 : decode cX3_read 0 = .ok (.iload_n 1, 1) := by decide +kernel
theorem dX3_read_1 : decode cX3_read 1 = .ok (.invokestatic 186, 3) := by decide +kernel
theorem dX3_read_4 : decode cX3_read 4 = .ok (.ifCond .ne 9, 3) := by decide +kernel
theorem dX3_read_7 : decode cX3_read 7 = .ok (.aload_n 0, 1) := by decide +kernel
theorem dX3_read_8 : decode cX3_read 8 = .ok (.iconst 0, 1) := by decide +kernel
theorem dX3_read_9 : decode cX3_read 9 = .ok (.invokevirtual 55, 3) := by decide +kernel
theorem dX3_read_12 : decode cX3_read 12 = .ok (.ireturn, 1) := by decide +kernel
theorem dX3_read_13 : decode cX3_read 13 = .ok (.aload_n 0, 1) := by decide +kernel
theorem dX3_read_14 : decode cX3_read 14 = .ok (.getfield 35, 3) := by decide +kernel
theorem dX3_read_17 : decode cX3_read 17 = .ok (.iload_n 1, 1) := by decide +kernel
theorem dX3_read_18 : decode cX3_read 18 = .ok (.aaload, 1) := by decide +kernel
theorem dX3_read_19 : decode cX3_read 19 = .ok (.astore_n 3, 1) := by decide +kernel
theorem dX3_read_20 : decode cX3_read 20 = .ok (.aload_n 3, 1) := by decide +kernel
theorem dX3_read_21 : decode cX3_read 21 = .ok (.invokevirtual 192, 3) := by decide +kernel
theorem dX3_read_24 : decode cX3_read 24 = .ok (.ifCond .eq 9, 3) := by decide +kernel
theorem dX3_read_27 : decode cX3_read 27 = .ok (.aload_n 0, 1) := by decide +kernel
theorem dX3_read_28 : decode cX3_read 28 = .ok (.iconst 5, 1) := by decide +kernel
theorem dX3_read_29 : decode cX3_read 29 = .ok (.invokevirtual 55, 3) := by decide +kernel
theorem dX3_read_32 : decode cX3_read 32 = .ok (.ireturn, 1) := by decide +kernel
theorem dX3_read_33 : decode cX3_read 33 = .ok (.aload_n 0, 1) := by decide +kernel
theorem dX3_read_34 : decode cX3_read 34 = .ok (.iload_n 2, 1) := by decide +kernel
theorem dX3_read_35 : decode cX3_read 35 = .ok (.invokevirtual 78, 3) := by decide +kernel
theorem dX3_read_38 : decode cX3_read 38 = .ok (.ifCond .ne 9, 3) := by decide +kernel
theorem dX3_read_41 : decode cX3_read 41 = .ok (.aload_n 0, 1) := by decide +kernel
theorem dX3_read_42 : decode cX3_read 42 = .ok (.iconst 0, 1) := by decide +kernel
theorem dX3_read_43 : decode cX3_read 43 = .ok (.invokevirtual 55, 3) := by decide +kernel
theorem dX3_read_46 : decode cX3_read 46 = .ok (.ireturn, 1) := by decide +kernel
theorem dX3_read_47 : decode cX3_read 47 = .ok (.iconst 0, 1) := by decide +kernel
theorem dX3_read_48 : decode cX3_read 48 = .ok (.istore 4, 2) := by decide +kernel
theorem dX3_read_50 : decode cX3_read 50 = .ok (.iconst 0, 1) := by decide +kernel
theorem dX3_read_51 : decode cX3_read 51 = .ok (.istore 5, 2) := by decide +kernel
theorem dX3_read_53 : decode cX3_read 53 = .ok (.iload 5, 2) := by decide +kernel
theorem dX3_read_55 : decode cX3_read 55 = .ok (.bipush 6, 2) := by decide +kernel
theorem dX3_read_57 : decode cX3_read 57 = .ok (.if_icmp .ge 70, 3) := by decide +kernel
theorem dX3_read_60 : decode cX3_read 60 = .ok (.iconst (-1), 1) := by decide +kernel
theorem dX3_read_61 : decode cX3_read 61 = .ok (.istore 6, 2) := by decide +kernel
theorem dX3_read_63 : decode cX3_read 63 = .ok (.iload 6, 2) := by decide +kernel
theorem dX3_read_65 : decode cX3_read 65 = .ok (.bipush 8, 2) := by decide +kernel
theorem dX3_read_67 : decode cX3_read 67 = .ok (.if_icmp .ge 54, 3) := by decide +kernel
theorem dX3_read_70 : decode cX3_read 70 = .ok (.aload_n 0, 1) := by decide +kernel
theorem dX3_read_71 : decode cX3_read 71 = .ok (.getfield 16, 3) := by decide +kernel
theorem dX3_read_74 : decode cX3_read 74 = .ok (.aload_n 0, 1) := by decide +kernel
theorem dX3_read_75 : decode cX3_read 75 = .ok (.getfield 10, 3) := by decide +kernel
theorem dX3_read_78 : decode cX3_read 78 = .ok (.invokevirtual 152, 3) := by decide +kernel
theorem dX3_read_81 : decode cX3_read 81 = .ok (.aload_n 0, 1) := by decide +kernel
theorem dX3_read_82 : decode cX3_read 82 = .ok (.getfield 16, 3) := by decide +kernel
theorem dX3_read_85 : decode cX3_read 85 = .ok (.getfield 81, 3) := by decide +kernel
theorem dX3_read_88 : decode cX3_read 88 = .ok (.iload_n 2, 1) := by decide +kernel
theorem dX3_read_89 : decode cX3_read 89 = .ok (.iload 5, 2) := by decide +kernel
theorem dX3_read_91 : decode cX3_read 91 = .ok (.iastore, 1) := by decide +kernel
theorem dX3_read_92 : decode cX3_read 92 = .ok (.aload_n 0, 1) := by decide +kernel
theorem dX3_read_93 : decode cX3_read 93 = .ok (.getfield 16, 3) := by decide +kernel
theorem dX3_read_96 : decode cX3_read 96 = .ok (.getfield 87, 3) := by decide +kernel
theorem dX3_read_99 : decode cX3_read 99 = .ok (.iload_n 2, 1) := by decide +kernel
theorem dX3_read_100 : decode cX3_read 100 = .ok (.iload 6, 2) := by decide +kernel
theorem dX3_read_102 : decode cX3_read 102 = .ok (.iastore, 1) := by decide +kernel
theorem dX3_read_103 : decode cX3_read 103 = .ok (.aload_n 0, 1) := by decide +kernel
theorem dX3_read_104 : decode cX3_read 104 = .ok (.aload_n 3, 1) := by decide +kernel
theorem dX3_read_105 : decode cX3_read 105 = .ok (.iload_n 2, 1) := by decide +kernel
theorem dX3_read_106 : decode cX3_read 106 = .ok (.invokevirtual 220, 3) := by decide +kernel
theorem dX3_read_109 : decode cX3_read 109 = .ok (.ifCond .eq 6, 3) := by decide +kernel
theorem dX3_read_112 : decode cX3_read 112 = .ok (.iinc 4 1, 3) := by decide +kernel
theorem dX3_read_115 : decode cX3_read 115 = .ok (.iinc 6 1, 3) := by decide +kernel
theorem dX3_read_118 : decode cX3_read 118 = .ok (.goto (-55), 3) := by decide +kernel
theorem dX3_read_121 : decode cX3_read 121 = .ok (.iinc 5 1, 3) := by decide +kernel
theorem dX3_read_124 : decode cX3_read 124 = .ok (.goto (-71), 3) := by decide +kernel
theorem dX3_read_127 : decode cX3_read 127 = .ok (.iload 4, 2) := by decide +kernel
theorem dX3_read_129 : decode cX3_read 129 = .ok (.ireturn, 1) := by decide +kernel
theorem dX3_image_0 : decode cX3_image 0 = .ok (.aload_n 0, 1) := by decide +kernel
theorem dX3_image_1 : decode cX3_image 1 = .ok (.getfield 19, 3) := by decide +kernel
theorem dX3_image_4 : decode cX3_image 4 = .ok (.aload_n 0, 1) := by decide +kernel
theorem dX3_image_5 : decode cX3_image 5 = .ok (.getfield 10, 3) := by decide +kernel
theorem dX3_image_8 : decode cX3_image 8 = .ok (.invokevirtual 152, 3) := by decide +kernel
theorem dX3_image_11 : decode cX3_image 11 = .ok (.aload_n 0, 1) := by decide +kernel
theorem dX3_image_12 : decode cX3_image 12 = .ok (.iconst 1, 1) := by decide +kernel
theorem dX3_image_13 : decode cX3_image 13 = .ok (.putfield 22, 3) := by decide +kernel
theorem dX3_image_16 : decode cX3_image 16 = .ok (.iconst 1, 1) := by decide +kernel
theorem dX3_image_17 : decode cX3_image 17 = .ok (.ireturn, 1) := by decide +kernel
theorem dX3_undo_0 : decode cX3_undo 0 = .ok (.aload_n 0, 1) := by decide +kernel
theorem dX3_undo_1 : decode cX3_undo 1 = .ok (.getfield 22, 3) := by decide +kernel
theorem dX3_undo_4 : decode cX3_undo 4 = .ok (.ifCond .ne 9, 3) := by decide +kernel
theorem dX3_undo_7 : decode cX3_undo 7 = .ok (.aload_n 0, 1) := by decide +kernel
theorem dX3_undo_8 : decode cX3_undo 8 = .ok (.iconst 3, 1) := by decide +kernel
theorem dX3_undo_9 : decode cX3_undo 9 = .ok (.invokevirtual 55, 3) := by decide +kernel
theorem dX3_undo_12 : decode cX3_undo 12 = .ok (.ireturn, 1) := by decide +kernel
theorem dX3_undo_13 : decode cX3_undo 13 = .ok (.aload_n 0, 1) := by decide +kernel
theorem dX3_undo_14 : decode cX3_undo 14 = .ok (.getfield 10, 3) := by decide +kernel
theorem dX3_undo_17 : decode cX3_undo 17 = .ok (.aload_n 0, 1) := by decide +kernel
theorem dX3_undo_18 : decode cX3_undo 18 = .ok (.getfield 19, 3) := by decide +kernel
theorem dX3_undo_21 : decode cX3_undo 21 = .ok (.invokevirtual 152, 3) := by decide +kernel
theorem dX3_undo_24 : decode cX3_undo 24 = .ok (.aload_n 0, 1) := by decide +kernel
theorem dX3_undo_25 : decode cX3_undo 25 = .ok (.getfield 10, 3) := by decide +kernel
theorem dX3_undo_28 : decode cX3_undo 28 = .ok (.getfield 71, 3) := by decide +kernel
theorem dX3_undo_31 : decode cX3_undo 31 = .ok (.ireturn, 1) := by decide +kernel
theorem dX3_tear_0 : decode cX3_tear 0 = .ok (.aload_n 0, 1) := by decide +kernel
theorem dX3_tear_1 : decode cX3_tear 1 = .ok (.getfield 22, 3) := by decide +kernel
theorem dX3_tear_4 : decode cX3_tear 4 = .ok (.ifCond .eq 7, 3) := by decide +kernel
theorem dX3_tear_7 : decode cX3_tear 7 = .ok (.iconst 1, 1) := by decide +kernel
theorem dX3_tear_8 : decode cX3_tear 8 = .ok (.goto 4, 3) := by decide +kernel
theorem dX3_tear_11 : decode cX3_tear 11 = .ok (.iconst 0, 1) := by decide +kernel
theorem dX3_tear_12 : decode cX3_tear 12 = .ok (.istore_n 1, 1) := by decide +kernel
theorem dX3_tear_13 : decode cX3_tear 13 = .ok (.aload_n 0, 1) := by decide +kernel
theorem dX3_tear_14 : decode cX3_tear 14 = .ok (.iconst 0, 1) := by decide +kernel
theorem dX3_tear_15 : decode cX3_tear 15 = .ok (.putfield 22, 3) := by decide +kernel
theorem dX3_tear_18 : decode cX3_tear 18 = .ok (.iload_n 1, 1) := by decide +kernel
theorem dX3_tear_19 : decode cX3_tear 19 = .ok (.ireturn, 1) := by decide +kernel
theorem dX3_count_0 : decode cX3_count 0 = .ok (.iload_n 1, 1) := by decide +kernel
theorem dX3_count_1 : decode cX3_count 1 = .ok (.tableswitch 66 0 3 #[31, 39, 47, 58], 31) := by decide +kernel
theorem dX3_count_32 : decode cX3_count 32 = .ok (.aload_n 0, 1) := by decide +kernel
theorem dX3_count_33 : decode cX3_count 33 = .ok (.getfield 10, 3) := by decide +kernel
theorem dX3_count_36 : decode cX3_count 36 = .ok (.getfield 71, 3) := by decide +kernel
theorem dX3_count_39 : decode cX3_count 39 = .ok (.ireturn, 1) := by decide +kernel
theorem dX3_count_40 : decode cX3_count 40 = .ok (.aload_n 0, 1) := by decide +kernel
theorem dX3_count_41 : decode cX3_count 41 = .ok (.getfield 29, 3) := by decide +kernel
theorem dX3_count_44 : decode cX3_count 44 = .ok (.getfield 169, 3) := by decide +kernel
theorem dX3_count_47 : decode cX3_count 47 = .ok (.ireturn, 1) := by decide +kernel
theorem dX3_count_48 : decode cX3_count 48 = .ok (.aload_n 0, 1) := by decide +kernel
theorem dX3_count_49 : decode cX3_count 49 = .ok (.getfield 10, 3) := by decide +kernel
theorem dX3_count_52 : decode cX3_count 52 = .ok (.invokevirtual 142, 3) := by decide +kernel
theorem dX3_count_55 : decode cX3_count 55 = .ok (.invokestatic 224, 3) := by decide +kernel
theorem dX3_count_58 : decode cX3_count 58 = .ok (.ireturn, 1) := by decide +kernel
theorem dX3_count_59 : decode cX3_count 59 = .ok (.aload_n 0, 1) := by decide +kernel
theorem dX3_count_60 : decode cX3_count 60 = .ok (.getfield 10, 3) := by decide +kernel
theorem dX3_count_63 : decode cX3_count 63 = .ok (.invokevirtual 229, 3) := by decide +kernel
theorem dX3_count_66 : decode cX3_count 66 = .ok (.ireturn, 1) := by decide +kernel
theorem dX3_count_67 : decode cX3_count 67 = .ok (.aload_n 0, 1) := by decide +kernel
theorem dX3_count_68 : decode cX3_count 68 = .ok (.iconst 0, 1) := by decide +kernel
theorem dX3_count_69 : decode cX3_count 69 = .ok (.invokevirtual 55, 3) := by decide +kernel
theorem dX3_count_72 : decode cX3_count 72 = .ok (.ireturn, 1) := by decide +kernel
theorem dX3_status_0 : decode cX3_status 0 = .ok (.iload_n 1, 1) := by decide +kernel
theorem dX3_status_1 : decode cX3_status 1 = .ok (.iconst (-1), 1) := by decide +kernel
theorem dX3_status_2 : decode cX3_status 2 = .ok (.bipush 6, 2) := by decide +kernel
theorem dX3_status_4 : decode cX3_status 4 = .ok (.invokestatic 51, 3) := by decide +kernel
theorem dX3_status_7 : decode cX3_status 7 = .ok (.ifCond .ne 9, 3) := by decide +kernel
theorem dX3_status_10 : decode cX3_status 10 = .ok (.aload_n 0, 1) := by decide +kernel
theorem dX3_status_11 : decode cX3_status 11 = .ok (.iconst 0, 1) := by decide +kernel
theorem dX3_status_12 : decode cX3_status 12 = .ok (.invokevirtual 55, 3) := by decide +kernel
theorem dX3_status_15 : decode cX3_status 15 = .ok (.ireturn, 1) := by decide +kernel
theorem dX3_status_16 : decode cX3_status 16 = .ok (.iload_n 1, 1) := by decide +kernel
theorem dX3_status_17 : decode cX3_status 17 = .ok (.ifCond .lt 10, 3) := by decide +kernel
theorem dX3_status_20 : decode cX3_status 20 = .ok (.aload_n 0, 1) := by decide +kernel
theorem dX3_status_21 : decode cX3_status 21 = .ok (.getfield 40, 3) := by decide +kernel
theorem dX3_status_24 : decode cX3_status 24 = .ok (.iload_n 1, 1) := by decide +kernel
theorem dX3_status_25 : decode cX3_status 25 = .ok (.iaload, 1) := by decide +kernel
theorem dX3_status_26 : decode cX3_status 26 = .ok (.ireturn, 1) := by decide +kernel
theorem dX3_status_27 : decode cX3_status 27 = .ok (.iconst 0, 1) := by decide +kernel
theorem dX3_status_28 : decode cX3_status 28 = .ok (.istore_n 2, 1) := by decide +kernel
theorem dX3_status_29 : decode cX3_status 29 = .ok (.iconst 0, 1) := by decide +kernel
theorem dX3_status_30 : decode cX3_status 30 = .ok (.istore_n 3, 1) := by decide +kernel
theorem dX3_status_31 : decode cX3_status 31 = .ok (.iload_n 3, 1) := by decide +kernel
theorem dX3_status_32 : decode cX3_status 32 = .ok (.bipush 7, 2) := by decide +kernel
theorem dX3_status_34 : decode cX3_status 34 = .ok (.if_icmp .ge 18, 3) := by decide +kernel
theorem dX3_status_37 : decode cX3_status 37 = .ok (.iload_n 2, 1) := by decide +kernel
theorem dX3_status_38 : decode cX3_status 38 = .ok (.aload_n 0, 1) := by decide +kernel
theorem dX3_status_39 : decode cX3_status 39 = .ok (.getfield 40, 3) := by decide +kernel
theorem dX3_status_42 : decode cX3_status 42 = .ok (.iload_n 3, 1) := by decide +kernel
theorem dX3_status_43 : decode cX3_status 43 = .ok (.iaload, 1) := by decide +kernel
theorem dX3_status_44 : decode cX3_status 44 = .ok (.iadd, 1) := by decide +kernel
theorem dX3_status_45 : decode cX3_status 45 = .ok (.istore_n 2, 1) := by decide +kernel
theorem dX3_status_46 : decode cX3_status 46 = .ok (.iinc 3 1, 3) := by decide +kernel
theorem dX3_status_49 : decode cX3_status 49 = .ok (.goto (-18), 3) := by decide +kernel
theorem dX3_status_52 : decode cX3_status 52 = .ok (.iload_n 2, 1) := by decide +kernel
theorem dX3_status_53 : decode cX3_status 53 = .ok (.ireturn, 1) := by decide +kernel
theorem dX3_finding_0 : decode cX3_finding 0 = .ok (.aload_n 0, 1) := by decide +kernel
theorem dX3_finding_1 : decode cX3_finding 1 = .ok (.getfield 40, 3) := by decide +kernel
theorem dX3_finding_4 : decode cX3_finding 4 = .ok (.iload_n 1, 1) := by decide +kernel
theorem dX3_finding_5 : decode cX3_finding 5 = .ok (.dup2, 1) := by decide +kernel
theorem dX3_finding_6 : decode cX3_finding 6 = .ok (.iaload, 1) := by decide +kernel
theorem dX3_finding_7 : decode cX3_finding 7 = .ok (.iconst 1, 1) := by decide +kernel
theorem dX3_finding_8 : decode cX3_finding 8 = .ok (.iadd, 1) := by decide +kernel
theorem dX3_finding_9 : decode cX3_finding 9 = .ok (.iastore, 1) := by decide +kernel
theorem dX3_finding_10 : decode cX3_finding 10 = .ok (.ldc 232, 2) := by decide +kernel
theorem dX3_finding_12 : decode cX3_finding 12 = .ok (.iload_n 1, 1) := by decide +kernel
theorem dX3_finding_13 : decode cX3_finding 13 = .ok (.isub, 1) := by decide +kernel
theorem dX3_finding_14 : decode cX3_finding 14 = .ok (.ireturn, 1) := by decide +kernel
theorem dX3_put_0 : decode cX3_put 0 = .ok (.iload_n 3, 1) := by decide +kernel
theorem dX3_put_1 : decode cX3_put 1 = .ok (.iload 4, 2) := by decide +kernel
theorem dX3_put_3 : decode cX3_put 3 = .ok (.iload 5, 2) := by decide +kernel
theorem dX3_put_5 : decode cX3_put 5 = .ok (.invokestatic 51, 3) := by decide +kernel
theorem dX3_put_8 : decode cX3_put 8 = .ok (.ifCond .ne 9, 3) := by decide +kernel
theorem dX3_put_11 : decode cX3_put 11 = .ok (.aload_n 0, 1) := by decide +kernel
theorem dX3_put_12 : decode cX3_put 12 = .ok (.iconst 0, 1) := by decide +kernel
theorem dX3_put_13 : decode cX3_put 13 = .ok (.invokevirtual 55, 3) := by decide +kernel
theorem dX3_put_16 : decode cX3_put 16 = .ok (.ireturn, 1) := by decide +kernel
theorem dX3_put_17 : decode cX3_put 17 = .ok (.aload_n 1, 1) := by decide +kernel
theorem dX3_put_18 : decode cX3_put 18 = .ok (.iload_n 2, 1) := by decide +kernel
theorem dX3_put_19 : decode cX3_put 19 = .ok (.iaload, 1) := by decide +kernel
theorem dX3_put_20 : decode cX3_put 20 = .ok (.istore 6, 2) := by decide +kernel
theorem dX3_put_22 : decode cX3_put 22 = .ok (.aload_n 1, 1) := by decide +kernel
theorem dX3_put_23 : decode cX3_put 23 = .ok (.iload_n 2, 1) := by decide +kernel
theorem dX3_put_24 : decode cX3_put 24 = .ok (.iload_n 3, 1) := by decide +kernel
theorem dX3_put_25 : decode cX3_put 25 = .ok (.iastore, 1) := by decide +kernel
theorem dX3_put_26 : decode cX3_put 26 = .ok (.iload 6, 2) := by decide +kernel
theorem dX3_put_28 : decode cX3_put 28 = .ok (.ireturn, 1) := by decide +kernel
theorem dX3_isThere_0 : decode cX3_isThere 0 = .ok (.iload_n 1, 1) := by decide +kernel
theorem dX3_isThere_1 : decode cX3_isThere 1 = .ok (.iconst 0, 1) := by decide +kernel
theorem dX3_isThere_2 : decode cX3_isThere 2 = .ok (.aload_n 0, 1) := by decide +kernel
theorem dX3_isThere_3 : decode cX3_isThere 3 = .ok (.getfield 10, 3) := by decide +kernel
theorem dX3_isThere_6 : decode cX3_isThere 6 = .ok (.getfield 71, 3) := by decide +kernel
theorem dX3_isThere_9 : decode cX3_isThere 9 = .ok (.iconst 1, 1) := by decide +kernel
theorem dX3_isThere_10 : decode cX3_isThere 10 = .ok (.isub, 1) := by decide +kernel
theorem dX3_isThere_11 : decode cX3_isThere 11 = .ok (.invokestatic 51, 3) := by decide +kernel
theorem dX3_isThere_14 : decode cX3_isThere 14 = .ok (.ireturn, 1) := by decide +kernel
theorem dX3_areTwo_0 : decode cX3_areTwo 0 = .ok (.aload_n 0, 1) := by decide +kernel
theorem dX3_areTwo_1 : decode cX3_areTwo 1 = .ok (.iload_n 1, 1) := by decide +kernel
theorem dX3_areTwo_2 : decode cX3_areTwo 2 = .ok (.invokevirtual 78, 3) := by decide +kernel
theorem dX3_areTwo_5 : decode cX3_areTwo 5 = .ok (.ifCond .eq 20, 3) := by decide +kernel
theorem dX3_areTwo_8 : decode cX3_areTwo 8 = .ok (.aload_n 0, 1) := by decide +kernel
theorem dX3_areTwo_9 : decode cX3_areTwo 9 = .ok (.iload_n 2, 1) := by decide +kernel
theorem dX3_areTwo_10 : decode cX3_areTwo 10 = .ok (.invokevirtual 78, 3) := by decide +kernel
theorem dX3_areTwo_13 : decode cX3_areTwo 13 = .ok (.ifCond .eq 12, 3) := by decide +kernel
theorem dX3_areTwo_16 : decode cX3_areTwo 16 = .ok (.iload_n 1, 1) := by decide +kernel
theorem dX3_areTwo_17 : decode cX3_areTwo 17 = .ok (.iload_n 2, 1) := by decide +kernel
theorem dX3_areTwo_18 : decode cX3_areTwo 18 = .ok (.if_icmp .eq 7, 3) := by decide +kernel
theorem dX3_areTwo_21 : decode cX3_areTwo 21 = .ok (.iconst 1, 1) := by decide +kernel
theorem dX3_areTwo_22 : decode cX3_areTwo 22 = .ok (.goto 4, 3) := by decide +kernel
theorem dX3_areTwo_25 : decode cX3_areTwo 25 = .ok (.iconst 0, 1) := by decide +kernel
theorem dX3_areTwo_26 : decode cX3_areTwo 26 = .ok (.ireturn, 1) := by decide +kernel
theorem dX3_isChair_0 : decode cX3_isChair 0 = .ok (.iload_n 0, 1) := by decide +kernel
theorem dX3_isChair_1 : decode cX3_isChair 1 = .ok (.iconst 0, 1) := by decide +kernel
theorem dX3_isChair_2 : decode cX3_isChair 2 = .ok (.bipush 7, 2) := by decide +kernel
theorem dX3_isChair_4 : decode cX3_isChair 4 = .ok (.invokestatic 51, 3) := by decide +kernel
theorem dX3_isChair_7 : decode cX3_isChair 7 = .ok (.ireturn, 1) := by decide +kernel
theorem dX3_isKind_0 : decode cX3_isKind 0 = .ok (.iload_n 0, 1) := by decide +kernel
theorem dX3_isKind_1 : decode cX3_isKind 1 = .ok (.iconst 0, 1) := by decide +kernel
theorem dX3_isKind_2 : decode cX3_isKind 2 = .ok (.iconst 5, 1) := by decide +kernel
theorem dX3_isKind_3 : decode cX3_isKind 3 = .ok (.invokestatic 51, 3) := by decide +kernel
theorem dX3_isKind_6 : decode cX3_isKind 6 = .ok (.ireturn, 1) := by decide +kernel
theorem dX3_isSheet_0 : decode cX3_isSheet 0 = .ok (.iload_n 0, 1) := by decide +kernel
theorem dX3_isSheet_1 : decode cX3_isSheet 1 = .ok (.iconst 0, 1) := by decide +kernel
theorem dX3_isSheet_2 : decode cX3_isSheet 2 = .ok (.iconst 3, 1) := by decide +kernel
theorem dX3_isSheet_3 : decode cX3_isSheet 3 = .ok (.invokestatic 51, 3) := by decide +kernel
theorem dX3_isSheet_6 : decode cX3_isSheet 6 = .ok (.ireturn, 1) := by decide +kernel
theorem dX3_isWithin_0 : decode cX3_isWithin 0 = .ok (.iload_n 0, 1) := by decide +kernel
theorem dX3_isWithin_1 : decode cX3_isWithin 1 = .ok (.iload_n 1, 1) := by decide +kernel
theorem dX3_isWithin_2 : decode cX3_isWithin 2 = .ok (.if_icmp .lt 12, 3) := by decide +kernel
theorem dX3_isWithin_5 : decode cX3_isWithin 5 = .ok (.iload_n 0, 1) := by decide +kernel
theorem dX3_isWithin_6 : decode cX3_isWithin 6 = .ok (.iload_n 2, 1) := by decide +kernel
theorem dX3_isWithin_7 : decode cX3_isWithin 7 = .ok (.if_icmp .gt 7, 3) := by decide +kernel
theorem dX3_isWithin_10 : decode cX3_isWithin 10 = .ok (.iconst 1, 1) := by decide +kernel
theorem dX3_isWithin_11 : decode cX3_isWithin 11 = .ok (.goto 4, 3) := by decide +kernel
theorem dX3_isWithin_14 : decode cX3_isWithin 14 = .ok (.iconst 0, 1) := by decide +kernel
theorem dX3_isWithin_15 : decode cX3_isWithin 15 = .ok (.ireturn, 1) := by decide +kernel
theorem dX3_isOfKind_0 : decode cX3_isOfKind 0 = .ok (.iload_n 0, 1) := by decide +kernel
theorem dX3_isOfKind_1 : decode cX3_isOfKind 1 = .ok (.istore_n 2, 1) := by decide +kernel
theorem dX3_isOfKind_2 : decode cX3_isOfKind 2 = .ok (.iconst 0, 1) := by decide +kernel
theorem dX3_isOfKind_3 : decode cX3_isOfKind 3 = .ok (.istore_n 3, 1) := by decide +kernel
theorem dX3_isOfKind_4 : decode cX3_isOfKind 4 = .ok (.iload_n 3, 1) := by decide +kernel
theorem dX3_isOfKind_5 : decode cX3_isOfKind 5 = .ok (.bipush 6, 2) := by decide +kernel
theorem dX3_isOfKind_7 : decode cX3_isOfKind 7 = .ok (.if_icmp .ge 32, 3) := by decide +kernel
theorem dX3_isOfKind_10 : decode cX3_isOfKind 10 = .ok (.iload_n 2, 1) := by decide +kernel
theorem dX3_isOfKind_11 : decode cX3_isOfKind 11 = .ok (.ifCond .lt 28, 3) := by decide +kernel
theorem dX3_isOfKind_14 : decode cX3_isOfKind 14 = .ok (.iload_n 2, 1) := by decide +kernel
theorem dX3_isOfKind_15 : decode cX3_isOfKind 15 = .ok (.bipush 6, 2) := by decide +kernel
theorem dX3_isOfKind_17 : decode cX3_isOfKind 17 = .ok (.if_icmp .ge 22, 3) := by decide +kernel
theorem dX3_isOfKind_20 : decode cX3_isOfKind 20 = .ok (.iload_n 2, 1) := by decide +kernel
theorem dX3_isOfKind_21 : decode cX3_isOfKind 21 = .ok (.iload_n 1, 1) := by decide +kernel
theorem dX3_isOfKind_22 : decode cX3_isOfKind 22 = .ok (.if_icmp .ne 5, 3) := by decide +kernel
theorem dX3_isOfKind_25 : decode cX3_isOfKind 25 = .ok (.iconst 1, 1) := by decide +kernel
theorem dX3_isOfKind_26 : decode cX3_isOfKind 26 = .ok (.ireturn, 1) := by decide +kernel
theorem dX3_isOfKind_27 : decode cX3_isOfKind 27 = .ok (.getstatic 233, 3) := by decide +kernel
theorem dX3_isOfKind_30 : decode cX3_isOfKind 30 = .ok (.iload_n 2, 1) := by decide +kernel
theorem dX3_isOfKind_31 : decode cX3_isOfKind 31 = .ok (.iaload, 1) := by decide +kernel
theorem dX3_isOfKind_32 : decode cX3_isOfKind 32 = .ok (.istore_n 2, 1) := by decide +kernel
theorem dX3_isOfKind_33 : decode cX3_isOfKind 33 = .ok (.iinc 3 1, 3) := by decide +kernel
theorem dX3_isOfKind_36 : decode cX3_isOfKind 36 = .ok (.goto (-32), 3) := by decide +kernel
theorem dX3_isOfKind_39 : decode cX3_isOfKind 39 = .ok (.iconst 0, 1) := by decide +kernel
theorem dX3_isOfKind_40 : decode cX3_isOfKind 40 = .ok (.ireturn, 1) := by decide +kernel
theorem dX3_mostPeace_0 : decode cX3_mostPeace 0 = .ok (.iload_n 2, 1) := by decide +kernel
theorem dX3_mostPeace_1 : decode cX3_mostPeace 1 = .ok (.iload_n 3, 1) := by decide +kernel
theorem dX3_mostPeace_2 : decode cX3_mostPeace 2 = .ok (.iconst 1, 1) := by decide +kernel
theorem dX3_mostPeace_3 : decode cX3_mostPeace 3 = .ok (.isub, 1) := by decide +kernel
theorem dX3_mostPeace_4 : decode cX3_mostPeace 4 = .ok (.if_icmp .ge 9, 3) := by decide +kernel
theorem dX3_mostPeace_7 : decode cX3_mostPeace 7 = .ok (.iload_n 2, 1) := by decide +kernel
theorem dX3_mostPeace_8 : decode cX3_mostPeace 8 = .ok (.bipush 6, 2) := by decide +kernel
theorem dX3_mostPeace_10 : decode cX3_mostPeace 10 = .ok (.if_icmp .lt 8, 3) := by decide +kernel
theorem dX3_mostPeace_13 : decode cX3_mostPeace 13 = .ok (.aload_n 0, 1) := by decide +kernel
theorem dX3_mostPeace_14 : decode cX3_mostPeace 14 = .ok (.invokevirtual 146, 3) := by decide +kernel
theorem dX3_mostPeace_17 : decode cX3_mostPeace 17 = .ok (.ireturn, 1) := by decide +kernel
theorem dX3_mostPeace_18 : decode cX3_mostPeace 18 = .ok (.aload_n 0, 1) := by decide +kernel
theorem dX3_mostPeace_19 : decode cX3_mostPeace 19 = .ok (.aload_n 1, 1) := by decide +kernel
theorem dX3_mostPeace_20 : decode cX3_mostPeace 20 = .ok (.iload_n 2, 1) := by decide +kernel
theorem dX3_mostPeace_21 : decode cX3_mostPeace 21 = .ok (.iconst 1, 1) := by decide +kernel
theorem dX3_mostPeace_22 : decode cX3_mostPeace 22 = .ok (.iadd, 1) := by decide +kernel
theorem dX3_mostPeace_23 : decode cX3_mostPeace 23 = .ok (.iload_n 3, 1) := by decide +kernel
theorem dX3_mostPeace_24 : decode cX3_mostPeace 24 = .ok (.invokestatic 159, 3) := by decide +kernel
theorem dX3_mostPeace_27 : decode cX3_mostPeace 27 = .ok (.istore 4, 2) := by decide +kernel
theorem dX3_mostPeace_29 : decode cX3_mostPeace 29 = .ok (.iload_n 2, 1) := by decide +kernel
theorem dX3_mostPeace_30 : decode cX3_mostPeace 30 = .ok (.iconst 1, 1) := by decide +kernel
theorem dX3_mostPeace_31 : decode cX3_mostPeace 31 = .ok (.iadd, 1) := by decide +kernel
theorem dX3_mostPeace_32 : decode cX3_mostPeace 32 = .ok (.istore 5, 2) := by decide +kernel
theorem dX3_mostPeace_34 : decode cX3_mostPeace 34 = .ok (.iload 5, 2) := by decide +kernel
theorem dX3_mostPeace_36 : decode cX3_mostPeace 36 = .ok (.iload_n 3, 1) := by decide +kernel
theorem dX3_mostPeace_37 : decode cX3_mostPeace 37 = .ok (.if_icmp .ge 47, 3) := by decide +kernel
theorem dX3_mostPeace_40 : decode cX3_mostPeace 40 = .ok (.aload_n 0, 1) := by decide +kernel
theorem dX3_mostPeace_41 : decode cX3_mostPeace 41 = .ok (.aload_n 1, 1) := by decide +kernel
theorem dX3_mostPeace_42 : decode cX3_mostPeace 42 = .ok (.iload_n 2, 1) := by decide +kernel
theorem dX3_mostPeace_43 : decode cX3_mostPeace 43 = .ok (.iaload, 1) := by decide +kernel
theorem dX3_mostPeace_44 : decode cX3_mostPeace 44 = .ok (.aload_n 1, 1) := by decide +kernel
theorem dX3_mostPeace_45 : decode cX3_mostPeace 45 = .ok (.iload 5, 2) := by decide +kernel
theorem dX3_mostPeace_47 : decode cX3_mostPeace 47 = .ok (.iaload, 1) := by decide +kernel
theorem dX3_mostPeace_48 : decode cX3_mostPeace 48 = .ok (.invokevirtual 124, 3) := by decide +kernel
theorem dX3_mostPeace_51 : decode cX3_mostPeace 51 = .ok (.iload 4, 2) := by decide +kernel
theorem dX3_mostPeace_53 : decode cX3_mostPeace 53 = .ok (.aload_n 0, 1) := by decide +kernel
theorem dX3_mostPeace_54 : decode cX3_mostPeace 54 = .ok (.aload_n 1, 1) := by decide +kernel
theorem dX3_mostPeace_55 : decode cX3_mostPeace 55 = .ok (.iload_n 2, 1) := by decide +kernel
theorem dX3_mostPeace_56 : decode cX3_mostPeace 56 = .ok (.iconst 1, 1) := by decide +kernel
theorem dX3_mostPeace_57 : decode cX3_mostPeace 57 = .ok (.iadd, 1) := by decide +kernel
theorem dX3_mostPeace_58 : decode cX3_mostPeace 58 = .ok (.iload_n 3, 1) := by decide +kernel
theorem dX3_mostPeace_59 : decode cX3_mostPeace 59 = .ok (.invokestatic 159, 3) := by decide +kernel
theorem dX3_mostPeace_62 : decode cX3_mostPeace 62 = .ok (.invokestatic 236, 3) := by decide +kernel
theorem dX3_mostPeace_65 : decode cX3_mostPeace 65 = .ok (.istore 4, 2) := by decide +kernel
theorem dX3_mostPeace_67 : decode cX3_mostPeace 67 = .ok (.aload_n 0, 1) := by decide +kernel
theorem dX3_mostPeace_68 : decode cX3_mostPeace 68 = .ok (.aload_n 1, 1) := by decide +kernel
theorem dX3_mostPeace_69 : decode cX3_mostPeace 69 = .ok (.iload_n 2, 1) := by decide +kernel
theorem dX3_mostPeace_70 : decode cX3_mostPeace 70 = .ok (.iaload, 1) := by decide +kernel
theorem dX3_mostPeace_71 : decode cX3_mostPeace 71 = .ok (.aload_n 1, 1) := by decide +kernel
theorem dX3_mostPeace_72 : decode cX3_mostPeace 72 = .ok (.iload 5, 2) := by decide +kernel
theorem dX3_mostPeace_74 : decode cX3_mostPeace 74 = .ok (.iaload, 1) := by decide +kernel
theorem dX3_mostPeace_75 : decode cX3_mostPeace 75 = .ok (.invokevirtual 124, 3) := by decide +kernel
theorem dX3_mostPeace_78 : decode cX3_mostPeace 78 = .ok (.iinc 5 1, 3) := by decide +kernel
theorem dX3_mostPeace_81 : decode cX3_mostPeace 81 = .ok (.goto (-47), 3) := by decide +kernel
theorem dX3_mostPeace_84 : decode cX3_mostPeace 84 = .ok (.iload 4, 2) := by decide +kernel
theorem dX3_mostPeace_86 : decode cX3_mostPeace 86 = .ok (.ireturn, 1) := by decide +kernel
theorem dX3_goesAsTold_0 : decode cX3_goesAsTold 0 = .ok (.iconst 0, 1) := by decide +kernel
theorem dX3_goesAsTold_1 : decode cX3_goesAsTold 1 = .ok (.istore_n 3, 1) := by decide +kernel
theorem dX3_goesAsTold_2 : decode cX3_goesAsTold 2 = .ok (.iload_n 3, 1) := by decide +kernel
theorem dX3_goesAsTold_3 : decode cX3_goesAsTold 3 = .ok (.aload_n 1, 1) := by decide +kernel
theorem dX3_goesAsTold_4 : decode cX3_goesAsTold 4 = .ok (.getfield 195, 3) := by decide +kernel
theorem dX3_goesAsTold_7 : decode cX3_goesAsTold 7 = .ok (.if_icmp .ge 39, 3) := by decide +kernel
theorem dX3_goesAsTold_10 : decode cX3_goesAsTold 10 = .ok (.aload_n 1, 1) := by decide +kernel
theorem dX3_goesAsTold_11 : decode cX3_goesAsTold 11 = .ok (.getfield 198, 3) := by decide +kernel
theorem dX3_goesAsTold_14 : decode cX3_goesAsTold 14 = .ok (.iload_n 3, 1) := by decide +kernel
theorem dX3_goesAsTold_15 : decode cX3_goesAsTold 15 = .ok (.laload, 1) := by decide +kernel
theorem dX3_goesAsTold_16 : decode cX3_goesAsTold 16 = .ok (.aload_n 0, 1) := by decide +kernel
theorem dX3_goesAsTold_17 : decode cX3_goesAsTold 17 = .ok (.getfield 16, 3) := by decide +kernel
theorem dX3_goesAsTold_20 : decode cX3_goesAsTold 20 = .ok (.getfield 96, 3) := by decide +kernel
theorem dX3_goesAsTold_23 : decode cX3_goesAsTold 23 = .ok (.iload_n 2, 1) := by decide +kernel
theorem dX3_goesAsTold_24 : decode cX3_goesAsTold 24 = .ok (.iaload, 1) := by decide +kernel
theorem dX3_goesAsTold_25 : decode cX3_goesAsTold 25 = .ok (.i2l, 1) := by decide +kernel
theorem dX3_goesAsTold_26 : decode cX3_goesAsTold 26 = .ok (.lcmp, 1) := by decide +kernel
theorem dX3_goesAsTold_27 : decode cX3_goesAsTold 27 = .ok (.ifCond .eq 5, 3) := by decide +kernel
theorem dX3_goesAsTold_30 : decode cX3_goesAsTold 30 = .ok (.iconst 0, 1) := by decide +kernel
theorem dX3_goesAsTold_31 : decode cX3_goesAsTold 31 = .ok (.ireturn, 1) := by decide +kernel
theorem dX3_goesAsTold_32 : decode cX3_goesAsTold 32 = .ok (.aload_n 0, 1) := by decide +kernel
theorem dX3_goesAsTold_33 : decode cX3_goesAsTold 33 = .ok (.getfield 16, 3) := by decide +kernel
theorem dX3_goesAsTold_36 : decode cX3_goesAsTold 36 = .ok (.invokevirtual 156, 3) := by decide +kernel
theorem dX3_goesAsTold_39 : decode cX3_goesAsTold 39 = .ok (.pop, 1) := by decide +kernel
theorem dX3_goesAsTold_40 : decode cX3_goesAsTold 40 = .ok (.iinc 3 1, 3) := by decide +kernel
theorem dX3_goesAsTold_43 : decode cX3_goesAsTold 43 = .ok (.goto (-41), 3) := by decide +kernel
theorem dX3_goesAsTold_46 : decode cX3_goesAsTold 46 = .ok (.iconst 1, 1) := by decide +kernel
theorem dX3_goesAsTold_47 : decode cX3_goesAsTold 47 = .ok (.ireturn, 1) := by decide +kernel
theorem dJ6_bitCount_0f7a4_0 : decode cJ6_bitCount_0f7a4 0 = .ok (.iload_n 0, 1) := by decide +kernel
theorem dJ6_bitCount_0f7a4_1 : decode cJ6_bitCount_0f7a4 1 = .ok (.iload_n 0, 1) := by decide +kernel
theorem dJ6_bitCount_0f7a4_2 : decode cJ6_bitCount_0f7a4 2 = .ok (.iconst 1, 1) := by decide +kernel
theorem dJ6_bitCount_0f7a4_3 : decode cJ6_bitCount_0f7a4 3 = .ok (.iushr, 1) := by decide +kernel
theorem dJ6_bitCount_0f7a4_4 : decode cJ6_bitCount_0f7a4 4 = .ok (.ldc_w 265, 3) := by decide +kernel
theorem dJ6_bitCount_0f7a4_7 : decode cJ6_bitCount_0f7a4 7 = .ok (.iand, 1) := by decide +kernel
theorem dJ6_bitCount_0f7a4_8 : decode cJ6_bitCount_0f7a4 8 = .ok (.isub, 1) := by decide +kernel
theorem dJ6_bitCount_0f7a4_9 : decode cJ6_bitCount_0f7a4 9 = .ok (.istore_n 0, 1) := by decide +kernel
theorem dJ6_bitCount_0f7a4_10 : decode cJ6_bitCount_0f7a4 10 = .ok (.iload_n 0, 1) := by decide +kernel
theorem dJ6_bitCount_0f7a4_11 : decode cJ6_bitCount_0f7a4 11 = .ok (.ldc_w 266, 3) := by decide +kernel
theorem dJ6_bitCount_0f7a4_14 : decode cJ6_bitCount_0f7a4 14 = .ok (.iand, 1) := by decide +kernel
theorem dJ6_bitCount_0f7a4_15 : decode cJ6_bitCount_0f7a4 15 = .ok (.iload_n 0, 1) := by decide +kernel
theorem dJ6_bitCount_0f7a4_16 : decode cJ6_bitCount_0f7a4 16 = .ok (.iconst 2, 1) := by decide +kernel
theorem dJ6_bitCount_0f7a4_17 : decode cJ6_bitCount_0f7a4 17 = .ok (.iushr, 1) := by decide +kernel
theorem dJ6_bitCount_0f7a4_18 : decode cJ6_bitCount_0f7a4 18 = .ok (.ldc_w 266, 3) := by decide +kernel
theorem dJ6_bitCount_0f7a4_21 : decode cJ6_bitCount_0f7a4 21 = .ok (.iand, 1) := by decide +kernel
theorem dJ6_bitCount_0f7a4_22 : decode cJ6_bitCount_0f7a4 22 = .ok (.iadd, 1) := by decide +kernel
theorem dJ6_bitCount_0f7a4_23 : decode cJ6_bitCount_0f7a4 23 = .ok (.istore_n 0, 1) := by decide +kernel
theorem dJ6_bitCount_0f7a4_24 : decode cJ6_bitCount_0f7a4 24 = .ok (.iload_n 0, 1) := by decide +kernel
theorem dJ6_bitCount_0f7a4_25 : decode cJ6_bitCount_0f7a4 25 = .ok (.iload_n 0, 1) := by decide +kernel
theorem dJ6_bitCount_0f7a4_26 : decode cJ6_bitCount_0f7a4 26 = .ok (.iconst 4, 1) := by decide +kernel
theorem dJ6_bitCount_0f7a4_27 : decode cJ6_bitCount_0f7a4 27 = .ok (.iushr, 1) := by decide +kernel
theorem dJ6_bitCount_0f7a4_28 : decode cJ6_bitCount_0f7a4 28 = .ok (.iadd, 1) := by decide +kernel
theorem dJ6_bitCount_0f7a4_29 : decode cJ6_bitCount_0f7a4 29 = .ok (.ldc_w 267, 3) := by decide +kernel
theorem dJ6_bitCount_0f7a4_32 : decode cJ6_bitCount_0f7a4 32 = .ok (.iand, 1) := by decide +kernel
theorem dJ6_bitCount_0f7a4_33 : decode cJ6_bitCount_0f7a4 33 = .ok (.istore_n 0, 1) := by decide +kernel
theorem dJ6_bitCount_0f7a4_34 : decode cJ6_bitCount_0f7a4 34 = .ok (.iload_n 0, 1) := by decide +kernel
theorem dJ6_bitCount_0f7a4_35 : decode cJ6_bitCount_0f7a4 35 = .ok (.iload_n 0, 1) := by decide +kernel
theorem dJ6_bitCount_0f7a4_36 : decode cJ6_bitCount_0f7a4 36 = .ok (.bipush 8, 2) := by decide +kernel
theorem dJ6_bitCount_0f7a4_38 : decode cJ6_bitCount_0f7a4 38 = .ok (.iushr, 1) := by decide +kernel
theorem dJ6_bitCount_0f7a4_39 : decode cJ6_bitCount_0f7a4 39 = .ok (.iadd, 1) := by decide +kernel
theorem dJ6_bitCount_0f7a4_40 : decode cJ6_bitCount_0f7a4 40 = .ok (.istore_n 0, 1) := by decide +kernel
theorem dJ6_bitCount_0f7a4_41 : decode cJ6_bitCount_0f7a4 41 = .ok (.iload_n 0, 1) := by decide +kernel
theorem dJ6_bitCount_0f7a4_42 : decode cJ6_bitCount_0f7a4 42 = .ok (.iload_n 0, 1) := by decide +kernel
theorem dJ6_bitCount_0f7a4_43 : decode cJ6_bitCount_0f7a4 43 = .ok (.bipush 16, 2) := by decide +kernel
theorem dJ6_bitCount_0f7a4_45 : decode cJ6_bitCount_0f7a4 45 = .ok (.iushr, 1) := by decide +kernel
theorem dJ6_bitCount_0f7a4_46 : decode cJ6_bitCount_0f7a4 46 = .ok (.iadd, 1) := by decide +kernel
theorem dJ6_bitCount_0f7a4_47 : decode cJ6_bitCount_0f7a4 47 = .ok (.istore_n 0, 1) := by decide +kernel
theorem dJ6_bitCount_0f7a4_48 : decode cJ6_bitCount_0f7a4 48 = .ok (.iload_n 0, 1) := by decide +kernel
theorem dJ6_bitCount_0f7a4_49 : decode cJ6_bitCount_0f7a4 49 = .ok (.bipush 63, 2) := by decide +kernel
theorem dJ6_bitCount_0f7a4_51 : decode cJ6_bitCount_0f7a4 51 = .ok (.iand, 1) := by decide +kernel
theorem dJ6_bitCount_0f7a4_52 : decode cJ6_bitCount_0f7a4 52 = .ok (.ireturn, 1) := by decide +kernel
theorem dJ9_max_7cf53_0 : decode cJ9_max_7cf53 0 = .ok (.iload_n 0, 1) := by decide +kernel
theorem dJ9_max_7cf53_1 : decode cJ9_max_7cf53 1 = .ok (.iload_n 1, 1) := by decide +kernel
theorem dJ9_max_7cf53_2 : decode cJ9_max_7cf53 2 = .ok (.if_icmp .lt 7, 3) := by decide +kernel
theorem dJ9_max_7cf53_5 : decode cJ9_max_7cf53 5 = .ok (.iload_n 0, 1) := by decide +kernel
theorem dJ9_max_7cf53_6 : decode cJ9_max_7cf53 6 = .ok (.goto 4, 3) := by decide +kernel
theorem dJ9_max_7cf53_9 : decode cJ9_max_7cf53 9 = .ok (.iload_n 1, 1) := by decide +kernel
theorem dJ9_max_7cf53_10 : decode cJ9_max_7cf53 10 = .ok (.ireturn, 1) := by decide +kernel
theorem dJ9_min_7cf53_0 : decode cJ9_min_7cf53 0 = .ok (.iload_n 0, 1) := by decide +kernel
theorem dJ9_min_7cf53_1 : decode cJ9_min_7cf53 1 = .ok (.iload_n 1, 1) := by decide +kernel
theorem dJ9_min_7cf53_2 : decode cJ9_min_7cf53 2 = .ok (.if_icmp .gt 7, 3) := by decide +kernel
theorem dJ9_min_7cf53_5 : decode cJ9_min_7cf53 5 = .ok (.iload_n 0, 1) := by decide +kernel
theorem dJ9_min_7cf53_6 : decode cJ9_min_7cf53 6 = .ok (.goto 4, 3) := by decide +kernel
theorem dJ9_min_7cf53_9 : decode cJ9_min_7cf53 9 = .ok (.iload_n 1, 1) := by decide +kernel
theorem dJ9_min_7cf53_10 : decode cJ9_min_7cf53 10 = .ok (.ireturn, 1) := by decide +kernel
theorem dJ0_length_8abf5_0 : decode cJ0_length_8abf5 0 = .ok (.aload_n 0, 1) := by decide +kernel
theorem dJ0_length_8abf5_1 : decode cJ0_length_8abf5 1 = .ok (.getfield 9, 3) := by decide +kernel
theorem dJ0_length_8abf5_4 : decode cJ0_length_8abf5 4 = .ok (.arraylength, 1) := by decide +kernel
theorem dJ0_length_8abf5_5 : decode cJ0_length_8abf5 5 = .ok (.aload_n 0, 1) := by decide +kernel
theorem dJ0_length_8abf5_6 : decode cJ0_length_8abf5 6 = .ok (.invokevirtual 335, 3) := by decide +kernel
theorem dJ0_length_8abf5_9 : decode cJ0_length_8abf5 9 = .ok (.ishr, 1) := by decide +kernel
theorem dJ0_length_8abf5_10 : decode cJ0_length_8abf5 10 = .ok (.ireturn, 1) := by decide +kernel
theorem dJ0_charAt_5068e_0 : decode cJ0_charAt_5068e 0 = .ok (.aload_n 0, 1) := by decide +kernel
theorem dJ0_charAt_5068e_1 : decode cJ0_charAt_5068e 1 = .ok (.invokevirtual 492, 3) := by decide +kernel
theorem dJ0_charAt_5068e_4 : decode cJ0_charAt_5068e 4 = .ok (.ifCond .eq 12, 3) := by decide +kernel
theorem dJ0_charAt_5068e_7 : decode cJ0_charAt_5068e 7 = .ok (.aload_n 0, 1) := by decide +kernel
theorem dJ0_charAt_5068e_8 : decode cJ0_charAt_5068e 8 = .ok (.getfield 9, 3) := by decide +kernel
theorem dJ0_charAt_5068e_11 : decode cJ0_charAt_5068e 11 = .ok (.iload_n 1, 1) := by decide +kernel
theorem dJ0_charAt_5068e_12 : decode cJ0_charAt_5068e 12 = .ok (.invokestatic 495, 3) := by decide +kernel
theorem dJ0_charAt_5068e_15 : decode cJ0_charAt_5068e 15 = .ok (.ireturn, 1) := by decide +kernel
theorem dJ0_charAt_5068e_16 : decode cJ0_charAt_5068e 16 = .ok (.aload_n 0, 1) := by decide +kernel
theorem dJ0_charAt_5068e_17 : decode cJ0_charAt_5068e 17 = .ok (.getfield 9, 3) := by decide +kernel
theorem dJ0_charAt_5068e_20 : decode cJ0_charAt_5068e 20 = .ok (.iload_n 1, 1) := by decide +kernel
theorem dJ0_charAt_5068e_21 : decode cJ0_charAt_5068e 21 = .ok (.invokestatic 498, 3) := by decide +kernel
theorem dJ0_charAt_5068e_24 : decode cJ0_charAt_5068e 24 = .ok (.ireturn, 1) := by decide +kernel
theorem dJ0_coder_7d493_0 : decode cJ0_coder_7d493 0 = .ok (.getstatic 38, 3) := by decide +kernel
theorem dJ0_coder_7d493_3 : decode cJ0_coder_7d493 3 = .ok (.ifCond .eq 10, 3) := by decide +kernel
theorem dJ0_coder_7d493_6 : decode cJ0_coder_7d493 6 = .ok (.aload_n 0, 1) := by decide +kernel
theorem dJ0_coder_7d493_7 : decode cJ0_coder_7d493 7 = .ok (.getfield 15, 3) := by decide +kernel
theorem dJ0_coder_7d493_10 : decode cJ0_coder_7d493 10 = .ok (.goto 4, 3) := by decide +kernel
theorem dJ0_coder_7d493_13 : decode cJ0_coder_7d493 13 = .ok (.iconst 1, 1) := by decide +kernel
theorem dJ0_coder_7d493_14 : decode cJ0_coder_7d493 14 = .ok (.ireturn, 1) := by decide +kernel
theorem dJ0_isLatin1_aae02_0 : decode cJ0_isLatin1_aae02 0 = .ok (.getstatic 38, 3) := by decide +kernel
theorem dJ0_isLatin1_aae02_3 : decode cJ0_isLatin1_aae02 3 = .ok (.ifCond .eq 14, 3) := by decide +kernel
theorem dJ0_isLatin1_aae02_6 : decode cJ0_isLatin1_aae02 6 = .ok (.aload_n 0, 1) := by decide +kernel
theorem dJ0_isLatin1_aae02_7 : decode cJ0_isLatin1_aae02 7 = .ok (.getfield 15, 3) := by decide +kernel
theorem dJ0_isLatin1_aae02_10 : decode cJ0_isLatin1_aae02 10 = .ok (.ifCond .ne 7, 3) := by decide +kernel
theorem dJ0_isLatin1_aae02_13 : decode cJ0_isLatin1_aae02 13 = .ok (.iconst 1, 1) := by decide +kernel
theorem dJ0_isLatin1_aae02_14 : decode cJ0_isLatin1_aae02 14 = .ok (.goto 4, 3) := by decide +kernel
theorem dJ0_isLatin1_aae02_17 : decode cJ0_isLatin1_aae02 17 = .ok (.iconst 0, 1) := by decide +kernel
theorem dJ0_isLatin1_aae02_18 : decode cJ0_isLatin1_aae02 18 = .ok (.ireturn, 1) := by decide +kernel
theorem dJ0_checkIndex_df160_0 : decode cJ0_checkIndex_df160 0 = .ok (.iload_n 0, 1) := by decide +kernel
theorem dJ0_checkIndex_df160_1 : decode cJ0_checkIndex_df160 1 = .ok (.iload_n 1, 1) := by decide +kernel
theorem dJ0_checkIndex_df160_2 : decode cJ0_checkIndex_df160 2 = .ok (.getstatic 1053, 3) := by decide +kernel
theorem dJ0_checkIndex_df160_5 : decode cJ0_checkIndex_df160 5 = .ok (.invokestatic 1059, 3) := by decide +kernel
theorem dJ0_checkIndex_df160_8 : decode cJ0_checkIndex_df160 8 = .ok (.pop, 1) := by decide +kernel
theorem dJ0_checkIndex_df160_9 : decode cJ0_checkIndex_df160 9 = .ok (.return_, 1) := by decide +kernel
theorem dJ1_charAt_3b067_0 : decode cJ1_charAt_3b067 0 = .ok (.iload_n 1, 1) := by decide +kernel
theorem dJ1_charAt_3b067_1 : decode cJ1_charAt_3b067 1 = .ok (.aload_n 0, 1) := by decide +kernel
theorem dJ1_charAt_3b067_2 : decode cJ1_charAt_3b067 2 = .ok (.arraylength, 1) := by decide +kernel
theorem dJ1_charAt_3b067_3 : decode cJ1_charAt_3b067 3 = .ok (.invokestatic 9, 3) := by decide +kernel
theorem dJ1_charAt_3b067_6 : decode cJ1_charAt_3b067 6 = .ok (.aload_n 0, 1) := by decide +kernel
theorem dJ1_charAt_3b067_7 : decode cJ1_charAt_3b067 7 = .ok (.iload_n 1, 1) := by decide +kernel
theorem dJ1_charAt_3b067_8 : decode cJ1_charAt_3b067 8 = .ok (.baload, 1) := by decide +kernel
theorem dJ1_charAt_3b067_9 : decode cJ1_charAt_3b067 9 = .ok (.sipush 255, 3) := by decide +kernel
theorem dJ1_charAt_3b067_12 : decode cJ1_charAt_3b067 12 = .ok (.iand, 1) := by decide +kernel
theorem dJ1_charAt_3b067_13 : decode cJ1_charAt_3b067 13 = .ok (.i2c, 1) := by decide +kernel
theorem dJ1_charAt_3b067_14 : decode cJ1_charAt_3b067 14 = .ok (.ireturn, 1) := by decide +kernel
theorem dJ2_getChar_3b067_0 : decode cJ2_getChar_3b067 0 = .ok (.getstatic 44, 3) := by decide +kernel
theorem dJ2_getChar_3b067_3 : decode cJ2_getChar_3b067 3 = .ok (.ifCond .ne 25, 3) := by decide +kernel
theorem dJ2_getChar_3b067_6 : decode cJ2_getChar_3b067 6 = .ok (.iload_n 1, 1) := by decide +kernel
theorem dJ2_getChar_3b067_7 : decode cJ2_getChar_3b067 7 = .ok (.ifCond .lt 11, 3) := by decide +kernel
theorem dJ2_getChar_3b067_10 : decode cJ2_getChar_3b067 10 = .ok (.iload_n 1, 1) := by decide +kernel
theorem dJ2_getChar_3b067_11 : decode cJ2_getChar_3b067 11 = .ok (.aload_n 0, 1) := by decide +kernel
theorem dJ2_getChar_3b067_12 : decode cJ2_getChar_3b067 12 = .ok (.invokestatic 48, 3) := by decide +kernel
theorem dJ2_getChar_3b067_15 : decode cJ2_getChar_3b067 15 = .ok (.if_icmp .lt 13, 3) := by decide +kernel
theorem dJ2_getChar_3b067_18 : decode cJ2_getChar_3b067 18 = .ok (.new 52, 3) := by decide +kernel
theorem dJ2_getChar_3b067_21 : decode cJ2_getChar_3b067 21 = .ok (.dup, 1) := by decide +kernel
theorem dJ2_getChar_3b067_22 : decode cJ2_getChar_3b067 22 = .ok (.ldc 54, 2) := by decide +kernel
theorem dJ2_getChar_3b067_24 : decode cJ2_getChar_3b067 24 = .ok (.invokespecial 56, 3) := by decide +kernel
theorem dJ2_getChar_3b067_27 : decode cJ2_getChar_3b067 27 = .ok (.athrow, 1) := by decide +kernel
theorem dJ2_getChar_3b067_28 : decode cJ2_getChar_3b067 28 = .ok (.iload_n 1, 1) := by decide +kernel
theorem dJ2_getChar_3b067_29 : decode cJ2_getChar_3b067 29 = .ok (.iconst 1, 1) := by decide +kernel
theorem dJ2_getChar_3b067_30 : decode cJ2_getChar_3b067 30 = .ok (.ishl, 1) := by decide +kernel
theorem dJ2_getChar_3b067_31 : decode cJ2_getChar_3b067 31 = .ok (.istore_n 1, 1) := by decide +kernel
theorem dJ2_getChar_3b067_32 : decode cJ2_getChar_3b067 32 = .ok (.aload_n 0, 1) := by decide +kernel
theorem dJ2_getChar_3b067_33 : decode cJ2_getChar_3b067 33 = .ok (.iload_n 1, 1) := by decide +kernel
theorem dJ2_getChar_3b067_34 : decode cJ2_getChar_3b067 34 = .ok (.iinc 1 1, 3) := by decide +kernel
theorem dJ2_getChar_3b067_37 : decode cJ2_getChar_3b067 37 = .ok (.baload, 1) := by decide +kernel
theorem dJ2_getChar_3b067_38 : decode cJ2_getChar_3b067 38 = .ok (.sipush 255, 3) := by decide +kernel
theorem dJ2_getChar_3b067_41 : decode cJ2_getChar_3b067 41 = .ok (.iand, 1) := by decide +kernel
theorem dJ2_getChar_3b067_42 : decode cJ2_getChar_3b067 42 = .ok (.getstatic 59, 3) := by decide +kernel
theorem dJ2_getChar_3b067_45 : decode cJ2_getChar_3b067 45 = .ok (.ishl, 1) := by decide +kernel
theorem dJ2_getChar_3b067_46 : decode cJ2_getChar_3b067 46 = .ok (.aload_n 0, 1) := by decide +kernel
theorem dJ2_getChar_3b067_47 : decode cJ2_getChar_3b067 47 = .ok (.iload_n 1, 1) := by decide +kernel
theorem dJ2_getChar_3b067_48 : decode cJ2_getChar_3b067 48 = .ok (.baload, 1) := by decide +kernel
theorem dJ2_getChar_3b067_49 : decode cJ2_getChar_3b067 49 = .ok (.sipush 255, 3) := by decide +kernel
theorem dJ2_getChar_3b067_52 : decode cJ2_getChar_3b067 52 = .ok (.iand, 1) := by decide +kernel
theorem dJ2_getChar_3b067_53 : decode cJ2_getChar_3b067 53 = .ok (.getstatic 63, 3) := by decide +kernel
theorem dJ2_getChar_3b067_56 : decode cJ2_getChar_3b067 56 = .ok (.ishl, 1) := by decide +kernel
theorem dJ2_getChar_3b067_57 : decode cJ2_getChar_3b067 57 = .ok (.ior, 1) := by decide +kernel
theorem dJ2_getChar_3b067_58 : decode cJ2_getChar_3b067 58 = .ok (.i2c, 1) := by decide +kernel
theorem dJ2_getChar_3b067_59 : decode cJ2_getChar_3b067 59 = .ok (.ireturn, 1) := by decide +kernel
theorem dJ2_length_9d52b_0 : decode cJ2_length_9d52b 0 = .ok (.aload_n 0, 1) := by decide +kernel
theorem dJ2_length_9d52b_1 : decode cJ2_length_9d52b 1 = .ok (.arraylength, 1) := by decide +kernel
theorem dJ2_length_9d52b_2 : decode cJ2_length_9d52b 2 = .ok (.iconst 1, 1) := by decide +kernel
theorem dJ2_length_9d52b_3 : decode cJ2_length_9d52b 3 = .ok (.ishr, 1) := by decide +kernel
theorem dJ2_length_9d52b_4 : decode cJ2_length_9d52b 4 = .ok (.ireturn, 1) := by decide +kernel
theorem dJ2_charAt_3b067_0 : decode cJ2_charAt_3b067 0 = .ok (.iload_n 1, 1) := by decide +kernel
theorem dJ2_charAt_3b067_1 : decode cJ2_charAt_3b067 1 = .ok (.aload_n 0, 1) := by decide +kernel
theorem dJ2_charAt_3b067_2 : decode cJ2_charAt_3b067 2 = .ok (.invokestatic 67, 3) := by decide +kernel
theorem dJ2_charAt_3b067_5 : decode cJ2_charAt_3b067 5 = .ok (.aload_n 0, 1) := by decide +kernel
theorem dJ2_charAt_3b067_6 : decode cJ2_charAt_3b067 6 = .ok (.iload_n 1, 1) := by decide +kernel
theorem dJ2_charAt_3b067_7 : decode cJ2_charAt_3b067 7 = .ok (.invokestatic 71, 3) := by decide +kernel
theorem dJ2_charAt_3b067_10 : decode cJ2_charAt_3b067 10 = .ok (.ireturn, 1) := by decide +kernel
theorem dJ2_checkIndex_2214a_0 : decode cJ2_checkIndex_2214a 0 = .ok (.iload_n 0, 1) := by decide +kernel
theorem dJ2_checkIndex_2214a_1 : decode cJ2_checkIndex_2214a 1 = .ok (.aload_n 1, 1) := by decide +kernel
theorem dJ2_checkIndex_2214a_2 : decode cJ2_checkIndex_2214a 2 = .ok (.invokestatic 48, 3) := by decide +kernel
theorem dJ2_checkIndex_2214a_5 : decode cJ2_checkIndex_2214a 5 = .ok (.invokestatic 414, 3) := by decide +kernel
theorem dJ2_checkIndex_2214a_8 : decode cJ2_checkIndex_2214a 8 = .ok (.return_, 1) := by decide +kernel
theorem dJ7_fill_d0a16_0 : decode cJ7_fill_d0a16 0 = .ok (.iconst 0, 1) := by decide +kernel
theorem dJ7_fill_d0a16_1 : decode cJ7_fill_d0a16 1 = .ok (.istore_n 3, 1) := by decide +kernel
theorem dJ7_fill_d0a16_2 : decode cJ7_fill_d0a16 2 = .ok (.aload_n 0, 1) := by decide +kernel
theorem dJ7_fill_d0a16_3 : decode cJ7_fill_d0a16 3 = .ok (.arraylength, 1) := by decide +kernel
theorem dJ7_fill_d0a16_4 : decode cJ7_fill_d0a16 4 = .ok (.istore 4, 2) := by decide +kernel
theorem dJ7_fill_d0a16_6 : decode cJ7_fill_d0a16 6 = .ok (.iload_n 3, 1) := by decide +kernel
theorem dJ7_fill_d0a16_7 : decode cJ7_fill_d0a16 7 = .ok (.iload 4, 2) := by decide +kernel
theorem dJ7_fill_d0a16_9 : decode cJ7_fill_d0a16 9 = .ok (.if_icmp .ge 13, 3) := by decide +kernel
theorem dJ7_fill_d0a16_12 : decode cJ7_fill_d0a16 12 = .ok (.aload_n 0, 1) := by decide +kernel
theorem dJ7_fill_d0a16_13 : decode cJ7_fill_d0a16 13 = .ok (.iload_n 3, 1) := by decide +kernel
theorem dJ7_fill_d0a16_14 : decode cJ7_fill_d0a16 14 = .ok (.lload_n 1, 1) := by decide +kernel
theorem dJ7_fill_d0a16_15 : decode cJ7_fill_d0a16 15 = .ok (.lastore, 1) := by decide +kernel
theorem dJ7_fill_d0a16_16 : decode cJ7_fill_d0a16 16 = .ok (.iinc 3 1, 3) := by decide +kernel
theorem dJ7_fill_d0a16_19 : decode cJ7_fill_d0a16 19 = .ok (.goto (-13), 3) := by decide +kernel
theorem dJ7_fill_d0a16_22 : decode cJ7_fill_d0a16 22 = .ok (.return_, 1) := by decide +kernel
theorem dJ7_fill_53178_0 : decode cJ7_fill_53178 0 = .ok (.iconst 0, 1) := by decide +kernel
theorem dJ7_fill_53178_1 : decode cJ7_fill_53178 1 = .ok (.istore_n 2, 1) := by decide +kernel
theorem dJ7_fill_53178_2 : decode cJ7_fill_53178 2 = .ok (.aload_n 0, 1) := by decide +kernel
theorem dJ7_fill_53178_3 : decode cJ7_fill_53178 3 = .ok (.arraylength, 1) := by decide +kernel
theorem dJ7_fill_53178_4 : decode cJ7_fill_53178 4 = .ok (.istore_n 3, 1) := by decide +kernel
theorem dJ7_fill_53178_5 : decode cJ7_fill_53178 5 = .ok (.iload_n 2, 1) := by decide +kernel
theorem dJ7_fill_53178_6 : decode cJ7_fill_53178 6 = .ok (.iload_n 3, 1) := by decide +kernel
theorem dJ7_fill_53178_7 : decode cJ7_fill_53178 7 = .ok (.if_icmp .ge 13, 3) := by decide +kernel
theorem dJ7_fill_53178_10 : decode cJ7_fill_53178 10 = .ok (.aload_n 0, 1) := by decide +kernel
theorem dJ7_fill_53178_11 : decode cJ7_fill_53178 11 = .ok (.iload_n 2, 1) := by decide +kernel
theorem dJ7_fill_53178_12 : decode cJ7_fill_53178 12 = .ok (.iload_n 1, 1) := by decide +kernel
theorem dJ7_fill_53178_13 : decode cJ7_fill_53178 13 = .ok (.iastore, 1) := by decide +kernel
theorem dJ7_fill_53178_14 : decode cJ7_fill_53178 14 = .ok (.iinc 2 1, 3) := by decide +kernel
theorem dJ7_fill_53178_17 : decode cJ7_fill_53178 17 = .ok (.goto (-12), 3) := by decide +kernel
theorem dJ7_fill_53178_20 : decode cJ7_fill_53178 20 = .ok (.return_, 1) := by decide +kernel
theorem dJ3_checkIndex_8e157_0 : decode cJ3_checkIndex_8e157 0 = .ok (.iload_n 0, 1) := by decide +kernel
theorem dJ3_checkIndex_8e157_1 : decode cJ3_checkIndex_8e157 1 = .ok (.ifCond .lt 8, 3) := by decide +kernel
theorem dJ3_checkIndex_8e157_4 : decode cJ3_checkIndex_8e157 4 = .ok (.iload_n 0, 1) := by decide +kernel
theorem dJ3_checkIndex_8e157_5 : decode cJ3_checkIndex_8e157 5 = .ok (.iload_n 1, 1) := by decide +kernel
theorem dJ3_checkIndex_8e157_6 : decode cJ3_checkIndex_8e157 6 = .ok (.if_icmp .lt 10, 3) := by decide +kernel
theorem dJ3_checkIndex_8e157_9 : decode cJ3_checkIndex_8e157 9 = .ok (.aload_n 2, 1) := by decide +kernel
theorem dJ3_checkIndex_8e157_10 : decode cJ3_checkIndex_8e157 10 = .ok (.iload_n 0, 1) := by decide +kernel
theorem dJ3_checkIndex_8e157_11 : decode cJ3_checkIndex_8e157 11 = .ok (.iload_n 1, 1) := by decide +kernel
theorem dJ3_checkIndex_8e157_12 : decode cJ3_checkIndex_8e157 12 = .ok (.invokestatic 95, 3) := by decide +kernel
theorem dJ3_checkIndex_8e157_15 : decode cJ3_checkIndex_8e157 15 = .ok (.athrow, 1) := by decide +kernel
theorem dJ3_checkIndex_8e157_16 : decode cJ3_checkIndex_8e157 16 = .ok (.iload_n 0, 1) := by decide +kernel
theorem dJ3_checkIndex_8e157_17 : decode cJ3_checkIndex_8e157 17 = .ok (.ireturn, 1) := by decide +kernel
