theorem dX12_init_0 : decode cX12_init 0 = .ok (.aload_n 0, 1) := by decide +kernel
theorem dX12_init_1 : decode cX12_init 1 = .ok (.invokespecial 3, 3) := by decide +kernel
theorem dX12_init_4 : decode cX12_init 4 = .ok (.aload_n 0, 1) := by decide +kernel
theorem dX12_init_5 : decode cX12_init 5 = .ok (.sipush 938, 3) := by decide +kernel
theorem dX12_init_8 : decode cX12_init 8 = .ok (.newarray .int, 2) := by decide +kernel
theorem dX12_init_10 : decode cX12_init 10 = .ok (.putfield 9, 3) := by decide +kernel
theorem dX12_init_13 : decode cX12_init 13 = .ok (.aload_n 0, 1) := by decide +kernel
theorem dX12_init_14 : decode cX12_init 14 = .ok (.sipush 938, 3) := by decide +kernel
theorem dX12_init_17 : decode cX12_init 17 = .ok (.newarray .int, 2) := by decide +kernel
theorem dX12_init_19 : decode cX12_init 19 = .ok (.putfield 15, 3) := by decide +kernel
theorem dX12_init_22 : decode cX12_init 22 = .ok (.aload_n 0, 1) := by decide +kernel
theorem dX12_init_23 : decode cX12_init 23 = .ok (.iconst 5, 1) := by decide +kernel
theorem dX12_init_24 : decode cX12_init 24 = .ok (.newarray .int, 2) := by decide +kernel
theorem dX12_init_26 : decode cX12_init 26 = .ok (.putfield 18, 3) := by decide +kernel
theorem dX12_init_29 : decode cX12_init 29 = .ok (.aload_n 0, 1) := by decide +kernel
theorem dX12_init_30 : decode cX12_init 30 = .ok (.bipush 64, 2) := by decide +kernel
theorem dX12_init_32 : decode cX12_init 32 = .ok (.newarray .boolean, 2) := by decide +kernel
theorem dX12_init_34 : decode cX12_init 34 = .ok (.putfield 21, 3) := by decide +kernel
theorem dX12_init_37 : decode cX12_init 37 = .ok (.aload_n 0, 1) := by decide +kernel
theorem dX12_init_38 : decode cX12_init 38 = .ok (.bipush 8, 2) := by decide +kernel
theorem dX12_init_40 : decode cX12_init 40 = .ok (.newarray .int, 2) := by decide +kernel
theorem dX12_init_42 : decode cX12_init 42 = .ok (.putfield 25, 3) := by decide +kernel
theorem dX12_init_45 : decode cX12_init 45 = .ok (.aload_n 0, 1) := by decide +kernel
theorem dX12_init_46 : decode cX12_init 46 = .ok (.bipush 40, 2) := by decide +kernel
theorem dX12_init_48 : decode cX12_init 48 = .ok (.newarray .int, 2) := by decide +kernel
theorem dX12_init_50 : decode cX12_init 50 = .ok (.putfield 28, 3) := by decide +kernel
theorem dX12_init_53 : decode cX12_init 53 = .ok (.aload_n 0, 1) := by decide +kernel
theorem dX12_init_54 : decode cX12_init 54 = .ok (.bipush 40, 2) := by decide +kernel
theorem dX12_init_56 : decode cX12_init 56 = .ok (.newarray .int, 2) := by decide +kernel
theorem dX12_init_58 : decode cX12_init 58 = .ok (.putfield 31, 3) := by decide +kernel
theorem dX12_init_61 : decode cX12_init 61 = .ok (.aload_n 0, 1) := by decide +kernel
theorem dX12_init_62 : decode cX12_init 62 = .ok (.bipush 40, 2) := by decide +kernel
theorem dX12_init_64 : decode cX12_init 64 = .ok (.newarray .long, 2) := by decide +kernel
theorem dX12_init_66 : decode cX12_init 66 = .ok (.putfield 34, 3) := by decide +kernel
theorem dX12_init_69 : decode cX12_init 69 = .ok (.aload_n 0, 1) := by decide +kernel
theorem dX12_init_70 : decode cX12_init 70 = .ok (.bipush 80, 2) := by decide +kernel
theorem dX12_init_72 : decode cX12_init 72 = .ok (.newarray .boolean, 2) := by decide +kernel
theorem dX12_init_74 : decode cX12_init 74 = .ok (.putfield 38, 3) := by decide +kernel
theorem dX12_init_77 : decode cX12_init 77 = .ok (.aload_n 0, 1) := by decide +kernel
theorem dX12_init_78 : decode cX12_init 78 = .ok (.bipush 20, 2) := by decide +kernel
theorem dX12_init_80 : decode cX12_init 80 = .ok (.newarray .int, 2) := by decide +kernel
theorem dX12_init_82 : decode cX12_init 82 = .ok (.putfield 41, 3) := by decide +kernel
theorem dX12_init_85 : decode cX12_init 85 = .ok (.aload_n 0, 1) := by decide +kernel
theorem dX12_init_86 : decode cX12_init 86 = .ok (.getfield 9, 3) := by decide +kernel
theorem dX12_init_89 : decode cX12_init 89 = .ok (.bipush 6, 2) := by decide +kernel
theorem dX12_init_91 : decode cX12_init 91 = .ok (.iconst 1, 1) := by decide +kernel
theorem dX12_init_92 : decode cX12_init 92 = .ok (.iastore, 1) := by decide +kernel
theorem dX12_init_93 : decode cX12_init 93 = .ok (.aload_n 0, 1) := by decide +kernel
theorem dX12_init_94 : decode cX12_init 94 = .ok (.getfield 9, 3) := by decide +kernel
theorem dX12_init_97 : decode cX12_init 97 = .ok (.bipush 7, 2) := by decide +kernel
theorem dX12_init_99 : decode cX12_init 99 = .ok (.bipush 100, 2) := by decide +kernel
theorem dX12_init_101 : decode cX12_init 101 = .ok (.iastore, 1) := by decide +kernel
theorem dX12_init_102 : decode cX12_init 102 = .ok (.aload_n 0, 1) := by decide +kernel
theorem dX12_init_103 : decode cX12_init 103 = .ok (.getfield 9, 3) := by decide +kernel
theorem dX12_init_106 : decode cX12_init 106 = .ok (.bipush 8, 2) := by decide +kernel
theorem dX12_init_108 : decode cX12_init 108 = .ok (.iconst (-1), 1) := by decide +kernel
theorem dX12_init_109 : decode cX12_init 109 = .ok (.iastore, 1) := by decide +kernel
theorem dX12_init_110 : decode cX12_init 110 = .ok (.return_, 1) := by decide +kernel
theorem dX12_in_0 : decode cX12_in 0 = .ok (.iload_n 0, 1) := by decide +kernel
theorem dX12_in_1 : decode cX12_in 1 = .ok (.iload_n 1, 1) := by decide +kernel
theorem dX12_in_2 : decode cX12_in 2 = .ok (.if_icmp .lt 12, 3) := by decide +kernel
theorem dX12_in_5 : decode cX12_in 5 = .ok (.iload_n 0, 1) := by decide +kernel
theorem dX12_in_6 : decode cX12_in 6 = .ok (.iload_n 2, 1) := by decide +kernel
theorem dX12_in_7 : decode cX12_in 7 = .ok (.if_icmp .gt 7, 3) := by decide +kernel
theorem dX12_in_10 : decode cX12_in 10 = .ok (.iconst 1, 1) := by decide +kernel
theorem dX12_in_11 : decode cX12_in 11 = .ok (.goto 4, 3) := by decide +kernel
theorem dX12_in_14 : decode cX12_in 14 = .ok (.iconst 0, 1) := by decide +kernel
theorem dX12_in_15 : decode cX12_in 15 = .ok (.ireturn, 1) := by decide +kernel
theorem dX12_sizeOf_0 : decode cX12_sizeOf 0 = .ok (.lload_n 0, 1) := by decide +kernel
theorem dX12_sizeOf_1 : decode cX12_sizeOf 1 = .ok (.lconst 0, 1) := by decide +kernel
theorem dX12_sizeOf_2 : decode cX12_sizeOf 2 = .ok (.lcmp, 1) := by decide +kernel
theorem dX12_sizeOf_3 : decode cX12_sizeOf 3 = .ok (.ifCond .ge 8, 3) := by decide +kernel
theorem dX12_sizeOf_6 : decode cX12_sizeOf 6 = .ok (.lload_n 0, 1) := by decide +kernel
theorem dX12_sizeOf_7 : decode cX12_sizeOf 7 = .ok (.lneg, 1) := by decide +kernel
theorem dX12_sizeOf_8 : decode cX12_sizeOf 8 = .ok (.goto 4, 3) := by decide +kernel
theorem dX12_sizeOf_11 : decode cX12_sizeOf 11 = .ok (.lload_n 0, 1) := by decide +kernel
theorem dX12_sizeOf_12 : decode cX12_sizeOf 12 = .ok (.lreturn, 1) := by decide +kernel
theorem dX12_isBreak_0 : decode cX12_isBreak 0 = .ok (.iload_n 1, 1) := by decide +kernel
theorem dX12_isBreak_1 : decode cX12_isBreak 1 = .ok (.iconst 0, 1) := by decide +kernel
theorem dX12_isBreak_2 : decode cX12_isBreak 2 = .ok (.aload_n 0, 1) := by decide +kernel
theorem dX12_isBreak_3 : decode cX12_isBreak 3 = .ok (.getfield 9, 3) := by decide +kernel
theorem dX12_isBreak_6 : decode cX12_isBreak 6 = .ok (.iconst 0, 1) := by decide +kernel
theorem dX12_isBreak_7 : decode cX12_isBreak 7 = .ok (.iaload, 1) := by decide +kernel
theorem dX12_isBreak_8 : decode cX12_isBreak 8 = .ok (.iconst 1, 1) := by decide +kernel
theorem dX12_isBreak_9 : decode cX12_isBreak 9 = .ok (.isub, 1) := by decide +kernel
theorem dX12_isBreak_10 : decode cX12_isBreak 10 = .ok (.invokestatic 48, 3) := by decide +kernel
theorem dX12_isBreak_13 : decode cX12_isBreak 13 = .ok (.ireturn, 1) := by decide +kernel
theorem dX12_isWork_0 : decode cX12_isWork 0 = .ok (.iload_n 1, 1) := by decide +kernel
theorem dX12_isWork_1 : decode cX12_isWork 1 = .ok (.iconst 0, 1) := by decide +kernel
theorem dX12_isWork_2 : decode cX12_isWork 2 = .ok (.aload_n 0, 1) := by decide +kernel
theorem dX12_isWork_3 : decode cX12_isWork 3 = .ok (.getfield 9, 3) := by decide +kernel
theorem dX12_isWork_6 : decode cX12_isWork 6 = .ok (.iconst 1, 1) := by decide +kernel
theorem dX12_isWork_7 : decode cX12_isWork 7 = .ok (.iaload, 1) := by decide +kernel
theorem dX12_isWork_8 : decode cX12_isWork 8 = .ok (.iconst 1, 1) := by decide +kernel
theorem dX12_isWork_9 : decode cX12_isWork 9 = .ok (.isub, 1) := by decide +kernel
theorem dX12_isWork_10 : decode cX12_isWork 10 = .ok (.invokestatic 48, 3) := by decide +kernel
theorem dX12_isWork_13 : decode cX12_isWork 13 = .ok (.ireturn, 1) := by decide +kernel
theorem dX12_isLaw_0 : decode cX12_isLaw 0 = .ok (.aload_n 0, 1) := by decide +kernel
theorem dX12_isLaw_1 : decode cX12_isLaw 1 = .ok (.getfield 9, 3) := by decide +kernel
theorem dX12_isLaw_4 : decode cX12_isLaw 4 = .ok (.bipush 8, 2) := by decide +kernel
theorem dX12_isLaw_6 : decode cX12_isLaw 6 = .ok (.iaload, 1) := by decide +kernel
theorem dX12_isLaw_7 : decode cX12_isLaw 7 = .ok (.iconst (-1), 1) := by decide +kernel
theorem dX12_isLaw_8 : decode cX12_isLaw 8 = .ok (.if_icmp .eq 7, 3) := by decide +kernel
theorem dX12_isLaw_11 : decode cX12_isLaw 11 = .ok (.iconst 1, 1) := by decide +kernel
theorem dX12_isLaw_12 : decode cX12_isLaw 12 = .ok (.goto 4, 3) := by decide +kernel
theorem dX12_isLaw_15 : decode cX12_isLaw 15 = .ok (.iconst 0, 1) := by decide +kernel
theorem dX12_isLaw_16 : decode cX12_isLaw 16 = .ok (.ireturn, 1) := by decide +kernel
theorem dX12_isTick_0 : decode cX12_isTick 0 = .ok (.iload_n 0, 1) := by decide +kernel
theorem dX12_isTick_1 : decode cX12_isTick 1 = .ok (.iconst 0, 1) := by decide +kernel
theorem dX12_isTick_2 : decode cX12_isTick 2 = .ok (.bipush 39, 2) := by decide +kernel
theorem dX12_isTick_4 : decode cX12_isTick 4 = .ok (.invokestatic 48, 3) := by decide +kernel
theorem dX12_isTick_7 : decode cX12_isTick 7 = .ok (.ireturn, 1) := by decide +kernel
theorem dX12_isBound_0 : decode cX12_isBound 0 = .ok (.iload_n 0, 1) := by decide +kernel
theorem dX12_isBound_1 : decode cX12_isBound 1 = .ok (.iconst 0, 1) := by decide +kernel
theorem dX12_isBound_2 : decode cX12_isBound 2 = .ok (.sipush 999, 3) := by decide +kernel
theorem dX12_isBound_5 : decode cX12_isBound 5 = .ok (.invokestatic 48, 3) := by decide +kernel
theorem dX12_isBound_8 : decode cX12_isBound 8 = .ok (.ireturn, 1) := by decide +kernel
theorem dX12_pause_0 : decode cX12_pause 0 = .ok (.iload_n 1, 1) := by decide +kernel
theorem dX12_pause_1 : decode cX12_pause 1 = .ok (.iconst 0, 1) := by decide +kernel
theorem dX12_pause_2 : decode cX12_pause 2 = .ok (.bipush 6, 2) := by decide +kernel
theorem dX12_pause_4 : decode cX12_pause 4 = .ok (.invokestatic 48, 3) := by decide +kernel
theorem dX12_pause_7 : decode cX12_pause 7 = .ok (.ifCond .ne 5, 3) := by decide +kernel
theorem dX12_pause_10 : decode cX12_pause 10 = .ok (.iconst (-1), 1) := by decide +kernel
theorem dX12_pause_11 : decode cX12_pause 11 = .ok (.ireturn, 1) := by decide +kernel
theorem dX12_pause_12 : decode cX12_pause 12 = .ok (.iload_n 2, 1) := by decide +kernel
theorem dX12_pause_13 : decode cX12_pause 13 = .ok (.invokestatic 52, 3) := by decide +kernel
theorem dX12_pause_16 : decode cX12_pause 16 = .ok (.ifCond .eq 24, 3) := by decide +kernel
theorem dX12_pause_19 : decode cX12_pause 19 = .ok (.iload_n 3, 1) := by decide +kernel
theorem dX12_pause_20 : decode cX12_pause 20 = .ok (.iconst 0, 1) := by decide +kernel
theorem dX12_pause_21 : decode cX12_pause 21 = .ok (.bipush 99, 2) := by decide +kernel
theorem dX12_pause_23 : decode cX12_pause 23 = .ok (.invokestatic 48, 3) := by decide +kernel
theorem dX12_pause_26 : decode cX12_pause 26 = .ok (.ifCond .eq 14, 3) := by decide +kernel
theorem dX12_pause_29 : decode cX12_pause 29 = .ok (.iload 4, 2) := by decide +kernel
theorem dX12_pause_31 : decode cX12_pause 31 = .ok (.iconst 0, 1) := by decide +kernel
theorem dX12_pause_32 : decode cX12_pause 32 = .ok (.bipush 9, 2) := by decide +kernel
theorem dX12_pause_34 : decode cX12_pause 34 = .ok (.invokestatic 48, 3) := by decide +kernel
theorem dX12_pause_37 : decode cX12_pause 37 = .ok (.ifCond .ne 6, 3) := by decide +kernel
theorem dX12_pause_40 : decode cX12_pause 40 = .ok (.bipush (-2), 2) := by decide +kernel
theorem dX12_pause_42 : decode cX12_pause 42 = .ok (.ireturn, 1) := by decide +kernel
theorem dX12_pause_43 : decode cX12_pause 43 = .ok (.aload_n 0, 1) := by decide +kernel
theorem dX12_pause_44 : decode cX12_pause 44 = .ok (.getfield 9, 3) := by decide +kernel
theorem dX12_pause_47 : decode cX12_pause 47 = .ok (.iconst 0, 1) := by decide +kernel
theorem dX12_pause_48 : decode cX12_pause 48 = .ok (.iaload, 1) := by decide +kernel
theorem dX12_pause_49 : decode cX12_pause 49 = .ok (.bipush 8, 2) := by decide +kernel
theorem dX12_pause_51 : decode cX12_pause 51 = .ok (.if_icmp .ne 6, 3) := by decide +kernel
theorem dX12_pause_54 : decode cX12_pause 54 = .ok (.bipush (-4), 2) := by decide +kernel
theorem dX12_pause_56 : decode cX12_pause 56 = .ok (.ireturn, 1) := by decide +kernel
theorem dX12_pause_57 : decode cX12_pause 57 = .ok (.aload_n 0, 1) := by decide +kernel
theorem dX12_pause_58 : decode cX12_pause 58 = .ok (.getfield 9, 3) := by decide +kernel
theorem dX12_pause_61 : decode cX12_pause 61 = .ok (.iconst 0, 1) := by decide +kernel
theorem dX12_pause_62 : decode cX12_pause 62 = .ok (.iaload, 1) := by decide +kernel
theorem dX12_pause_63 : decode cX12_pause 63 = .ok (.istore 5, 2) := by decide +kernel
theorem dX12_pause_65 : decode cX12_pause 65 = .ok (.aload_n 0, 1) := by decide +kernel
theorem dX12_pause_66 : decode cX12_pause 66 = .ok (.getfield 9, 3) := by decide +kernel
theorem dX12_pause_69 : decode cX12_pause 69 = .ok (.sipush 130, 3) := by decide +kernel
theorem dX12_pause_72 : decode cX12_pause 72 = .ok (.iload 5, 2) := by decide +kernel
theorem dX12_pause_74 : decode cX12_pause 74 = .ok (.iadd, 1) := by decide +kernel
theorem dX12_pause_75 : decode cX12_pause 75 = .ok (.iload_n 1, 1) := by decide +kernel
theorem dX12_pause_76 : decode cX12_pause 76 = .ok (.iastore, 1) := by decide +kernel
theorem dX12_pause_77 : decode cX12_pause 77 = .ok (.aload_n 0, 1) := by decide +kernel
theorem dX12_pause_78 : decode cX12_pause 78 = .ok (.getfield 9, 3) := by decide +kernel
theorem dX12_pause_81 : decode cX12_pause 81 = .ok (.sipush 138, 3) := by decide +kernel
theorem dX12_pause_84 : decode cX12_pause 84 = .ok (.iload 5, 2) := by decide +kernel
theorem dX12_pause_86 : decode cX12_pause 86 = .ok (.iadd, 1) := by decide +kernel
theorem dX12_pause_87 : decode cX12_pause 87 = .ok (.iload_n 2, 1) := by decide +kernel
theorem dX12_pause_88 : decode cX12_pause 88 = .ok (.iastore, 1) := by decide +kernel
theorem dX12_pause_89 : decode cX12_pause 89 = .ok (.aload_n 0, 1) := by decide +kernel
theorem dX12_pause_90 : decode cX12_pause 90 = .ok (.getfield 9, 3) := by decide +kernel
theorem dX12_pause_93 : decode cX12_pause 93 = .ok (.sipush 146, 3) := by decide +kernel
theorem dX12_pause_96 : decode cX12_pause 96 = .ok (.iload 5, 2) := by decide +kernel
theorem dX12_pause_98 : decode cX12_pause 98 = .ok (.iadd, 1) := by decide +kernel
theorem dX12_pause_99 : decode cX12_pause 99 = .ok (.iload_n 3, 1) := by decide +kernel
theorem dX12_pause_100 : decode cX12_pause 100 = .ok (.iastore, 1) := by decide +kernel
theorem dX12_pause_101 : decode cX12_pause 101 = .ok (.aload_n 0, 1) := by decide +kernel
theorem dX12_pause_102 : decode cX12_pause 102 = .ok (.getfield 9, 3) := by decide +kernel
theorem dX12_pause_105 : decode cX12_pause 105 = .ok (.sipush 154, 3) := by decide +kernel
theorem dX12_pause_108 : decode cX12_pause 108 = .ok (.iload 5, 2) := by decide +kernel
theorem dX12_pause_110 : decode cX12_pause 110 = .ok (.iadd, 1) := by decide +kernel
theorem dX12_pause_111 : decode cX12_pause 111 = .ok (.iload 4, 2) := by decide +kernel
theorem dX12_pause_113 : decode cX12_pause 113 = .ok (.iastore, 1) := by decide +kernel
theorem dX12_pause_114 : decode cX12_pause 114 = .ok (.aload_n 0, 1) := by decide +kernel
theorem dX12_pause_115 : decode cX12_pause 115 = .ok (.getfield 9, 3) := by decide +kernel
theorem dX12_pause_118 : decode cX12_pause 118 = .ok (.sipush 162, 3) := by decide +kernel
theorem dX12_pause_121 : decode cX12_pause 121 = .ok (.iload 5, 2) := by decide +kernel
theorem dX12_pause_123 : decode cX12_pause 123 = .ok (.iadd, 1) := by decide +kernel
theorem dX12_pause_124 : decode cX12_pause 124 = .ok (.bipush 10, 2) := by decide +kernel
theorem dX12_pause_126 : decode cX12_pause 126 = .ok (.iastore, 1) := by decide +kernel
theorem dX12_pause_127 : decode cX12_pause 127 = .ok (.aload_n 0, 1) := by decide +kernel
theorem dX12_pause_128 : decode cX12_pause 128 = .ok (.getfield 9, 3) := by decide +kernel
theorem dX12_pause_131 : decode cX12_pause 131 = .ok (.sipush 170, 3) := by decide +kernel
theorem dX12_pause_134 : decode cX12_pause 134 = .ok (.iload 5, 2) := by decide +kernel
theorem dX12_pause_136 : decode cX12_pause 136 = .ok (.iadd, 1) := by decide +kernel
theorem dX12_pause_137 : decode cX12_pause 137 = .ok (.iconst 0, 1) := by decide +kernel
theorem dX12_pause_138 : decode cX12_pause 138 = .ok (.iastore, 1) := by decide +kernel
theorem dX12_pause_139 : decode cX12_pause 139 = .ok (.aload_n 0, 1) := by decide +kernel
theorem dX12_pause_140 : decode cX12_pause 140 = .ok (.getfield 9, 3) := by decide +kernel
theorem dX12_pause_143 : decode cX12_pause 143 = .ok (.iconst 0, 1) := by decide +kernel
theorem dX12_pause_144 : decode cX12_pause 144 = .ok (.dup2, 1) := by decide +kernel
theorem dX12_pause_145 : decode cX12_pause 145 = .ok (.iaload, 1) := by decide +kernel
theorem dX12_pause_146 : decode cX12_pause 146 = .ok (.iconst 1, 1) := by decide +kernel
theorem dX12_pause_147 : decode cX12_pause 147 = .ok (.iadd, 1) := by decide +kernel
theorem dX12_pause_148 : decode cX12_pause 148 = .ok (.iastore, 1) := by decide +kernel
theorem dX12_pause_149 : decode cX12_pause 149 = .ok (.iload 5, 2) := by decide +kernel
theorem dX12_pause_151 : decode cX12_pause 151 = .ok (.ireturn, 1) := by decide +kernel
theorem dX12_of_0 : decode cX12_of 0 = .ok (.aload_n 0, 1) := by decide +kernel
theorem dX12_of_1 : decode cX12_of 1 = .ok (.iload_n 1, 1) := by decide +kernel
theorem dX12_of_2 : decode cX12_of 2 = .ok (.invokevirtual 56, 3) := by decide +kernel
theorem dX12_of_5 : decode cX12_of 5 = .ok (.ifCond .eq 30, 3) := by decide +kernel
theorem dX12_of_8 : decode cX12_of 8 = .ok (.iload_n 2, 1) := by decide +kernel
theorem dX12_of_9 : decode cX12_of 9 = .ok (.iconst 0, 1) := by decide +kernel
theorem dX12_of_10 : decode cX12_of 10 = .ok (.iconst 3, 1) := by decide +kernel
theorem dX12_of_11 : decode cX12_of 11 = .ok (.invokestatic 48, 3) := by decide +kernel
theorem dX12_of_14 : decode cX12_of 14 = .ok (.ifCond .eq 21, 3) := by decide +kernel
theorem dX12_of_17 : decode cX12_of 17 = .ok (.aload_n 0, 1) := by decide +kernel
theorem dX12_of_18 : decode cX12_of 18 = .ok (.getfield 9, 3) := by decide +kernel
theorem dX12_of_21 : decode cX12_of 21 = .ok (.sipush 130, 3) := by decide +kernel
theorem dX12_of_24 : decode cX12_of 24 = .ok (.bipush 8, 2) := by decide +kernel
theorem dX12_of_26 : decode cX12_of 26 = .ok (.iload_n 2, 1) := by decide +kernel
theorem dX12_of_27 : decode cX12_of 27 = .ok (.imul, 1) := by decide +kernel
theorem dX12_of_28 : decode cX12_of 28 = .ok (.iadd, 1) := by decide +kernel
theorem dX12_of_29 : decode cX12_of 29 = .ok (.iload_n 1, 1) := by decide +kernel
theorem dX12_of_30 : decode cX12_of 30 = .ok (.iadd, 1) := by decide +kernel
theorem dX12_of_31 : decode cX12_of 31 = .ok (.iaload, 1) := by decide +kernel
theorem dX12_of_32 : decode cX12_of 32 = .ok (.goto 4, 3) := by decide +kernel
theorem dX12_of_35 : decode cX12_of 35 = .ok (.iconst (-1), 1) := by decide +kernel
theorem dX12_of_36 : decode cX12_of 36 = .ok (.ireturn, 1) := by decide +kernel
theorem dX12_set_0 : decode cX12_set 0 = .ok (.iload_n 1, 1) := by decide +kernel
theorem dX12_set_1 : decode cX12_set 1 = .ok (.iconst 0, 1) := by decide +kernel
theorem dX12_set_2 : decode cX12_set 2 = .ok (.iconst 2, 1) := by decide +kernel
theorem dX12_set_3 : decode cX12_set 3 = .ok (.invokestatic 48, 3) := by decide +kernel
theorem dX12_set_6 : decode cX12_set 6 = .ok (.ifCond .ne 5, 3) := by decide +kernel
theorem dX12_set_9 : decode cX12_set 9 = .ok (.iconst (-1), 1) := by decide +kernel
theorem dX12_set_10 : decode cX12_set 10 = .ok (.ireturn, 1) := by decide +kernel
theorem dX12_set_11 : decode cX12_set 11 = .ok (.iload_n 1, 1) := by decide +kernel
theorem dX12_set_12 : decode cX12_set 12 = .ok (.ifCond .ne 16, 3) := by decide +kernel
theorem dX12_set_15 : decode cX12_set 15 = .ok (.iload_n 2, 1) := by decide +kernel
theorem dX12_set_16 : decode cX12_set 16 = .ok (.iconst 0, 1) := by decide +kernel
theorem dX12_set_17 : decode cX12_set 17 = .ok (.bipush 9, 2) := by decide +kernel
theorem dX12_set_19 : decode cX12_set 19 = .ok (.invokestatic 48, 3) := by decide +kernel
theorem dX12_set_22 : decode cX12_set 22 = .ok (.ifCond .ne 38, 3) := by decide +kernel
theorem dX12_set_25 : decode cX12_set 25 = .ok (.goto 32, 3) := by decide +kernel
theorem dX12_set_28 : decode cX12_set 28 = .ok (.iload_n 1, 1) := by decide +kernel
theorem dX12_set_29 : decode cX12_set 29 = .ok (.iconst 1, 1) := by decide +kernel
theorem dX12_set_30 : decode cX12_set 30 = .ok (.if_icmp .ne 16, 3) := by decide +kernel
theorem dX12_set_33 : decode cX12_set 33 = .ok (.iload_n 2, 1) := by decide +kernel
theorem dX12_set_34 : decode cX12_set 34 = .ok (.iconst 1, 1) := by decide +kernel
theorem dX12_set_35 : decode cX12_set 35 = .ok (.bipush 9, 2) := by decide +kernel
theorem dX12_set_37 : decode cX12_set 37 = .ok (.invokestatic 48, 3) := by decide +kernel
theorem dX12_set_40 : decode cX12_set 40 = .ok (.ifCond .ne 20, 3) := by decide +kernel
theorem dX12_set_43 : decode cX12_set 43 = .ok (.goto 14, 3) := by decide +kernel
theorem dX12_set_46 : decode cX12_set 46 = .ok (.iload_n 2, 1) := by decide +kernel
theorem dX12_set_47 : decode cX12_set 47 = .ok (.iconst 1, 1) := by decide +kernel
theorem dX12_set_48 : decode cX12_set 48 = .ok (.sipush 999, 3) := by decide +kernel
theorem dX12_set_51 : decode cX12_set 51 = .ok (.invokestatic 48, 3) := by decide +kernel
theorem dX12_set_54 : decode cX12_set 54 = .ok (.ifCond .ne 6, 3) := by decide +kernel
theorem dX12_set_57 : decode cX12_set 57 = .ok (.bipush (-2), 2) := by decide +kernel
theorem dX12_set_59 : decode cX12_set 59 = .ok (.ireturn, 1) := by decide +kernel
theorem dX12_set_60 : decode cX12_set 60 = .ok (.aload_n 0, 1) := by decide +kernel
theorem dX12_set_61 : decode cX12_set 61 = .ok (.getfield 9, 3) := by decide +kernel
theorem dX12_set_64 : decode cX12_set 64 = .ok (.iconst 5, 1) := by decide +kernel
theorem dX12_set_65 : decode cX12_set 65 = .ok (.iload_n 1, 1) := by decide +kernel
theorem dX12_set_66 : decode cX12_set 66 = .ok (.iadd, 1) := by decide +kernel
theorem dX12_set_67 : decode cX12_set 67 = .ok (.iaload, 1) := by decide +kernel
theorem dX12_set_68 : decode cX12_set 68 = .ok (.istore_n 3, 1) := by decide +kernel
theorem dX12_set_69 : decode cX12_set 69 = .ok (.aload_n 0, 1) := by decide +kernel
theorem dX12_set_70 : decode cX12_set 70 = .ok (.getfield 9, 3) := by decide +kernel
theorem dX12_set_73 : decode cX12_set 73 = .ok (.iconst 5, 1) := by decide +kernel
theorem dX12_set_74 : decode cX12_set 74 = .ok (.iload_n 1, 1) := by decide +kernel
theorem dX12_set_75 : decode cX12_set 75 = .ok (.iadd, 1) := by decide +kernel
theorem dX12_set_76 : decode cX12_set 76 = .ok (.iload_n 2, 1) := by decide +kernel
theorem dX12_set_77 : decode cX12_set 77 = .ok (.iastore, 1) := by decide +kernel
theorem dX12_set_78 : decode cX12_set 78 = .ok (.iload_n 3, 1) := by decide +kernel
theorem dX12_set_79 : decode cX12_set 79 = .ok (.ireturn, 1) := by decide +kernel
theorem dX12_later_0 : decode cX12_later 0 = .ok (.aload_n 0, 1) := by decide +kernel
theorem dX12_later_1 : decode cX12_later 1 = .ok (.iload_n 1, 1) := by decide +kernel
theorem dX12_later_2 : decode cX12_later 2 = .ok (.invokevirtual 56, 3) := by decide +kernel
theorem dX12_later_5 : decode cX12_later 5 = .ok (.ifCond .ne 5, 3) := by decide +kernel
theorem dX12_later_8 : decode cX12_later 8 = .ok (.iconst (-1), 1) := by decide +kernel
theorem dX12_later_9 : decode cX12_later 9 = .ok (.ireturn, 1) := by decide +kernel
theorem dX12_later_10 : decode cX12_later 10 = .ok (.iload_n 2, 1) := by decide +kernel
theorem dX12_later_11 : decode cX12_later 11 = .ok (.iconst 0, 1) := by decide +kernel
theorem dX12_later_12 : decode cX12_later 12 = .ok (.bipush 10, 2) := by decide +kernel
theorem dX12_later_14 : decode cX12_later 14 = .ok (.invokestatic 48, 3) := by decide +kernel
theorem dX12_later_17 : decode cX12_later 17 = .ok (.ifCond .eq 21, 3) := by decide +kernel
theorem dX12_later_20 : decode cX12_later 20 = .ok (.iload_n 3, 1) := by decide +kernel
theorem dX12_later_21 : decode cX12_later 21 = .ok (.iconst 0, 1) := by decide +kernel
theorem dX12_later_22 : decode cX12_later 22 = .ok (.bipush 10, 2) := by decide +kernel
theorem dX12_later_24 : decode cX12_later 24 = .ok (.invokestatic 48, 3) := by decide +kernel
theorem dX12_later_27 : decode cX12_later 27 = .ok (.ifCond .eq 11, 3) := by decide +kernel
theorem dX12_later_30 : decode cX12_later 30 = .ok (.iload_n 2, 1) := by decide +kernel
theorem dX12_later_31 : decode cX12_later 31 = .ok (.iload_n 3, 1) := by decide +kernel
theorem dX12_later_32 : decode cX12_later 32 = .ok (.iadd, 1) := by decide +kernel
theorem dX12_later_33 : decode cX12_later 33 = .ok (.bipush 10, 2) := by decide +kernel
theorem dX12_later_35 : decode cX12_later 35 = .ok (.if_icmp .le 6, 3) := by decide +kernel
theorem dX12_later_38 : decode cX12_later 38 = .ok (.bipush (-2), 2) := by decide +kernel
theorem dX12_later_40 : decode cX12_later 40 = .ok (.ireturn, 1) := by decide +kernel
theorem dX12_later_41 : decode cX12_later 41 = .ok (.aload_n 0, 1) := by decide +kernel
theorem dX12_later_42 : decode cX12_later 42 = .ok (.getfield 9, 3) := by decide +kernel
theorem dX12_later_45 : decode cX12_later 45 = .ok (.sipush 162, 3) := by decide +kernel
theorem dX12_later_48 : decode cX12_later 48 = .ok (.iload_n 1, 1) := by decide +kernel
theorem dX12_later_49 : decode cX12_later 49 = .ok (.iadd, 1) := by decide +kernel
theorem dX12_later_50 : decode cX12_later 50 = .ok (.iload_n 2, 1) := by decide +kernel
theorem dX12_later_51 : decode cX12_later 51 = .ok (.iastore, 1) := by decide +kernel
theorem dX12_later_52 : decode cX12_later 52 = .ok (.aload_n 0, 1) := by decide +kernel
theorem dX12_later_53 : decode cX12_later 53 = .ok (.getfield 9, 3) := by decide +kernel
theorem dX12_later_56 : decode cX12_later 56 = .ok (.sipush 170, 3) := by decide +kernel
theorem dX12_later_59 : decode cX12_later 59 = .ok (.iload_n 1, 1) := by decide +kernel
theorem dX12_later_60 : decode cX12_later 60 = .ok (.iadd, 1) := by decide +kernel
theorem dX12_later_61 : decode cX12_later 61 = .ok (.iload_n 3, 1) := by decide +kernel
theorem dX12_later_62 : decode cX12_later 62 = .ok (.iastore, 1) := by decide +kernel
theorem dX12_later_63 : decode cX12_later 63 = .ok (.iconst 1, 1) := by decide +kernel
theorem dX12_later_64 : decode cX12_later 64 = .ok (.ireturn, 1) := by decide +kernel
theorem dX12_feed_0 : decode cX12_feed 0 = .ok (.iload_n 3, 1) := by decide +kernel
theorem dX12_feed_1 : decode cX12_feed 1 = .ok (.iconst 1, 1) := by decide +kernel
theorem dX12_feed_2 : decode cX12_feed 2 = .ok (.bipush 8, 2) := by decide +kernel
theorem dX12_feed_4 : decode cX12_feed 4 = .ok (.invokestatic 48, 3) := by decide +kernel
theorem dX12_feed_7 : decode cX12_feed 7 = .ok (.ifCond .ne 6, 3) := by decide +kernel
theorem dX12_feed_10 : decode cX12_feed 10 = .ok (.bipush (-2), 2) := by decide +kernel
theorem dX12_feed_12 : decode cX12_feed 12 = .ok (.ireturn, 1) := by decide +kernel
theorem dX12_feed_13 : decode cX12_feed 13 = .ok (.aload_n 0, 1) := by decide +kernel
theorem dX12_feed_14 : decode cX12_feed 14 = .ok (.getfield 9, 3) := by decide +kernel
theorem dX12_feed_17 : decode cX12_feed 17 = .ok (.iconst 4, 1) := by decide +kernel
theorem dX12_feed_18 : decode cX12_feed 18 = .ok (.iaload, 1) := by decide +kernel
theorem dX12_feed_19 : decode cX12_feed 19 = .ok (.iload_n 3, 1) := by decide +kernel
theorem dX12_feed_20 : decode cX12_feed 20 = .ok (.iadd, 1) := by decide +kernel
theorem dX12_feed_21 : decode cX12_feed 21 = .ok (.bipush 120, 2) := by decide +kernel
theorem dX12_feed_23 : decode cX12_feed 23 = .ok (.if_icmp .le 6, 3) := by decide +kernel
theorem dX12_feed_26 : decode cX12_feed 26 = .ok (.bipush (-4), 2) := by decide +kernel
theorem dX12_feed_28 : decode cX12_feed 28 = .ok (.ireturn, 1) := by decide +kernel
theorem dX12_feed_29 : decode cX12_feed 29 = .ok (.iload_n 3, 1) := by decide +kernel
theorem dX12_feed_30 : decode cX12_feed 30 = .ok (.iconst 1, 1) := by decide +kernel
theorem dX12_feed_31 : decode cX12_feed 31 = .ok (.isub, 1) := by decide +kernel
theorem dX12_feed_32 : decode cX12_feed 32 = .ok (.istore 4, 2) := by decide +kernel
theorem dX12_feed_34 : decode cX12_feed 34 = .ok (.iload 4, 2) := by decide +kernel
theorem dX12_feed_36 : decode cX12_feed 36 = .ok (.ifCond .lt 45, 3) := by decide +kernel
theorem dX12_feed_39 : decode cX12_feed 39 = .ok (.aload_n 0, 1) := by decide +kernel
theorem dX12_feed_40 : decode cX12_feed 40 = .ok (.getfield 9, 3) := by decide +kernel
theorem dX12_feed_43 : decode cX12_feed 43 = .ok (.bipush 10, 2) := by decide +kernel
theorem dX12_feed_45 : decode cX12_feed 45 = .ok (.aload_n 0, 1) := by decide +kernel
theorem dX12_feed_46 : decode cX12_feed 46 = .ok (.getfield 9, 3) := by decide +kernel
theorem dX12_feed_49 : decode cX12_feed 49 = .ok (.iconst 4, 1) := by decide +kernel
theorem dX12_feed_50 : decode cX12_feed 50 = .ok (.iaload, 1) := by decide +kernel
theorem dX12_feed_51 : decode cX12_feed 51 = .ok (.iadd, 1) := by decide +kernel
theorem dX12_feed_52 : decode cX12_feed 52 = .ok (.lload_n 1, 1) := by decide +kernel
theorem dX12_feed_53 : decode cX12_feed 53 = .ok (.bipush 8, 2) := by decide +kernel
theorem dX12_feed_55 : decode cX12_feed 55 = .ok (.iload 4, 2) := by decide +kernel
theorem dX12_feed_57 : decode cX12_feed 57 = .ok (.imul, 1) := by decide +kernel
theorem dX12_feed_58 : decode cX12_feed 58 = .ok (.lshr, 1) := by decide +kernel
theorem dX12_feed_59 : decode cX12_feed 59 = .ok (.ldc2_w 59, 3) := by decide +kernel
theorem dX12_feed_62 : decode cX12_feed 62 = .ok (.land, 1) := by decide +kernel
theorem dX12_feed_63 : decode cX12_feed 63 = .ok (.l2i, 1) := by decide +kernel
theorem dX12_feed_64 : decode cX12_feed 64 = .ok (.iastore, 1) := by decide +kernel
theorem dX12_feed_65 : decode cX12_feed 65 = .ok (.aload_n 0, 1) := by decide +kernel
theorem dX12_feed_66 : decode cX12_feed 66 = .ok (.getfield 9, 3) := by decide +kernel
theorem dX12_feed_69 : decode cX12_feed 69 = .ok (.iconst 4, 1) := by decide +kernel
theorem dX12_feed_70 : decode cX12_feed 70 = .ok (.dup2, 1) := by decide +kernel
theorem dX12_feed_71 : decode cX12_feed 71 = .ok (.iaload, 1) := by decide +kernel
theorem dX12_feed_72 : decode cX12_feed 72 = .ok (.iconst 1, 1) := by decide +kernel
theorem dX12_feed_73 : decode cX12_feed 73 = .ok (.iadd, 1) := by decide +kernel
theorem dX12_feed_74 : decode cX12_feed 74 = .ok (.iastore, 1) := by decide +kernel
theorem dX12_feed_75 : decode cX12_feed 75 = .ok (.iinc 4 (-1), 3) := by decide +kernel
theorem dX12_feed_78 : decode cX12_feed 78 = .ok (.goto (-44), 3) := by decide +kernel
theorem dX12_feed_81 : decode cX12_feed 81 = .ok (.aload_n 0, 1) := by decide +kernel
theorem dX12_feed_82 : decode cX12_feed 82 = .ok (.getfield 9, 3) := by decide +kernel
theorem dX12_feed_85 : decode cX12_feed 85 = .ok (.iconst 4, 1) := by decide +kernel
theorem dX12_feed_86 : decode cX12_feed 86 = .ok (.iaload, 1) := by decide +kernel
theorem dX12_feed_87 : decode cX12_feed 87 = .ok (.ireturn, 1) := by decide +kernel
theorem dX12_here_0 : decode cX12_here 0 = .ok (.aload_n 0, 1) := by decide +kernel
theorem dX12_here_1 : decode cX12_here 1 = .ok (.getfield 61, 3) := by decide +kernel
theorem dX12_here_4 : decode cX12_here 4 = .ok (.aload_n 0, 1) := by decide +kernel
theorem dX12_here_5 : decode cX12_here 5 = .ok (.getfield 64, 3) := by decide +kernel
theorem dX12_here_8 : decode cX12_here 8 = .ok (.if_icmp .ge 18, 3) := by decide +kernel
theorem dX12_here_11 : decode cX12_here 11 = .ok (.aload_n 0, 1) := by decide +kernel
theorem dX12_here_12 : decode cX12_here 12 = .ok (.getfield 9, 3) := by decide +kernel
theorem dX12_here_15 : decode cX12_here 15 = .ok (.bipush 10, 2) := by decide +kernel
theorem dX12_here_17 : decode cX12_here 17 = .ok (.aload_n 0, 1) := by decide +kernel
theorem dX12_here_18 : decode cX12_here 18 = .ok (.getfield 61, 3) := by decide +kernel
theorem dX12_here_21 : decode cX12_here 21 = .ok (.iadd, 1) := by decide +kernel
theorem dX12_here_22 : decode cX12_here 22 = .ok (.iaload, 1) := by decide +kernel
theorem dX12_here_23 : decode cX12_here 23 = .ok (.goto 4, 3) := by decide +kernel
theorem dX12_here_26 : decode cX12_here 26 = .ok (.iconst (-1), 1) := by decide +kernel
theorem dX12_here_27 : decode cX12_here 27 = .ok (.ireturn, 1) := by decide +kernel
theorem dX12_must_0 : decode cX12_must 0 = .ok (.aload_n 0, 1) := by decide +kernel
theorem dX12_must_1 : decode cX12_must 1 = .ok (.aload_n 0, 1) := by decide +kernel
theorem dX12_must_2 : decode cX12_must 2 = .ok (.getfield 67, 3) := by decide +kernel
theorem dX12_must_5 : decode cX12_must 5 = .ok (.ifCond .ne 11, 3) := by decide +kernel
theorem dX12_must_8 : decode cX12_must 8 = .ok (.aload_n 0, 1) := by decide +kernel
theorem dX12_must_9 : decode cX12_must 9 = .ok (.invokevirtual 71, 3) := by decide +kernel
theorem dX12_must_12 : decode cX12_must 12 = .ok (.iload_n 1, 1) := by decide +kernel
theorem dX12_must_13 : decode cX12_must 13 = .ok (.if_icmp .eq 7, 3) := by decide +kernel
theorem dX12_must_16 : decode cX12_must 16 = .ok (.iconst 1, 1) := by decide +kernel
theorem dX12_must_17 : decode cX12_must 17 = .ok (.goto 4, 3) := by decide +kernel
theorem dX12_must_20 : decode cX12_must 20 = .ok (.iconst 0, 1) := by decide +kernel
theorem dX12_must_21 : decode cX12_must 21 = .ok (.putfield 67, 3) := by decide +kernel
theorem dX12_must_24 : decode cX12_must 24 = .ok (.aload_n 0, 1) := by decide +kernel
theorem dX12_must_25 : decode cX12_must 25 = .ok (.dup, 1) := by decide +kernel
theorem dX12_must_26 : decode cX12_must 26 = .ok (.getfield 61, 3) := by decide +kernel
theorem dX12_must_29 : decode cX12_must 29 = .ok (.aload_n 0, 1) := by decide +kernel
theorem dX12_must_30 : decode cX12_must 30 = .ok (.getfield 67, 3) := by decide +kernel
theorem dX12_must_33 : decode cX12_must 33 = .ok (.ifCond .eq 7, 3) := by decide +kernel
theorem dX12_must_36 : decode cX12_must 36 = .ok (.iconst 0, 1) := by decide +kernel
theorem dX12_must_37 : decode cX12_must 37 = .ok (.goto 4, 3) := by decide +kernel
theorem dX12_must_40 : decode cX12_must 40 = .ok (.iconst 1, 1) := by decide +kernel
theorem dX12_must_41 : decode cX12_must 41 = .ok (.iadd, 1) := by decide +kernel
theorem dX12_must_42 : decode cX12_must 42 = .ok (.putfield 61, 3) := by decide +kernel
theorem dX12_must_45 : decode cX12_must 45 = .ok (.return_, 1) := by decide +kernel
theorem dX12_spells_0 : decode cX12_spells 0 = .ok (.iconst 0, 1) := by decide +kernel
theorem dX12_spells_1 : decode cX12_spells 1 = .ok (.istore_n 2, 1) := by decide +kernel
theorem dX12_spells_2 : decode cX12_spells 2 = .ok (.iload_n 2, 1) := by decide +kernel
theorem dX12_spells_3 : decode cX12_spells 3 = .ok (.aload_n 1, 1) := by decide +kernel
theorem dX12_spells_4 : decode cX12_spells 4 = .ok (.invokevirtual 75, 3) := by decide +kernel
theorem dX12_spells_7 : decode cX12_spells 7 = .ok (.if_icmp .ge 18, 3) := by decide +kernel
theorem dX12_spells_10 : decode cX12_spells 10 = .ok (.aload_n 0, 1) := by decide +kernel
theorem dX12_spells_11 : decode cX12_spells 11 = .ok (.aload_n 1, 1) := by decide +kernel
theorem dX12_spells_12 : decode cX12_spells 12 = .ok (.iload_n 2, 1) := by decide +kernel
theorem dX12_spells_13 : decode cX12_spells 13 = .ok (.invokevirtual 80, 3) := by decide +kernel
theorem dX12_spells_16 : decode cX12_spells 16 = .ok (.invokevirtual 84, 3) := by decide +kernel
theorem dX12_spells_19 : decode cX12_spells 19 = .ok (.iinc 2 1, 3) := by decide +kernel
theorem dX12_spells_22 : decode cX12_spells 22 = .ok (.goto (-20), 3) := by decide +kernel
theorem dX12_spells_25 : decode cX12_spells 25 = .ok (.return_, 1) := by decide +kernel
theorem dX12_figures_0 : decode cX12_figures 0 = .ok (.aload_n 0, 1) := by decide +kernel
theorem dX12_figures_1 : decode cX12_figures 1 = .ok (.aload_n 0, 1) := by decide +kernel
theorem dX12_figures_2 : decode cX12_figures 2 = .ok (.getfield 67, 3) := by decide +kernel
theorem dX12_figures_5 : decode cX12_figures 5 = .ok (.ifCond .ne 17, 3) := by decide +kernel
theorem dX12_figures_8 : decode cX12_figures 8 = .ok (.aload_n 0, 1) := by decide +kernel
theorem dX12_figures_9 : decode cX12_figures 9 = .ok (.invokevirtual 71, 3) := by decide +kernel
theorem dX12_figures_12 : decode cX12_figures 12 = .ok (.bipush 48, 2) := by decide +kernel
theorem dX12_figures_14 : decode cX12_figures 14 = .ok (.bipush 57, 2) := by decide +kernel
theorem dX12_figures_16 : decode cX12_figures 16 = .ok (.invokestatic 48, 3) := by decide +kernel
theorem dX12_figures_19 : decode cX12_figures 19 = .ok (.ifCond .ne 7, 3) := by decide +kernel
theorem dX12_figures_22 : decode cX12_figures 22 = .ok (.iconst 1, 1) := by decide +kernel
theorem dX12_figures_23 : decode cX12_figures 23 = .ok (.goto 4, 3) := by decide +kernel
theorem dX12_figures_26 : decode cX12_figures 26 = .ok (.iconst 0, 1) := by decide +kernel
theorem dX12_figures_27 : decode cX12_figures 27 = .ok (.putfield 67, 3) := by decide +kernel
theorem dX12_figures_30 : decode cX12_figures 30 = .ok (.iconst 0, 1) := by decide +kernel
theorem dX12_figures_31 : decode cX12_figures 31 = .ok (.istore_n 1, 1) := by decide +kernel
theorem dX12_figures_32 : decode cX12_figures 32 = .ok (.iconst 0, 1) := by decide +kernel
theorem dX12_figures_33 : decode cX12_figures 33 = .ok (.istore_n 2, 1) := by decide +kernel
theorem dX12_figures_34 : decode cX12_figures 34 = .ok (.iload_n 2, 1) := by decide +kernel
theorem dX12_figures_35 : decode cX12_figures 35 = .ok (.iconst 3, 1) := by decide +kernel
theorem dX12_figures_36 : decode cX12_figures 36 = .ok (.if_icmp .ge 61, 3) := by decide +kernel
theorem dX12_figures_39 : decode cX12_figures 39 = .ok (.aload_n 0, 1) := by decide +kernel
theorem dX12_figures_40 : decode cX12_figures 40 = .ok (.getfield 67, 3) := by decide +kernel
theorem dX12_figures_43 : decode cX12_figures 43 = .ok (.ifCond .ne 54, 3) := by decide +kernel
theorem dX12_figures_46 : decode cX12_figures 46 = .ok (.aload_n 0, 1) := by decide +kernel
theorem dX12_figures_47 : decode cX12_figures 47 = .ok (.invokevirtual 71, 3) := by decide +kernel
theorem dX12_figures_50 : decode cX12_figures 50 = .ok (.bipush 48, 2) := by decide +kernel
theorem dX12_figures_52 : decode cX12_figures 52 = .ok (.bipush 57, 2) := by decide +kernel
theorem dX12_figures_54 : decode cX12_figures 54 = .ok (.invokestatic 48, 3) := by decide +kernel
theorem dX12_figures_57 : decode cX12_figures 57 = .ok (.ifCond .eq 40, 3) := by decide +kernel
theorem dX12_figures_60 : decode cX12_figures 60 = .ok (.iload_n 2, 1) := by decide +kernel
theorem dX12_figures_61 : decode cX12_figures 61 = .ok (.ifCond .eq 7, 3) := by decide +kernel
theorem dX12_figures_64 : decode cX12_figures 64 = .ok (.iload_n 1, 1) := by decide +kernel
theorem dX12_figures_65 : decode cX12_figures 65 = .ok (.ifCond .le 32, 3) := by decide +kernel
theorem dX12_figures_68 : decode cX12_figures 68 = .ok (.bipush 10, 2) := by decide +kernel
theorem dX12_figures_70 : decode cX12_figures 70 = .ok (.iload_n 1, 1) := by decide +kernel
theorem dX12_figures_71 : decode cX12_figures 71 = .ok (.imul, 1) := by decide +kernel
theorem dX12_figures_72 : decode cX12_figures 72 = .ok (.aload_n 0, 1) := by decide +kernel
theorem dX12_figures_73 : decode cX12_figures 73 = .ok (.invokevirtual 71, 3) := by decide +kernel
theorem dX12_figures_76 : decode cX12_figures 76 = .ok (.iadd, 1) := by decide +kernel
theorem dX12_figures_77 : decode cX12_figures 77 = .ok (.bipush 48, 2) := by decide +kernel
theorem dX12_figures_79 : decode cX12_figures 79 = .ok (.isub, 1) := by decide +kernel
theorem dX12_figures_80 : decode cX12_figures 80 = .ok (.istore_n 1, 1) := by decide +kernel
theorem dX12_figures_81 : decode cX12_figures 81 = .ok (.aload_n 0, 1) := by decide +kernel
theorem dX12_figures_82 : decode cX12_figures 82 = .ok (.dup, 1) := by decide +kernel
theorem dX12_figures_83 : decode cX12_figures 83 = .ok (.getfield 61, 3) := by decide +kernel
theorem dX12_figures_86 : decode cX12_figures 86 = .ok (.iconst 1, 1) := by decide +kernel
theorem dX12_figures_87 : decode cX12_figures 87 = .ok (.iadd, 1) := by decide +kernel
theorem dX12_figures_88 : decode cX12_figures 88 = .ok (.putfield 61, 3) := by decide +kernel
theorem dX12_figures_91 : decode cX12_figures 91 = .ok (.iinc 2 1, 3) := by decide +kernel
theorem dX12_figures_94 : decode cX12_figures 94 = .ok (.goto (-60), 3) := by decide +kernel
theorem dX12_figures_97 : decode cX12_figures 97 = .ok (.iload_n 1, 1) := by decide +kernel
theorem dX12_figures_98 : decode cX12_figures 98 = .ok (.ireturn, 1) := by decide +kernel
theorem dX12_among_0 : decode cX12_among 0 = .ok (.iconst 0, 1) := by decide +kernel
theorem dX12_among_1 : decode cX12_among 1 = .ok (.istore_n 2, 1) := by decide +kernel
theorem dX12_among_2 : decode cX12_among 2 = .ok (.iload_n 2, 1) := by decide +kernel
theorem dX12_among_3 : decode cX12_among 3 = .ok (.aload_n 1, 1) := by decide +kernel
theorem dX12_among_4 : decode cX12_among 4 = .ok (.invokevirtual 75, 3) := by decide +kernel
theorem dX12_among_7 : decode cX12_among 7 = .ok (.if_icmp .ge 33, 3) := by decide +kernel
theorem dX12_among_10 : decode cX12_among 10 = .ok (.aload_n 0, 1) := by decide +kernel
theorem dX12_among_11 : decode cX12_among 11 = .ok (.invokevirtual 71, 3) := by decide +kernel
theorem dX12_among_14 : decode cX12_among 14 = .ok (.aload_n 1, 1) := by decide +kernel
theorem dX12_among_15 : decode cX12_among 15 = .ok (.iload_n 2, 1) := by decide +kernel
theorem dX12_among_16 : decode cX12_among 16 = .ok (.invokevirtual 80, 3) := by decide +kernel
theorem dX12_among_19 : decode cX12_among 19 = .ok (.if_icmp .ne 15, 3) := by decide +kernel
theorem dX12_among_22 : decode cX12_among 22 = .ok (.aload_n 0, 1) := by decide +kernel
theorem dX12_among_23 : decode cX12_among 23 = .ok (.dup, 1) := by decide +kernel
theorem dX12_among_24 : decode cX12_among 24 = .ok (.getfield 61, 3) := by decide +kernel
theorem dX12_among_27 : decode cX12_among 27 = .ok (.iconst 1, 1) := by decide +kernel
theorem dX12_among_28 : decode cX12_among 28 = .ok (.iadd, 1) := by decide +kernel
theorem dX12_among_29 : decode cX12_among 29 = .ok (.putfield 61, 3) := by decide +kernel
theorem dX12_among_32 : decode cX12_among 32 = .ok (.iload_n 2, 1) := by decide +kernel
theorem dX12_among_33 : decode cX12_among 33 = .ok (.ireturn, 1) := by decide +kernel
theorem dX12_among_34 : decode cX12_among 34 = .ok (.iinc 2 1, 3) := by decide +kernel
theorem dX12_among_37 : decode cX12_among 37 = .ok (.goto (-35), 3) := by decide +kernel
theorem dX12_among_40 : decode cX12_among 40 = .ok (.iconst (-1), 1) := by decide +kernel
theorem dX12_among_41 : decode cX12_among 41 = .ok (.ireturn, 1) := by decide +kernel
theorem dX12_emits_0 : decode cX12_emits 0 = .ok (.aload_n 0, 1) := by decide +kernel
theorem dX12_emits_1 : decode cX12_emits 1 = .ok (.getfield 67, 3) := by decide +kernel
theorem dX12_emits_4 : decode cX12_emits 4 = .ok (.ifCond .ne 52, 3) := by decide +kernel
theorem dX12_emits_7 : decode cX12_emits 7 = .ok (.aload_n 0, 1) := by decide +kernel
theorem dX12_emits_8 : decode cX12_emits 8 = .ok (.getfield 9, 3) := by decide +kernel
theorem dX12_emits_11 : decode cX12_emits 11 = .ok (.sipush 218, 3) := by decide +kernel
theorem dX12_emits_14 : decode cX12_emits 14 = .ok (.sipush 140, 3) := by decide +kernel
theorem dX12_emits_17 : decode cX12_emits 17 = .ok (.aload_n 0, 1) := by decide +kernel
theorem dX12_emits_18 : decode cX12_emits 18 = .ok (.getfield 88, 3) := by decide +kernel
theorem dX12_emits_21 : decode cX12_emits 21 = .ok (.imul, 1) := by decide +kernel
theorem dX12_emits_22 : decode cX12_emits 22 = .ok (.iadd, 1) := by decide +kernel
theorem dX12_emits_23 : decode cX12_emits 23 = .ok (.aload_n 0, 1) := by decide +kernel
theorem dX12_emits_24 : decode cX12_emits 24 = .ok (.getfield 9, 3) := by decide +kernel
theorem dX12_emits_27 : decode cX12_emits 27 = .ok (.sipush 213, 3) := by decide +kernel
theorem dX12_emits_30 : decode cX12_emits 30 = .ok (.aload_n 0, 1) := by decide +kernel
theorem dX12_emits_31 : decode cX12_emits 31 = .ok (.getfield 88, 3) := by decide +kernel
theorem dX12_emits_34 : decode cX12_emits 34 = .ok (.iadd, 1) := by decide +kernel
theorem dX12_emits_35 : decode cX12_emits 35 = .ok (.iaload, 1) := by decide +kernel
theorem dX12_emits_36 : decode cX12_emits 36 = .ok (.iadd, 1) := by decide +kernel
theorem dX12_emits_37 : decode cX12_emits 37 = .ok (.iload_n 1, 1) := by decide +kernel
theorem dX12_emits_38 : decode cX12_emits 38 = .ok (.iastore, 1) := by decide +kernel
theorem dX12_emits_39 : decode cX12_emits 39 = .ok (.aload_n 0, 1) := by decide +kernel
theorem dX12_emits_40 : decode cX12_emits 40 = .ok (.getfield 9, 3) := by decide +kernel
theorem dX12_emits_43 : decode cX12_emits 43 = .ok (.sipush 213, 3) := by decide +kernel
theorem dX12_emits_46 : decode cX12_emits 46 = .ok (.aload_n 0, 1) := by decide +kernel
theorem dX12_emits_47 : decode cX12_emits 47 = .ok (.getfield 88, 3) := by decide +kernel
theorem dX12_emits_50 : decode cX12_emits 50 = .ok (.iadd, 1) := by decide +kernel
theorem dX12_emits_51 : decode cX12_emits 51 = .ok (.dup2, 1) := by decide +kernel
theorem dX12_emits_52 : decode cX12_emits 52 = .ok (.iaload, 1) := by decide +kernel
theorem dX12_emits_53 : decode cX12_emits 53 = .ok (.iconst 1, 1) := by decide +kernel
theorem dX12_emits_54 : decode cX12_emits 54 = .ok (.iadd, 1) := by decide +kernel
theorem dX12_emits_55 : decode cX12_emits 55 = .ok (.iastore, 1) := by decide +kernel
theorem dX12_emits_56 : decode cX12_emits 56 = .ok (.return_, 1) := by decide +kernel
theorem dX12_factor_0 : decode cX12_factor 0 = .ok (.aload_n 0, 1) := by decide +kernel
theorem dX12_factor_1 : decode cX12_factor 1 = .ok (.getfield 67, 3) := by decide +kernel
theorem dX12_factor_4 : decode cX12_factor 4 = .ok (.ifCond .eq 4, 3) := by decide +kernel
theorem dX12_factor_7 : decode cX12_factor 7 = .ok (.return_, 1) := by decide +kernel
theorem dX12_factor_8 : decode cX12_factor 8 = .ok (.aload_n 0, 1) := by decide +kernel
theorem dX12_factor_9 : decode cX12_factor 9 = .ok (.invokevirtual 71, 3) := by decide +kernel
theorem dX12_factor_12 : decode cX12_factor 12 = .ok (.istore_n 1, 1) := by decide +kernel
theorem dX12_factor_13 : decode cX12_factor 13 = .ok (.iload_n 1, 1) := by decide +kernel
theorem dX12_factor_14 : decode cX12_factor 14 = .ok (.bipush 33, 2) := by decide +kernel
theorem dX12_factor_16 : decode cX12_factor 16 = .ok (.if_icmp .eq 9, 3) := by decide +kernel
theorem dX12_factor_19 : decode cX12_factor 19 = .ok (.iload_n 1, 1) := by decide +kernel
theorem dX12_factor_20 : decode cX12_factor 20 = .ok (.bipush 40, 2) := by decide +kernel
theorem dX12_factor_22 : decode cX12_factor 22 = .ok (.if_icmp .ne 90, 3) := by decide +kernel
theorem dX12_factor_25 : decode cX12_factor 25 = .ok (.aload_n 0, 1) := by decide +kernel
theorem dX12_factor_26 : decode cX12_factor 26 = .ok (.aload_n 0, 1) := by decide +kernel
theorem dX12_factor_27 : decode cX12_factor 27 = .ok (.getfield 91, 3) := by decide +kernel
theorem dX12_factor_30 : decode cX12_factor 30 = .ok (.iconst 5, 1) := by decide +kernel
theorem dX12_factor_31 : decode cX12_factor 31 = .ok (.if_icmp .ne 7, 3) := by decide +kernel
theorem dX12_factor_34 : decode cX12_factor 34 = .ok (.iconst 1, 1) := by decide +kernel
theorem dX12_factor_35 : decode cX12_factor 35 = .ok (.goto 4, 3) := by decide +kernel
theorem dX12_factor_38 : decode cX12_factor 38 = .ok (.iconst 0, 1) := by decide +kernel
theorem dX12_factor_39 : decode cX12_factor 39 = .ok (.putfield 67, 3) := by decide +kernel
theorem dX12_factor_42 : decode cX12_factor 42 = .ok (.aload_n 0, 1) := by decide +kernel
theorem dX12_factor_43 : decode cX12_factor 43 = .ok (.dup, 1) := by decide +kernel
theorem dX12_factor_44 : decode cX12_factor 44 = .ok (.getfield 91, 3) := by decide +kernel
theorem dX12_factor_47 : decode cX12_factor 47 = .ok (.iconst 1, 1) := by decide +kernel
theorem dX12_factor_48 : decode cX12_factor 48 = .ok (.iadd, 1) := by decide +kernel
theorem dX12_factor_49 : decode cX12_factor 49 = .ok (.putfield 91, 3) := by decide +kernel
theorem dX12_factor_52 : decode cX12_factor 52 = .ok (.aload_n 0, 1) := by decide +kernel
theorem dX12_factor_53 : decode cX12_factor 53 = .ok (.dup, 1) := by decide +kernel
theorem dX12_factor_54 : decode cX12_factor 54 = .ok (.getfield 61, 3) := by decide +kernel
theorem dX12_factor_57 : decode cX12_factor 57 = .ok (.aload_n 0, 1) := by decide +kernel
theorem dX12_factor_58 : decode cX12_factor 58 = .ok (.getfield 67, 3) := by decide +kernel
theorem dX12_factor_61 : decode cX12_factor 61 = .ok (.ifCond .eq 7, 3) := by decide +kernel
theorem dX12_factor_64 : decode cX12_factor 64 = .ok (.iconst 0, 1) := by decide +kernel
theorem dX12_factor_65 : decode cX12_factor 65 = .ok (.goto 4, 3) := by decide +kernel
theorem dX12_factor_68 : decode cX12_factor 68 = .ok (.iconst 1, 1) := by decide +kernel
theorem dX12_factor_69 : decode cX12_factor 69 = .ok (.iadd, 1) := by decide +kernel
theorem dX12_factor_70 : decode cX12_factor 70 = .ok (.putfield 61, 3) := by decide +kernel
theorem dX12_factor_73 : decode cX12_factor 73 = .ok (.iload_n 1, 1) := by decide +kernel
theorem dX12_factor_74 : decode cX12_factor 74 = .ok (.bipush 33, 2) := by decide +kernel
theorem dX12_factor_76 : decode cX12_factor 76 = .ok (.if_icmp .ne 15, 3) := by decide +kernel
theorem dX12_factor_79 : decode cX12_factor 79 = .ok (.aload_n 0, 1) := by decide +kernel
theorem dX12_factor_80 : decode cX12_factor 80 = .ok (.invokevirtual 94, 3) := by decide +kernel
theorem dX12_factor_83 : decode cX12_factor 83 = .ok (.aload_n 0, 1) := by decide +kernel
theorem dX12_factor_84 : decode cX12_factor 84 = .ok (.iconst (-1), 1) := by decide +kernel
theorem dX12_factor_85 : decode cX12_factor 85 = .ok (.invokevirtual 97, 3) := by decide +kernel
theorem dX12_factor_88 : decode cX12_factor 88 = .ok (.goto 13, 3) := by decide +kernel
theorem dX12_factor_91 : decode cX12_factor 91 = .ok (.aload_n 0, 1) := by decide +kernel
theorem dX12_factor_92 : decode cX12_factor 92 = .ok (.invokevirtual 100, 3) := by decide +kernel
theorem dX12_factor_95 : decode cX12_factor 95 = .ok (.aload_n 0, 1) := by decide +kernel
theorem dX12_factor_96 : decode cX12_factor 96 = .ok (.bipush 41, 2) := by decide +kernel
theorem dX12_factor_98 : decode cX12_factor 98 = .ok (.invokevirtual 84, 3) := by decide +kernel
theorem dX12_factor_101 : decode cX12_factor 101 = .ok (.aload_n 0, 1) := by decide +kernel
theorem dX12_factor_102 : decode cX12_factor 102 = .ok (.dup, 1) := by decide +kernel
theorem dX12_factor_103 : decode cX12_factor 103 = .ok (.getfield 91, 3) := by decide +kernel
theorem dX12_factor_106 : decode cX12_factor 106 = .ok (.iconst 1, 1) := by decide +kernel
theorem dX12_factor_107 : decode cX12_factor 107 = .ok (.isub, 1) := by decide +kernel
theorem dX12_factor_108 : decode cX12_factor 108 = .ok (.putfield 91, 3) := by decide +kernel
theorem dX12_factor_111 : decode cX12_factor 111 = .ok (.return_, 1) := by decide +kernel
theorem dX12_factor_112 : decode cX12_factor 112 = .ok (.aload_n 0, 1) := by decide +kernel
theorem dX12_factor_113 : decode cX12_factor 113 = .ok (.ldc 103, 2) := by decide +kernel
theorem dX12_factor_115 : decode cX12_factor 115 = .ok (.invokevirtual 105, 3) := by decide +kernel
theorem dX12_factor_118 : decode cX12_factor 118 = .ok (.istore_n 2, 1) := by decide +kernel
theorem dX12_factor_119 : decode cX12_factor 119 = .ok (.aload_n 0, 1) := by decide +kernel
theorem dX12_factor_120 : decode cX12_factor 120 = .ok (.iload_n 2, 1) := by decide +kernel
theorem dX12_factor_121 : decode cX12_factor 121 = .ok (.iconst (-1), 1) := by decide +kernel
theorem dX12_factor_122 : decode cX12_factor 122 = .ok (.if_icmp .ne 7, 3) := by decide +kernel
theorem dX12_factor_125 : decode cX12_factor 125 = .ok (.iconst 1, 1) := by decide +kernel
theorem dX12_factor_126 : decode cX12_factor 126 = .ok (.goto 4, 3) := by decide +kernel
theorem dX12_factor_129 : decode cX12_factor 129 = .ok (.iconst 0, 1) := by decide +kernel
theorem dX12_factor_130 : decode cX12_factor 130 = .ok (.putfield 67, 3) := by decide +kernel
theorem dX12_factor_133 : decode cX12_factor 133 = .ok (.aload_n 0, 1) := by decide +kernel
theorem dX12_factor_134 : decode cX12_factor 134 = .ok (.getfield 67, 3) := by decide +kernel
theorem dX12_factor_137 : decode cX12_factor 137 = .ok (.ifCond .eq 7, 3) := by decide +kernel
theorem dX12_factor_140 : decode cX12_factor 140 = .ok (.iconst 0, 1) := by decide +kernel
theorem dX12_factor_141 : decode cX12_factor 141 = .ok (.goto 9, 3) := by decide +kernel
theorem dX12_factor_144 : decode cX12_factor 144 = .ok (.aload_n 0, 1) := by decide +kernel
theorem dX12_factor_145 : decode cX12_factor 145 = .ok (.ldc 109, 2) := by decide +kernel
theorem dX12_factor_147 : decode cX12_factor 147 = .ok (.invokevirtual 105, 3) := by decide +kernel
theorem dX12_factor_150 : decode cX12_factor 150 = .ok (.istore_n 3, 1) := by decide +kernel
theorem dX12_factor_151 : decode cX12_factor 151 = .ok (.aload_n 0, 1) := by decide +kernel
theorem dX12_factor_152 : decode cX12_factor 152 = .ok (.aload_n 0, 1) := by decide +kernel
theorem dX12_factor_153 : decode cX12_factor 153 = .ok (.getfield 67, 3) := by decide +kernel
theorem dX12_factor_156 : decode cX12_factor 156 = .ok (.ifCond .ne 8, 3) := by decide +kernel
theorem dX12_factor_159 : decode cX12_factor 159 = .ok (.iload_n 3, 1) := by decide +kernel
theorem dX12_factor_160 : decode cX12_factor 160 = .ok (.iconst (-1), 1) := by decide +kernel
theorem dX12_factor_161 : decode cX12_factor 161 = .ok (.if_icmp .ne 7, 3) := by decide +kernel
theorem dX12_factor_164 : decode cX12_factor 164 = .ok (.iconst 1, 1) := by decide +kernel
theorem dX12_factor_165 : decode cX12_factor 165 = .ok (.goto 4, 3) := by decide +kernel
theorem dX12_factor_168 : decode cX12_factor 168 = .ok (.iconst 0, 1) := by decide +kernel
theorem dX12_factor_169 : decode cX12_factor 169 = .ok (.putfield 67, 3) := by decide +kernel
theorem dX12_factor_172 : decode cX12_factor 172 = .ok (.aload_n 0, 1) := by decide +kernel
theorem dX12_factor_173 : decode cX12_factor 173 = .ok (.invokevirtual 111, 3) := by decide +kernel
theorem dX12_factor_176 : decode cX12_factor 176 = .ok (.istore 4, 2) := by decide +kernel
theorem dX12_factor_178 : decode cX12_factor 178 = .ok (.aload_n 0, 1) := by decide +kernel
theorem dX12_factor_179 : decode cX12_factor 179 = .ok (.iload_n 2, 1) := by decide +kernel
theorem dX12_factor_180 : decode cX12_factor 180 = .ok (.bipush 8, 2) := by decide +kernel
theorem dX12_factor_182 : decode cX12_factor 182 = .ok (.iload_n 3, 1) := by decide +kernel
theorem dX12_factor_183 : decode cX12_factor 183 = .ok (.imul, 1) := by decide +kernel
theorem dX12_factor_184 : decode cX12_factor 184 = .ok (.iadd, 1) := by decide +kernel
theorem dX12_factor_185 : decode cX12_factor 185 = .ok (.bipush 32, 2) := by decide +kernel
theorem dX12_factor_187 : decode cX12_factor 187 = .ok (.iload 4, 2) := by decide +kernel
theorem dX12_factor_189 : decode cX12_factor 189 = .ok (.imul, 1) := by decide +kernel
theorem dX12_factor_190 : decode cX12_factor 190 = .ok (.iadd, 1) := by decide +kernel
theorem dX12_factor_191 : decode cX12_factor 191 = .ok (.invokevirtual 97, 3) := by decide +kernel
theorem dX12_factor_194 : decode cX12_factor 194 = .ok (.return_, 1) := by decide +kernel
theorem dX12_every_0 : decode cX12_every 0 = .ok (.aload_n 0, 1) := by decide +kernel
theorem dX12_every_1 : decode cX12_every 1 = .ok (.invokevirtual 94, 3) := by decide +kernel
theorem dX12_every_4 : decode cX12_every 4 = .ok (.aload_n 0, 1) := by decide +kernel
theorem dX12_every_5 : decode cX12_every 5 = .ok (.getfield 67, 3) := by decide +kernel
theorem dX12_every_8 : decode cX12_every 8 = .ok (.ifCond .ne 35, 3) := by decide +kernel
theorem dX12_every_11 : decode cX12_every 11 = .ok (.aload_n 0, 1) := by decide +kernel
theorem dX12_every_12 : decode cX12_every 12 = .ok (.invokevirtual 71, 3) := by decide +kernel
theorem dX12_every_15 : decode cX12_every 15 = .ok (.bipush 38, 2) := by decide +kernel
theorem dX12_every_17 : decode cX12_every 17 = .ok (.if_icmp .ne 26, 3) := by decide +kernel
theorem dX12_every_20 : decode cX12_every 20 = .ok (.aload_n 0, 1) := by decide +kernel
theorem dX12_every_21 : decode cX12_every 21 = .ok (.dup, 1) := by decide +kernel
theorem dX12_every_22 : decode cX12_every 22 = .ok (.getfield 61, 3) := by decide +kernel
theorem dX12_every_25 : decode cX12_every 25 = .ok (.iconst 1, 1) := by decide +kernel
theorem dX12_every_26 : decode cX12_every 26 = .ok (.iadd, 1) := by decide +kernel
theorem dX12_every_27 : decode cX12_every 27 = .ok (.putfield 61, 3) := by decide +kernel
theorem dX12_every_30 : decode cX12_every 30 = .ok (.aload_n 0, 1) := by decide +kernel
theorem dX12_every_31 : decode cX12_every 31 = .ok (.invokevirtual 94, 3) := by decide +kernel
theorem dX12_every_34 : decode cX12_every 34 = .ok (.aload_n 0, 1) := by decide +kernel
theorem dX12_every_35 : decode cX12_every 35 = .ok (.bipush (-2), 2) := by decide +kernel
theorem dX12_every_37 : decode cX12_every 37 = .ok (.invokevirtual 97, 3) := by decide +kernel
theorem dX12_every_40 : decode cX12_every 40 = .ok (.goto (-36), 3) := by decide +kernel
theorem dX12_every_43 : decode cX12_every 43 = .ok (.return_, 1) := by decide +kernel
theorem dX12_some_0 : decode cX12_some 0 = .ok (.aload_n 0, 1) := by decide +kernel
theorem dX12_some_1 : decode cX12_some 1 = .ok (.invokevirtual 114, 3) := by decide +kernel
theorem dX12_some_4 : decode cX12_some 4 = .ok (.aload_n 0, 1) := by decide +kernel
theorem dX12_some_5 : decode cX12_some 5 = .ok (.getfield 67, 3) := by decide +kernel
theorem dX12_some_8 : decode cX12_some 8 = .ok (.ifCond .ne 35, 3) := by decide +kernel
theorem dX12_some_11 : decode cX12_some 11 = .ok (.aload_n 0, 1) := by decide +kernel
theorem dX12_some_12 : decode cX12_some 12 = .ok (.invokevirtual 71, 3) := by decide +kernel
theorem dX12_some_15 : decode cX12_some 15 = .ok (.bipush 124, 2) := by decide +kernel
theorem dX12_some_17 : decode cX12_some 17 = .ok (.if_icmp .ne 26, 3) := by decide +kernel
theorem dX12_some_20 : decode cX12_some 20 = .ok (.aload_n 0, 1) := by decide +kernel
theorem dX12_some_21 : decode cX12_some 21 = .ok (.dup, 1) := by decide +kernel
theorem dX12_some_22 : decode cX12_some 22 = .ok (.getfield 61, 3) := by decide +kernel
theorem dX12_some_25 : decode cX12_some 25 = .ok (.iconst 1, 1) := by decide +kernel
theorem dX12_some_26 : decode cX12_some 26 = .ok (.iadd, 1) := by decide +kernel
theorem dX12_some_27 : decode cX12_some 27 = .ok (.putfield 61, 3) := by decide +kernel
theorem dX12_some_30 : decode cX12_some 30 = .ok (.aload_n 0, 1) := by decide +kernel
theorem dX12_some_31 : decode cX12_some 31 = .ok (.invokevirtual 114, 3) := by decide +kernel
theorem dX12_some_34 : decode cX12_some 34 = .ok (.aload_n 0, 1) := by decide +kernel
theorem dX12_some_35 : decode cX12_some 35 = .ok (.bipush (-3), 2) := by decide +kernel
theorem dX12_some_37 : decode cX12_some 37 = .ok (.invokevirtual 97, 3) := by decide +kernel
theorem dX12_some_40 : decode cX12_some 40 = .ok (.goto (-36), 3) := by decide +kernel
theorem dX12_some_43 : decode cX12_some 43 = .ok (.return_, 1) := by decide +kernel
theorem dX12_much_0 : decode cX12_much 0 = .ok (.aload_n 0, 1) := by decide +kernel
theorem dX12_much_1 : decode cX12_much 1 = .ok (.aload_n 2, 1) := by decide +kernel
theorem dX12_much_2 : decode cX12_much 2 = .ok (.invokevirtual 117, 3) := by decide +kernel
theorem dX12_much_5 : decode cX12_much 5 = .ok (.aload_n 0, 1) := by decide +kernel
theorem dX12_much_6 : decode cX12_much 6 = .ok (.invokevirtual 111, 3) := by decide +kernel
theorem dX12_much_9 : decode cX12_much 9 = .ok (.istore_n 3, 1) := by decide +kernel
theorem dX12_much_10 : decode cX12_much 10 = .ok (.aload_n 0, 1) := by decide +kernel
theorem dX12_much_11 : decode cX12_much 11 = .ok (.bipush 32, 2) := by decide +kernel
theorem dX12_much_13 : decode cX12_much 13 = .ok (.invokevirtual 84, 3) := by decide +kernel
theorem dX12_much_16 : decode cX12_much 16 = .ok (.aload_n 0, 1) := by decide +kernel
theorem dX12_much_17 : decode cX12_much 17 = .ok (.invokevirtual 100, 3) := by decide +kernel
theorem dX12_much_20 : decode cX12_much 20 = .ok (.aload_n 0, 1) := by decide +kernel
theorem dX12_much_21 : decode cX12_much 21 = .ok (.iload_n 1, 1) := by decide +kernel
theorem dX12_much_22 : decode cX12_much 22 = .ok (.iload_n 3, 1) := by decide +kernel
theorem dX12_much_23 : decode cX12_much 23 = .ok (.isub, 1) := by decide +kernel
theorem dX12_much_24 : decode cX12_much 24 = .ok (.invokevirtual 97, 3) := by decide +kernel
theorem dX12_much_27 : decode cX12_much 27 = .ok (.return_, 1) := by decide +kernel
theorem dX12_clauseHere_0 : decode cX12_clauseHere 0 = .ok (.aload_n 0, 1) := by decide +kernel
theorem dX12_clauseHere_1 : decode cX12_clauseHere 1 = .ok (.invokevirtual 71, 3) := by decide +kernel
theorem dX12_clauseHere_4 : decode cX12_clauseHere 4 = .ok (.lookupswitch 110 #[(100, 36), (101, 47), (109, 59)], 36) := by decide +kernel
theorem dX12_clauseHere_40 : decode cX12_clauseHere 40 = .ok (.aload_n 0, 1) := by decide +kernel
theorem dX12_clauseHere_41 : decode cX12_clauseHere 41 = .ok (.bipush (-10), 2) := by decide +kernel
theorem dX12_clauseHere_43 : decode cX12_clauseHere 43 = .ok (.ldc 121, 2) := by decide +kernel
theorem dX12_clauseHere_45 : decode cX12_clauseHere 45 = .ok (.invokevirtual 123, 3) := by decide +kernel
theorem dX12_clauseHere_48 : decode cX12_clauseHere 48 = .ok (.goto 71, 3) := by decide +kernel
theorem dX12_clauseHere_51 : decode cX12_clauseHere 51 = .ok (.aload_n 0, 1) := by decide +kernel
theorem dX12_clauseHere_52 : decode cX12_clauseHere 52 = .ok (.sipush (-2000), 3) := by decide +kernel
theorem dX12_clauseHere_55 : decode cX12_clauseHere 55 = .ok (.ldc 127, 2) := by decide +kernel
theorem dX12_clauseHere_57 : decode cX12_clauseHere 57 = .ok (.invokevirtual 123, 3) := by decide +kernel
theorem dX12_clauseHere_60 : decode cX12_clauseHere 60 = .ok (.goto 59, 3) := by decide +kernel
theorem dX12_clauseHere_63 : decode cX12_clauseHere 63 = .ok (.aload_n 0, 1) := by decide +kernel
theorem dX12_clauseHere_64 : decode cX12_clauseHere 64 = .ok (.ldc 129, 2) := by decide +kernel
theorem dX12_clauseHere_66 : decode cX12_clauseHere 66 = .ok (.invokevirtual 117, 3) := by decide +kernel
theorem dX12_clauseHere_69 : decode cX12_clauseHere 69 = .ok (.aload_n 0, 1) := by decide +kernel
theorem dX12_clauseHere_70 : decode cX12_clauseHere 70 = .ok (.invokevirtual 111, 3) := by decide +kernel
theorem dX12_clauseHere_73 : decode cX12_clauseHere 73 = .ok (.istore_n 1, 1) := by decide +kernel
theorem dX12_clauseHere_74 : decode cX12_clauseHere 74 = .ok (.aload_n 0, 1) := by decide +kernel
theorem dX12_clauseHere_75 : decode cX12_clauseHere 75 = .ok (.getfield 9, 3) := by decide +kernel
theorem dX12_clauseHere_78 : decode cX12_clauseHere 78 = .ok (.sipush 208, 3) := by decide +kernel
theorem dX12_clauseHere_81 : decode cX12_clauseHere 81 = .ok (.aload_n 0, 1) := by decide +kernel
theorem dX12_clauseHere_82 : decode cX12_clauseHere 82 = .ok (.getfield 88, 3) := by decide +kernel
theorem dX12_clauseHere_85 : decode cX12_clauseHere 85 = .ok (.iadd, 1) := by decide +kernel
theorem dX12_clauseHere_86 : decode cX12_clauseHere 86 = .ok (.aload_n 0, 1) := by decide +kernel
theorem dX12_clauseHere_87 : decode cX12_clauseHere 87 = .ok (.getfield 67, 3) := by decide +kernel
theorem dX12_clauseHere_90 : decode cX12_clauseHere 90 = .ok (.ifCond .eq 19, 3) := by decide +kernel
theorem dX12_clauseHere_93 : decode cX12_clauseHere 93 = .ok (.aload_n 0, 1) := by decide +kernel
theorem dX12_clauseHere_94 : decode cX12_clauseHere 94 = .ok (.getfield 9, 3) := by decide +kernel
theorem dX12_clauseHere_97 : decode cX12_clauseHere 97 = .ok (.sipush 208, 3) := by decide +kernel
theorem dX12_clauseHere_100 : decode cX12_clauseHere 100 = .ok (.aload_n 0, 1) := by decide +kernel
theorem dX12_clauseHere_101 : decode cX12_clauseHere 101 = .ok (.getfield 88, 3) := by decide +kernel
theorem dX12_clauseHere_104 : decode cX12_clauseHere 104 = .ok (.iadd, 1) := by decide +kernel
theorem dX12_clauseHere_105 : decode cX12_clauseHere 105 = .ok (.iaload, 1) := by decide +kernel
theorem dX12_clauseHere_106 : decode cX12_clauseHere 106 = .ok (.goto 4, 3) := by decide +kernel
theorem dX12_clauseHere_109 : decode cX12_clauseHere 109 = .ok (.iload_n 1, 1) := by decide +kernel
theorem dX12_clauseHere_110 : decode cX12_clauseHere 110 = .ok (.iastore, 1) := by decide +kernel
theorem dX12_clauseHere_111 : decode cX12_clauseHere 111 = .ok (.goto 8, 3) := by decide +kernel
theorem dX12_clauseHere_114 : decode cX12_clauseHere 114 = .ok (.aload_n 0, 1) := by decide +kernel
theorem dX12_clauseHere_115 : decode cX12_clauseHere 115 = .ok (.iconst 1, 1) := by decide +kernel
theorem dX12_clauseHere_116 : decode cX12_clauseHere 116 = .ok (.putfield 67, 3) := by decide +kernel
theorem dX12_clauseHere_119 : decode cX12_clauseHere 119 = .ok (.return_, 1) := by decide +kernel
theorem dX12_law_0 : decode cX12_law 0 = .ok (.aload_n 0, 1) := by decide +kernel
theorem dX12_law_1 : decode cX12_law 1 = .ok (.getfield 9, 3) := by decide +kernel
theorem dX12_law_4 : decode cX12_law 4 = .ok (.iconst 2, 1) := by decide +kernel
theorem dX12_law_5 : decode cX12_law 5 = .ok (.iaload, 1) := by decide +kernel
theorem dX12_law_6 : decode cX12_law 6 = .ok (.iconst 5, 1) := by decide +kernel
theorem dX12_law_7 : decode cX12_law 7 = .ok (.if_icmp .ne 6, 3) := by decide +kernel
theorem dX12_law_10 : decode cX12_law 10 = .ok (.bipush (-4), 2) := by decide +kernel
theorem dX12_law_12 : decode cX12_law 12 = .ok (.ireturn, 1) := by decide +kernel
theorem dX12_law_13 : decode cX12_law 13 = .ok (.aload_n 0, 1) := by decide +kernel
theorem dX12_law_14 : decode cX12_law 14 = .ok (.aload_n 0, 1) := by decide +kernel
theorem dX12_law_15 : decode cX12_law 15 = .ok (.getfield 9, 3) := by decide +kernel
theorem dX12_law_18 : decode cX12_law 18 = .ok (.iconst 2, 1) := by decide +kernel
theorem dX12_law_19 : decode cX12_law 19 = .ok (.iaload, 1) := by decide +kernel
theorem dX12_law_20 : decode cX12_law 20 = .ok (.putfield 88, 3) := by decide +kernel
theorem dX12_law_23 : decode cX12_law 23 = .ok (.aload_n 0, 1) := by decide +kernel
theorem dX12_law_24 : decode cX12_law 24 = .ok (.aload_n 0, 1) := by decide +kernel
theorem dX12_law_25 : decode cX12_law 25 = .ok (.getfield 9, 3) := by decide +kernel
theorem dX12_law_28 : decode cX12_law 28 = .ok (.iconst 4, 1) := by decide +kernel
theorem dX12_law_29 : decode cX12_law 29 = .ok (.iaload, 1) := by decide +kernel
theorem dX12_law_30 : decode cX12_law 30 = .ok (.putfield 64, 3) := by decide +kernel
theorem dX12_law_33 : decode cX12_law 33 = .ok (.aload_n 0, 1) := by decide +kernel
theorem dX12_law_34 : decode cX12_law 34 = .ok (.getfield 9, 3) := by decide +kernel
theorem dX12_law_37 : decode cX12_law 37 = .ok (.iconst 4, 1) := by decide +kernel
theorem dX12_law_38 : decode cX12_law 38 = .ok (.iconst 0, 1) := by decide +kernel
theorem dX12_law_39 : decode cX12_law 39 = .ok (.iastore, 1) := by decide +kernel
theorem dX12_law_40 : decode cX12_law 40 = .ok (.aload_n 0, 1) := by decide +kernel
theorem dX12_law_41 : decode cX12_law 41 = .ok (.getfield 9, 3) := by decide +kernel
theorem dX12_law_44 : decode cX12_law 44 = .ok (.sipush 208, 3) := by decide +kernel
theorem dX12_law_47 : decode cX12_law 47 = .ok (.aload_n 0, 1) := by decide +kernel
theorem dX12_law_48 : decode cX12_law 48 = .ok (.getfield 88, 3) := by decide +kernel
theorem dX12_law_51 : decode cX12_law 51 = .ok (.iadd, 1) := by decide +kernel
theorem dX12_law_52 : decode cX12_law 52 = .ok (.sipush 999, 3) := by decide +kernel
theorem dX12_law_55 : decode cX12_law 55 = .ok (.iastore, 1) := by decide +kernel
theorem dX12_law_56 : decode cX12_law 56 = .ok (.aload_n 0, 1) := by decide +kernel
theorem dX12_law_57 : decode cX12_law 57 = .ok (.getfield 9, 3) := by decide +kernel
theorem dX12_law_60 : decode cX12_law 60 = .ok (.sipush 213, 3) := by decide +kernel
theorem dX12_law_63 : decode cX12_law 63 = .ok (.aload_n 0, 1) := by decide +kernel
theorem dX12_law_64 : decode cX12_law 64 = .ok (.getfield 88, 3) := by decide +kernel
theorem dX12_law_67 : decode cX12_law 67 = .ok (.iadd, 1) := by decide +kernel
theorem dX12_law_68 : decode cX12_law 68 = .ok (.iconst 0, 1) := by decide +kernel
theorem dX12_law_69 : decode cX12_law 69 = .ok (.iastore, 1) := by decide +kernel
theorem dX12_law_70 : decode cX12_law 70 = .ok (.aload_n 0, 1) := by decide +kernel
theorem dX12_law_71 : decode cX12_law 71 = .ok (.iconst 0, 1) := by decide +kernel
theorem dX12_law_72 : decode cX12_law 72 = .ok (.putfield 61, 3) := by decide +kernel
theorem dX12_law_75 : decode cX12_law 75 = .ok (.aload_n 0, 1) := by decide +kernel
theorem dX12_law_76 : decode cX12_law 76 = .ok (.iconst 0, 1) := by decide +kernel
theorem dX12_law_77 : decode cX12_law 77 = .ok (.putfield 67, 3) := by decide +kernel
theorem dX12_law_80 : decode cX12_law 80 = .ok (.aload_n 0, 1) := by decide +kernel
theorem dX12_law_81 : decode cX12_law 81 = .ok (.iconst 0, 1) := by decide +kernel
theorem dX12_law_82 : decode cX12_law 82 = .ok (.putfield 91, 3) := by decide +kernel
theorem dX12_law_85 : decode cX12_law 85 = .ok (.iconst 1, 1) := by decide +kernel
theorem dX12_law_86 : decode cX12_law 86 = .ok (.istore_n 1, 1) := by decide +kernel
theorem dX12_law_87 : decode cX12_law 87 = .ok (.aload_n 0, 1) := by decide +kernel
theorem dX12_law_88 : decode cX12_law 88 = .ok (.invokevirtual 131, 3) := by decide +kernel
theorem dX12_law_91 : decode cX12_law 91 = .ok (.aload_n 0, 1) := by decide +kernel
theorem dX12_law_92 : decode cX12_law 92 = .ok (.getfield 67, 3) := by decide +kernel
theorem dX12_law_95 : decode cX12_law 95 = .ok (.ifCond .ne 38, 3) := by decide +kernel
theorem dX12_law_98 : decode cX12_law 98 = .ok (.iload_n 1, 1) := by decide +kernel
theorem dX12_law_99 : decode cX12_law 99 = .ok (.bipush 8, 2) := by decide +kernel
theorem dX12_law_101 : decode cX12_law 101 = .ok (.if_icmp .ge 32, 3) := by decide +kernel
theorem dX12_law_104 : decode cX12_law 104 = .ok (.aload_n 0, 1) := by decide +kernel
theorem dX12_law_105 : decode cX12_law 105 = .ok (.invokevirtual 71, 3) := by decide +kernel
theorem dX12_law_108 : decode cX12_law 108 = .ok (.bipush 59, 2) := by decide +kernel
theorem dX12_law_110 : decode cX12_law 110 = .ok (.if_icmp .ne 23, 3) := by decide +kernel
theorem dX12_law_113 : decode cX12_law 113 = .ok (.aload_n 0, 1) := by decide +kernel
theorem dX12_law_114 : decode cX12_law 114 = .ok (.dup, 1) := by decide +kernel
theorem dX12_law_115 : decode cX12_law 115 = .ok (.getfield 61, 3) := by decide +kernel
theorem dX12_law_118 : decode cX12_law 118 = .ok (.iconst 1, 1) := by decide +kernel
theorem dX12_law_119 : decode cX12_law 119 = .ok (.iadd, 1) := by decide +kernel
theorem dX12_law_120 : decode cX12_law 120 = .ok (.putfield 61, 3) := by decide +kernel
theorem dX12_law_123 : decode cX12_law 123 = .ok (.aload_n 0, 1) := by decide +kernel
theorem dX12_law_124 : decode cX12_law 124 = .ok (.invokevirtual 131, 3) := by decide +kernel
theorem dX12_law_127 : decode cX12_law 127 = .ok (.iinc 1 1, 3) := by decide +kernel
theorem dX12_law_130 : decode cX12_law 130 = .ok (.goto (-39), 3) := by decide +kernel
theorem dX12_law_133 : decode cX12_law 133 = .ok (.aload_n 0, 1) := by decide +kernel
theorem dX12_law_134 : decode cX12_law 134 = .ok (.getfield 67, 3) := by decide +kernel
theorem dX12_law_137 : decode cX12_law 137 = .ok (.ifCond .ne 14, 3) := by decide +kernel
theorem dX12_law_140 : decode cX12_law 140 = .ok (.aload_n 0, 1) := by decide +kernel
theorem dX12_law_141 : decode cX12_law 141 = .ok (.getfield 61, 3) := by decide +kernel
theorem dX12_law_144 : decode cX12_law 144 = .ok (.aload_n 0, 1) := by decide +kernel
theorem dX12_law_145 : decode cX12_law 145 = .ok (.getfield 64, 3) := by decide +kernel
theorem dX12_law_148 : decode cX12_law 148 = .ok (.if_icmp .eq 11, 3) := by decide +kernel
theorem dX12_law_151 : decode cX12_law 151 = .ok (.bipush (-10), 2) := by decide +kernel
theorem dX12_law_153 : decode cX12_law 153 = .ok (.aload_n 0, 1) := by decide +kernel
theorem dX12_law_154 : decode cX12_law 154 = .ok (.getfield 61, 3) := by decide +kernel
theorem dX12_law_157 : decode cX12_law 157 = .ok (.isub, 1) := by decide +kernel
theorem dX12_law_158 : decode cX12_law 158 = .ok (.ireturn, 1) := by decide +kernel
theorem dX12_law_159 : decode cX12_law 159 = .ok (.aload_n 0, 1) := by decide +kernel
theorem dX12_law_160 : decode cX12_law 160 = .ok (.getfield 9, 3) := by decide +kernel
theorem dX12_law_163 : decode cX12_law 163 = .ok (.iconst 2, 1) := by decide +kernel
theorem dX12_law_164 : decode cX12_law 164 = .ok (.dup2, 1) := by decide +kernel
theorem dX12_law_165 : decode cX12_law 165 = .ok (.iaload, 1) := by decide +kernel
theorem dX12_law_166 : decode cX12_law 166 = .ok (.iconst 1, 1) := by decide +kernel
theorem dX12_law_167 : decode cX12_law 167 = .ok (.iadd, 1) := by decide +kernel
theorem dX12_law_168 : decode cX12_law 168 = .ok (.iastore, 1) := by decide +kernel
theorem dX12_law_169 : decode cX12_law 169 = .ok (.aload_n 0, 1) := by decide +kernel
theorem dX12_law_170 : decode cX12_law 170 = .ok (.getfield 9, 3) := by decide +kernel
theorem dX12_law_173 : decode cX12_law 173 = .ok (.bipush 8, 2) := by decide +kernel
theorem dX12_law_175 : decode cX12_law 175 = .ok (.aload_n 0, 1) := by decide +kernel
theorem dX12_law_176 : decode cX12_law 176 = .ok (.getfield 88, 3) := by decide +kernel
theorem dX12_law_179 : decode cX12_law 179 = .ok (.iastore, 1) := by decide +kernel
theorem dX12_law_180 : decode cX12_law 180 = .ok (.aload_n 0, 1) := by decide +kernel
theorem dX12_law_181 : decode cX12_law 181 = .ok (.getfield 88, 3) := by decide +kernel
theorem dX12_law_184 : decode cX12_law 184 = .ok (.ireturn, 1) := by decide +kernel
theorem dX12_percent_0 : decode cX12_percent 0 = .ok (.iconst 0, 1) := by decide +kernel
theorem dX12_percent_1 : decode cX12_percent 1 = .ok (.istore_n 1, 1) := by decide +kernel
theorem dX12_percent_2 : decode cX12_percent 2 = .ok (.iconst 0, 1) := by decide +kernel
theorem dX12_percent_3 : decode cX12_percent 3 = .ok (.istore_n 2, 1) := by decide +kernel
theorem dX12_percent_4 : decode cX12_percent 4 = .ok (.sipush 218, 3) := by decide +kernel
theorem dX12_percent_7 : decode cX12_percent 7 = .ok (.sipush 140, 3) := by decide +kernel
theorem dX12_percent_10 : decode cX12_percent 10 = .ok (.aload_n 0, 1) := by decide +kernel
theorem dX12_percent_11 : decode cX12_percent 11 = .ok (.getfield 9, 3) := by decide +kernel
theorem dX12_percent_14 : decode cX12_percent 14 = .ok (.bipush 8, 2) := by decide +kernel
theorem dX12_percent_16 : decode cX12_percent 16 = .ok (.iaload, 1) := by decide +kernel
theorem dX12_percent_17 : decode cX12_percent 17 = .ok (.imul, 1) := by decide +kernel
theorem dX12_percent_18 : decode cX12_percent 18 = .ok (.iadd, 1) := by decide +kernel
theorem dX12_percent_19 : decode cX12_percent 19 = .ok (.istore_n 3, 1) := by decide +kernel
theorem dX12_percent_20 : decode cX12_percent 20 = .ok (.iload_n 3, 1) := by decide +kernel
theorem dX12_percent_21 : decode cX12_percent 21 = .ok (.istore 4, 2) := by decide +kernel
theorem dX12_percent_23 : decode cX12_percent 23 = .ok (.iload 4, 2) := by decide +kernel
theorem dX12_percent_25 : decode cX12_percent 25 = .ok (.iload_n 3, 1) := by decide +kernel
theorem dX12_percent_26 : decode cX12_percent 26 = .ok (.aload_n 0, 1) := by decide +kernel
theorem dX12_percent_27 : decode cX12_percent 27 = .ok (.getfield 9, 3) := by decide +kernel
theorem dX12_percent_30 : decode cX12_percent 30 = .ok (.sipush 213, 3) := by decide +kernel
theorem dX12_percent_33 : decode cX12_percent 33 = .ok (.aload_n 0, 1) := by decide +kernel
theorem dX12_percent_34 : decode cX12_percent 34 = .ok (.getfield 9, 3) := by decide +kernel
theorem dX12_percent_37 : decode cX12_percent 37 = .ok (.bipush 8, 2) := by decide +kernel
theorem dX12_percent_39 : decode cX12_percent 39 = .ok (.iaload, 1) := by decide +kernel
theorem dX12_percent_40 : decode cX12_percent 40 = .ok (.iadd, 1) := by decide +kernel
theorem dX12_percent_41 : decode cX12_percent 41 = .ok (.iaload, 1) := by decide +kernel
theorem dX12_percent_42 : decode cX12_percent 42 = .ok (.iadd, 1) := by decide +kernel
theorem dX12_percent_43 : decode cX12_percent 43 = .ok (.if_icmp .ge 270, 3) := by decide +kernel
theorem dX12_percent_46 : decode cX12_percent 46 = .ok (.aload_n 0, 1) := by decide +kernel
theorem dX12_percent_47 : decode cX12_percent 47 = .ok (.getfield 9, 3) := by decide +kernel
theorem dX12_percent_50 : decode cX12_percent 50 = .ok (.iload 4, 2) := by decide +kernel
theorem dX12_percent_52 : decode cX12_percent 52 = .ok (.iaload, 1) := by decide +kernel
theorem dX12_percent_53 : decode cX12_percent 53 = .ok (.istore 5, 2) := by decide +kernel
theorem dX12_percent_55 : decode cX12_percent 55 = .ok (.iload 5, 2) := by decide +kernel
theorem dX12_percent_57 : decode cX12_percent 57 = .ok (.ifCond .lt 96, 3) := by decide +kernel
theorem dX12_percent_60 : decode cX12_percent 60 = .ok (.aload_n 0, 1) := by decide +kernel
theorem dX12_percent_61 : decode cX12_percent 61 = .ok (.getfield 18, 3) := by decide +kernel
theorem dX12_percent_64 : decode cX12_percent 64 = .ok (.iload 5, 2) := by decide +kernel
theorem dX12_percent_66 : decode cX12_percent 66 = .ok (.bipush 8, 2) := by decide +kernel
theorem dX12_percent_68 : decode cX12_percent 68 = .ok (.irem, 1) := by decide +kernel
theorem dX12_percent_69 : decode cX12_percent 69 = .ok (.iaload, 1) := by decide +kernel
theorem dX12_percent_70 : decode cX12_percent 70 = .ok (.istore 6, 2) := by decide +kernel
theorem dX12_percent_72 : decode cX12_percent 72 = .ok (.iload 5, 2) := by decide +kernel
theorem dX12_percent_74 : decode cX12_percent 74 = .ok (.bipush 8, 2) := by decide +kernel
theorem dX12_percent_76 : decode cX12_percent 76 = .ok (.idiv, 1) := by decide +kernel
theorem dX12_percent_77 : decode cX12_percent 77 = .ok (.iconst 4, 1) := by decide +kernel
theorem dX12_percent_78 : decode cX12_percent 78 = .ok (.irem, 1) := by decide +kernel
theorem dX12_percent_79 : decode cX12_percent 79 = .ok (.istore 7, 2) := by decide +kernel
theorem dX12_percent_81 : decode cX12_percent 81 = .ok (.iload 5, 2) := by decide +kernel
theorem dX12_percent_83 : decode cX12_percent 83 = .ok (.bipush 32, 2) := by decide +kernel
theorem dX12_percent_85 : decode cX12_percent 85 = .ok (.idiv, 1) := by decide +kernel
theorem dX12_percent_86 : decode cX12_percent 86 = .ok (.istore 8, 2) := by decide +kernel
theorem dX12_percent_88 : decode cX12_percent 88 = .ok (.aload_n 0, 1) := by decide +kernel
theorem dX12_percent_89 : decode cX12_percent 89 = .ok (.getfield 21, 3) := by decide +kernel
theorem dX12_percent_92 : decode cX12_percent 92 = .ok (.iload_n 2, 1) := by decide +kernel
theorem dX12_percent_93 : decode cX12_percent 93 = .ok (.iload 7, 2) := by decide +kernel
theorem dX12_percent_95 : decode cX12_percent 95 = .ok (.ifCond .ne 18, 3) := by decide +kernel
theorem dX12_percent_98 : decode cX12_percent 98 = .ok (.iload 6, 2) := by decide +kernel
theorem dX12_percent_100 : decode cX12_percent 100 = .ok (.iload 8, 2) := by decide +kernel
theorem dX12_percent_102 : decode cX12_percent 102 = .ok (.if_icmp .ge 7, 3) := by decide +kernel
theorem dX12_percent_105 : decode cX12_percent 105 = .ok (.iconst 1, 1) := by decide +kernel
theorem dX12_percent_106 : decode cX12_percent 106 = .ok (.goto 40, 3) := by decide +kernel
theorem dX12_percent_109 : decode cX12_percent 109 = .ok (.iconst 0, 1) := by decide +kernel
theorem dX12_percent_110 : decode cX12_percent 110 = .ok (.goto 36, 3) := by decide +kernel
theorem dX12_percent_113 : decode cX12_percent 113 = .ok (.iload 7, 2) := by decide +kernel
theorem dX12_percent_115 : decode cX12_percent 115 = .ok (.iconst 1, 1) := by decide +kernel
theorem dX12_percent_116 : decode cX12_percent 116 = .ok (.if_icmp .ne 18, 3) := by decide +kernel
theorem dX12_percent_119 : decode cX12_percent 119 = .ok (.iload 6, 2) := by decide +kernel
theorem dX12_percent_121 : decode cX12_percent 121 = .ok (.iload 8, 2) := by decide +kernel
theorem dX12_percent_123 : decode cX12_percent 123 = .ok (.if_icmp .ne 7, 3) := by decide +kernel
theorem dX12_percent_126 : decode cX12_percent 126 = .ok (.iconst 1, 1) := by decide +kernel
theorem dX12_percent_127 : decode cX12_percent 127 = .ok (.goto 19, 3) := by decide +kernel
theorem dX12_percent_130 : decode cX12_percent 130 = .ok (.iconst 0, 1) := by decide +kernel
theorem dX12_percent_131 : decode cX12_percent 131 = .ok (.goto 15, 3) := by decide +kernel
theorem dX12_percent_134 : decode cX12_percent 134 = .ok (.iload 6, 2) := by decide +kernel
theorem dX12_percent_136 : decode cX12_percent 136 = .ok (.iload 8, 2) := by decide +kernel
theorem dX12_percent_138 : decode cX12_percent 138 = .ok (.if_icmp .le 7, 3) := by decide +kernel
theorem dX12_percent_141 : decode cX12_percent 141 = .ok (.iconst 1, 1) := by decide +kernel
theorem dX12_percent_142 : decode cX12_percent 142 = .ok (.goto 4, 3) := by decide +kernel
theorem dX12_percent_145 : decode cX12_percent 145 = .ok (.iconst 0, 1) := by decide +kernel
theorem dX12_percent_146 : decode cX12_percent 146 = .ok (.bastore, 1) := by decide +kernel
theorem dX12_percent_147 : decode cX12_percent 147 = .ok (.iinc 2 1, 3) := by decide +kernel
theorem dX12_percent_150 : decode cX12_percent 150 = .ok (.goto 157, 3) := by decide +kernel
theorem dX12_percent_153 : decode cX12_percent 153 = .ok (.iload 5, 2) := by decide +kernel
theorem dX12_percent_155 : decode cX12_percent 155 = .ok (.iconst (-1), 1) := by decide +kernel
theorem dX12_percent_156 : decode cX12_percent 156 = .ok (.if_icmp .ne 30, 3) := by decide +kernel
theorem dX12_percent_159 : decode cX12_percent 159 = .ok (.aload_n 0, 1) := by decide +kernel
theorem dX12_percent_160 : decode cX12_percent 160 = .ok (.getfield 21, 3) := by decide +kernel
theorem dX12_percent_163 : decode cX12_percent 163 = .ok (.iload_n 2, 1) := by decide +kernel
theorem dX12_percent_164 : decode cX12_percent 164 = .ok (.iconst 1, 1) := by decide +kernel
theorem dX12_percent_165 : decode cX12_percent 165 = .ok (.isub, 1) := by decide +kernel
theorem dX12_percent_166 : decode cX12_percent 166 = .ok (.aload_n 0, 1) := by decide +kernel
theorem dX12_percent_167 : decode cX12_percent 167 = .ok (.getfield 21, 3) := by decide +kernel
theorem dX12_percent_170 : decode cX12_percent 170 = .ok (.iload_n 2, 1) := by decide +kernel
theorem dX12_percent_171 : decode cX12_percent 171 = .ok (.iconst 1, 1) := by decide +kernel
theorem dX12_percent_172 : decode cX12_percent 172 = .ok (.isub, 1) := by decide +kernel
theorem dX12_percent_173 : decode cX12_percent 173 = .ok (.baload, 1) := by decide +kernel
theorem dX12_percent_174 : decode cX12_percent 174 = .ok (.ifCond .ne 7, 3) := by decide +kernel
theorem dX12_percent_177 : decode cX12_percent 177 = .ok (.iconst 1, 1) := by decide +kernel
theorem dX12_percent_178 : decode cX12_percent 178 = .ok (.goto 4, 3) := by decide +kernel
theorem dX12_percent_181 : decode cX12_percent 181 = .ok (.iconst 0, 1) := by decide +kernel
theorem dX12_percent_182 : decode cX12_percent 182 = .ok (.bastore, 1) := by decide +kernel
theorem dX12_percent_183 : decode cX12_percent 183 = .ok (.goto 124, 3) := by decide +kernel
theorem dX12_percent_186 : decode cX12_percent 186 = .ok (.iload 5, 2) := by decide +kernel
theorem dX12_percent_188 : decode cX12_percent 188 = .ok (.bipush (-10), 2) := by decide +kernel
theorem dX12_percent_190 : decode cX12_percent 190 = .ok (.if_icmp .le 77, 3) := by decide +kernel
theorem dX12_percent_193 : decode cX12_percent 193 = .ok (.iinc 2 (-1), 3) := by decide +kernel
theorem dX12_percent_196 : decode cX12_percent 196 = .ok (.aload_n 0, 1) := by decide +kernel
theorem dX12_percent_197 : decode cX12_percent 197 = .ok (.getfield 21, 3) := by decide +kernel
theorem dX12_percent_200 : decode cX12_percent 200 = .ok (.iload_n 2, 1) := by decide +kernel
theorem dX12_percent_201 : decode cX12_percent 201 = .ok (.iconst 1, 1) := by decide +kernel
theorem dX12_percent_202 : decode cX12_percent 202 = .ok (.isub, 1) := by decide +kernel
theorem dX12_percent_203 : decode cX12_percent 203 = .ok (.iload 5, 2) := by decide +kernel
theorem dX12_percent_205 : decode cX12_percent 205 = .ok (.bipush (-2), 2) := by decide +kernel
theorem dX12_percent_207 : decode cX12_percent 207 = .ok (.if_icmp .ne 31, 3) := by decide +kernel
theorem dX12_percent_210 : decode cX12_percent 210 = .ok (.aload_n 0, 1) := by decide +kernel
theorem dX12_percent_211 : decode cX12_percent 211 = .ok (.getfield 21, 3) := by decide +kernel
theorem dX12_percent_214 : decode cX12_percent 214 = .ok (.iload_n 2, 1) := by decide +kernel
theorem dX12_percent_215 : decode cX12_percent 215 = .ok (.iconst 1, 1) := by decide +kernel
theorem dX12_percent_216 : decode cX12_percent 216 = .ok (.isub, 1) := by decide +kernel
theorem dX12_percent_217 : decode cX12_percent 217 = .ok (.baload, 1) := by decide +kernel
theorem dX12_percent_218 : decode cX12_percent 218 = .ok (.ifCond .eq 16, 3) := by decide +kernel
theorem dX12_percent_221 : decode cX12_percent 221 = .ok (.aload_n 0, 1) := by decide +kernel
theorem dX12_percent_222 : decode cX12_percent 222 = .ok (.getfield 21, 3) := by decide +kernel
theorem dX12_percent_225 : decode cX12_percent 225 = .ok (.iload_n 2, 1) := by decide +kernel
theorem dX12_percent_226 : decode cX12_percent 226 = .ok (.baload, 1) := by decide +kernel
theorem dX12_percent_227 : decode cX12_percent 227 = .ok (.ifCond .eq 7, 3) := by decide +kernel
theorem dX12_percent_230 : decode cX12_percent 230 = .ok (.iconst 1, 1) := by decide +kernel
theorem dX12_percent_231 : decode cX12_percent 231 = .ok (.goto 32, 3) := by decide +kernel
theorem dX12_percent_234 : decode cX12_percent 234 = .ok (.iconst 0, 1) := by decide +kernel
theorem dX12_percent_235 : decode cX12_percent 235 = .ok (.goto 28, 3) := by decide +kernel
theorem dX12_percent_238 : decode cX12_percent 238 = .ok (.aload_n 0, 1) := by decide +kernel
theorem dX12_percent_239 : decode cX12_percent 239 = .ok (.getfield 21, 3) := by decide +kernel
theorem dX12_percent_242 : decode cX12_percent 242 = .ok (.iload_n 2, 1) := by decide +kernel
theorem dX12_percent_243 : decode cX12_percent 243 = .ok (.iconst 1, 1) := by decide +kernel
theorem dX12_percent_244 : decode cX12_percent 244 = .ok (.isub, 1) := by decide +kernel
theorem dX12_percent_245 : decode cX12_percent 245 = .ok (.baload, 1) := by decide +kernel
theorem dX12_percent_246 : decode cX12_percent 246 = .ok (.ifCond .ne 12, 3) := by decide +kernel
theorem dX12_percent_249 : decode cX12_percent 249 = .ok (.aload_n 0, 1) := by decide +kernel
theorem dX12_percent_250 : decode cX12_percent 250 = .ok (.getfield 21, 3) := by decide +kernel
theorem dX12_percent_253 : decode cX12_percent 253 = .ok (.iload_n 2, 1) := by decide +kernel
theorem dX12_percent_254 : decode cX12_percent 254 = .ok (.baload, 1) := by decide +kernel
theorem dX12_percent_255 : decode cX12_percent 255 = .ok (.ifCond .eq 7, 3) := by decide +kernel
theorem dX12_percent_258 : decode cX12_percent 258 = .ok (.iconst 1, 1) := by decide +kernel
theorem dX12_percent_259 : decode cX12_percent 259 = .ok (.goto 4, 3) := by decide +kernel
theorem dX12_percent_262 : decode cX12_percent 262 = .ok (.iconst 0, 1) := by decide +kernel
theorem dX12_percent_263 : decode cX12_percent 263 = .ok (.bastore, 1) := by decide +kernel
theorem dX12_percent_264 : decode cX12_percent 264 = .ok (.goto 43, 3) := by decide +kernel
theorem dX12_percent_267 : decode cX12_percent 267 = .ok (.iconst 0, 1) := by decide +kernel
theorem dX12_percent_268 : decode cX12_percent 268 = .ok (.istore_n 2, 1) := by decide +kernel
theorem dX12_percent_269 : decode cX12_percent 269 = .ok (.iload_n 1, 1) := by decide +kernel
theorem dX12_percent_270 : decode cX12_percent 270 = .ok (.aload_n 0, 1) := by decide +kernel
theorem dX12_percent_271 : decode cX12_percent 271 = .ok (.getfield 21, 3) := by decide +kernel
theorem dX12_percent_274 : decode cX12_percent 274 = .ok (.iconst 0, 1) := by decide +kernel
theorem dX12_percent_275 : decode cX12_percent 275 = .ok (.baload, 1) := by decide +kernel
theorem dX12_percent_276 : decode cX12_percent 276 = .ok (.ifCond .ne 7, 3) := by decide +kernel
theorem dX12_percent_279 : decode cX12_percent 279 = .ok (.iconst 0, 1) := by decide +kernel
theorem dX12_percent_280 : decode cX12_percent 280 = .ok (.goto 25, 3) := by decide +kernel
theorem dX12_percent_283 : decode cX12_percent 283 = .ok (.iload 5, 2) := by decide +kernel
theorem dX12_percent_285 : decode cX12_percent 285 = .ok (.sipush (-2000), 3) := by decide +kernel
theorem dX12_percent_288 : decode cX12_percent 288 = .ok (.if_icmp .le 11, 3) := by decide +kernel
theorem dX12_percent_291 : decode cX12_percent 291 = .ok (.bipush (-10), 2) := by decide +kernel
theorem dX12_percent_293 : decode cX12_percent 293 = .ok (.iload 5, 2) := by decide +kernel
theorem dX12_percent_295 : decode cX12_percent 295 = .ok (.isub, 1) := by decide +kernel
theorem dX12_percent_296 : decode cX12_percent 296 = .ok (.goto 9, 3) := by decide +kernel
theorem dX12_percent_299 : decode cX12_percent 299 = .ok (.iload 5, 2) := by decide +kernel
theorem dX12_percent_301 : decode cX12_percent 301 = .ok (.sipush (-2000), 3) := by decide +kernel
theorem dX12_percent_304 : decode cX12_percent 304 = .ok (.isub, 1) := by decide +kernel
theorem dX12_percent_305 : decode cX12_percent 305 = .ok (.iadd, 1) := by decide +kernel
theorem dX12_percent_306 : decode cX12_percent 306 = .ok (.istore_n 1, 1) := by decide +kernel
theorem dX12_percent_307 : decode cX12_percent 307 = .ok (.iinc 4 1, 3) := by decide +kernel
theorem dX12_percent_310 : decode cX12_percent 310 = .ok (.goto (-287), 3) := by decide +kernel
theorem dX12_percent_313 : decode cX12_percent 313 = .ok (.iload_n 1, 1) := by decide +kernel
theorem dX12_percent_314 : decode cX12_percent 314 = .ok (.ifCond .ge 7, 3) := by decide +kernel
theorem dX12_percent_317 : decode cX12_percent 317 = .ok (.iconst 0, 1) := by decide +kernel
theorem dX12_percent_318 : decode cX12_percent 318 = .ok (.goto 4, 3) := by decide +kernel
theorem dX12_percent_321 : decode cX12_percent 321 = .ok (.iload_n 1, 1) := by decide +kernel
theorem dX12_percent_322 : decode cX12_percent 322 = .ok (.ireturn, 1) := by decide +kernel
theorem dX12_percentAt_0 : decode cX12_percentAt 0 = .ok (.aload_n 0, 1) := by decide +kernel
theorem dX12_percentAt_1 : decode cX12_percentAt 1 = .ok (.getfield 18, 3) := by decide +kernel
theorem dX12_percentAt_4 : decode cX12_percentAt 4 = .ok (.iconst 0, 1) := by decide +kernel
theorem dX12_percentAt_5 : decode cX12_percentAt 5 = .ok (.iload_n 3, 1) := by decide +kernel
theorem dX12_percentAt_6 : decode cX12_percentAt 6 = .ok (.iastore, 1) := by decide +kernel
theorem dX12_percentAt_7 : decode cX12_percentAt 7 = .ok (.aload_n 0, 1) := by decide +kernel
theorem dX12_percentAt_8 : decode cX12_percentAt 8 = .ok (.getfield 18, 3) := by decide +kernel
theorem dX12_percentAt_11 : decode cX12_percentAt 11 = .ok (.iconst 1, 1) := by decide +kernel
theorem dX12_percentAt_12 : decode cX12_percentAt 12 = .ok (.aload_n 0, 1) := by decide +kernel
theorem dX12_percentAt_13 : decode cX12_percentAt 13 = .ok (.getfield 9, 3) := by decide +kernel
theorem dX12_percentAt_16 : decode cX12_percentAt 16 = .ok (.iconst 5, 1) := by decide +kernel
theorem dX12_percentAt_17 : decode cX12_percentAt 17 = .ok (.iaload, 1) := by decide +kernel
theorem dX12_percentAt_18 : decode cX12_percentAt 18 = .ok (.iastore, 1) := by decide +kernel
theorem dX12_percentAt_19 : decode cX12_percentAt 19 = .ok (.aload_n 0, 1) := by decide +kernel
theorem dX12_percentAt_20 : decode cX12_percentAt 20 = .ok (.getfield 18, 3) := by decide +kernel
theorem dX12_percentAt_23 : decode cX12_percentAt 23 = .ok (.iconst 2, 1) := by decide +kernel
theorem dX12_percentAt_24 : decode cX12_percentAt 24 = .ok (.iload_n 2, 1) := by decide +kernel
theorem dX12_percentAt_25 : decode cX12_percentAt 25 = .ok (.iastore, 1) := by decide +kernel
theorem dX12_percentAt_26 : decode cX12_percentAt 26 = .ok (.aload_n 0, 1) := by decide +kernel
theorem dX12_percentAt_27 : decode cX12_percentAt 27 = .ok (.getfield 18, 3) := by decide +kernel
theorem dX12_percentAt_30 : decode cX12_percentAt 30 = .ok (.iconst 3, 1) := by decide +kernel
theorem dX12_percentAt_31 : decode cX12_percentAt 31 = .ok (.iload_n 1, 1) := by decide +kernel
theorem dX12_percentAt_32 : decode cX12_percentAt 32 = .ok (.iastore, 1) := by decide +kernel
theorem dX12_percentAt_33 : decode cX12_percentAt 33 = .ok (.aload_n 0, 1) := by decide +kernel
theorem dX12_percentAt_34 : decode cX12_percentAt 34 = .ok (.getfield 18, 3) := by decide +kernel
theorem dX12_percentAt_37 : decode cX12_percentAt 37 = .ok (.iconst 4, 1) := by decide +kernel
theorem dX12_percentAt_38 : decode cX12_percentAt 38 = .ok (.iload 4, 2) := by decide +kernel
theorem dX12_percentAt_40 : decode cX12_percentAt 40 = .ok (.iastore, 1) := by decide +kernel
theorem dX12_percentAt_41 : decode cX12_percentAt 41 = .ok (.aload_n 0, 1) := by decide +kernel
theorem dX12_percentAt_42 : decode cX12_percentAt 42 = .ok (.invokevirtual 134, 3) := by decide +kernel
theorem dX12_percentAt_45 : decode cX12_percentAt 45 = .ok (.ireturn, 1) := by decide +kernel
theorem dX12_plain_0 : decode cX12_plain 0 = .ok (.iload_n 3, 1) := by decide +kernel
theorem dX12_plain_1 : decode cX12_plain 1 = .ok (.ifCond .ge 5, 3) := by decide +kernel
theorem dX12_plain_4 : decode cX12_plain 4 = .ok (.iconst 0, 1) := by decide +kernel
theorem dX12_plain_5 : decode cX12_plain 5 = .ok (.ireturn, 1) := by decide +kernel
theorem dX12_plain_6 : decode cX12_plain 6 = .ok (.iload_n 2, 1) := by decide +kernel
theorem dX12_plain_7 : decode cX12_plain 7 = .ok (.aload_n 0, 1) := by decide +kernel
theorem dX12_plain_8 : decode cX12_plain 8 = .ok (.getfield 9, 3) := by decide +kernel
theorem dX12_plain_11 : decode cX12_plain 11 = .ok (.bipush 6, 2) := by decide +kernel
theorem dX12_plain_13 : decode cX12_plain 13 = .ok (.iaload, 1) := by decide +kernel
theorem dX12_plain_14 : decode cX12_plain 14 = .ok (.idiv, 1) := by decide +kernel
theorem dX12_plain_15 : decode cX12_plain 15 = .ok (.aload_n 0, 1) := by decide +kernel
theorem dX12_plain_16 : decode cX12_plain 16 = .ok (.iload_n 1, 1) := by decide +kernel
theorem dX12_plain_17 : decode cX12_plain 17 = .ok (.iload_n 2, 1) := by decide +kernel
theorem dX12_plain_18 : decode cX12_plain 18 = .ok (.iload_n 3, 1) := by decide +kernel
theorem dX12_plain_19 : decode cX12_plain 19 = .ok (.iload 4, 2) := by decide +kernel
theorem dX12_plain_21 : decode cX12_plain 21 = .ok (.invokevirtual 137, 3) := by decide +kernel
theorem dX12_plain_24 : decode cX12_plain 24 = .ok (.imul, 1) := by decide +kernel
theorem dX12_plain_25 : decode cX12_plain 25 = .ok (.bipush 100, 2) := by decide +kernel
theorem dX12_plain_27 : decode cX12_plain 27 = .ok (.idiv, 1) := by decide +kernel
theorem dX12_plain_28 : decode cX12_plain 28 = .ok (.istore 5, 2) := by decide +kernel
theorem dX12_plain_30 : decode cX12_plain 30 = .ok (.aload_n 0, 1) := by decide +kernel
theorem dX12_plain_31 : decode cX12_plain 31 = .ok (.getfield 9, 3) := by decide +kernel
theorem dX12_plain_34 : decode cX12_plain 34 = .ok (.sipush 208, 3) := by decide +kernel
theorem dX12_plain_37 : decode cX12_plain 37 = .ok (.aload_n 0, 1) := by decide +kernel
theorem dX12_plain_38 : decode cX12_plain 38 = .ok (.getfield 9, 3) := by decide +kernel
theorem dX12_plain_41 : decode cX12_plain 41 = .ok (.bipush 8, 2) := by decide +kernel
theorem dX12_plain_43 : decode cX12_plain 43 = .ok (.iaload, 1) := by decide +kernel
theorem dX12_plain_44 : decode cX12_plain 44 = .ok (.iadd, 1) := by decide +kernel
theorem dX12_plain_45 : decode cX12_plain 45 = .ok (.iaload, 1) := by decide +kernel
theorem dX12_plain_46 : decode cX12_plain 46 = .ok (.istore 6, 2) := by decide +kernel
theorem dX12_plain_48 : decode cX12_plain 48 = .ok (.iload 5, 2) := by decide +kernel
theorem dX12_plain_50 : decode cX12_plain 50 = .ok (.iload 6, 2) := by decide +kernel
theorem dX12_plain_52 : decode cX12_plain 52 = .ok (.if_icmp .le 8, 3) := by decide +kernel
theorem dX12_plain_55 : decode cX12_plain 55 = .ok (.iload 6, 2) := by decide +kernel
theorem dX12_plain_57 : decode cX12_plain 57 = .ok (.goto 5, 3) := by decide +kernel
theorem dX12_plain_60 : decode cX12_plain 60 = .ok (.iload 5, 2) := by decide +kernel
theorem dX12_plain_62 : decode cX12_plain 62 = .ok (.ireturn, 1) := by decide +kernel
theorem dX12_drawnBy_0 : decode cX12_drawnBy 0 = .ok (.iload_n 2, 1) := by decide +kernel
theorem dX12_drawnBy_1 : decode cX12_drawnBy 1 = .ok (.aload_n 0, 1) := by decide +kernel
theorem dX12_drawnBy_2 : decode cX12_drawnBy 2 = .ok (.getfield 9, 3) := by decide +kernel
theorem dX12_drawnBy_5 : decode cX12_drawnBy 5 = .ok (.bipush 6, 2) := by decide +kernel
theorem dX12_drawnBy_7 : decode cX12_drawnBy 7 = .ok (.iaload, 1) := by decide +kernel
theorem dX12_drawnBy_8 : decode cX12_drawnBy 8 = .ok (.idiv, 1) := by decide +kernel
theorem dX12_drawnBy_9 : decode cX12_drawnBy 9 = .ok (.istore 6, 2) := by decide +kernel
theorem dX12_drawnBy_11 : decode cX12_drawnBy 11 = .ok (.iload_n 1, 1) := by decide +kernel
theorem dX12_drawnBy_12 : decode cX12_drawnBy 12 = .ok (.tableswitch 155 2 6 #[36, 49, 84, 84, 125], 36) := by decide +kernel
theorem dX12_drawnBy_48 : decode cX12_drawnBy 48 = .ok (.aload_n 0, 1) := by decide +kernel
theorem dX12_drawnBy_49 : decode cX12_drawnBy 49 = .ok (.iload_n 1, 1) := by decide +kernel
theorem dX12_drawnBy_50 : decode cX12_drawnBy 50 = .ok (.iload_n 2, 1) := by decide +kernel
theorem dX12_drawnBy_51 : decode cX12_drawnBy 51 = .ok (.iload 4, 2) := by decide +kernel
theorem dX12_drawnBy_53 : decode cX12_drawnBy 53 = .ok (.iload_n 3, 1) := by decide +kernel
theorem dX12_drawnBy_54 : decode cX12_drawnBy 54 = .ok (.isub, 1) := by decide +kernel
theorem dX12_drawnBy_55 : decode cX12_drawnBy 55 = .ok (.iload 5, 2) := by decide +kernel
theorem dX12_drawnBy_57 : decode cX12_drawnBy 57 = .ok (.invokevirtual 141, 3) := by decide +kernel
theorem dX12_drawnBy_60 : decode cX12_drawnBy 60 = .ok (.ireturn, 1) := by decide +kernel
theorem dX12_drawnBy_61 : decode cX12_drawnBy 61 = .ok (.aload_n 0, 1) := by decide +kernel
theorem dX12_drawnBy_62 : decode cX12_drawnBy 62 = .ok (.iload_n 1, 1) := by decide +kernel
theorem dX12_drawnBy_63 : decode cX12_drawnBy 63 = .ok (.iload_n 2, 1) := by decide +kernel
theorem dX12_drawnBy_64 : decode cX12_drawnBy 64 = .ok (.iload 4, 2) := by decide +kernel
theorem dX12_drawnBy_66 : decode cX12_drawnBy 66 = .ok (.iload 5, 2) := by decide +kernel
theorem dX12_drawnBy_68 : decode cX12_drawnBy 68 = .ok (.invokevirtual 141, 3) := by decide +kernel
theorem dX12_drawnBy_71 : decode cX12_drawnBy 71 = .ok (.iload 4, 2) := by decide +kernel
theorem dX12_drawnBy_73 : decode cX12_drawnBy 73 = .ok (.ifCond .lt 20, 3) := by decide +kernel
theorem dX12_drawnBy_76 : decode cX12_drawnBy 76 = .ok (.aload_n 0, 1) := by decide +kernel
theorem dX12_drawnBy_77 : decode cX12_drawnBy 77 = .ok (.iload_n 1, 1) := by decide +kernel
theorem dX12_drawnBy_78 : decode cX12_drawnBy 78 = .ok (.iload_n 2, 1) := by decide +kernel
theorem dX12_drawnBy_79 : decode cX12_drawnBy 79 = .ok (.iload 4, 2) := by decide +kernel
theorem dX12_drawnBy_81 : decode cX12_drawnBy 81 = .ok (.iload 5, 2) := by decide +kernel
theorem dX12_drawnBy_83 : decode cX12_drawnBy 83 = .ok (.invokevirtual 137, 3) := by decide +kernel
theorem dX12_drawnBy_86 : decode cX12_drawnBy 86 = .ok (.ifCond .le 7, 3) := by decide +kernel
theorem dX12_drawnBy_89 : decode cX12_drawnBy 89 = .ok (.iload_n 3, 1) := by decide +kernel
theorem dX12_drawnBy_90 : decode cX12_drawnBy 90 = .ok (.goto 4, 3) := by decide +kernel
theorem dX12_drawnBy_93 : decode cX12_drawnBy 93 = .ok (.iconst 0, 1) := by decide +kernel
theorem dX12_drawnBy_94 : decode cX12_drawnBy 94 = .ok (.iadd, 1) := by decide +kernel
theorem dX12_drawnBy_95 : decode cX12_drawnBy 95 = .ok (.ireturn, 1) := by decide +kernel
theorem dX12_drawnBy_96 : decode cX12_drawnBy 96 = .ok (.iload 4, 2) := by decide +kernel
theorem dX12_drawnBy_98 : decode cX12_drawnBy 98 = .ok (.iconst 0, 1) := by decide +kernel
theorem dX12_drawnBy_99 : decode cX12_drawnBy 99 = .ok (.iload_n 3, 1) := by decide +kernel
theorem dX12_drawnBy_100 : decode cX12_drawnBy 100 = .ok (.iconst 1, 1) := by decide +kernel
theorem dX12_drawnBy_101 : decode cX12_drawnBy 101 = .ok (.isub, 1) := by decide +kernel
theorem dX12_drawnBy_102 : decode cX12_drawnBy 102 = .ok (.invokestatic 48, 3) := by decide +kernel
theorem dX12_drawnBy_105 : decode cX12_drawnBy 105 = .ok (.ifCond .eq 19, 3) := by decide +kernel
theorem dX12_drawnBy_108 : decode cX12_drawnBy 108 = .ok (.iload_n 1, 1) := by decide +kernel
theorem dX12_drawnBy_109 : decode cX12_drawnBy 109 = .ok (.iconst 4, 1) := by decide +kernel
theorem dX12_drawnBy_110 : decode cX12_drawnBy 110 = .ok (.if_icmp .ne 9, 3) := by decide +kernel
theorem dX12_drawnBy_113 : decode cX12_drawnBy 113 = .ok (.iload 6, 2) := by decide +kernel
theorem dX12_drawnBy_115 : decode cX12_drawnBy 115 = .ok (.ineg, 1) := by decide +kernel
theorem dX12_drawnBy_116 : decode cX12_drawnBy 116 = .ok (.goto 20, 3) := by decide +kernel
theorem dX12_drawnBy_119 : decode cX12_drawnBy 119 = .ok (.iload 6, 2) := by decide +kernel
theorem dX12_drawnBy_121 : decode cX12_drawnBy 121 = .ok (.goto 15, 3) := by decide +kernel
theorem dX12_drawnBy_124 : decode cX12_drawnBy 124 = .ok (.aload_n 0, 1) := by decide +kernel
theorem dX12_drawnBy_125 : decode cX12_drawnBy 125 = .ok (.iload_n 1, 1) := by decide +kernel
theorem dX12_drawnBy_126 : decode cX12_drawnBy 126 = .ok (.iload_n 2, 1) := by decide +kernel
theorem dX12_drawnBy_127 : decode cX12_drawnBy 127 = .ok (.iload 4, 2) := by decide +kernel
theorem dX12_drawnBy_129 : decode cX12_drawnBy 129 = .ok (.iload_n 3, 1) := by decide +kernel
theorem dX12_drawnBy_130 : decode cX12_drawnBy 130 = .ok (.isub, 1) := by decide +kernel
theorem dX12_drawnBy_131 : decode cX12_drawnBy 131 = .ok (.iload 5, 2) := by decide +kernel
theorem dX12_drawnBy_133 : decode cX12_drawnBy 133 = .ok (.invokevirtual 141, 3) := by decide +kernel
theorem dX12_drawnBy_136 : decode cX12_drawnBy 136 = .ok (.ireturn, 1) := by decide +kernel
theorem dX12_drawnBy_137 : decode cX12_drawnBy 137 = .ok (.aload_n 0, 1) := by decide +kernel
theorem dX12_drawnBy_138 : decode cX12_drawnBy 138 = .ok (.iload_n 1, 1) := by decide +kernel
theorem dX12_drawnBy_139 : decode cX12_drawnBy 139 = .ok (.iload_n 2, 1) := by decide +kernel
theorem dX12_drawnBy_140 : decode cX12_drawnBy 140 = .ok (.iload 4, 2) := by decide +kernel
theorem dX12_drawnBy_142 : decode cX12_drawnBy 142 = .ok (.iload 5, 2) := by decide +kernel
theorem dX12_drawnBy_144 : decode cX12_drawnBy 144 = .ok (.invokevirtual 141, 3) := by decide +kernel
theorem dX12_drawnBy_147 : decode cX12_drawnBy 147 = .ok (.iconst 2, 1) := by decide +kernel
theorem dX12_drawnBy_148 : decode cX12_drawnBy 148 = .ok (.idiv, 1) := by decide +kernel
theorem dX12_drawnBy_149 : decode cX12_drawnBy 149 = .ok (.aload_n 0, 1) := by decide +kernel
theorem dX12_drawnBy_150 : decode cX12_drawnBy 150 = .ok (.iload_n 1, 1) := by decide +kernel
theorem dX12_drawnBy_151 : decode cX12_drawnBy 151 = .ok (.iload_n 2, 1) := by decide +kernel
theorem dX12_drawnBy_152 : decode cX12_drawnBy 152 = .ok (.iload 4, 2) := by decide +kernel
theorem dX12_drawnBy_154 : decode cX12_drawnBy 154 = .ok (.iload_n 3, 1) := by decide +kernel
theorem dX12_drawnBy_155 : decode cX12_drawnBy 155 = .ok (.isub, 1) := by decide +kernel
theorem dX12_drawnBy_156 : decode cX12_drawnBy 156 = .ok (.iload 5, 2) := by decide +kernel
theorem dX12_drawnBy_158 : decode cX12_drawnBy 158 = .ok (.iload_n 3, 1) := by decide +kernel
theorem dX12_drawnBy_159 : decode cX12_drawnBy 159 = .ok (.isub, 1) := by decide +kernel
theorem dX12_drawnBy_160 : decode cX12_drawnBy 160 = .ok (.invokevirtual 141, 3) := by decide +kernel
theorem dX12_drawnBy_163 : decode cX12_drawnBy 163 = .ok (.iconst 2, 1) := by decide +kernel
theorem dX12_drawnBy_164 : decode cX12_drawnBy 164 = .ok (.idiv, 1) := by decide +kernel
theorem dX12_drawnBy_165 : decode cX12_drawnBy 165 = .ok (.iadd, 1) := by decide +kernel
theorem dX12_drawnBy_166 : decode cX12_drawnBy 166 = .ok (.ireturn, 1) := by decide +kernel
theorem dX12_drawnBy_167 : decode cX12_drawnBy 167 = .ok (.aload_n 0, 1) := by decide +kernel
theorem dX12_drawnBy_168 : decode cX12_drawnBy 168 = .ok (.iload_n 1, 1) := by decide +kernel
theorem dX12_drawnBy_169 : decode cX12_drawnBy 169 = .ok (.iload_n 2, 1) := by decide +kernel
theorem dX12_drawnBy_170 : decode cX12_drawnBy 170 = .ok (.iload 4, 2) := by decide +kernel
theorem dX12_drawnBy_172 : decode cX12_drawnBy 172 = .ok (.iload 5, 2) := by decide +kernel
theorem dX12_drawnBy_174 : decode cX12_drawnBy 174 = .ok (.invokevirtual 141, 3) := by decide +kernel
theorem dX12_drawnBy_177 : decode cX12_drawnBy 177 = .ok (.ireturn, 1) := by decide +kernel
theorem dX12_drawnAt_0 : decode cX12_drawnAt 0 = .ok (.aload_n 0, 1) := by decide +kernel
theorem dX12_drawnAt_1 : decode cX12_drawnAt 1 = .ok (.aload_n 0, 1) := by decide +kernel
theorem dX12_drawnAt_2 : decode cX12_drawnAt 2 = .ok (.getfield 9, 3) := by decide +kernel
theorem dX12_drawnAt_5 : decode cX12_drawnAt 5 = .ok (.sipush 130, 3) := by decide +kernel
theorem dX12_drawnAt_8 : decode cX12_drawnAt 8 = .ok (.iload_n 1, 1) := by decide +kernel
theorem dX12_drawnAt_9 : decode cX12_drawnAt 9 = .ok (.iadd, 1) := by decide +kernel
theorem dX12_drawnAt_10 : decode cX12_drawnAt 10 = .ok (.iaload, 1) := by decide +kernel
theorem dX12_drawnAt_11 : decode cX12_drawnAt 11 = .ok (.aload_n 0, 1) := by decide +kernel
theorem dX12_drawnAt_12 : decode cX12_drawnAt 12 = .ok (.getfield 9, 3) := by decide +kernel
theorem dX12_drawnAt_15 : decode cX12_drawnAt 15 = .ok (.sipush 146, 3) := by decide +kernel
theorem dX12_drawnAt_18 : decode cX12_drawnAt 18 = .ok (.iload_n 1, 1) := by decide +kernel
theorem dX12_drawnAt_19 : decode cX12_drawnAt 19 = .ok (.iadd, 1) := by decide +kernel
theorem dX12_drawnAt_20 : decode cX12_drawnAt 20 = .ok (.iaload, 1) := by decide +kernel
theorem dX12_drawnAt_21 : decode cX12_drawnAt 21 = .ok (.aload_n 0, 1) := by decide +kernel
theorem dX12_drawnAt_22 : decode cX12_drawnAt 22 = .ok (.getfield 9, 3) := by decide +kernel
theorem dX12_drawnAt_25 : decode cX12_drawnAt 25 = .ok (.sipush 154, 3) := by decide +kernel
theorem dX12_drawnAt_28 : decode cX12_drawnAt 28 = .ok (.iload_n 1, 1) := by decide +kernel
theorem dX12_drawnAt_29 : decode cX12_drawnAt 29 = .ok (.iadd, 1) := by decide +kernel
theorem dX12_drawnAt_30 : decode cX12_drawnAt 30 = .ok (.iaload, 1) := by decide +kernel
theorem dX12_drawnAt_31 : decode cX12_drawnAt 31 = .ok (.iload_n 2, 1) := by decide +kernel
theorem dX12_drawnAt_32 : decode cX12_drawnAt 32 = .ok (.aload_n 0, 1) := by decide +kernel
theorem dX12_drawnAt_33 : decode cX12_drawnAt 33 = .ok (.getfield 9, 3) := by decide +kernel
theorem dX12_drawnAt_36 : decode cX12_drawnAt 36 = .ok (.sipush 138, 3) := by decide +kernel
theorem dX12_drawnAt_39 : decode cX12_drawnAt 39 = .ok (.iload_n 1, 1) := by decide +kernel
theorem dX12_drawnAt_40 : decode cX12_drawnAt 40 = .ok (.iadd, 1) := by decide +kernel
theorem dX12_drawnAt_41 : decode cX12_drawnAt 41 = .ok (.iaload, 1) := by decide +kernel
theorem dX12_drawnAt_42 : decode cX12_drawnAt 42 = .ok (.isub, 1) := by decide +kernel
theorem dX12_drawnAt_43 : decode cX12_drawnAt 43 = .ok (.aload_n 0, 1) := by decide +kernel
theorem dX12_drawnAt_44 : decode cX12_drawnAt 44 = .ok (.getfield 25, 3) := by decide +kernel
theorem dX12_drawnAt_47 : decode cX12_drawnAt 47 = .ok (.iload_n 1, 1) := by decide +kernel
theorem dX12_drawnAt_48 : decode cX12_drawnAt 48 = .ok (.iaload, 1) := by decide +kernel
theorem dX12_drawnAt_49 : decode cX12_drawnAt 49 = .ok (.isub, 1) := by decide +kernel
theorem dX12_drawnAt_50 : decode cX12_drawnAt 50 = .ok (.iload_n 2, 1) := by decide +kernel
theorem dX12_drawnAt_51 : decode cX12_drawnAt 51 = .ok (.invokevirtual 144, 3) := by decide +kernel
theorem dX12_drawnAt_54 : decode cX12_drawnAt 54 = .ok (.ireturn, 1) := by decide +kernel
theorem dX12_demandAt_0 : decode cX12_demandAt 0 = .ok (.iconst 0, 1) := by decide +kernel
theorem dX12_demandAt_1 : decode cX12_demandAt 1 = .ok (.istore_n 2, 1) := by decide +kernel
theorem dX12_demandAt_2 : decode cX12_demandAt 2 = .ok (.iconst 0, 1) := by decide +kernel
theorem dX12_demandAt_3 : decode cX12_demandAt 3 = .ok (.istore_n 3, 1) := by decide +kernel
theorem dX12_demandAt_4 : decode cX12_demandAt 4 = .ok (.iload_n 3, 1) := by decide +kernel
theorem dX12_demandAt_5 : decode cX12_demandAt 5 = .ok (.aload_n 0, 1) := by decide +kernel
theorem dX12_demandAt_6 : decode cX12_demandAt 6 = .ok (.getfield 9, 3) := by decide +kernel
theorem dX12_demandAt_9 : decode cX12_demandAt 9 = .ok (.iconst 0, 1) := by decide +kernel
theorem dX12_demandAt_10 : decode cX12_demandAt 10 = .ok (.iaload, 1) := by decide +kernel
theorem dX12_demandAt_11 : decode cX12_demandAt 11 = .ok (.if_icmp .ge 18, 3) := by decide +kernel
theorem dX12_demandAt_14 : decode cX12_demandAt 14 = .ok (.iload_n 2, 1) := by decide +kernel
theorem dX12_demandAt_15 : decode cX12_demandAt 15 = .ok (.aload_n 0, 1) := by decide +kernel
theorem dX12_demandAt_16 : decode cX12_demandAt 16 = .ok (.iload_n 3, 1) := by decide +kernel
theorem dX12_demandAt_17 : decode cX12_demandAt 17 = .ok (.iload_n 1, 1) := by decide +kernel
theorem dX12_demandAt_18 : decode cX12_demandAt 18 = .ok (.invokevirtual 148, 3) := by decide +kernel
theorem dX12_demandAt_21 : decode cX12_demandAt 21 = .ok (.iadd, 1) := by decide +kernel
theorem dX12_demandAt_22 : decode cX12_demandAt 22 = .ok (.istore_n 2, 1) := by decide +kernel
theorem dX12_demandAt_23 : decode cX12_demandAt 23 = .ok (.iinc 3 1, 3) := by decide +kernel
theorem dX12_demandAt_26 : decode cX12_demandAt 26 = .ok (.goto (-22), 3) := by decide +kernel
theorem dX12_demandAt_29 : decode cX12_demandAt 29 = .ok (.iload_n 2, 1) := by decide +kernel
theorem dX12_demandAt_30 : decode cX12_demandAt 30 = .ok (.ireturn, 1) := by decide +kernel
theorem dX12_drawn_0 : decode cX12_drawn 0 = .ok (.aload_n 0, 1) := by decide +kernel
theorem dX12_drawn_1 : decode cX12_drawn 1 = .ok (.iload_n 1, 1) := by decide +kernel
theorem dX12_drawn_2 : decode cX12_drawn 2 = .ok (.invokevirtual 56, 3) := by decide +kernel
theorem dX12_drawn_5 : decode cX12_drawn 5 = .ok (.ifCond .eq 10, 3) := by decide +kernel
theorem dX12_drawn_8 : decode cX12_drawn 8 = .ok (.aload_n 0, 1) := by decide +kernel
theorem dX12_drawn_9 : decode cX12_drawn 9 = .ok (.invokevirtual 152, 3) := by decide +kernel
theorem dX12_drawn_12 : decode cX12_drawn 12 = .ok (.ifCond .ne 7, 3) := by decide +kernel
theorem dX12_drawn_15 : decode cX12_drawn 15 = .ok (.sipush (-1001), 3) := by decide +kernel
theorem dX12_drawn_18 : decode cX12_drawn 18 = .ok (.ireturn, 1) := by decide +kernel
theorem dX12_drawn_19 : decode cX12_drawn 19 = .ok (.iload_n 2, 1) := by decide +kernel
theorem dX12_drawn_20 : decode cX12_drawn 20 = .ok (.invokestatic 52, 3) := by decide +kernel
theorem dX12_drawn_23 : decode cX12_drawn 23 = .ok (.ifCond .eq 12, 3) := by decide +kernel
theorem dX12_drawn_26 : decode cX12_drawn 26 = .ok (.aload_n 0, 1) := by decide +kernel
theorem dX12_drawn_27 : decode cX12_drawn 27 = .ok (.iload_n 1, 1) := by decide +kernel
theorem dX12_drawn_28 : decode cX12_drawn 28 = .ok (.iload_n 2, 1) := by decide +kernel
theorem dX12_drawn_29 : decode cX12_drawn 29 = .ok (.invokevirtual 148, 3) := by decide +kernel
theorem dX12_drawn_32 : decode cX12_drawn 32 = .ok (.goto 6, 3) := by decide +kernel
theorem dX12_drawn_35 : decode cX12_drawn 35 = .ok (.sipush (-1002), 3) := by decide +kernel
theorem dX12_drawn_38 : decode cX12_drawn 38 = .ok (.ireturn, 1) := by decide +kernel
theorem dX12_demand_0 : decode cX12_demand 0 = .ok (.aload_n 0, 1) := by decide +kernel
theorem dX12_demand_1 : decode cX12_demand 1 = .ok (.invokevirtual 152, 3) := by decide +kernel
theorem dX12_demand_4 : decode cX12_demand 4 = .ok (.ifCond .ne 7, 3) := by decide +kernel
theorem dX12_demand_7 : decode cX12_demand 7 = .ok (.sipush (-10001), 3) := by decide +kernel
theorem dX12_demand_10 : decode cX12_demand 10 = .ok (.ireturn, 1) := by decide +kernel
theorem dX12_demand_11 : decode cX12_demand 11 = .ok (.iload_n 1, 1) := by decide +kernel
theorem dX12_demand_12 : decode cX12_demand 12 = .ok (.invokestatic 52, 3) := by decide +kernel
theorem dX12_demand_15 : decode cX12_demand 15 = .ok (.ifCond .eq 11, 3) := by decide +kernel
theorem dX12_demand_18 : decode cX12_demand 18 = .ok (.aload_n 0, 1) := by decide +kernel
theorem dX12_demand_19 : decode cX12_demand 19 = .ok (.iload_n 1, 1) := by decide +kernel
theorem dX12_demand_20 : decode cX12_demand 20 = .ok (.invokevirtual 156, 3) := by decide +kernel
theorem dX12_demand_23 : decode cX12_demand 23 = .ok (.goto 6, 3) := by decide +kernel
theorem dX12_demand_26 : decode cX12_demand 26 = .ok (.sipush (-10002), 3) := by decide +kernel
theorem dX12_demand_29 : decode cX12_demand 29 = .ok (.ireturn, 1) := by decide +kernel
theorem dX12_work_0 : decode cX12_work 0 = .ok (.iload_n 1, 1) := by decide +kernel
theorem dX12_work_1 : decode cX12_work 1 = .ok (.iconst 0, 1) := by decide +kernel
theorem dX12_work_2 : decode cX12_work 2 = .ok (.bipush 9, 2) := by decide +kernel
theorem dX12_work_4 : decode cX12_work 4 = .ok (.invokestatic 48, 3) := by decide +kernel
theorem dX12_work_7 : decode cX12_work 7 = .ok (.ifCond .eq 34, 3) := by decide +kernel
theorem dX12_work_10 : decode cX12_work 10 = .ok (.iload_n 2, 1) := by decide +kernel
theorem dX12_work_11 : decode cX12_work 11 = .ok (.iconst 1, 1) := by decide +kernel
theorem dX12_work_12 : decode cX12_work 12 = .ok (.bipush 99, 2) := by decide +kernel
theorem dX12_work_14 : decode cX12_work 14 = .ok (.invokestatic 48, 3) := by decide +kernel
theorem dX12_work_17 : decode cX12_work 17 = .ok (.ifCond .eq 24, 3) := by decide +kernel
theorem dX12_work_20 : decode cX12_work 20 = .ok (.iload_n 3, 1) := by decide +kernel
theorem dX12_work_21 : decode cX12_work 21 = .ok (.iconst 1, 1) := by decide +kernel
theorem dX12_work_22 : decode cX12_work 22 = .ok (.bipush 40, 2) := by decide +kernel
theorem dX12_work_24 : decode cX12_work 24 = .ok (.invokestatic 48, 3) := by decide +kernel
theorem dX12_work_27 : decode cX12_work 27 = .ok (.ifCond .eq 14, 3) := by decide +kernel
theorem dX12_work_30 : decode cX12_work 30 = .ok (.iload 4, 2) := by decide +kernel
theorem dX12_work_32 : decode cX12_work 32 = .ok (.iconst 0, 1) := by decide +kernel
theorem dX12_work_33 : decode cX12_work 33 = .ok (.bipush 99, 2) := by decide +kernel
theorem dX12_work_35 : decode cX12_work 35 = .ok (.invokestatic 48, 3) := by decide +kernel
theorem dX12_work_38 : decode cX12_work 38 = .ok (.ifCond .ne 6, 3) := by decide +kernel
theorem dX12_work_41 : decode cX12_work 41 = .ok (.bipush (-2), 2) := by decide +kernel
theorem dX12_work_43 : decode cX12_work 43 = .ok (.ireturn, 1) := by decide +kernel
theorem dX12_work_44 : decode cX12_work 44 = .ok (.aload_n 0, 1) := by decide +kernel
theorem dX12_work_45 : decode cX12_work 45 = .ok (.getfield 9, 3) := by decide +kernel
theorem dX12_work_48 : decode cX12_work 48 = .ok (.iconst 1, 1) := by decide +kernel
theorem dX12_work_49 : decode cX12_work 49 = .ok (.iaload, 1) := by decide +kernel
theorem dX12_work_50 : decode cX12_work 50 = .ok (.iconst 5, 1) := by decide +kernel
theorem dX12_work_51 : decode cX12_work 51 = .ok (.if_icmp .ne 6, 3) := by decide +kernel
theorem dX12_work_54 : decode cX12_work 54 = .ok (.bipush (-4), 2) := by decide +kernel
theorem dX12_work_56 : decode cX12_work 56 = .ok (.ireturn, 1) := by decide +kernel
theorem dX12_work_57 : decode cX12_work 57 = .ok (.aload_n 0, 1) := by decide +kernel
theorem dX12_work_58 : decode cX12_work 58 = .ok (.getfield 9, 3) := by decide +kernel
theorem dX12_work_61 : decode cX12_work 61 = .ok (.iconst 1, 1) := by decide +kernel
theorem dX12_work_62 : decode cX12_work 62 = .ok (.iaload, 1) := by decide +kernel
theorem dX12_work_63 : decode cX12_work 63 = .ok (.istore 5, 2) := by decide +kernel
theorem dX12_work_65 : decode cX12_work 65 = .ok (.aload_n 0, 1) := by decide +kernel
theorem dX12_work_66 : decode cX12_work 66 = .ok (.getfield 9, 3) := by decide +kernel
theorem dX12_work_69 : decode cX12_work 69 = .ok (.sipush 178, 3) := by decide +kernel
theorem dX12_work_72 : decode cX12_work 72 = .ok (.iload 5, 2) := by decide +kernel
theorem dX12_work_74 : decode cX12_work 74 = .ok (.iadd, 1) := by decide +kernel
theorem dX12_work_75 : decode cX12_work 75 = .ok (.iload_n 1, 1) := by decide +kernel
theorem dX12_work_76 : decode cX12_work 76 = .ok (.iastore, 1) := by decide +kernel
theorem dX12_work_77 : decode cX12_work 77 = .ok (.aload_n 0, 1) := by decide +kernel
theorem dX12_work_78 : decode cX12_work 78 = .ok (.getfield 9, 3) := by decide +kernel
theorem dX12_work_81 : decode cX12_work 81 = .ok (.sipush 183, 3) := by decide +kernel
theorem dX12_work_84 : decode cX12_work 84 = .ok (.iload 5, 2) := by decide +kernel
theorem dX12_work_86 : decode cX12_work 86 = .ok (.iadd, 1) := by decide +kernel
theorem dX12_work_87 : decode cX12_work 87 = .ok (.iload_n 2, 1) := by decide +kernel
theorem dX12_work_88 : decode cX12_work 88 = .ok (.iastore, 1) := by decide +kernel
theorem dX12_work_89 : decode cX12_work 89 = .ok (.aload_n 0, 1) := by decide +kernel
theorem dX12_work_90 : decode cX12_work 90 = .ok (.getfield 9, 3) := by decide +kernel
theorem dX12_work_93 : decode cX12_work 93 = .ok (.sipush 188, 3) := by decide +kernel
theorem dX12_work_96 : decode cX12_work 96 = .ok (.iload 5, 2) := by decide +kernel
theorem dX12_work_98 : decode cX12_work 98 = .ok (.iadd, 1) := by decide +kernel
theorem dX12_work_99 : decode cX12_work 99 = .ok (.iload_n 3, 1) := by decide +kernel
theorem dX12_work_100 : decode cX12_work 100 = .ok (.iastore, 1) := by decide +kernel
theorem dX12_work_101 : decode cX12_work 101 = .ok (.aload_n 0, 1) := by decide +kernel
theorem dX12_work_102 : decode cX12_work 102 = .ok (.getfield 9, 3) := by decide +kernel
theorem dX12_work_105 : decode cX12_work 105 = .ok (.sipush 193, 3) := by decide +kernel
theorem dX12_work_108 : decode cX12_work 108 = .ok (.iload 5, 2) := by decide +kernel
theorem dX12_work_110 : decode cX12_work 110 = .ok (.iadd, 1) := by decide +kernel
theorem dX12_work_111 : decode cX12_work 111 = .ok (.iload 4, 2) := by decide +kernel
theorem dX12_work_113 : decode cX12_work 113 = .ok (.iastore, 1) := by decide +kernel
theorem dX12_work_114 : decode cX12_work 114 = .ok (.aload_n 0, 1) := by decide +kernel
theorem dX12_work_115 : decode cX12_work 115 = .ok (.getfield 9, 3) := by decide +kernel
theorem dX12_work_118 : decode cX12_work 118 = .ok (.sipush 198, 3) := by decide +kernel
theorem dX12_work_121 : decode cX12_work 121 = .ok (.iload 5, 2) := by decide +kernel
theorem dX12_work_123 : decode cX12_work 123 = .ok (.iadd, 1) := by decide +kernel
theorem dX12_work_124 : decode cX12_work 124 = .ok (.iconst 0, 1) := by decide +kernel
theorem dX12_work_125 : decode cX12_work 125 = .ok (.iastore, 1) := by decide +kernel
theorem dX12_work_126 : decode cX12_work 126 = .ok (.aload_n 0, 1) := by decide +kernel
theorem dX12_work_127 : decode cX12_work 127 = .ok (.getfield 9, 3) := by decide +kernel
theorem dX12_work_130 : decode cX12_work 130 = .ok (.sipush 203, 3) := by decide +kernel
theorem dX12_work_133 : decode cX12_work 133 = .ok (.iload 5, 2) := by decide +kernel
theorem dX12_work_135 : decode cX12_work 135 = .ok (.iadd, 1) := by decide +kernel
theorem dX12_work_136 : decode cX12_work 136 = .ok (.iconst 0, 1) := by decide +kernel
theorem dX12_work_137 : decode cX12_work 137 = .ok (.iastore, 1) := by decide +kernel
theorem dX12_work_138 : decode cX12_work 138 = .ok (.aload_n 0, 1) := by decide +kernel
theorem dX12_work_139 : decode cX12_work 139 = .ok (.getfield 9, 3) := by decide +kernel
theorem dX12_work_142 : decode cX12_work 142 = .ok (.iconst 1, 1) := by decide +kernel
theorem dX12_work_143 : decode cX12_work 143 = .ok (.dup2, 1) := by decide +kernel
theorem dX12_work_144 : decode cX12_work 144 = .ok (.iaload, 1) := by decide +kernel
theorem dX12_work_145 : decode cX12_work 145 = .ok (.iconst 1, 1) := by decide +kernel
theorem dX12_work_146 : decode cX12_work 146 = .ok (.iadd, 1) := by decide +kernel
theorem dX12_work_147 : decode cX12_work 147 = .ok (.iastore, 1) := by decide +kernel
theorem dX12_work_148 : decode cX12_work 148 = .ok (.iload 5, 2) := by decide +kernel
theorem dX12_work_150 : decode cX12_work 150 = .ok (.ireturn, 1) := by decide +kernel
theorem dX12_givesFor_0 : decode cX12_givesFor 0 = .ok (.aload_n 0, 1) := by decide +kernel
theorem dX12_givesFor_1 : decode cX12_givesFor 1 = .ok (.getfield 9, 3) := by decide +kernel
theorem dX12_givesFor_4 : decode cX12_givesFor 4 = .ok (.sipush 203, 3) := by decide +kernel
theorem dX12_givesFor_7 : decode cX12_givesFor 7 = .ok (.iload_n 1, 1) := by decide +kernel
theorem dX12_givesFor_8 : decode cX12_givesFor 8 = .ok (.iadd, 1) := by decide +kernel
theorem dX12_givesFor_9 : decode cX12_givesFor 9 = .ok (.iaload, 1) := by decide +kernel
theorem dX12_givesFor_10 : decode cX12_givesFor 10 = .ok (.aload_n 0, 1) := by decide +kernel
theorem dX12_givesFor_11 : decode cX12_givesFor 11 = .ok (.getfield 9, 3) := by decide +kernel
theorem dX12_givesFor_14 : decode cX12_givesFor 14 = .ok (.sipush 188, 3) := by decide +kernel
theorem dX12_givesFor_17 : decode cX12_givesFor 17 = .ok (.iload_n 1, 1) := by decide +kernel
theorem dX12_givesFor_18 : decode cX12_givesFor 18 = .ok (.iadd, 1) := by decide +kernel
theorem dX12_givesFor_19 : decode cX12_givesFor 19 = .ok (.iaload, 1) := by decide +kernel
theorem dX12_givesFor_20 : decode cX12_givesFor 20 = .ok (.if_icmp .ge 16, 3) := by decide +kernel
theorem dX12_givesFor_23 : decode cX12_givesFor 23 = .ok (.aload_n 0, 1) := by decide +kernel
theorem dX12_givesFor_24 : decode cX12_givesFor 24 = .ok (.getfield 9, 3) := by decide +kernel
theorem dX12_givesFor_27 : decode cX12_givesFor 27 = .ok (.sipush 203, 3) := by decide +kernel
theorem dX12_givesFor_30 : decode cX12_givesFor 30 = .ok (.iload_n 1, 1) := by decide +kernel
theorem dX12_givesFor_31 : decode cX12_givesFor 31 = .ok (.iadd, 1) := by decide +kernel
theorem dX12_givesFor_32 : decode cX12_givesFor 32 = .ok (.iaload, 1) := by decide +kernel
theorem dX12_givesFor_33 : decode cX12_givesFor 33 = .ok (.goto 13, 3) := by decide +kernel
theorem dX12_givesFor_36 : decode cX12_givesFor 36 = .ok (.aload_n 0, 1) := by decide +kernel
theorem dX12_givesFor_37 : decode cX12_givesFor 37 = .ok (.getfield 9, 3) := by decide +kernel
theorem dX12_givesFor_40 : decode cX12_givesFor 40 = .ok (.sipush 188, 3) := by decide +kernel
theorem dX12_givesFor_43 : decode cX12_givesFor 43 = .ok (.iload_n 1, 1) := by decide +kernel
theorem dX12_givesFor_44 : decode cX12_givesFor 44 = .ok (.iadd, 1) := by decide +kernel
theorem dX12_givesFor_45 : decode cX12_givesFor 45 = .ok (.iaload, 1) := by decide +kernel
theorem dX12_givesFor_46 : decode cX12_givesFor 46 = .ok (.ireturn, 1) := by decide +kernel
theorem dX12_call_0 : decode cX12_call 0 = .ok (.aload_n 0, 1) := by decide +kernel
theorem dX12_call_1 : decode cX12_call 1 = .ok (.iload_n 1, 1) := by decide +kernel
theorem dX12_call_2 : decode cX12_call 2 = .ok (.invokevirtual 160, 3) := by decide +kernel
theorem dX12_call_5 : decode cX12_call 5 = .ok (.ifCond .ne 5, 3) := by decide +kernel
theorem dX12_call_8 : decode cX12_call 8 = .ok (.iconst (-1), 1) := by decide +kernel
theorem dX12_call_9 : decode cX12_call 9 = .ok (.ireturn, 1) := by decide +kernel
theorem dX12_call_10 : decode cX12_call 10 = .ok (.iload_n 2, 1) := by decide +kernel
theorem dX12_call_11 : decode cX12_call 11 = .ok (.invokestatic 52, 3) := by decide +kernel
theorem dX12_call_14 : decode cX12_call 14 = .ok (.ifCond .eq 13, 3) := by decide +kernel
theorem dX12_call_17 : decode cX12_call 17 = .ok (.iload_n 3, 1) := by decide +kernel
theorem dX12_call_18 : decode cX12_call 18 = .ok (.iconst 0, 1) := by decide +kernel
theorem dX12_call_19 : decode cX12_call 19 = .ok (.bipush 40, 2) := by decide +kernel
theorem dX12_call_21 : decode cX12_call 21 = .ok (.invokestatic 48, 3) := by decide +kernel
theorem dX12_call_24 : decode cX12_call 24 = .ok (.ifCond .ne 6, 3) := by decide +kernel
theorem dX12_call_27 : decode cX12_call 27 = .ok (.bipush (-2), 2) := by decide +kernel
theorem dX12_call_29 : decode cX12_call 29 = .ok (.ireturn, 1) := by decide +kernel
theorem dX12_call_30 : decode cX12_call 30 = .ok (.aload_n 0, 1) := by decide +kernel
theorem dX12_call_31 : decode cX12_call 31 = .ok (.getfield 9, 3) := by decide +kernel
theorem dX12_call_34 : decode cX12_call 34 = .ok (.sipush 198, 3) := by decide +kernel
theorem dX12_call_37 : decode cX12_call 37 = .ok (.iload_n 1, 1) := by decide +kernel
theorem dX12_call_38 : decode cX12_call 38 = .ok (.iadd, 1) := by decide +kernel
theorem dX12_call_39 : decode cX12_call 39 = .ok (.iload_n 2, 1) := by decide +kernel
theorem dX12_call_40 : decode cX12_call 40 = .ok (.iastore, 1) := by decide +kernel
theorem dX12_call_41 : decode cX12_call 41 = .ok (.aload_n 0, 1) := by decide +kernel
theorem dX12_call_42 : decode cX12_call 42 = .ok (.getfield 9, 3) := by decide +kernel
theorem dX12_call_45 : decode cX12_call 45 = .ok (.sipush 203, 3) := by decide +kernel
theorem dX12_call_48 : decode cX12_call 48 = .ok (.iload_n 1, 1) := by decide +kernel
theorem dX12_call_49 : decode cX12_call 49 = .ok (.iadd, 1) := by decide +kernel
theorem dX12_call_50 : decode cX12_call 50 = .ok (.iload_n 3, 1) := by decide +kernel
theorem dX12_call_51 : decode cX12_call 51 = .ok (.iastore, 1) := by decide +kernel
theorem dX12_call_52 : decode cX12_call 52 = .ok (.aload_n 0, 1) := by decide +kernel
theorem dX12_call_53 : decode cX12_call 53 = .ok (.iload_n 1, 1) := by decide +kernel
theorem dX12_call_54 : decode cX12_call 54 = .ok (.invokevirtual 163, 3) := by decide +kernel
theorem dX12_call_57 : decode cX12_call 57 = .ok (.aload_n 0, 1) := by decide +kernel
theorem dX12_call_58 : decode cX12_call 58 = .ok (.getfield 9, 3) := by decide +kernel
theorem dX12_call_61 : decode cX12_call 61 = .ok (.sipush 193, 3) := by decide +kernel
theorem dX12_call_64 : decode cX12_call 64 = .ok (.iload_n 1, 1) := by decide +kernel
theorem dX12_call_65 : decode cX12_call 65 = .ok (.iadd, 1) := by decide +kernel
theorem dX12_call_66 : decode cX12_call 66 = .ok (.iaload, 1) := by decide +kernel
theorem dX12_call_67 : decode cX12_call 67 = .ok (.imul, 1) := by decide +kernel
theorem dX12_call_68 : decode cX12_call 68 = .ok (.ireturn, 1) := by decide +kernel
theorem dX12_madeBut_0 : decode cX12_madeBut 0 = .ok (.iconst 0, 1) := by decide +kernel
theorem dX12_madeBut_1 : decode cX12_madeBut 1 = .ok (.istore_n 3, 1) := by decide +kernel
theorem dX12_madeBut_2 : decode cX12_madeBut 2 = .ok (.iconst 0, 1) := by decide +kernel
theorem dX12_madeBut_3 : decode cX12_madeBut 3 = .ok (.istore 4, 2) := by decide +kernel
theorem dX12_madeBut_5 : decode cX12_madeBut 5 = .ok (.iload 4, 2) := by decide +kernel
theorem dX12_madeBut_7 : decode cX12_madeBut 7 = .ok (.aload_n 0, 1) := by decide +kernel
theorem dX12_madeBut_8 : decode cX12_madeBut 8 = .ok (.getfield 9, 3) := by decide +kernel
theorem dX12_madeBut_11 : decode cX12_madeBut 11 = .ok (.iconst 1, 1) := by decide +kernel
theorem dX12_madeBut_12 : decode cX12_madeBut 12 = .ok (.iaload, 1) := by decide +kernel
theorem dX12_madeBut_13 : decode cX12_madeBut 13 = .ok (.if_icmp .ge 78, 3) := by decide +kernel
theorem dX12_madeBut_16 : decode cX12_madeBut 16 = .ok (.aload_n 0, 1) := by decide +kernel
theorem dX12_madeBut_17 : decode cX12_madeBut 17 = .ok (.getfield 9, 3) := by decide +kernel
theorem dX12_madeBut_20 : decode cX12_madeBut 20 = .ok (.sipush 198, 3) := by decide +kernel
theorem dX12_madeBut_23 : decode cX12_madeBut 23 = .ok (.iload 4, 2) := by decide +kernel
theorem dX12_madeBut_25 : decode cX12_madeBut 25 = .ok (.iadd, 1) := by decide +kernel
theorem dX12_madeBut_26 : decode cX12_madeBut 26 = .ok (.iaload, 1) := by decide +kernel
theorem dX12_madeBut_27 : decode cX12_madeBut 27 = .ok (.aload_n 0, 1) := by decide +kernel
theorem dX12_madeBut_28 : decode cX12_madeBut 28 = .ok (.getfield 9, 3) := by decide +kernel
theorem dX12_madeBut_31 : decode cX12_madeBut 31 = .ok (.sipush 178, 3) := by decide +kernel
theorem dX12_madeBut_34 : decode cX12_madeBut 34 = .ok (.iload 4, 2) := by decide +kernel
theorem dX12_madeBut_36 : decode cX12_madeBut 36 = .ok (.iadd, 1) := by decide +kernel
theorem dX12_madeBut_37 : decode cX12_madeBut 37 = .ok (.iaload, 1) := by decide +kernel
theorem dX12_madeBut_38 : decode cX12_madeBut 38 = .ok (.iadd, 1) := by decide +kernel
theorem dX12_madeBut_39 : decode cX12_madeBut 39 = .ok (.istore 5, 2) := by decide +kernel
theorem dX12_madeBut_41 : decode cX12_madeBut 41 = .ok (.iload_n 3, 1) := by decide +kernel
theorem dX12_madeBut_42 : decode cX12_madeBut 42 = .ok (.iload 4, 2) := by decide +kernel
theorem dX12_madeBut_44 : decode cX12_madeBut 44 = .ok (.iload_n 1, 1) := by decide +kernel
theorem dX12_madeBut_45 : decode cX12_madeBut 45 = .ok (.if_icmp .eq 37, 3) := by decide +kernel
theorem dX12_madeBut_48 : decode cX12_madeBut 48 = .ok (.iload_n 2, 1) := by decide +kernel
theorem dX12_madeBut_49 : decode cX12_madeBut 49 = .ok (.iload 5, 2) := by decide +kernel
theorem dX12_madeBut_51 : decode cX12_madeBut 51 = .ok (.iload 5, 2) := by decide +kernel
theorem dX12_madeBut_53 : decode cX12_madeBut 53 = .ok (.aload_n 0, 1) := by decide +kernel
theorem dX12_madeBut_54 : decode cX12_madeBut 54 = .ok (.iload 4, 2) := by decide +kernel
theorem dX12_madeBut_56 : decode cX12_madeBut 56 = .ok (.invokevirtual 163, 3) := by decide +kernel
theorem dX12_madeBut_59 : decode cX12_madeBut 59 = .ok (.iadd, 1) := by decide +kernel
theorem dX12_madeBut_60 : decode cX12_madeBut 60 = .ok (.iconst 1, 1) := by decide +kernel
theorem dX12_madeBut_61 : decode cX12_madeBut 61 = .ok (.isub, 1) := by decide +kernel
theorem dX12_madeBut_62 : decode cX12_madeBut 62 = .ok (.invokestatic 48, 3) := by decide +kernel
theorem dX12_madeBut_65 : decode cX12_madeBut 65 = .ok (.ifCond .eq 17, 3) := by decide +kernel
theorem dX12_madeBut_68 : decode cX12_madeBut 68 = .ok (.aload_n 0, 1) := by decide +kernel
theorem dX12_madeBut_69 : decode cX12_madeBut 69 = .ok (.getfield 9, 3) := by decide +kernel
theorem dX12_madeBut_72 : decode cX12_madeBut 72 = .ok (.sipush 183, 3) := by decide +kernel
theorem dX12_madeBut_75 : decode cX12_madeBut 75 = .ok (.iload 4, 2) := by decide +kernel
theorem dX12_madeBut_77 : decode cX12_madeBut 77 = .ok (.iadd, 1) := by decide +kernel
theorem dX12_madeBut_78 : decode cX12_madeBut 78 = .ok (.iaload, 1) := by decide +kernel
theorem dX12_madeBut_79 : decode cX12_madeBut 79 = .ok (.goto 4, 3) := by decide +kernel
theorem dX12_madeBut_82 : decode cX12_madeBut 82 = .ok (.iconst 0, 1) := by decide +kernel
theorem dX12_madeBut_83 : decode cX12_madeBut 83 = .ok (.iadd, 1) := by decide +kernel
theorem dX12_madeBut_84 : decode cX12_madeBut 84 = .ok (.istore_n 3, 1) := by decide +kernel
theorem dX12_madeBut_85 : decode cX12_madeBut 85 = .ok (.iinc 4 1, 3) := by decide +kernel
theorem dX12_madeBut_88 : decode cX12_madeBut 88 = .ok (.goto (-83), 3) := by decide +kernel
theorem dX12_madeBut_91 : decode cX12_madeBut 91 = .ok (.iload_n 3, 1) := by decide +kernel
theorem dX12_madeBut_92 : decode cX12_madeBut 92 = .ok (.ireturn, 1) := by decide +kernel
theorem dX12_made_0 : decode cX12_made 0 = .ok (.iload_n 1, 1) := by decide +kernel
theorem dX12_made_1 : decode cX12_made 1 = .ok (.invokestatic 52, 3) := by decide +kernel
theorem dX12_made_4 : decode cX12_made 4 = .ok (.ifCond .eq 12, 3) := by decide +kernel
theorem dX12_made_7 : decode cX12_made 7 = .ok (.aload_n 0, 1) := by decide +kernel
theorem dX12_made_8 : decode cX12_made 8 = .ok (.iconst (-1), 1) := by decide +kernel
theorem dX12_made_9 : decode cX12_made 9 = .ok (.iload_n 1, 1) := by decide +kernel
theorem dX12_made_10 : decode cX12_made 10 = .ok (.invokevirtual 166, 3) := by decide +kernel
theorem dX12_made_13 : decode cX12_made 13 = .ok (.goto 5, 3) := by decide +kernel
theorem dX12_made_16 : decode cX12_made 16 = .ok (.bipush (-2), 2) := by decide +kernel
theorem dX12_made_18 : decode cX12_made 18 = .ok (.ireturn, 1) := by decide +kernel
theorem dX12_costs_0 : decode cX12_costs 0 = .ok (.iconst 0, 1) := by decide +kernel
theorem dX12_costs_1 : decode cX12_costs 1 = .ok (.istore_n 1, 1) := by decide +kernel
theorem dX12_costs_2 : decode cX12_costs 2 = .ok (.iconst 0, 1) := by decide +kernel
theorem dX12_costs_3 : decode cX12_costs 3 = .ok (.istore_n 2, 1) := by decide +kernel
theorem dX12_costs_4 : decode cX12_costs 4 = .ok (.iload_n 2, 1) := by decide +kernel
theorem dX12_costs_5 : decode cX12_costs 5 = .ok (.aload_n 0, 1) := by decide +kernel
theorem dX12_costs_6 : decode cX12_costs 6 = .ok (.getfield 9, 3) := by decide +kernel
theorem dX12_costs_9 : decode cX12_costs 9 = .ok (.iconst 1, 1) := by decide +kernel
theorem dX12_costs_10 : decode cX12_costs 10 = .ok (.iaload, 1) := by decide +kernel
theorem dX12_costs_11 : decode cX12_costs 11 = .ok (.if_icmp .ge 28, 3) := by decide +kernel
theorem dX12_costs_14 : decode cX12_costs 14 = .ok (.iload_n 1, 1) := by decide +kernel
theorem dX12_costs_15 : decode cX12_costs 15 = .ok (.aload_n 0, 1) := by decide +kernel
theorem dX12_costs_16 : decode cX12_costs 16 = .ok (.iload_n 2, 1) := by decide +kernel
theorem dX12_costs_17 : decode cX12_costs 17 = .ok (.invokevirtual 163, 3) := by decide +kernel
theorem dX12_costs_20 : decode cX12_costs 20 = .ok (.aload_n 0, 1) := by decide +kernel
theorem dX12_costs_21 : decode cX12_costs 21 = .ok (.getfield 9, 3) := by decide +kernel
theorem dX12_costs_24 : decode cX12_costs 24 = .ok (.sipush 193, 3) := by decide +kernel
theorem dX12_costs_27 : decode cX12_costs 27 = .ok (.iload_n 2, 1) := by decide +kernel
theorem dX12_costs_28 : decode cX12_costs 28 = .ok (.iadd, 1) := by decide +kernel
theorem dX12_costs_29 : decode cX12_costs 29 = .ok (.iaload, 1) := by decide +kernel
theorem dX12_costs_30 : decode cX12_costs 30 = .ok (.imul, 1) := by decide +kernel
theorem dX12_costs_31 : decode cX12_costs 31 = .ok (.iadd, 1) := by decide +kernel
theorem dX12_costs_32 : decode cX12_costs 32 = .ok (.istore_n 1, 1) := by decide +kernel
theorem dX12_costs_33 : decode cX12_costs 33 = .ok (.iinc 2 1, 3) := by decide +kernel
theorem dX12_costs_36 : decode cX12_costs 36 = .ok (.goto (-32), 3) := by decide +kernel
theorem dX12_costs_39 : decode cX12_costs 39 = .ok (.iload_n 1, 1) := by decide +kernel
theorem dX12_costs_40 : decode cX12_costs 40 = .ok (.ireturn, 1) := by decide +kernel
theorem dX12_looksAtDemand_0 : decode cX12_looksAtDemand 0 = .ok (.iconst 0, 1) := by decide +kernel
theorem dX12_looksAtDemand_1 : decode cX12_looksAtDemand 1 = .ok (.istore_n 1, 1) := by decide +kernel
theorem dX12_looksAtDemand_2 : decode cX12_looksAtDemand 2 = .ok (.iload_n 1, 1) := by decide +kernel
theorem dX12_looksAtDemand_3 : decode cX12_looksAtDemand 3 = .ok (.bipush 40, 2) := by decide +kernel
theorem dX12_looksAtDemand_5 : decode cX12_looksAtDemand 5 = .ok (.if_icmp .ge 20, 3) := by decide +kernel
theorem dX12_looksAtDemand_8 : decode cX12_looksAtDemand 8 = .ok (.aload_n 0, 1) := by decide +kernel
theorem dX12_looksAtDemand_9 : decode cX12_looksAtDemand 9 = .ok (.getfield 31, 3) := by decide +kernel
theorem dX12_looksAtDemand_12 : decode cX12_looksAtDemand 12 = .ok (.iload_n 1, 1) := by decide +kernel
theorem dX12_looksAtDemand_13 : decode cX12_looksAtDemand 13 = .ok (.aload_n 0, 1) := by decide +kernel
theorem dX12_looksAtDemand_14 : decode cX12_looksAtDemand 14 = .ok (.iload_n 1, 1) := by decide +kernel
theorem dX12_looksAtDemand_15 : decode cX12_looksAtDemand 15 = .ok (.invokevirtual 156, 3) := by decide +kernel
theorem dX12_looksAtDemand_18 : decode cX12_looksAtDemand 18 = .ok (.iastore, 1) := by decide +kernel
theorem dX12_looksAtDemand_19 : decode cX12_looksAtDemand 19 = .ok (.iinc 1 1, 3) := by decide +kernel
theorem dX12_looksAtDemand_22 : decode cX12_looksAtDemand 22 = .ok (.goto (-20), 3) := by decide +kernel
theorem dX12_looksAtDemand_25 : decode cX12_looksAtDemand 25 = .ok (.return_, 1) := by decide +kernel
theorem dX12_looksAtMade_0 : decode cX12_looksAtMade 0 = .ok (.iconst 0, 1) := by decide +kernel
theorem dX12_looksAtMade_1 : decode cX12_looksAtMade 1 = .ok (.istore_n 1, 1) := by decide +kernel
theorem dX12_looksAtMade_2 : decode cX12_looksAtMade 2 = .ok (.iload_n 1, 1) := by decide +kernel
theorem dX12_looksAtMade_3 : decode cX12_looksAtMade 3 = .ok (.bipush 40, 2) := by decide +kernel
theorem dX12_looksAtMade_5 : decode cX12_looksAtMade 5 = .ok (.if_icmp .ge 21, 3) := by decide +kernel
theorem dX12_looksAtMade_8 : decode cX12_looksAtMade 8 = .ok (.aload_n 0, 1) := by decide +kernel
theorem dX12_looksAtMade_9 : decode cX12_looksAtMade 9 = .ok (.getfield 28, 3) := by decide +kernel
theorem dX12_looksAtMade_12 : decode cX12_looksAtMade 12 = .ok (.iload_n 1, 1) := by decide +kernel
theorem dX12_looksAtMade_13 : decode cX12_looksAtMade 13 = .ok (.aload_n 0, 1) := by decide +kernel
theorem dX12_looksAtMade_14 : decode cX12_looksAtMade 14 = .ok (.iconst (-1), 1) := by decide +kernel
theorem dX12_looksAtMade_15 : decode cX12_looksAtMade 15 = .ok (.iload_n 1, 1) := by decide +kernel
theorem dX12_looksAtMade_16 : decode cX12_looksAtMade 16 = .ok (.invokevirtual 166, 3) := by decide +kernel
theorem dX12_looksAtMade_19 : decode cX12_looksAtMade 19 = .ok (.iastore, 1) := by decide +kernel
theorem dX12_looksAtMade_20 : decode cX12_looksAtMade 20 = .ok (.iinc 1 1, 3) := by decide +kernel
theorem dX12_looksAtMade_23 : decode cX12_looksAtMade 23 = .ok (.goto (-21), 3) := by decide +kernel
theorem dX12_looksAtMade_26 : decode cX12_looksAtMade 26 = .ok (.return_, 1) := by decide +kernel
theorem dX12_goes_0 : decode cX12_goes 0 = .ok (.lconst 0, 1) := by decide +kernel
theorem dX12_goes_1 : decode cX12_goes 1 = .ok (.lstore_n 2, 1) := by decide +kernel
theorem dX12_goes_2 : decode cX12_goes 2 = .ok (.iconst 0, 1) := by decide +kernel
theorem dX12_goes_3 : decode cX12_goes 3 = .ok (.istore 4, 2) := by decide +kernel
theorem dX12_goes_5 : decode cX12_goes 5 = .ok (.iload 4, 2) := by decide +kernel
theorem dX12_goes_7 : decode cX12_goes 7 = .ok (.bipush 40, 2) := by decide +kernel
theorem dX12_goes_9 : decode cX12_goes 9 = .ok (.if_icmp .ge 43, 3) := by decide +kernel
theorem dX12_goes_12 : decode cX12_goes 12 = .ok (.lload_n 2, 1) := by decide +kernel
theorem dX12_goes_13 : decode cX12_goes 13 = .ok (.aload_n 0, 1) := by decide +kernel
theorem dX12_goes_14 : decode cX12_goes 14 = .ok (.getfield 28, 3) := by decide +kernel
theorem dX12_goes_17 : decode cX12_goes 17 = .ok (.iload 4, 2) := by decide +kernel
theorem dX12_goes_19 : decode cX12_goes 19 = .ok (.iaload, 1) := by decide +kernel
theorem dX12_goes_20 : decode cX12_goes 20 = .ok (.aload_n 0, 1) := by decide +kernel
theorem dX12_goes_21 : decode cX12_goes 21 = .ok (.getfield 31, 3) := by decide +kernel
theorem dX12_goes_24 : decode cX12_goes 24 = .ok (.iload 4, 2) := by decide +kernel
theorem dX12_goes_26 : decode cX12_goes 26 = .ok (.iaload, 1) := by decide +kernel
theorem dX12_goes_27 : decode cX12_goes 27 = .ok (.isub, 1) := by decide +kernel
theorem dX12_goes_28 : decode cX12_goes 28 = .ok (.i2l, 1) := by decide +kernel
theorem dX12_goes_29 : decode cX12_goes 29 = .ok (.ldc2_w 169, 3) := by decide +kernel
theorem dX12_goes_32 : decode cX12_goes 32 = .ok (.lmul, 1) := by decide +kernel
theorem dX12_goes_33 : decode cX12_goes 33 = .ok (.iload_n 1, 1) := by decide +kernel
theorem dX12_goes_34 : decode cX12_goes 34 = .ok (.i2l, 1) := by decide +kernel
theorem dX12_goes_35 : decode cX12_goes 35 = .ok (.ldiv, 1) := by decide +kernel
theorem dX12_goes_36 : decode cX12_goes 36 = .ok (.ladd, 1) := by decide +kernel
theorem dX12_goes_37 : decode cX12_goes 37 = .ok (.lstore_n 2, 1) := by decide +kernel
theorem dX12_goes_38 : decode cX12_goes 38 = .ok (.aload_n 0, 1) := by decide +kernel
theorem dX12_goes_39 : decode cX12_goes 39 = .ok (.getfield 34, 3) := by decide +kernel
theorem dX12_goes_42 : decode cX12_goes 42 = .ok (.iload 4, 2) := by decide +kernel
theorem dX12_goes_44 : decode cX12_goes 44 = .ok (.lload_n 2, 1) := by decide +kernel
theorem dX12_goes_45 : decode cX12_goes 45 = .ok (.lastore, 1) := by decide +kernel
theorem dX12_goes_46 : decode cX12_goes 46 = .ok (.iinc 4 1, 3) := by decide +kernel
theorem dX12_goes_49 : decode cX12_goes 49 = .ok (.goto (-44), 3) := by decide +kernel
theorem dX12_goes_52 : decode cX12_goes 52 = .ok (.return_, 1) := by decide +kernel
theorem dX12_firstBeyond_0 : decode cX12_firstBeyond 0 = .ok (.iconst 0, 1) := by decide +kernel
theorem dX12_firstBeyond_1 : decode cX12_firstBeyond 1 = .ok (.istore_n 2, 1) := by decide +kernel
theorem dX12_firstBeyond_2 : decode cX12_firstBeyond 2 = .ok (.iload_n 2, 1) := by decide +kernel
theorem dX12_firstBeyond_3 : decode cX12_firstBeyond 3 = .ok (.bipush 40, 2) := by decide +kernel
theorem dX12_firstBeyond_5 : decode cX12_firstBeyond 5 = .ok (.if_icmp .ge 26, 3) := by decide +kernel
theorem dX12_firstBeyond_8 : decode cX12_firstBeyond 8 = .ok (.aload_n 0, 1) := by decide +kernel
theorem dX12_firstBeyond_9 : decode cX12_firstBeyond 9 = .ok (.getfield 34, 3) := by decide +kernel
theorem dX12_firstBeyond_12 : decode cX12_firstBeyond 12 = .ok (.iload_n 2, 1) := by decide +kernel
theorem dX12_firstBeyond_13 : decode cX12_firstBeyond 13 = .ok (.laload, 1) := by decide +kernel
theorem dX12_firstBeyond_14 : decode cX12_firstBeyond 14 = .ok (.invokestatic 171, 3) := by decide +kernel
theorem dX12_firstBeyond_17 : decode cX12_firstBeyond 17 = .ok (.iload_n 1, 1) := by decide +kernel
theorem dX12_firstBeyond_18 : decode cX12_firstBeyond 18 = .ok (.i2l, 1) := by decide +kernel
theorem dX12_firstBeyond_19 : decode cX12_firstBeyond 19 = .ok (.lcmp, 1) := by decide +kernel
theorem dX12_firstBeyond_20 : decode cX12_firstBeyond 20 = .ok (.ifCond .le 5, 3) := by decide +kernel
theorem dX12_firstBeyond_23 : decode cX12_firstBeyond 23 = .ok (.iload_n 2, 1) := by decide +kernel
theorem dX12_firstBeyond_24 : decode cX12_firstBeyond 24 = .ok (.ireturn, 1) := by decide +kernel
theorem dX12_firstBeyond_25 : decode cX12_firstBeyond 25 = .ok (.iinc 2 1, 3) := by decide +kernel
theorem dX12_firstBeyond_28 : decode cX12_firstBeyond 28 = .ok (.goto (-26), 3) := by decide +kernel
theorem dX12_firstBeyond_31 : decode cX12_firstBeyond 31 = .ok (.bipush (-5), 2) := by decide +kernel
theorem dX12_firstBeyond_33 : decode cX12_firstBeyond 33 = .ok (.ireturn, 1) := by decide +kernel
theorem dX12_looks_0 : decode cX12_looks 0 = .ok (.aload_n 0, 1) := by decide +kernel
theorem dX12_looks_1 : decode cX12_looks 1 = .ok (.invokevirtual 175, 3) := by decide +kernel
theorem dX12_looks_4 : decode cX12_looks 4 = .ok (.aload_n 0, 1) := by decide +kernel
theorem dX12_looks_5 : decode cX12_looks 5 = .ok (.invokevirtual 178, 3) := by decide +kernel
theorem dX12_looks_8 : decode cX12_looks 8 = .ok (.aload_n 0, 1) := by decide +kernel
theorem dX12_looks_9 : decode cX12_looks 9 = .ok (.aload_n 0, 1) := by decide +kernel
theorem dX12_looks_10 : decode cX12_looks 10 = .ok (.getfield 9, 3) := by decide +kernel
theorem dX12_looks_13 : decode cX12_looks 13 = .ok (.bipush 7, 2) := by decide +kernel
theorem dX12_looks_15 : decode cX12_looks 15 = .ok (.iaload, 1) := by decide +kernel
theorem dX12_looks_16 : decode cX12_looks 16 = .ok (.invokevirtual 181, 3) := by decide +kernel
theorem dX12_looks_19 : decode cX12_looks 19 = .ok (.return_, 1) := by decide +kernel
theorem dX12_beat_0 : decode cX12_beat 0 = .ok (.aload_n 0, 1) := by decide +kernel
theorem dX12_beat_1 : decode cX12_beat 1 = .ok (.invokevirtual 152, 3) := by decide +kernel
theorem dX12_beat_4 : decode cX12_beat 4 = .ok (.ifCond .eq 10, 3) := by decide +kernel
theorem dX12_beat_7 : decode cX12_beat 7 = .ok (.iload_n 1, 1) := by decide +kernel
theorem dX12_beat_8 : decode cX12_beat 8 = .ok (.invokestatic 52, 3) := by decide +kernel
theorem dX12_beat_11 : decode cX12_beat 11 = .ok (.ifCond .ne 7, 3) := by decide +kernel
theorem dX12_beat_14 : decode cX12_beat 14 = .ok (.ldc2_w 184, 3) := by decide +kernel
theorem dX12_beat_17 : decode cX12_beat 17 = .ok (.lreturn, 1) := by decide +kernel
theorem dX12_beat_18 : decode cX12_beat 18 = .ok (.aload_n 0, 1) := by decide +kernel
theorem dX12_beat_19 : decode cX12_beat 19 = .ok (.invokevirtual 186, 3) := by decide +kernel
theorem dX12_beat_22 : decode cX12_beat 22 = .ok (.aload_n 0, 1) := by decide +kernel
theorem dX12_beat_23 : decode cX12_beat 23 = .ok (.getfield 34, 3) := by decide +kernel
theorem dX12_beat_26 : decode cX12_beat 26 = .ok (.iload_n 1, 1) := by decide +kernel
theorem dX12_beat_27 : decode cX12_beat 27 = .ok (.laload, 1) := by decide +kernel
theorem dX12_beat_28 : decode cX12_beat 28 = .ok (.lreturn, 1) := by decide +kernel
theorem dX12_first_0 : decode cX12_first 0 = .ok (.aload_n 0, 1) := by decide +kernel
theorem dX12_first_1 : decode cX12_first 1 = .ok (.invokevirtual 152, 3) := by decide +kernel
theorem dX12_first_4 : decode cX12_first 4 = .ok (.ifCond .ne 5, 3) := by decide +kernel
theorem dX12_first_7 : decode cX12_first 7 = .ok (.iconst (-1), 1) := by decide +kernel
theorem dX12_first_8 : decode cX12_first 8 = .ok (.ireturn, 1) := by decide +kernel
theorem dX12_first_9 : decode cX12_first 9 = .ok (.iload_n 1, 1) := by decide +kernel
theorem dX12_first_10 : decode cX12_first 10 = .ok (.invokestatic 189, 3) := by decide +kernel
theorem dX12_first_13 : decode cX12_first 13 = .ok (.ifCond .ne 6, 3) := by decide +kernel
theorem dX12_first_16 : decode cX12_first 16 = .ok (.bipush (-2), 2) := by decide +kernel
theorem dX12_first_18 : decode cX12_first 18 = .ok (.ireturn, 1) := by decide +kernel
theorem dX12_first_19 : decode cX12_first 19 = .ok (.aload_n 0, 1) := by decide +kernel
theorem dX12_first_20 : decode cX12_first 20 = .ok (.invokevirtual 186, 3) := by decide +kernel
theorem dX12_first_23 : decode cX12_first 23 = .ok (.aload_n 0, 1) := by decide +kernel
theorem dX12_first_24 : decode cX12_first 24 = .ok (.iload_n 1, 1) := by decide +kernel
theorem dX12_first_25 : decode cX12_first 25 = .ok (.invokevirtual 192, 3) := by decide +kernel
theorem dX12_first_28 : decode cX12_first 28 = .ok (.ireturn, 1) := by decide +kernel
theorem dX12_wave_0 : decode cX12_wave 0 = .ok (.aload_n 0, 1) := by decide +kernel
theorem dX12_wave_1 : decode cX12_wave 1 = .ok (.invokevirtual 152, 3) := by decide +kernel
theorem dX12_wave_4 : decode cX12_wave 4 = .ok (.ifCond .eq 12, 3) := by decide +kernel
theorem dX12_wave_7 : decode cX12_wave 7 = .ok (.iload_n 1, 1) := by decide +kernel
theorem dX12_wave_8 : decode cX12_wave 8 = .ok (.iconst 0, 1) := by decide +kernel
theorem dX12_wave_9 : decode cX12_wave 9 = .ok (.iconst 2, 1) := by decide +kernel
theorem dX12_wave_10 : decode cX12_wave 10 = .ok (.invokestatic 48, 3) := by decide +kernel
theorem dX12_wave_13 : decode cX12_wave 13 = .ok (.ifCond .ne 7, 3) := by decide +kernel
theorem dX12_wave_16 : decode cX12_wave 16 = .ok (.ldc2_w 184, 3) := by decide +kernel
theorem dX12_wave_19 : decode cX12_wave 19 = .ok (.lreturn, 1) := by decide +kernel
theorem dX12_wave_20 : decode cX12_wave 20 = .ok (.aload_n 0, 1) := by decide +kernel
theorem dX12_wave_21 : decode cX12_wave 21 = .ok (.invokevirtual 186, 3) := by decide +kernel
theorem dX12_wave_24 : decode cX12_wave 24 = .ok (.aload_n 0, 1) := by decide +kernel
theorem dX12_wave_25 : decode cX12_wave 25 = .ok (.getfield 34, 3) := by decide +kernel
theorem dX12_wave_28 : decode cX12_wave 28 = .ok (.iconst 0, 1) := by decide +kernel
theorem dX12_wave_29 : decode cX12_wave 29 = .ok (.laload, 1) := by decide +kernel
theorem dX12_wave_30 : decode cX12_wave 30 = .ok (.lstore_n 2, 1) := by decide +kernel
theorem dX12_wave_31 : decode cX12_wave 31 = .ok (.aload_n 0, 1) := by decide +kernel
theorem dX12_wave_32 : decode cX12_wave 32 = .ok (.getfield 34, 3) := by decide +kernel
theorem dX12_wave_35 : decode cX12_wave 35 = .ok (.iconst 0, 1) := by decide +kernel
theorem dX12_wave_36 : decode cX12_wave 36 = .ok (.laload, 1) := by decide +kernel
theorem dX12_wave_37 : decode cX12_wave 37 = .ok (.lstore 4, 2) := by decide +kernel
theorem dX12_wave_39 : decode cX12_wave 39 = .ok (.iconst 1, 1) := by decide +kernel
theorem dX12_wave_40 : decode cX12_wave 40 = .ok (.istore 6, 2) := by decide +kernel
theorem dX12_wave_42 : decode cX12_wave 42 = .ok (.iload 6, 2) := by decide +kernel
theorem dX12_wave_44 : decode cX12_wave 44 = .ok (.bipush 40, 2) := by decide +kernel
theorem dX12_wave_46 : decode cX12_wave 46 = .ok (.if_icmp .ge 60, 3) := by decide +kernel
theorem dX12_wave_49 : decode cX12_wave 49 = .ok (.aload_n 0, 1) := by decide +kernel
theorem dX12_wave_50 : decode cX12_wave 50 = .ok (.getfield 34, 3) := by decide +kernel
theorem dX12_wave_53 : decode cX12_wave 53 = .ok (.iload 6, 2) := by decide +kernel
theorem dX12_wave_55 : decode cX12_wave 55 = .ok (.laload, 1) := by decide +kernel
theorem dX12_wave_56 : decode cX12_wave 56 = .ok (.lload_n 2, 1) := by decide +kernel
theorem dX12_wave_57 : decode cX12_wave 57 = .ok (.lcmp, 1) := by decide +kernel
theorem dX12_wave_58 : decode cX12_wave 58 = .ok (.ifCond .ge 13, 3) := by decide +kernel
theorem dX12_wave_61 : decode cX12_wave 61 = .ok (.aload_n 0, 1) := by decide +kernel
theorem dX12_wave_62 : decode cX12_wave 62 = .ok (.getfield 34, 3) := by decide +kernel
theorem dX12_wave_65 : decode cX12_wave 65 = .ok (.iload 6, 2) := by decide +kernel
theorem dX12_wave_67 : decode cX12_wave 67 = .ok (.laload, 1) := by decide +kernel
theorem dX12_wave_68 : decode cX12_wave 68 = .ok (.goto 4, 3) := by decide +kernel
theorem dX12_wave_71 : decode cX12_wave 71 = .ok (.lload_n 2, 1) := by decide +kernel
theorem dX12_wave_72 : decode cX12_wave 72 = .ok (.lstore_n 2, 1) := by decide +kernel
theorem dX12_wave_73 : decode cX12_wave 73 = .ok (.aload_n 0, 1) := by decide +kernel
theorem dX12_wave_74 : decode cX12_wave 74 = .ok (.getfield 34, 3) := by decide +kernel
theorem dX12_wave_77 : decode cX12_wave 77 = .ok (.iload 6, 2) := by decide +kernel
theorem dX12_wave_79 : decode cX12_wave 79 = .ok (.laload, 1) := by decide +kernel
theorem dX12_wave_80 : decode cX12_wave 80 = .ok (.lload 4, 2) := by decide +kernel
theorem dX12_wave_82 : decode cX12_wave 82 = .ok (.lcmp, 1) := by decide +kernel
theorem dX12_wave_83 : decode cX12_wave 83 = .ok (.ifCond .le 13, 3) := by decide +kernel
theorem dX12_wave_86 : decode cX12_wave 86 = .ok (.aload_n 0, 1) := by decide +kernel
theorem dX12_wave_87 : decode cX12_wave 87 = .ok (.getfield 34, 3) := by decide +kernel
theorem dX12_wave_90 : decode cX12_wave 90 = .ok (.iload 6, 2) := by decide +kernel
theorem dX12_wave_92 : decode cX12_wave 92 = .ok (.laload, 1) := by decide +kernel
theorem dX12_wave_93 : decode cX12_wave 93 = .ok (.goto 5, 3) := by decide +kernel
theorem dX12_wave_96 : decode cX12_wave 96 = .ok (.lload 4, 2) := by decide +kernel
theorem dX12_wave_98 : decode cX12_wave 98 = .ok (.lstore 4, 2) := by decide +kernel
theorem dX12_wave_100 : decode cX12_wave 100 = .ok (.iinc 6 1, 3) := by decide +kernel
theorem dX12_wave_103 : decode cX12_wave 103 = .ok (.goto (-61), 3) := by decide +kernel
theorem dX12_wave_106 : decode cX12_wave 106 = .ok (.iload_n 1, 1) := by decide +kernel
theorem dX12_wave_107 : decode cX12_wave 107 = .ok (.ifCond .ne 7, 3) := by decide +kernel
theorem dX12_wave_110 : decode cX12_wave 110 = .ok (.lload_n 2, 1) := by decide +kernel
theorem dX12_wave_111 : decode cX12_wave 111 = .ok (.goto 17, 3) := by decide +kernel
theorem dX12_wave_114 : decode cX12_wave 114 = .ok (.iload_n 1, 1) := by decide +kernel
theorem dX12_wave_115 : decode cX12_wave 115 = .ok (.iconst 1, 1) := by decide +kernel
theorem dX12_wave_116 : decode cX12_wave 116 = .ok (.if_icmp .ne 8, 3) := by decide +kernel
theorem dX12_wave_119 : decode cX12_wave 119 = .ok (.lload 4, 2) := by decide +kernel
theorem dX12_wave_121 : decode cX12_wave 121 = .ok (.goto 7, 3) := by decide +kernel
theorem dX12_wave_124 : decode cX12_wave 124 = .ok (.lload 4, 2) := by decide +kernel
theorem dX12_wave_126 : decode cX12_wave 126 = .ok (.lload_n 2, 1) := by decide +kernel
theorem dX12_wave_127 : decode cX12_wave 127 = .ok (.lsub, 1) := by decide +kernel
theorem dX12_wave_128 : decode cX12_wave 128 = .ok (.lreturn, 1) := by decide +kernel
theorem dX12_inertia_0 : decode cX12_inertia 0 = .ok (.aload_n 0, 1) := by decide +kernel
theorem dX12_inertia_1 : decode cX12_inertia 1 = .ok (.invokevirtual 152, 3) := by decide +kernel
theorem dX12_inertia_4 : decode cX12_inertia 4 = .ok (.ifCond .ne 5, 3) := by decide +kernel
theorem dX12_inertia_7 : decode cX12_inertia 7 = .ok (.iconst (-1), 1) := by decide +kernel
theorem dX12_inertia_8 : decode cX12_inertia 8 = .ok (.ireturn, 1) := by decide +kernel
theorem dX12_inertia_9 : decode cX12_inertia 9 = .ok (.iload_n 1, 1) := by decide +kernel
theorem dX12_inertia_10 : decode cX12_inertia 10 = .ok (.invokestatic 189, 3) := by decide +kernel
theorem dX12_inertia_13 : decode cX12_inertia 13 = .ok (.ifCond .ne 6, 3) := by decide +kernel
theorem dX12_inertia_16 : decode cX12_inertia 16 = .ok (.bipush (-2), 2) := by decide +kernel
theorem dX12_inertia_18 : decode cX12_inertia 18 = .ok (.ireturn, 1) := by decide +kernel
theorem dX12_inertia_19 : decode cX12_inertia 19 = .ok (.aload_n 0, 1) := by decide +kernel
theorem dX12_inertia_20 : decode cX12_inertia 20 = .ok (.invokevirtual 186, 3) := by decide +kernel
theorem dX12_inertia_23 : decode cX12_inertia 23 = .ok (.iconst 1, 1) := by decide +kernel
theorem dX12_inertia_24 : decode cX12_inertia 24 = .ok (.istore_n 2, 1) := by decide +kernel
theorem dX12_inertia_25 : decode cX12_inertia 25 = .ok (.iload_n 2, 1) := by decide +kernel
theorem dX12_inertia_26 : decode cX12_inertia 26 = .ok (.sipush 1000, 3) := by decide +kernel
theorem dX12_inertia_29 : decode cX12_inertia 29 = .ok (.if_icmp .ge 26, 3) := by decide +kernel
theorem dX12_inertia_32 : decode cX12_inertia 32 = .ok (.aload_n 0, 1) := by decide +kernel
theorem dX12_inertia_33 : decode cX12_inertia 33 = .ok (.iload_n 2, 1) := by decide +kernel
theorem dX12_inertia_34 : decode cX12_inertia 34 = .ok (.invokevirtual 181, 3) := by decide +kernel
theorem dX12_inertia_37 : decode cX12_inertia 37 = .ok (.aload_n 0, 1) := by decide +kernel
theorem dX12_inertia_38 : decode cX12_inertia 38 = .ok (.iload_n 1, 1) := by decide +kernel
theorem dX12_inertia_39 : decode cX12_inertia 39 = .ok (.invokevirtual 192, 3) := by decide +kernel
theorem dX12_inertia_42 : decode cX12_inertia 42 = .ok (.bipush (-5), 2) := by decide +kernel
theorem dX12_inertia_44 : decode cX12_inertia 44 = .ok (.if_icmp .ne 5, 3) := by decide +kernel
theorem dX12_inertia_47 : decode cX12_inertia 47 = .ok (.iload_n 2, 1) := by decide +kernel
theorem dX12_inertia_48 : decode cX12_inertia 48 = .ok (.ireturn, 1) := by decide +kernel
theorem dX12_inertia_49 : decode cX12_inertia 49 = .ok (.iinc 2 1, 3) := by decide +kernel
theorem dX12_inertia_52 : decode cX12_inertia 52 = .ok (.goto (-27), 3) := by decide +kernel
theorem dX12_inertia_55 : decode cX12_inertia 55 = .ok (.bipush (-5), 2) := by decide +kernel
theorem dX12_inertia_57 : decode cX12_inertia 57 = .ok (.ireturn, 1) := by decide +kernel
theorem dX12_best_0 : decode cX12_best 0 = .ok (.aload_n 0, 1) := by decide +kernel
theorem dX12_best_1 : decode cX12_best 1 = .ok (.iload_n 1, 1) := by decide +kernel
theorem dX12_best_2 : decode cX12_best 2 = .ok (.invokevirtual 160, 3) := by decide +kernel
theorem dX12_best_5 : decode cX12_best 5 = .ok (.ifCond .eq 19, 3) := by decide +kernel
theorem dX12_best_8 : decode cX12_best 8 = .ok (.iload_n 3, 1) := by decide +kernel
theorem dX12_best_9 : decode cX12_best 9 = .ok (.iconst 0, 1) := by decide +kernel
theorem dX12_best_10 : decode cX12_best 10 = .ok (.iconst 2, 1) := by decide +kernel
theorem dX12_best_11 : decode cX12_best 11 = .ok (.invokestatic 48, 3) := by decide +kernel
theorem dX12_best_14 : decode cX12_best 14 = .ok (.ifCond .eq 10, 3) := by decide +kernel
theorem dX12_best_17 : decode cX12_best 17 = .ok (.aload_n 0, 1) := by decide +kernel
theorem dX12_best_18 : decode cX12_best 18 = .ok (.invokevirtual 152, 3) := by decide +kernel
theorem dX12_best_21 : decode cX12_best 21 = .ok (.ifCond .ne 5, 3) := by decide +kernel
theorem dX12_best_24 : decode cX12_best 24 = .ok (.iconst (-1), 1) := by decide +kernel
theorem dX12_best_25 : decode cX12_best 25 = .ok (.ireturn, 1) := by decide +kernel
theorem dX12_best_26 : decode cX12_best 26 = .ok (.iload_n 2, 1) := by decide +kernel
theorem dX12_best_27 : decode cX12_best 27 = .ok (.invokestatic 189, 3) := by decide +kernel
theorem dX12_best_30 : decode cX12_best 30 = .ok (.ifCond .ne 6, 3) := by decide +kernel
theorem dX12_best_33 : decode cX12_best 33 = .ok (.bipush (-2), 2) := by decide +kernel
theorem dX12_best_35 : decode cX12_best 35 = .ok (.ireturn, 1) := by decide +kernel
theorem dX12_best_36 : decode cX12_best 36 = .ok (.aload_n 0, 1) := by decide +kernel
theorem dX12_best_37 : decode cX12_best 37 = .ok (.getfield 9, 3) := by decide +kernel
theorem dX12_best_40 : decode cX12_best 40 = .ok (.sipush 198, 3) := by decide +kernel
theorem dX12_best_43 : decode cX12_best 43 = .ok (.iload_n 1, 1) := by decide +kernel
theorem dX12_best_44 : decode cX12_best 44 = .ok (.iadd, 1) := by decide +kernel
theorem dX12_best_45 : decode cX12_best 45 = .ok (.iaload, 1) := by decide +kernel
theorem dX12_best_46 : decode cX12_best 46 = .ok (.istore 4, 2) := by decide +kernel
theorem dX12_best_48 : decode cX12_best 48 = .ok (.aload_n 0, 1) := by decide +kernel
theorem dX12_best_49 : decode cX12_best 49 = .ok (.getfield 9, 3) := by decide +kernel
theorem dX12_best_52 : decode cX12_best 52 = .ok (.sipush 203, 3) := by decide +kernel
theorem dX12_best_55 : decode cX12_best 55 = .ok (.iload_n 1, 1) := by decide +kernel
theorem dX12_best_56 : decode cX12_best 56 = .ok (.iadd, 1) := by decide +kernel
theorem dX12_best_57 : decode cX12_best 57 = .ok (.iaload, 1) := by decide +kernel
theorem dX12_best_58 : decode cX12_best 58 = .ok (.istore 5, 2) := by decide +kernel
theorem dX12_best_60 : decode cX12_best 60 = .ok (.bipush (-5), 2) := by decide +kernel
theorem dX12_best_62 : decode cX12_best 62 = .ok (.istore 6, 2) := by decide +kernel
theorem dX12_best_64 : decode cX12_best 64 = .ok (.bipush (-5), 2) := by decide +kernel
theorem dX12_best_66 : decode cX12_best 66 = .ok (.istore 7, 2) := by decide +kernel
theorem dX12_best_68 : decode cX12_best 68 = .ok (.bipush (-5), 2) := by decide +kernel
theorem dX12_best_70 : decode cX12_best 70 = .ok (.istore 8, 2) := by decide +kernel
theorem dX12_best_72 : decode cX12_best 72 = .ok (.aload_n 0, 1) := by decide +kernel
theorem dX12_best_73 : decode cX12_best 73 = .ok (.invokevirtual 175, 3) := by decide +kernel
theorem dX12_best_76 : decode cX12_best 76 = .ok (.iconst 1, 1) := by decide +kernel
theorem dX12_best_77 : decode cX12_best 77 = .ok (.istore 9, 2) := by decide +kernel
theorem dX12_best_79 : decode cX12_best 79 = .ok (.iload 9, 2) := by decide +kernel
theorem dX12_best_81 : decode cX12_best 81 = .ok (.bipush 20, 2) := by decide +kernel
theorem dX12_best_83 : decode cX12_best 83 = .ok (.if_icmp .gt 143, 3) := by decide +kernel
theorem dX12_best_86 : decode cX12_best 86 = .ok (.iconst 0, 1) := by decide +kernel
theorem dX12_best_87 : decode cX12_best 87 = .ok (.istore 10, 2) := by decide +kernel
theorem dX12_best_89 : decode cX12_best 89 = .ok (.iload 10, 2) := by decide +kernel
theorem dX12_best_91 : decode cX12_best 91 = .ok (.bipush 40, 2) := by decide +kernel
theorem dX12_best_93 : decode cX12_best 93 = .ok (.if_icmp .ge 127, 3) := by decide +kernel
theorem dX12_best_96 : decode cX12_best 96 = .ok (.aload_n 0, 1) := by decide +kernel
theorem dX12_best_97 : decode cX12_best 97 = .ok (.getfield 9, 3) := by decide +kernel
theorem dX12_best_100 : decode cX12_best 100 = .ok (.sipush 198, 3) := by decide +kernel
theorem dX12_best_103 : decode cX12_best 103 = .ok (.iload_n 1, 1) := by decide +kernel
theorem dX12_best_104 : decode cX12_best 104 = .ok (.iadd, 1) := by decide +kernel
theorem dX12_best_105 : decode cX12_best 105 = .ok (.iload 10, 2) := by decide +kernel
theorem dX12_best_107 : decode cX12_best 107 = .ok (.iastore, 1) := by decide +kernel
theorem dX12_best_108 : decode cX12_best 108 = .ok (.aload_n 0, 1) := by decide +kernel
theorem dX12_best_109 : decode cX12_best 109 = .ok (.getfield 9, 3) := by decide +kernel
theorem dX12_best_112 : decode cX12_best 112 = .ok (.sipush 203, 3) := by decide +kernel
theorem dX12_best_115 : decode cX12_best 115 = .ok (.iload_n 1, 1) := by decide +kernel
theorem dX12_best_116 : decode cX12_best 116 = .ok (.iadd, 1) := by decide +kernel
theorem dX12_best_117 : decode cX12_best 117 = .ok (.iload 9, 2) := by decide +kernel
theorem dX12_best_119 : decode cX12_best 119 = .ok (.iastore, 1) := by decide +kernel
theorem dX12_best_120 : decode cX12_best 120 = .ok (.aload_n 0, 1) := by decide +kernel
theorem dX12_best_121 : decode cX12_best 121 = .ok (.invokevirtual 195, 3) := by decide +kernel
theorem dX12_best_124 : decode cX12_best 124 = .ok (.istore 11, 2) := by decide +kernel
theorem dX12_best_126 : decode cX12_best 126 = .ok (.iload 8, 2) := by decide +kernel
theorem dX12_best_128 : decode cX12_best 128 = .ok (.bipush (-5), 2) := by decide +kernel
theorem dX12_best_130 : decode cX12_best 130 = .ok (.if_icmp .eq 10, 3) := by decide +kernel
theorem dX12_best_133 : decode cX12_best 133 = .ok (.iload 11, 2) := by decide +kernel
theorem dX12_best_135 : decode cX12_best 135 = .ok (.iload 8, 2) := by decide +kernel
theorem dX12_best_137 : decode cX12_best 137 = .ok (.if_icmp .ge 77, 3) := by decide +kernel
theorem dX12_best_140 : decode cX12_best 140 = .ok (.aload_n 0, 1) := by decide +kernel
theorem dX12_best_141 : decode cX12_best 141 = .ok (.invokevirtual 178, 3) := by decide +kernel
theorem dX12_best_144 : decode cX12_best 144 = .ok (.aload_n 0, 1) := by decide +kernel
theorem dX12_best_145 : decode cX12_best 145 = .ok (.aload_n 0, 1) := by decide +kernel
theorem dX12_best_146 : decode cX12_best 146 = .ok (.getfield 9, 3) := by decide +kernel
theorem dX12_best_149 : decode cX12_best 149 = .ok (.bipush 7, 2) := by decide +kernel
theorem dX12_best_151 : decode cX12_best 151 = .ok (.iaload, 1) := by decide +kernel
theorem dX12_best_152 : decode cX12_best 152 = .ok (.invokevirtual 181, 3) := by decide +kernel
theorem dX12_best_155 : decode cX12_best 155 = .ok (.aload_n 0, 1) := by decide +kernel
theorem dX12_best_156 : decode cX12_best 156 = .ok (.iload_n 2, 1) := by decide +kernel
theorem dX12_best_157 : decode cX12_best 157 = .ok (.invokevirtual 192, 3) := by decide +kernel
theorem dX12_best_160 : decode cX12_best 160 = .ok (.bipush (-5), 2) := by decide +kernel
theorem dX12_best_162 : decode cX12_best 162 = .ok (.if_icmp .ne 7, 3) := by decide +kernel
theorem dX12_best_165 : decode cX12_best 165 = .ok (.iconst 1, 1) := by decide +kernel
theorem dX12_best_166 : decode cX12_best 166 = .ok (.goto 4, 3) := by decide +kernel
theorem dX12_best_169 : decode cX12_best 169 = .ok (.iconst 0, 1) := by decide +kernel
theorem dX12_best_170 : decode cX12_best 170 = .ok (.istore 12, 2) := by decide +kernel
theorem dX12_best_172 : decode cX12_best 172 = .ok (.iload 12, 2) := by decide +kernel
theorem dX12_best_174 : decode cX12_best 174 = .ok (.ifCond .eq 8, 3) := by decide +kernel
theorem dX12_best_177 : decode cX12_best 177 = .ok (.iload 10, 2) := by decide +kernel
theorem dX12_best_179 : decode cX12_best 179 = .ok (.goto 5, 3) := by decide +kernel
theorem dX12_best_182 : decode cX12_best 182 = .ok (.iload 6, 2) := by decide +kernel
theorem dX12_best_184 : decode cX12_best 184 = .ok (.istore 6, 2) := by decide +kernel
theorem dX12_best_186 : decode cX12_best 186 = .ok (.iload 12, 2) := by decide +kernel
theorem dX12_best_188 : decode cX12_best 188 = .ok (.ifCond .eq 8, 3) := by decide +kernel
theorem dX12_best_191 : decode cX12_best 191 = .ok (.iload 9, 2) := by decide +kernel
theorem dX12_best_193 : decode cX12_best 193 = .ok (.goto 5, 3) := by decide +kernel
theorem dX12_best_196 : decode cX12_best 196 = .ok (.iload 7, 2) := by decide +kernel
theorem dX12_best_198 : decode cX12_best 198 = .ok (.istore 7, 2) := by decide +kernel
theorem dX12_best_200 : decode cX12_best 200 = .ok (.iload 12, 2) := by decide +kernel
theorem dX12_best_202 : decode cX12_best 202 = .ok (.ifCond .eq 8, 3) := by decide +kernel
theorem dX12_best_205 : decode cX12_best 205 = .ok (.iload 11, 2) := by decide +kernel
theorem dX12_best_207 : decode cX12_best 207 = .ok (.goto 5, 3) := by decide +kernel
theorem dX12_best_210 : decode cX12_best 210 = .ok (.iload 8, 2) := by decide +kernel
theorem dX12_best_212 : decode cX12_best 212 = .ok (.istore 8, 2) := by decide +kernel
theorem dX12_best_214 : decode cX12_best 214 = .ok (.iinc 10 1, 3) := by decide +kernel
theorem dX12_best_217 : decode cX12_best 217 = .ok (.goto (-128), 3) := by decide +kernel
theorem dX12_best_220 : decode cX12_best 220 = .ok (.iinc 9 1, 3) := by decide +kernel
theorem dX12_best_223 : decode cX12_best 223 = .ok (.goto (-144), 3) := by decide +kernel
theorem dX12_best_226 : decode cX12_best 226 = .ok (.aload_n 0, 1) := by decide +kernel
theorem dX12_best_227 : decode cX12_best 227 = .ok (.getfield 9, 3) := by decide +kernel
theorem dX12_best_230 : decode cX12_best 230 = .ok (.sipush 198, 3) := by decide +kernel
theorem dX12_best_233 : decode cX12_best 233 = .ok (.iload_n 1, 1) := by decide +kernel
theorem dX12_best_234 : decode cX12_best 234 = .ok (.iadd, 1) := by decide +kernel
theorem dX12_best_235 : decode cX12_best 235 = .ok (.iload 4, 2) := by decide +kernel
theorem dX12_best_237 : decode cX12_best 237 = .ok (.iastore, 1) := by decide +kernel
theorem dX12_best_238 : decode cX12_best 238 = .ok (.aload_n 0, 1) := by decide +kernel
theorem dX12_best_239 : decode cX12_best 239 = .ok (.getfield 9, 3) := by decide +kernel
theorem dX12_best_242 : decode cX12_best 242 = .ok (.sipush 203, 3) := by decide +kernel
theorem dX12_best_245 : decode cX12_best 245 = .ok (.iload_n 1, 1) := by decide +kernel
theorem dX12_best_246 : decode cX12_best 246 = .ok (.iadd, 1) := by decide +kernel
theorem dX12_best_247 : decode cX12_best 247 = .ok (.iload 5, 2) := by decide +kernel
theorem dX12_best_249 : decode cX12_best 249 = .ok (.iastore, 1) := by decide +kernel
theorem dX12_best_250 : decode cX12_best 250 = .ok (.iload_n 3, 1) := by decide +kernel
theorem dX12_best_251 : decode cX12_best 251 = .ok (.ifCond .ne 8, 3) := by decide +kernel
theorem dX12_best_254 : decode cX12_best 254 = .ok (.iload 6, 2) := by decide +kernel
theorem dX12_best_256 : decode cX12_best 256 = .ok (.goto 15, 3) := by decide +kernel
theorem dX12_best_259 : decode cX12_best 259 = .ok (.iload_n 3, 1) := by decide +kernel
theorem dX12_best_260 : decode cX12_best 260 = .ok (.iconst 1, 1) := by decide +kernel
theorem dX12_best_261 : decode cX12_best 261 = .ok (.if_icmp .ne 8, 3) := by decide +kernel
theorem dX12_best_264 : decode cX12_best 264 = .ok (.iload 7, 2) := by decide +kernel
theorem dX12_best_266 : decode cX12_best 266 = .ok (.goto 5, 3) := by decide +kernel
theorem dX12_best_269 : decode cX12_best 269 = .ok (.iload 8, 2) := by decide +kernel
theorem dX12_best_271 : decode cX12_best 271 = .ok (.ireturn, 1) := by decide +kernel
theorem dX12_oddsOf_0 : decode cX12_oddsOf 0 = .ok (.iload_n 2, 1) := by decide +kernel
theorem dX12_oddsOf_1 : decode cX12_oddsOf 1 = .ok (.ifCond .ne 16, 3) := by decide +kernel
theorem dX12_oddsOf_4 : decode cX12_oddsOf 4 = .ok (.aload_n 0, 1) := by decide +kernel
theorem dX12_oddsOf_5 : decode cX12_oddsOf 5 = .ok (.getfield 9, 3) := by decide +kernel
theorem dX12_oddsOf_8 : decode cX12_oddsOf 8 = .ok (.sipush 162, 3) := by decide +kernel
theorem dX12_oddsOf_11 : decode cX12_oddsOf 11 = .ok (.iload_n 1, 1) := by decide +kernel
theorem dX12_oddsOf_12 : decode cX12_oddsOf 12 = .ok (.iadd, 1) := by decide +kernel
theorem dX12_oddsOf_13 : decode cX12_oddsOf 13 = .ok (.iaload, 1) := by decide +kernel
theorem dX12_oddsOf_14 : decode cX12_oddsOf 14 = .ok (.goto 45, 3) := by decide +kernel
theorem dX12_oddsOf_17 : decode cX12_oddsOf 17 = .ok (.iload_n 2, 1) := by decide +kernel
theorem dX12_oddsOf_18 : decode cX12_oddsOf 18 = .ok (.iconst 1, 1) := by decide +kernel
theorem dX12_oddsOf_19 : decode cX12_oddsOf 19 = .ok (.if_icmp .ne 16, 3) := by decide +kernel
theorem dX12_oddsOf_22 : decode cX12_oddsOf 22 = .ok (.aload_n 0, 1) := by decide +kernel
theorem dX12_oddsOf_23 : decode cX12_oddsOf 23 = .ok (.getfield 9, 3) := by decide +kernel
theorem dX12_oddsOf_26 : decode cX12_oddsOf 26 = .ok (.sipush 170, 3) := by decide +kernel
theorem dX12_oddsOf_29 : decode cX12_oddsOf 29 = .ok (.iload_n 1, 1) := by decide +kernel
theorem dX12_oddsOf_30 : decode cX12_oddsOf 30 = .ok (.iadd, 1) := by decide +kernel
theorem dX12_oddsOf_31 : decode cX12_oddsOf 31 = .ok (.iaload, 1) := by decide +kernel
theorem dX12_oddsOf_32 : decode cX12_oddsOf 32 = .ok (.goto 27, 3) := by decide +kernel
theorem dX12_oddsOf_35 : decode cX12_oddsOf 35 = .ok (.bipush 10, 2) := by decide +kernel
theorem dX12_oddsOf_37 : decode cX12_oddsOf 37 = .ok (.aload_n 0, 1) := by decide +kernel
theorem dX12_oddsOf_38 : decode cX12_oddsOf 38 = .ok (.getfield 9, 3) := by decide +kernel
theorem dX12_oddsOf_41 : decode cX12_oddsOf 41 = .ok (.sipush 162, 3) := by decide +kernel
theorem dX12_oddsOf_44 : decode cX12_oddsOf 44 = .ok (.iload_n 1, 1) := by decide +kernel
theorem dX12_oddsOf_45 : decode cX12_oddsOf 45 = .ok (.iadd, 1) := by decide +kernel
theorem dX12_oddsOf_46 : decode cX12_oddsOf 46 = .ok (.iaload, 1) := by decide +kernel
theorem dX12_oddsOf_47 : decode cX12_oddsOf 47 = .ok (.isub, 1) := by decide +kernel
theorem dX12_oddsOf_48 : decode cX12_oddsOf 48 = .ok (.aload_n 0, 1) := by decide +kernel
theorem dX12_oddsOf_49 : decode cX12_oddsOf 49 = .ok (.getfield 9, 3) := by decide +kernel
theorem dX12_oddsOf_52 : decode cX12_oddsOf 52 = .ok (.sipush 170, 3) := by decide +kernel
theorem dX12_oddsOf_55 : decode cX12_oddsOf 55 = .ok (.iload_n 1, 1) := by decide +kernel
theorem dX12_oddsOf_56 : decode cX12_oddsOf 56 = .ok (.iadd, 1) := by decide +kernel
theorem dX12_oddsOf_57 : decode cX12_oddsOf 57 = .ok (.iaload, 1) := by decide +kernel
theorem dX12_oddsOf_58 : decode cX12_oddsOf 58 = .ok (.isub, 1) := by decide +kernel
theorem dX12_oddsOf_59 : decode cX12_oddsOf 59 = .ok (.ireturn, 1) := by decide +kernel
theorem dX12_lateMany_0 : decode cX12_lateMany 0 = .ok (.iconst 0, 1) := by decide +kernel
theorem dX12_lateMany_1 : decode cX12_lateMany 1 = .ok (.istore_n 1, 1) := by decide +kernel
theorem dX12_lateMany_2 : decode cX12_lateMany 2 = .ok (.iconst 0, 1) := by decide +kernel
theorem dX12_lateMany_3 : decode cX12_lateMany 3 = .ok (.istore_n 2, 1) := by decide +kernel
theorem dX12_lateMany_4 : decode cX12_lateMany 4 = .ok (.iload_n 2, 1) := by decide +kernel
theorem dX12_lateMany_5 : decode cX12_lateMany 5 = .ok (.aload_n 0, 1) := by decide +kernel
theorem dX12_lateMany_6 : decode cX12_lateMany 6 = .ok (.getfield 9, 3) := by decide +kernel
theorem dX12_lateMany_9 : decode cX12_lateMany 9 = .ok (.iconst 0, 1) := by decide +kernel
theorem dX12_lateMany_10 : decode cX12_lateMany 10 = .ok (.iaload, 1) := by decide +kernel
theorem dX12_lateMany_11 : decode cX12_lateMany 11 = .ok (.if_icmp .ge 32, 3) := by decide +kernel
theorem dX12_lateMany_14 : decode cX12_lateMany 14 = .ok (.iload_n 1, 1) := by decide +kernel
theorem dX12_lateMany_15 : decode cX12_lateMany 15 = .ok (.aload_n 0, 1) := by decide +kernel
theorem dX12_lateMany_16 : decode cX12_lateMany 16 = .ok (.getfield 9, 3) := by decide +kernel
theorem dX12_lateMany_19 : decode cX12_lateMany 19 = .ok (.sipush 162, 3) := by decide +kernel
theorem dX12_lateMany_22 : decode cX12_lateMany 22 = .ok (.iload_n 2, 1) := by decide +kernel
theorem dX12_lateMany_23 : decode cX12_lateMany 23 = .ok (.iadd, 1) := by decide +kernel
theorem dX12_lateMany_24 : decode cX12_lateMany 24 = .ok (.iaload, 1) := by decide +kernel
theorem dX12_lateMany_25 : decode cX12_lateMany 25 = .ok (.bipush 10, 2) := by decide +kernel
theorem dX12_lateMany_27 : decode cX12_lateMany 27 = .ok (.if_icmp .ge 7, 3) := by decide +kernel
theorem dX12_lateMany_30 : decode cX12_lateMany 30 = .ok (.iconst 1, 1) := by decide +kernel
theorem dX12_lateMany_31 : decode cX12_lateMany 31 = .ok (.goto 4, 3) := by decide +kernel
theorem dX12_lateMany_34 : decode cX12_lateMany 34 = .ok (.iconst 0, 1) := by decide +kernel
theorem dX12_lateMany_35 : decode cX12_lateMany 35 = .ok (.iadd, 1) := by decide +kernel
theorem dX12_lateMany_36 : decode cX12_lateMany 36 = .ok (.istore_n 1, 1) := by decide +kernel
theorem dX12_lateMany_37 : decode cX12_lateMany 37 = .ok (.iinc 2 1, 3) := by decide +kernel
theorem dX12_lateMany_40 : decode cX12_lateMany 40 = .ok (.goto (-36), 3) := by decide +kernel
theorem dX12_lateMany_43 : decode cX12_lateMany 43 = .ok (.iload_n 1, 1) := by decide +kernel
theorem dX12_lateMany_44 : decode cX12_lateMany 44 = .ok (.ireturn, 1) := by decide +kernel
theorem dX12_ways_0 : decode cX12_ways 0 = .ok (.iload_n 1, 1) := by decide +kernel
theorem dX12_ways_1 : decode cX12_ways 1 = .ok (.aload_n 0, 1) := by decide +kernel
theorem dX12_ways_2 : decode cX12_ways 2 = .ok (.getfield 9, 3) := by decide +kernel
theorem dX12_ways_5 : decode cX12_ways 5 = .ok (.iconst 0, 1) := by decide +kernel
theorem dX12_ways_6 : decode cX12_ways 6 = .ok (.iaload, 1) := by decide +kernel
theorem dX12_ways_7 : decode cX12_ways 7 = .ok (.if_icmp .ne 84, 3) := by decide +kernel
theorem dX12_ways_10 : decode cX12_ways 10 = .ok (.aload_n 0, 1) := by decide +kernel
theorem dX12_ways_11 : decode cX12_ways 11 = .ok (.invokevirtual 186, 3) := by decide +kernel
theorem dX12_ways_14 : decode cX12_ways 14 = .ok (.aload_n 0, 1) := by decide +kernel
theorem dX12_ways_15 : decode cX12_ways 15 = .ok (.iload 5, 2) := by decide +kernel
theorem dX12_ways_17 : decode cX12_ways 17 = .ok (.invokevirtual 192, 3) := by decide +kernel
theorem dX12_ways_20 : decode cX12_ways 20 = .ok (.istore 6, 2) := by decide +kernel
theorem dX12_ways_22 : decode cX12_ways 22 = .ok (.aload_n 0, 1) := by decide +kernel
theorem dX12_ways_23 : decode cX12_ways 23 = .ok (.dup, 1) := by decide +kernel
theorem dX12_ways_24 : decode cX12_ways 24 = .ok (.getfield 198, 3) := by decide +kernel
theorem dX12_ways_27 : decode cX12_ways 27 = .ok (.lload_n 2, 1) := by decide +kernel
theorem dX12_ways_28 : decode cX12_ways 28 = .ok (.ladd, 1) := by decide +kernel
theorem dX12_ways_29 : decode cX12_ways 29 = .ok (.putfield 198, 3) := by decide +kernel
theorem dX12_ways_32 : decode cX12_ways 32 = .ok (.aload_n 0, 1) := by decide +kernel
theorem dX12_ways_33 : decode cX12_ways 33 = .ok (.dup, 1) := by decide +kernel
theorem dX12_ways_34 : decode cX12_ways 34 = .ok (.getfield 202, 3) := by decide +kernel
theorem dX12_ways_37 : decode cX12_ways 37 = .ok (.iload 6, 2) := by decide +kernel
theorem dX12_ways_39 : decode cX12_ways 39 = .ok (.bipush (-5), 2) := by decide +kernel
theorem dX12_ways_41 : decode cX12_ways 41 = .ok (.if_icmp .ne 7, 3) := by decide +kernel
theorem dX12_ways_44 : decode cX12_ways 44 = .ok (.lload_n 2, 1) := by decide +kernel
theorem dX12_ways_45 : decode cX12_ways 45 = .ok (.goto 4, 3) := by decide +kernel
theorem dX12_ways_48 : decode cX12_ways 48 = .ok (.lconst 0, 1) := by decide +kernel
theorem dX12_ways_49 : decode cX12_ways 49 = .ok (.ladd, 1) := by decide +kernel
theorem dX12_ways_50 : decode cX12_ways 50 = .ok (.putfield 202, 3) := by decide +kernel
theorem dX12_ways_53 : decode cX12_ways 53 = .ok (.iload 6, 2) := by decide +kernel
theorem dX12_ways_55 : decode cX12_ways 55 = .ok (.bipush (-5), 2) := by decide +kernel
theorem dX12_ways_57 : decode cX12_ways 57 = .ok (.if_icmp .eq 33, 3) := by decide +kernel
theorem dX12_ways_60 : decode cX12_ways 60 = .ok (.aload_n 0, 1) := by decide +kernel
theorem dX12_ways_61 : decode cX12_ways 61 = .ok (.getfield 205, 3) := by decide +kernel
theorem dX12_ways_64 : decode cX12_ways 64 = .ok (.bipush (-5), 2) := by decide +kernel
theorem dX12_ways_66 : decode cX12_ways 66 = .ok (.if_icmp .eq 12, 3) := by decide +kernel
theorem dX12_ways_69 : decode cX12_ways 69 = .ok (.iload 6, 2) := by decide +kernel
theorem dX12_ways_71 : decode cX12_ways 71 = .ok (.aload_n 0, 1) := by decide +kernel
theorem dX12_ways_72 : decode cX12_ways 72 = .ok (.getfield 205, 3) := by decide +kernel
theorem dX12_ways_75 : decode cX12_ways 75 = .ok (.if_icmp .ge 15, 3) := by decide +kernel
theorem dX12_ways_78 : decode cX12_ways 78 = .ok (.aload_n 0, 1) := by decide +kernel
theorem dX12_ways_79 : decode cX12_ways 79 = .ok (.iload 6, 2) := by decide +kernel
theorem dX12_ways_81 : decode cX12_ways 81 = .ok (.putfield 205, 3) := by decide +kernel
theorem dX12_ways_84 : decode cX12_ways 84 = .ok (.aload_n 0, 1) := by decide +kernel
theorem dX12_ways_85 : decode cX12_ways 85 = .ok (.iload 4, 2) := by decide +kernel
theorem dX12_ways_87 : decode cX12_ways 87 = .ok (.putfield 208, 3) := by decide +kernel
theorem dX12_ways_90 : decode cX12_ways 90 = .ok (.return_, 1) := by decide +kernel
theorem dX12_ways_91 : decode cX12_ways 91 = .ok (.iconst 0, 1) := by decide +kernel
theorem dX12_ways_92 : decode cX12_ways 92 = .ok (.istore 6, 2) := by decide +kernel
theorem dX12_ways_94 : decode cX12_ways 94 = .ok (.iload 6, 2) := by decide +kernel
theorem dX12_ways_96 : decode cX12_ways 96 = .ok (.iconst 3, 1) := by decide +kernel
theorem dX12_ways_97 : decode cX12_ways 97 = .ok (.if_icmp .ge 72, 3) := by decide +kernel
theorem dX12_ways_100 : decode cX12_ways 100 = .ok (.aload_n 0, 1) := by decide +kernel
theorem dX12_ways_101 : decode cX12_ways 101 = .ok (.iload_n 1, 1) := by decide +kernel
theorem dX12_ways_102 : decode cX12_ways 102 = .ok (.iload 6, 2) := by decide +kernel
theorem dX12_ways_104 : decode cX12_ways 104 = .ok (.invokevirtual 211, 3) := by decide +kernel
theorem dX12_ways_107 : decode cX12_ways 107 = .ok (.istore 7, 2) := by decide +kernel
theorem dX12_ways_109 : decode cX12_ways 109 = .ok (.iload 7, 2) := by decide +kernel
theorem dX12_ways_111 : decode cX12_ways 111 = .ok (.ifCond .le 52, 3) := by decide +kernel
theorem dX12_ways_114 : decode cX12_ways 114 = .ok (.aload_n 0, 1) := by decide +kernel
theorem dX12_ways_115 : decode cX12_ways 115 = .ok (.getfield 25, 3) := by decide +kernel
theorem dX12_ways_118 : decode cX12_ways 118 = .ok (.iload_n 1, 1) := by decide +kernel
theorem dX12_ways_119 : decode cX12_ways 119 = .ok (.iload 6, 2) := by decide +kernel
theorem dX12_ways_121 : decode cX12_ways 121 = .ok (.iastore, 1) := by decide +kernel
theorem dX12_ways_122 : decode cX12_ways 122 = .ok (.aload_n 0, 1) := by decide +kernel
theorem dX12_ways_123 : decode cX12_ways 123 = .ok (.iload_n 1, 1) := by decide +kernel
theorem dX12_ways_124 : decode cX12_ways 124 = .ok (.iconst 1, 1) := by decide +kernel
theorem dX12_ways_125 : decode cX12_ways 125 = .ok (.iadd, 1) := by decide +kernel
theorem dX12_ways_126 : decode cX12_ways 126 = .ok (.aload_n 0, 1) := by decide +kernel
theorem dX12_ways_127 : decode cX12_ways 127 = .ok (.getfield 9, 3) := by decide +kernel
theorem dX12_ways_130 : decode cX12_ways 130 = .ok (.sipush 162, 3) := by decide +kernel
theorem dX12_ways_133 : decode cX12_ways 133 = .ok (.iload_n 1, 1) := by decide +kernel
theorem dX12_ways_134 : decode cX12_ways 134 = .ok (.iadd, 1) := by decide +kernel
theorem dX12_ways_135 : decode cX12_ways 135 = .ok (.iaload, 1) := by decide +kernel
theorem dX12_ways_136 : decode cX12_ways 136 = .ok (.bipush 10, 2) := by decide +kernel
theorem dX12_ways_138 : decode cX12_ways 138 = .ok (.if_icmp .ne 7, 3) := by decide +kernel
theorem dX12_ways_141 : decode cX12_ways 141 = .ok (.lload_n 2, 1) := by decide +kernel
theorem dX12_ways_142 : decode cX12_ways 142 = .ok (.goto 8, 3) := by decide +kernel
theorem dX12_ways_145 : decode cX12_ways 145 = .ok (.lload_n 2, 1) := by decide +kernel
theorem dX12_ways_146 : decode cX12_ways 146 = .ok (.iload 7, 2) := by decide +kernel
theorem dX12_ways_148 : decode cX12_ways 148 = .ok (.i2l, 1) := by decide +kernel
theorem dX12_ways_149 : decode cX12_ways 149 = .ok (.lmul, 1) := by decide +kernel
theorem dX12_ways_150 : decode cX12_ways 150 = .ok (.bipush 10, 2) := by decide +kernel
theorem dX12_ways_152 : decode cX12_ways 152 = .ok (.iload 4, 2) := by decide +kernel
theorem dX12_ways_154 : decode cX12_ways 154 = .ok (.imul, 1) := by decide +kernel
theorem dX12_ways_155 : decode cX12_ways 155 = .ok (.iload 6, 2) := by decide +kernel
theorem dX12_ways_157 : decode cX12_ways 157 = .ok (.iadd, 1) := by decide +kernel
theorem dX12_ways_158 : decode cX12_ways 158 = .ok (.iload 5, 2) := by decide +kernel
theorem dX12_ways_160 : decode cX12_ways 160 = .ok (.invokevirtual 214, 3) := by decide +kernel
theorem dX12_ways_163 : decode cX12_ways 163 = .ok (.iinc 6 1, 3) := by decide +kernel
theorem dX12_ways_166 : decode cX12_ways 166 = .ok (.goto (-72), 3) := by decide +kernel
theorem dX12_ways_169 : decode cX12_ways 169 = .ok (.aload_n 0, 1) := by decide +kernel
theorem dX12_ways_170 : decode cX12_ways 170 = .ok (.getfield 25, 3) := by decide +kernel
theorem dX12_ways_173 : decode cX12_ways 173 = .ok (.iload_n 1, 1) := by decide +kernel
theorem dX12_ways_174 : decode cX12_ways 174 = .ok (.iconst 0, 1) := by decide +kernel
theorem dX12_ways_175 : decode cX12_ways 175 = .ok (.iastore, 1) := by decide +kernel
theorem dX12_ways_176 : decode cX12_ways 176 = .ok (.return_, 1) := by decide +kernel
theorem dX12_allWays_0 : decode cX12_allWays 0 = .ok (.aload_n 0, 1) := by decide +kernel
theorem dX12_allWays_1 : decode cX12_allWays 1 = .ok (.lconst 0, 1) := by decide +kernel
theorem dX12_allWays_2 : decode cX12_allWays 2 = .ok (.putfield 202, 3) := by decide +kernel
theorem dX12_allWays_5 : decode cX12_allWays 5 = .ok (.aload_n 0, 1) := by decide +kernel
theorem dX12_allWays_6 : decode cX12_allWays 6 = .ok (.lconst 0, 1) := by decide +kernel
theorem dX12_allWays_7 : decode cX12_allWays 7 = .ok (.putfield 198, 3) := by decide +kernel
theorem dX12_allWays_10 : decode cX12_allWays 10 = .ok (.aload_n 0, 1) := by decide +kernel
theorem dX12_allWays_11 : decode cX12_allWays 11 = .ok (.bipush (-5), 2) := by decide +kernel
theorem dX12_allWays_13 : decode cX12_allWays 13 = .ok (.putfield 205, 3) := by decide +kernel
theorem dX12_allWays_16 : decode cX12_allWays 16 = .ok (.aload_n 0, 1) := by decide +kernel
theorem dX12_allWays_17 : decode cX12_allWays 17 = .ok (.bipush (-5), 2) := by decide +kernel
theorem dX12_allWays_19 : decode cX12_allWays 19 = .ok (.putfield 208, 3) := by decide +kernel
theorem dX12_allWays_22 : decode cX12_allWays 22 = .ok (.aload_n 0, 1) := by decide +kernel
theorem dX12_allWays_23 : decode cX12_allWays 23 = .ok (.iconst 0, 1) := by decide +kernel
theorem dX12_allWays_24 : decode cX12_allWays 24 = .ok (.lconst 1, 1) := by decide +kernel
theorem dX12_allWays_25 : decode cX12_allWays 25 = .ok (.iconst 0, 1) := by decide +kernel
theorem dX12_allWays_26 : decode cX12_allWays 26 = .ok (.iload_n 1, 1) := by decide +kernel
theorem dX12_allWays_27 : decode cX12_allWays 27 = .ok (.invokevirtual 214, 3) := by decide +kernel
theorem dX12_allWays_30 : decode cX12_allWays 30 = .ok (.return_, 1) := by decide +kernel
theorem dX12_divisor_0 : decode cX12_divisor 0 = .ok (.lload_n 0, 1) := by decide +kernel
theorem dX12_divisor_1 : decode cX12_divisor 1 = .ok (.lstore 4, 2) := by decide +kernel
theorem dX12_divisor_3 : decode cX12_divisor 3 = .ok (.lload_n 2, 1) := by decide +kernel
theorem dX12_divisor_4 : decode cX12_divisor 4 = .ok (.lstore 6, 2) := by decide +kernel
theorem dX12_divisor_6 : decode cX12_divisor 6 = .ok (.lload 6, 2) := by decide +kernel
theorem dX12_divisor_8 : decode cX12_divisor 8 = .ok (.lconst 0, 1) := by decide +kernel
theorem dX12_divisor_9 : decode cX12_divisor 9 = .ok (.lcmp, 1) := by decide +kernel
theorem dX12_divisor_10 : decode cX12_divisor 10 = .ok (.ifCond .eq 21, 3) := by decide +kernel
theorem dX12_divisor_13 : decode cX12_divisor 13 = .ok (.lload 4, 2) := by decide +kernel
theorem dX12_divisor_15 : decode cX12_divisor 15 = .ok (.lload 6, 2) := by decide +kernel
theorem dX12_divisor_17 : decode cX12_divisor 17 = .ok (.lrem, 1) := by decide +kernel
theorem dX12_divisor_18 : decode cX12_divisor 18 = .ok (.lstore 8, 2) := by decide +kernel
theorem dX12_divisor_20 : decode cX12_divisor 20 = .ok (.lload 6, 2) := by decide +kernel
theorem dX12_divisor_22 : decode cX12_divisor 22 = .ok (.lstore 4, 2) := by decide +kernel
theorem dX12_divisor_24 : decode cX12_divisor 24 = .ok (.lload 8, 2) := by decide +kernel
theorem dX12_divisor_26 : decode cX12_divisor 26 = .ok (.lstore 6, 2) := by decide +kernel
theorem dX12_divisor_28 : decode cX12_divisor 28 = .ok (.goto (-22), 3) := by decide +kernel
theorem dX12_divisor_31 : decode cX12_divisor 31 = .ok (.lload 4, 2) := by decide +kernel
theorem dX12_divisor_33 : decode cX12_divisor 33 = .ok (.lreturn, 1) := by decide +kernel
theorem dX12_sure_0 : decode cX12_sure 0 = .ok (.aload_n 0, 1) := by decide +kernel
theorem dX12_sure_1 : decode cX12_sure 1 = .ok (.invokevirtual 152, 3) := by decide +kernel
theorem dX12_sure_4 : decode cX12_sure 4 = .ok (.ifCond .eq 27, 3) := by decide +kernel
theorem dX12_sure_7 : decode cX12_sure 7 = .ok (.iload_n 1, 1) := by decide +kernel
theorem dX12_sure_8 : decode cX12_sure 8 = .ok (.invokestatic 189, 3) := by decide +kernel
theorem dX12_sure_11 : decode cX12_sure 11 = .ok (.ifCond .eq 20, 3) := by decide +kernel
theorem dX12_sure_14 : decode cX12_sure 14 = .ok (.iload_n 2, 1) := by decide +kernel
theorem dX12_sure_15 : decode cX12_sure 15 = .ok (.iconst 0, 1) := by decide +kernel
theorem dX12_sure_16 : decode cX12_sure 16 = .ok (.iconst 1, 1) := by decide +kernel
theorem dX12_sure_17 : decode cX12_sure 17 = .ok (.invokestatic 48, 3) := by decide +kernel
theorem dX12_sure_20 : decode cX12_sure 20 = .ok (.ifCond .eq 11, 3) := by decide +kernel
theorem dX12_sure_23 : decode cX12_sure 23 = .ok (.aload_n 0, 1) := by decide +kernel
theorem dX12_sure_24 : decode cX12_sure 24 = .ok (.invokevirtual 218, 3) := by decide +kernel
theorem dX12_sure_27 : decode cX12_sure 27 = .ok (.iconst 4, 1) := by decide +kernel
theorem dX12_sure_28 : decode cX12_sure 28 = .ok (.if_icmp .le 7, 3) := by decide +kernel
theorem dX12_sure_31 : decode cX12_sure 31 = .ok (.ldc2_w 184, 3) := by decide +kernel
theorem dX12_sure_34 : decode cX12_sure 34 = .ok (.lreturn, 1) := by decide +kernel
theorem dX12_sure_35 : decode cX12_sure 35 = .ok (.aload_n 0, 1) := by decide +kernel
theorem dX12_sure_36 : decode cX12_sure 36 = .ok (.iload_n 1, 1) := by decide +kernel
theorem dX12_sure_37 : decode cX12_sure 37 = .ok (.invokevirtual 221, 3) := by decide +kernel
theorem dX12_sure_40 : decode cX12_sure 40 = .ok (.iload_n 2, 1) := by decide +kernel
theorem dX12_sure_41 : decode cX12_sure 41 = .ok (.ifCond .ne 10, 3) := by decide +kernel
theorem dX12_sure_44 : decode cX12_sure 44 = .ok (.aload_n 0, 1) := by decide +kernel
theorem dX12_sure_45 : decode cX12_sure 45 = .ok (.getfield 202, 3) := by decide +kernel
theorem dX12_sure_48 : decode cX12_sure 48 = .ok (.goto 7, 3) := by decide +kernel
theorem dX12_sure_51 : decode cX12_sure 51 = .ok (.aload_n 0, 1) := by decide +kernel
theorem dX12_sure_52 : decode cX12_sure 52 = .ok (.getfield 198, 3) := by decide +kernel
theorem dX12_sure_55 : decode cX12_sure 55 = .ok (.aload_n 0, 1) := by decide +kernel
theorem dX12_sure_56 : decode cX12_sure 56 = .ok (.getfield 202, 3) := by decide +kernel
theorem dX12_sure_59 : decode cX12_sure 59 = .ok (.aload_n 0, 1) := by decide +kernel
theorem dX12_sure_60 : decode cX12_sure 60 = .ok (.getfield 198, 3) := by decide +kernel
theorem dX12_sure_63 : decode cX12_sure 63 = .ok (.invokestatic 224, 3) := by decide +kernel
theorem dX12_sure_66 : decode cX12_sure 66 = .ok (.ldiv, 1) := by decide +kernel
theorem dX12_sure_67 : decode cX12_sure 67 = .ok (.lreturn, 1) := by decide +kernel
theorem dX12_worst_0 : decode cX12_worst 0 = .ok (.iload_n 2, 1) := by decide +kernel
theorem dX12_worst_1 : decode cX12_worst 1 = .ok (.iconst 0, 1) := by decide +kernel
theorem dX12_worst_2 : decode cX12_worst 2 = .ok (.iconst 1, 1) := by decide +kernel
theorem dX12_worst_3 : decode cX12_worst 3 = .ok (.invokestatic 48, 3) := by decide +kernel
theorem dX12_worst_6 : decode cX12_worst 6 = .ok (.ifCond .eq 10, 3) := by decide +kernel
theorem dX12_worst_9 : decode cX12_worst 9 = .ok (.aload_n 0, 1) := by decide +kernel
theorem dX12_worst_10 : decode cX12_worst 10 = .ok (.invokevirtual 152, 3) := by decide +kernel
theorem dX12_worst_13 : decode cX12_worst 13 = .ok (.ifCond .ne 5, 3) := by decide +kernel
theorem dX12_worst_16 : decode cX12_worst 16 = .ok (.iconst (-1), 1) := by decide +kernel
theorem dX12_worst_17 : decode cX12_worst 17 = .ok (.ireturn, 1) := by decide +kernel
theorem dX12_worst_18 : decode cX12_worst 18 = .ok (.iload_n 1, 1) := by decide +kernel
theorem dX12_worst_19 : decode cX12_worst 19 = .ok (.invokestatic 189, 3) := by decide +kernel
theorem dX12_worst_22 : decode cX12_worst 22 = .ok (.ifCond .ne 6, 3) := by decide +kernel
theorem dX12_worst_25 : decode cX12_worst 25 = .ok (.bipush (-2), 2) := by decide +kernel
theorem dX12_worst_27 : decode cX12_worst 27 = .ok (.ireturn, 1) := by decide +kernel
theorem dX12_worst_28 : decode cX12_worst 28 = .ok (.aload_n 0, 1) := by decide +kernel
theorem dX12_worst_29 : decode cX12_worst 29 = .ok (.invokevirtual 218, 3) := by decide +kernel
theorem dX12_worst_32 : decode cX12_worst 32 = .ok (.iconst 4, 1) := by decide +kernel
theorem dX12_worst_33 : decode cX12_worst 33 = .ok (.if_icmp .le 6, 3) := by decide +kernel
theorem dX12_worst_36 : decode cX12_worst 36 = .ok (.bipush (-9), 2) := by decide +kernel
theorem dX12_worst_38 : decode cX12_worst 38 = .ok (.ireturn, 1) := by decide +kernel
theorem dX12_worst_39 : decode cX12_worst 39 = .ok (.aload_n 0, 1) := by decide +kernel
theorem dX12_worst_40 : decode cX12_worst 40 = .ok (.iload_n 1, 1) := by decide +kernel
theorem dX12_worst_41 : decode cX12_worst 41 = .ok (.invokevirtual 221, 3) := by decide +kernel
theorem dX12_worst_44 : decode cX12_worst 44 = .ok (.iload_n 2, 1) := by decide +kernel
theorem dX12_worst_45 : decode cX12_worst 45 = .ok (.ifCond .ne 10, 3) := by decide +kernel
theorem dX12_worst_48 : decode cX12_worst 48 = .ok (.aload_n 0, 1) := by decide +kernel
theorem dX12_worst_49 : decode cX12_worst 49 = .ok (.getfield 205, 3) := by decide +kernel
theorem dX12_worst_52 : decode cX12_worst 52 = .ok (.goto 7, 3) := by decide +kernel
theorem dX12_worst_55 : decode cX12_worst 55 = .ok (.aload_n 0, 1) := by decide +kernel
theorem dX12_worst_56 : decode cX12_worst 56 = .ok (.getfield 208, 3) := by decide +kernel
theorem dX12_worst_59 : decode cX12_worst 59 = .ok (.ireturn, 1) := by decide +kernel
theorem dX12_beside_0 : decode cX12_beside 0 = .ok (.aload_n 0, 1) := by decide +kernel
theorem dX12_beside_1 : decode cX12_beside 1 = .ok (.iload_n 1, 1) := by decide +kernel
theorem dX12_beside_2 : decode cX12_beside 2 = .ok (.invokevirtual 160, 3) := by decide +kernel
theorem dX12_beside_5 : decode cX12_beside 5 = .ok (.ifCond .eq 10, 3) := by decide +kernel
theorem dX12_beside_8 : decode cX12_beside 8 = .ok (.aload_n 0, 1) := by decide +kernel
theorem dX12_beside_9 : decode cX12_beside 9 = .ok (.invokevirtual 152, 3) := by decide +kernel
theorem dX12_beside_12 : decode cX12_beside 12 = .ok (.ifCond .ne 5, 3) := by decide +kernel
theorem dX12_beside_15 : decode cX12_beside 15 = .ok (.iconst (-1), 1) := by decide +kernel
theorem dX12_beside_16 : decode cX12_beside 16 = .ok (.ireturn, 1) := by decide +kernel
theorem dX12_beside_17 : decode cX12_beside 17 = .ok (.iload_n 2, 1) := by decide +kernel
theorem dX12_beside_18 : decode cX12_beside 18 = .ok (.iconst 0, 1) := by decide +kernel
theorem dX12_beside_19 : decode cX12_beside 19 = .ok (.sipush 999, 3) := by decide +kernel
theorem dX12_beside_22 : decode cX12_beside 22 = .ok (.invokestatic 48, 3) := by decide +kernel
theorem dX12_beside_25 : decode cX12_beside 25 = .ok (.ifCond .eq 21, 3) := by decide +kernel
theorem dX12_beside_28 : decode cX12_beside 28 = .ok (.iload_n 3, 1) := by decide +kernel
theorem dX12_beside_29 : decode cX12_beside 29 = .ok (.iconst 1, 1) := by decide +kernel
theorem dX12_beside_30 : decode cX12_beside 30 = .ok (.bipush 20, 2) := by decide +kernel
theorem dX12_beside_32 : decode cX12_beside 32 = .ok (.invokestatic 48, 3) := by decide +kernel
theorem dX12_beside_35 : decode cX12_beside 35 = .ok (.ifCond .eq 11, 3) := by decide +kernel
theorem dX12_beside_38 : decode cX12_beside 38 = .ok (.iload 4, 2) := by decide +kernel
theorem dX12_beside_40 : decode cX12_beside 40 = .ok (.invokestatic 189, 3) := by decide +kernel
theorem dX12_beside_43 : decode cX12_beside 43 = .ok (.ifCond .ne 6, 3) := by decide +kernel
theorem dX12_beside_46 : decode cX12_beside 46 = .ok (.bipush (-2), 2) := by decide +kernel
theorem dX12_beside_48 : decode cX12_beside 48 = .ok (.ireturn, 1) := by decide +kernel
theorem dX12_beside_49 : decode cX12_beside 49 = .ok (.aload_n 0, 1) := by decide +kernel
theorem dX12_beside_50 : decode cX12_beside 50 = .ok (.invokevirtual 175, 3) := by decide +kernel
theorem dX12_beside_53 : decode cX12_beside 53 = .ok (.iconst 0, 1) := by decide +kernel
theorem dX12_beside_54 : decode cX12_beside 54 = .ok (.istore 5, 2) := by decide +kernel
theorem dX12_beside_56 : decode cX12_beside 56 = .ok (.iload 5, 2) := by decide +kernel
theorem dX12_beside_58 : decode cX12_beside 58 = .ok (.bipush 80, 2) := by decide +kernel
theorem dX12_beside_60 : decode cX12_beside 60 = .ok (.if_icmp .ge 17, 3) := by decide +kernel
theorem dX12_beside_63 : decode cX12_beside 63 = .ok (.aload_n 0, 1) := by decide +kernel
theorem dX12_beside_64 : decode cX12_beside 64 = .ok (.getfield 38, 3) := by decide +kernel
theorem dX12_beside_67 : decode cX12_beside 67 = .ok (.iload 5, 2) := by decide +kernel
theorem dX12_beside_69 : decode cX12_beside 69 = .ok (.iconst 0, 1) := by decide +kernel
theorem dX12_beside_70 : decode cX12_beside 70 = .ok (.bastore, 1) := by decide +kernel
theorem dX12_beside_71 : decode cX12_beside 71 = .ok (.iinc 5 1, 3) := by decide +kernel
theorem dX12_beside_74 : decode cX12_beside 74 = .ok (.goto (-18), 3) := by decide +kernel
theorem dX12_beside_77 : decode cX12_beside 77 = .ok (.iconst 0, 1) := by decide +kernel
theorem dX12_beside_78 : decode cX12_beside 78 = .ok (.istore 5, 2) := by decide +kernel
theorem dX12_beside_80 : decode cX12_beside 80 = .ok (.lconst 0, 1) := by decide +kernel
theorem dX12_beside_81 : decode cX12_beside 81 = .ok (.lstore 6, 2) := by decide +kernel
theorem dX12_beside_83 : decode cX12_beside 83 = .ok (.bipush (-5), 2) := by decide +kernel
theorem dX12_beside_85 : decode cX12_beside 85 = .ok (.istore 8, 2) := by decide +kernel
theorem dX12_beside_87 : decode cX12_beside 87 = .ok (.iconst 0, 1) := by decide +kernel
theorem dX12_beside_88 : decode cX12_beside 88 = .ok (.istore 9, 2) := by decide +kernel
theorem dX12_beside_90 : decode cX12_beside 90 = .ok (.iload 9, 2) := by decide +kernel
theorem dX12_beside_92 : decode cX12_beside 92 = .ok (.bipush 40, 2) := by decide +kernel
theorem dX12_beside_94 : decode cX12_beside 94 = .ok (.if_icmp .ge 190, 3) := by decide +kernel
theorem dX12_beside_97 : decode cX12_beside 97 = .ok (.aload_n 0, 1) := by decide +kernel
theorem dX12_beside_98 : decode cX12_beside 98 = .ok (.getfield 38, 3) := by decide +kernel
theorem dX12_beside_101 : decode cX12_beside 101 = .ok (.iload 9, 2) := by decide +kernel
theorem dX12_beside_103 : decode cX12_beside 103 = .ok (.baload, 1) := by decide +kernel
theorem dX12_beside_104 : decode cX12_beside 104 = .ok (.ifCond .eq 22, 3) := by decide +kernel
theorem dX12_beside_107 : decode cX12_beside 107 = .ok (.iload 5, 2) := by decide +kernel
theorem dX12_beside_109 : decode cX12_beside 109 = .ok (.aload_n 0, 1) := by decide +kernel
theorem dX12_beside_110 : decode cX12_beside 110 = .ok (.getfield 9, 3) := by decide +kernel
theorem dX12_beside_113 : decode cX12_beside 113 = .ok (.sipush 188, 3) := by decide +kernel
theorem dX12_beside_116 : decode cX12_beside 116 = .ok (.iload_n 1, 1) := by decide +kernel
theorem dX12_beside_117 : decode cX12_beside 117 = .ok (.iadd, 1) := by decide +kernel
theorem dX12_beside_118 : decode cX12_beside 118 = .ok (.iaload, 1) := by decide +kernel
theorem dX12_beside_119 : decode cX12_beside 119 = .ok (.if_icmp .ge 7, 3) := by decide +kernel
theorem dX12_beside_122 : decode cX12_beside 122 = .ok (.iconst 1, 1) := by decide +kernel
theorem dX12_beside_123 : decode cX12_beside 123 = .ok (.goto 4, 3) := by decide +kernel
theorem dX12_beside_126 : decode cX12_beside 126 = .ok (.iconst 0, 1) := by decide +kernel
theorem dX12_beside_127 : decode cX12_beside 127 = .ok (.istore 10, 2) := by decide +kernel
theorem dX12_beside_129 : decode cX12_beside 129 = .ok (.iload 5, 2) := by decide +kernel
theorem dX12_beside_131 : decode cX12_beside 131 = .ok (.iload 10, 2) := by decide +kernel
theorem dX12_beside_133 : decode cX12_beside 133 = .ok (.ifCond .eq 7, 3) := by decide +kernel
theorem dX12_beside_136 : decode cX12_beside 136 = .ok (.iconst 1, 1) := by decide +kernel
theorem dX12_beside_137 : decode cX12_beside 137 = .ok (.goto 4, 3) := by decide +kernel
theorem dX12_beside_140 : decode cX12_beside 140 = .ok (.iconst 0, 1) := by decide +kernel
theorem dX12_beside_141 : decode cX12_beside 141 = .ok (.iadd, 1) := by decide +kernel
theorem dX12_beside_142 : decode cX12_beside 142 = .ok (.istore 5, 2) := by decide +kernel
theorem dX12_beside_144 : decode cX12_beside 144 = .ok (.aload_n 0, 1) := by decide +kernel
theorem dX12_beside_145 : decode cX12_beside 145 = .ok (.iload_n 1, 1) := by decide +kernel
theorem dX12_beside_146 : decode cX12_beside 146 = .ok (.iload 9, 2) := by decide +kernel
theorem dX12_beside_148 : decode cX12_beside 148 = .ok (.invokevirtual 166, 3) := by decide +kernel
theorem dX12_beside_151 : decode cX12_beside 151 = .ok (.iload 10, 2) := by decide +kernel
theorem dX12_beside_153 : decode cX12_beside 153 = .ok (.ifCond .eq 16, 3) := by decide +kernel
theorem dX12_beside_156 : decode cX12_beside 156 = .ok (.aload_n 0, 1) := by decide +kernel
theorem dX12_beside_157 : decode cX12_beside 157 = .ok (.getfield 9, 3) := by decide +kernel
theorem dX12_beside_160 : decode cX12_beside 160 = .ok (.sipush 183, 3) := by decide +kernel
theorem dX12_beside_163 : decode cX12_beside 163 = .ok (.iload_n 1, 1) := by decide +kernel
theorem dX12_beside_164 : decode cX12_beside 164 = .ok (.iadd, 1) := by decide +kernel
theorem dX12_beside_165 : decode cX12_beside 165 = .ok (.iaload, 1) := by decide +kernel
theorem dX12_beside_166 : decode cX12_beside 166 = .ok (.goto 4, 3) := by decide +kernel
theorem dX12_beside_169 : decode cX12_beside 169 = .ok (.iconst 0, 1) := by decide +kernel
theorem dX12_beside_170 : decode cX12_beside 170 = .ok (.iadd, 1) := by decide +kernel
theorem dX12_beside_171 : decode cX12_beside 171 = .ok (.istore 11, 2) := by decide +kernel
theorem dX12_beside_173 : decode cX12_beside 173 = .ok (.lload 6, 2) := by decide +kernel
theorem dX12_beside_175 : decode cX12_beside 175 = .ok (.iload 11, 2) := by decide +kernel
theorem dX12_beside_177 : decode cX12_beside 177 = .ok (.aload_n 0, 1) := by decide +kernel
theorem dX12_beside_178 : decode cX12_beside 178 = .ok (.getfield 31, 3) := by decide +kernel
theorem dX12_beside_181 : decode cX12_beside 181 = .ok (.iload 9, 2) := by decide +kernel
theorem dX12_beside_183 : decode cX12_beside 183 = .ok (.iaload, 1) := by decide +kernel
theorem dX12_beside_184 : decode cX12_beside 184 = .ok (.isub, 1) := by decide +kernel
theorem dX12_beside_185 : decode cX12_beside 185 = .ok (.i2l, 1) := by decide +kernel
theorem dX12_beside_186 : decode cX12_beside 186 = .ok (.ldc2_w 169, 3) := by decide +kernel
theorem dX12_beside_189 : decode cX12_beside 189 = .ok (.lmul, 1) := by decide +kernel
theorem dX12_beside_190 : decode cX12_beside 190 = .ok (.aload_n 0, 1) := by decide +kernel
theorem dX12_beside_191 : decode cX12_beside 191 = .ok (.getfield 9, 3) := by decide +kernel
theorem dX12_beside_194 : decode cX12_beside 194 = .ok (.bipush 7, 2) := by decide +kernel
theorem dX12_beside_196 : decode cX12_beside 196 = .ok (.iaload, 1) := by decide +kernel
theorem dX12_beside_197 : decode cX12_beside 197 = .ok (.i2l, 1) := by decide +kernel
theorem dX12_beside_198 : decode cX12_beside 198 = .ok (.ldiv, 1) := by decide +kernel
theorem dX12_beside_199 : decode cX12_beside 199 = .ok (.ladd, 1) := by decide +kernel
theorem dX12_beside_200 : decode cX12_beside 200 = .ok (.lstore 6, 2) := by decide +kernel
theorem dX12_beside_202 : decode cX12_beside 202 = .ok (.iload 8, 2) := by decide +kernel
theorem dX12_beside_204 : decode cX12_beside 204 = .ok (.bipush (-5), 2) := by decide +kernel
theorem dX12_beside_206 : decode cX12_beside 206 = .ok (.if_icmp .ne 20, 3) := by decide +kernel
theorem dX12_beside_209 : decode cX12_beside 209 = .ok (.lload 6, 2) := by decide +kernel
theorem dX12_beside_211 : decode cX12_beside 211 = .ok (.invokestatic 171, 3) := by decide +kernel
theorem dX12_beside_214 : decode cX12_beside 214 = .ok (.iload 4, 2) := by decide +kernel
theorem dX12_beside_216 : decode cX12_beside 216 = .ok (.i2l, 1) := by decide +kernel
theorem dX12_beside_217 : decode cX12_beside 217 = .ok (.lcmp, 1) := by decide +kernel
theorem dX12_beside_218 : decode cX12_beside 218 = .ok (.ifCond .le 8, 3) := by decide +kernel
theorem dX12_beside_221 : decode cX12_beside 221 = .ok (.iload 9, 2) := by decide +kernel
theorem dX12_beside_223 : decode cX12_beside 223 = .ok (.goto 5, 3) := by decide +kernel
theorem dX12_beside_226 : decode cX12_beside 226 = .ok (.iload 8, 2) := by decide +kernel
theorem dX12_beside_228 : decode cX12_beside 228 = .ok (.istore 8, 2) := by decide +kernel
theorem dX12_beside_230 : decode cX12_beside 230 = .ok (.iconst 0, 1) := by decide +kernel
theorem dX12_beside_231 : decode cX12_beside 231 = .ok (.istore 12, 2) := by decide +kernel
theorem dX12_beside_233 : decode cX12_beside 233 = .ok (.iload 12, 2) := by decide +kernel
theorem dX12_beside_235 : decode cX12_beside 235 = .ok (.iload_n 3, 1) := by decide +kernel
theorem dX12_beside_236 : decode cX12_beside 236 = .ok (.if_icmp .ge 42, 3) := by decide +kernel
theorem dX12_beside_239 : decode cX12_beside 239 = .ok (.lload 6, 2) := by decide +kernel
theorem dX12_beside_241 : decode cX12_beside 241 = .ok (.iload_n 2, 1) := by decide +kernel
theorem dX12_beside_242 : decode cX12_beside 242 = .ok (.ineg, 1) := by decide +kernel
theorem dX12_beside_243 : decode cX12_beside 243 = .ok (.i2l, 1) := by decide +kernel
theorem dX12_beside_244 : decode cX12_beside 244 = .ok (.lcmp, 1) := by decide +kernel
theorem dX12_beside_245 : decode cX12_beside 245 = .ok (.ifCond .ge 33, 3) := by decide +kernel
theorem dX12_beside_248 : decode cX12_beside 248 = .ok (.aload_n 0, 1) := by decide +kernel
theorem dX12_beside_249 : decode cX12_beside 249 = .ok (.getfield 38, 3) := by decide +kernel
theorem dX12_beside_252 : decode cX12_beside 252 = .ok (.iload 9, 2) := by decide +kernel
theorem dX12_beside_254 : decode cX12_beside 254 = .ok (.iconst 1, 1) := by decide +kernel
theorem dX12_beside_255 : decode cX12_beside 255 = .ok (.iadd, 1) := by decide +kernel
theorem dX12_beside_256 : decode cX12_beside 256 = .ok (.aload_n 0, 1) := by decide +kernel
theorem dX12_beside_257 : decode cX12_beside 257 = .ok (.getfield 9, 3) := by decide +kernel
theorem dX12_beside_260 : decode cX12_beside 260 = .ok (.sipush 178, 3) := by decide +kernel
theorem dX12_beside_263 : decode cX12_beside 263 = .ok (.iload_n 1, 1) := by decide +kernel
theorem dX12_beside_264 : decode cX12_beside 264 = .ok (.iadd, 1) := by decide +kernel
theorem dX12_beside_265 : decode cX12_beside 265 = .ok (.iaload, 1) := by decide +kernel
theorem dX12_beside_266 : decode cX12_beside 266 = .ok (.iadd, 1) := by decide +kernel
theorem dX12_beside_267 : decode cX12_beside 267 = .ok (.iload 12, 2) := by decide +kernel
theorem dX12_beside_269 : decode cX12_beside 269 = .ok (.iadd, 1) := by decide +kernel
theorem dX12_beside_270 : decode cX12_beside 270 = .ok (.iconst 1, 1) := by decide +kernel
theorem dX12_beside_271 : decode cX12_beside 271 = .ok (.bastore, 1) := by decide +kernel
theorem dX12_beside_272 : decode cX12_beside 272 = .ok (.iinc 12 1, 3) := by decide +kernel
theorem dX12_beside_275 : decode cX12_beside 275 = .ok (.goto (-42), 3) := by decide +kernel
theorem dX12_beside_278 : decode cX12_beside 278 = .ok (.iinc 9 1, 3) := by decide +kernel
theorem dX12_beside_281 : decode cX12_beside 281 = .ok (.goto (-191), 3) := by decide +kernel
theorem dX12_beside_284 : decode cX12_beside 284 = .ok (.iload 8, 2) := by decide +kernel
theorem dX12_beside_286 : decode cX12_beside 286 = .ok (.ireturn, 1) := by decide +kernel
theorem dX12_pump_0 : decode cX12_pump 0 = .ok (.iload_n 1, 1) := by decide +kernel
theorem dX12_pump_1 : decode cX12_pump 1 = .ok (.iconst 0, 1) := by decide +kernel
theorem dX12_pump_2 : decode cX12_pump 2 = .ok (.bipush 9, 2) := by decide +kernel
theorem dX12_pump_4 : decode cX12_pump 4 = .ok (.invokestatic 48, 3) := by decide +kernel
theorem dX12_pump_7 : decode cX12_pump 7 = .ok (.ifCond .eq 10, 3) := by decide +kernel
theorem dX12_pump_10 : decode cX12_pump 10 = .ok (.aload_n 0, 1) := by decide +kernel
theorem dX12_pump_11 : decode cX12_pump 11 = .ok (.invokevirtual 152, 3) := by decide +kernel
theorem dX12_pump_14 : decode cX12_pump 14 = .ok (.ifCond .ne 5, 3) := by decide +kernel
theorem dX12_pump_17 : decode cX12_pump 17 = .ok (.iconst (-1), 1) := by decide +kernel
theorem dX12_pump_18 : decode cX12_pump 18 = .ok (.ireturn, 1) := by decide +kernel
theorem dX12_pump_19 : decode cX12_pump 19 = .ok (.iload_n 2, 1) := by decide +kernel
theorem dX12_pump_20 : decode cX12_pump 20 = .ok (.iconst 0, 1) := by decide +kernel
theorem dX12_pump_21 : decode cX12_pump 21 = .ok (.iconst 4, 1) := by decide +kernel
theorem dX12_pump_22 : decode cX12_pump 22 = .ok (.invokestatic 48, 3) := by decide +kernel
theorem dX12_pump_25 : decode cX12_pump 25 = .ok (.ifCond .ne 6, 3) := by decide +kernel
theorem dX12_pump_28 : decode cX12_pump 28 = .ok (.bipush (-2), 2) := by decide +kernel
theorem dX12_pump_30 : decode cX12_pump 30 = .ok (.ireturn, 1) := by decide +kernel
theorem dX12_pump_31 : decode cX12_pump 31 = .ok (.aload_n 0, 1) := by decide +kernel
theorem dX12_pump_32 : decode cX12_pump 32 = .ok (.invokevirtual 175, 3) := by decide +kernel
theorem dX12_pump_35 : decode cX12_pump 35 = .ok (.iconst 0, 1) := by decide +kernel
theorem dX12_pump_36 : decode cX12_pump 36 = .ok (.istore_n 3, 1) := by decide +kernel
theorem dX12_pump_37 : decode cX12_pump 37 = .ok (.iconst 0, 1) := by decide +kernel
theorem dX12_pump_38 : decode cX12_pump 38 = .ok (.istore 4, 2) := by decide +kernel
theorem dX12_pump_40 : decode cX12_pump 40 = .ok (.iconst 0, 1) := by decide +kernel
theorem dX12_pump_41 : decode cX12_pump 41 = .ok (.istore 5, 2) := by decide +kernel
theorem dX12_pump_43 : decode cX12_pump 43 = .ok (.iload 5, 2) := by decide +kernel
theorem dX12_pump_45 : decode cX12_pump 45 = .ok (.bipush 40, 2) := by decide +kernel
theorem dX12_pump_47 : decode cX12_pump 47 = .ok (.if_icmp .ge 75, 3) := by decide +kernel
theorem dX12_pump_50 : decode cX12_pump 50 = .ok (.iload 5, 2) := by decide +kernel
theorem dX12_pump_52 : decode cX12_pump 52 = .ok (.iload_n 1, 1) := by decide +kernel
theorem dX12_pump_53 : decode cX12_pump 53 = .ok (.iload_n 2, 1) := by decide +kernel
theorem dX12_pump_54 : decode cX12_pump 54 = .ok (.imul, 1) := by decide +kernel
theorem dX12_pump_55 : decode cX12_pump 55 = .ok (.isub, 1) := by decide +kernel
theorem dX12_pump_56 : decode cX12_pump 56 = .ok (.istore 6, 2) := by decide +kernel
theorem dX12_pump_58 : decode cX12_pump 58 = .ok (.iload 6, 2) := by decide +kernel
theorem dX12_pump_60 : decode cX12_pump 60 = .ok (.ifCond .ge 7, 3) := by decide +kernel
theorem dX12_pump_63 : decode cX12_pump 63 = .ok (.iconst 0, 1) := by decide +kernel
theorem dX12_pump_64 : decode cX12_pump 64 = .ok (.goto 10, 3) := by decide +kernel
theorem dX12_pump_67 : decode cX12_pump 67 = .ok (.aload_n 0, 1) := by decide +kernel
theorem dX12_pump_68 : decode cX12_pump 68 = .ok (.getfield 31, 3) := by decide +kernel
theorem dX12_pump_71 : decode cX12_pump 71 = .ok (.iload 6, 2) := by decide +kernel
theorem dX12_pump_73 : decode cX12_pump 73 = .ok (.iaload, 1) := by decide +kernel
theorem dX12_pump_74 : decode cX12_pump 74 = .ok (.istore 7, 2) := by decide +kernel
theorem dX12_pump_76 : decode cX12_pump 76 = .ok (.iload 5, 2) := by decide +kernel
theorem dX12_pump_78 : decode cX12_pump 78 = .ok (.ifCond .eq 10, 3) := by decide +kernel
theorem dX12_pump_81 : decode cX12_pump 81 = .ok (.iload 7, 2) := by decide +kernel
theorem dX12_pump_83 : decode cX12_pump 83 = .ok (.iload 4, 2) := by decide +kernel
theorem dX12_pump_85 : decode cX12_pump 85 = .ok (.if_icmp .le 8, 3) := by decide +kernel
theorem dX12_pump_88 : decode cX12_pump 88 = .ok (.iload 5, 2) := by decide +kernel
theorem dX12_pump_90 : decode cX12_pump 90 = .ok (.goto 4, 3) := by decide +kernel
theorem dX12_pump_93 : decode cX12_pump 93 = .ok (.iload_n 3, 1) := by decide +kernel
theorem dX12_pump_94 : decode cX12_pump 94 = .ok (.istore_n 3, 1) := by decide +kernel
theorem dX12_pump_95 : decode cX12_pump 95 = .ok (.iload 5, 2) := by decide +kernel
theorem dX12_pump_97 : decode cX12_pump 97 = .ok (.ifCond .eq 10, 3) := by decide +kernel
theorem dX12_pump_100 : decode cX12_pump 100 = .ok (.iload 7, 2) := by decide +kernel
theorem dX12_pump_102 : decode cX12_pump 102 = .ok (.iload 4, 2) := by decide +kernel
theorem dX12_pump_104 : decode cX12_pump 104 = .ok (.if_icmp .le 8, 3) := by decide +kernel
theorem dX12_pump_107 : decode cX12_pump 107 = .ok (.iload 7, 2) := by decide +kernel
theorem dX12_pump_109 : decode cX12_pump 109 = .ok (.goto 5, 3) := by decide +kernel
theorem dX12_pump_112 : decode cX12_pump 112 = .ok (.iload 4, 2) := by decide +kernel
theorem dX12_pump_114 : decode cX12_pump 114 = .ok (.istore 4, 2) := by decide +kernel
theorem dX12_pump_116 : decode cX12_pump 116 = .ok (.iinc 5 1, 3) := by decide +kernel
theorem dX12_pump_119 : decode cX12_pump 119 = .ok (.goto (-76), 3) := by decide +kernel
theorem dX12_pump_122 : decode cX12_pump 122 = .ok (.iload_n 3, 1) := by decide +kernel
theorem dX12_pump_123 : decode cX12_pump 123 = .ok (.ireturn, 1) := by decide +kernel
theorem dX12_row_0 : decode cX12_row 0 = .ok (.iload_n 1, 1) := by decide +kernel
theorem dX12_row_1 : decode cX12_row 1 = .ok (.bipush (-100), 2) := by decide +kernel
theorem dX12_row_3 : decode cX12_row 3 = .ok (.if_icmp .ne 12, 3) := by decide +kernel
theorem dX12_row_6 : decode cX12_row 6 = .ok (.aload_n 0, 1) := by decide +kernel
theorem dX12_row_7 : decode cX12_row 7 = .ok (.getfield 9, 3) := by decide +kernel
theorem dX12_row_10 : decode cX12_row 10 = .ok (.iconst 3, 1) := by decide +kernel
theorem dX12_row_11 : decode cX12_row 11 = .ok (.iconst 0, 1) := by decide +kernel
theorem dX12_row_12 : decode cX12_row 12 = .ok (.iastore, 1) := by decide +kernel
theorem dX12_row_13 : decode cX12_row 13 = .ok (.iconst 0, 1) := by decide +kernel
theorem dX12_row_14 : decode cX12_row 14 = .ok (.ireturn, 1) := by decide +kernel
theorem dX12_row_15 : decode cX12_row 15 = .ok (.iload_n 1, 1) := by decide +kernel
theorem dX12_row_16 : decode cX12_row 16 = .ok (.bipush (-99), 2) := by decide +kernel
theorem dX12_row_18 : decode cX12_row 18 = .ok (.sipush 999, 3) := by decide +kernel
theorem dX12_row_21 : decode cX12_row 21 = .ok (.invokestatic 48, 3) := by decide +kernel
theorem dX12_row_24 : decode cX12_row 24 = .ok (.ifCond .ne 6, 3) := by decide +kernel
theorem dX12_row_27 : decode cX12_row 27 = .ok (.bipush (-2), 2) := by decide +kernel
theorem dX12_row_29 : decode cX12_row 29 = .ok (.ireturn, 1) := by decide +kernel
theorem dX12_row_30 : decode cX12_row 30 = .ok (.aload_n 0, 1) := by decide +kernel
theorem dX12_row_31 : decode cX12_row 31 = .ok (.getfield 9, 3) := by decide +kernel
theorem dX12_row_34 : decode cX12_row 34 = .ok (.iconst 3, 1) := by decide +kernel
theorem dX12_row_35 : decode cX12_row 35 = .ok (.iaload, 1) := by decide +kernel
theorem dX12_row_36 : decode cX12_row 36 = .ok (.bipush 20, 2) := by decide +kernel
theorem dX12_row_38 : decode cX12_row 38 = .ok (.if_icmp .ne 6, 3) := by decide +kernel
theorem dX12_row_41 : decode cX12_row 41 = .ok (.bipush (-4), 2) := by decide +kernel
theorem dX12_row_43 : decode cX12_row 43 = .ok (.ireturn, 1) := by decide +kernel
theorem dX12_row_44 : decode cX12_row 44 = .ok (.aload_n 0, 1) := by decide +kernel
theorem dX12_row_45 : decode cX12_row 45 = .ok (.getfield 9, 3) := by decide +kernel
theorem dX12_row_48 : decode cX12_row 48 = .ok (.sipush 918, 3) := by decide +kernel
theorem dX12_row_51 : decode cX12_row 51 = .ok (.aload_n 0, 1) := by decide +kernel
theorem dX12_row_52 : decode cX12_row 52 = .ok (.getfield 9, 3) := by decide +kernel
theorem dX12_row_55 : decode cX12_row 55 = .ok (.iconst 3, 1) := by decide +kernel
theorem dX12_row_56 : decode cX12_row 56 = .ok (.iaload, 1) := by decide +kernel
theorem dX12_row_57 : decode cX12_row 57 = .ok (.iadd, 1) := by decide +kernel
theorem dX12_row_58 : decode cX12_row 58 = .ok (.iload_n 1, 1) := by decide +kernel
theorem dX12_row_59 : decode cX12_row 59 = .ok (.iastore, 1) := by decide +kernel
theorem dX12_row_60 : decode cX12_row 60 = .ok (.aload_n 0, 1) := by decide +kernel
theorem dX12_row_61 : decode cX12_row 61 = .ok (.getfield 9, 3) := by decide +kernel
theorem dX12_row_64 : decode cX12_row 64 = .ok (.iconst 3, 1) := by decide +kernel
theorem dX12_row_65 : decode cX12_row 65 = .ok (.dup2, 1) := by decide +kernel
theorem dX12_row_66 : decode cX12_row 66 = .ok (.iaload, 1) := by decide +kernel
theorem dX12_row_67 : decode cX12_row 67 = .ok (.iconst 1, 1) := by decide +kernel
theorem dX12_row_68 : decode cX12_row 68 = .ok (.iadd, 1) := by decide +kernel
theorem dX12_row_69 : decode cX12_row 69 = .ok (.iastore, 1) := by decide +kernel
theorem dX12_row_70 : decode cX12_row 70 = .ok (.aload_n 0, 1) := by decide +kernel
theorem dX12_row_71 : decode cX12_row 71 = .ok (.getfield 9, 3) := by decide +kernel
theorem dX12_row_74 : decode cX12_row 74 = .ok (.iconst 3, 1) := by decide +kernel
theorem dX12_row_75 : decode cX12_row 75 = .ok (.iaload, 1) := by decide +kernel
theorem dX12_row_76 : decode cX12_row 76 = .ok (.ireturn, 1) := by decide +kernel
theorem dX12_watched_0 : decode cX12_watched 0 = .ok (.iload_n 2, 1) := by decide +kernel
theorem dX12_watched_1 : decode cX12_watched 1 = .ok (.iconst 0, 1) := by decide +kernel
theorem dX12_watched_2 : decode cX12_watched 2 = .ok (.iconst 1, 1) := by decide +kernel
theorem dX12_watched_3 : decode cX12_watched 3 = .ok (.invokestatic 48, 3) := by decide +kernel
theorem dX12_watched_6 : decode cX12_watched 6 = .ok (.ifCond .eq 10, 3) := by decide +kernel
theorem dX12_watched_9 : decode cX12_watched 9 = .ok (.aload_n 0, 1) := by decide +kernel
theorem dX12_watched_10 : decode cX12_watched 10 = .ok (.invokevirtual 152, 3) := by decide +kernel
theorem dX12_watched_13 : decode cX12_watched 13 = .ok (.ifCond .ne 5, 3) := by decide +kernel
theorem dX12_watched_16 : decode cX12_watched 16 = .ok (.iconst (-1), 1) := by decide +kernel
theorem dX12_watched_17 : decode cX12_watched 17 = .ok (.ireturn, 1) := by decide +kernel
theorem dX12_watched_18 : decode cX12_watched 18 = .ok (.iload_n 1, 1) := by decide +kernel
theorem dX12_watched_19 : decode cX12_watched 19 = .ok (.invokestatic 52, 3) := by decide +kernel
theorem dX12_watched_22 : decode cX12_watched 22 = .ok (.ifCond .ne 6, 3) := by decide +kernel
theorem dX12_watched_25 : decode cX12_watched 25 = .ok (.bipush (-2), 2) := by decide +kernel
theorem dX12_watched_27 : decode cX12_watched 27 = .ok (.ireturn, 1) := by decide +kernel
theorem dX12_watched_28 : decode cX12_watched 28 = .ok (.iconst (-1), 1) := by decide +kernel
theorem dX12_watched_29 : decode cX12_watched 29 = .ok (.istore_n 3, 1) := by decide +kernel
theorem dX12_watched_30 : decode cX12_watched 30 = .ok (.iconst 0, 1) := by decide +kernel
theorem dX12_watched_31 : decode cX12_watched 31 = .ok (.istore 4, 2) := by decide +kernel
theorem dX12_watched_33 : decode cX12_watched 33 = .ok (.iconst 0, 1) := by decide +kernel
theorem dX12_watched_34 : decode cX12_watched 34 = .ok (.istore 5, 2) := by decide +kernel
theorem dX12_watched_36 : decode cX12_watched 36 = .ok (.iload 5, 2) := by decide +kernel
theorem dX12_watched_38 : decode cX12_watched 38 = .ok (.bipush 100, 2) := by decide +kernel
theorem dX12_watched_40 : decode cX12_watched 40 = .ok (.if_icmp .ge 113, 3) := by decide +kernel
theorem dX12_watched_43 : decode cX12_watched 43 = .ok (.iconst 0, 1) := by decide +kernel
theorem dX12_watched_44 : decode cX12_watched 44 = .ok (.istore 6, 2) := by decide +kernel
theorem dX12_watched_46 : decode cX12_watched 46 = .ok (.iconst 0, 1) := by decide +kernel
theorem dX12_watched_47 : decode cX12_watched 47 = .ok (.istore 7, 2) := by decide +kernel
theorem dX12_watched_49 : decode cX12_watched 49 = .ok (.iload 7, 2) := by decide +kernel
theorem dX12_watched_51 : decode cX12_watched 51 = .ok (.aload_n 0, 1) := by decide +kernel
theorem dX12_watched_52 : decode cX12_watched 52 = .ok (.getfield 9, 3) := by decide +kernel
theorem dX12_watched_55 : decode cX12_watched 55 = .ok (.iconst 3, 1) := by decide +kernel
theorem dX12_watched_56 : decode cX12_watched 56 = .ok (.iaload, 1) := by decide +kernel
theorem dX12_watched_57 : decode cX12_watched 57 = .ok (.if_icmp .ge 45, 3) := by decide +kernel
theorem dX12_watched_60 : decode cX12_watched 60 = .ok (.iload 6, 2) := by decide +kernel
theorem dX12_watched_62 : decode cX12_watched 62 = .ok (.aload_n 0, 1) := by decide +kernel
theorem dX12_watched_63 : decode cX12_watched 63 = .ok (.iconst 0, 1) := by decide +kernel
theorem dX12_watched_64 : decode cX12_watched 64 = .ok (.iload 5, 2) := by decide +kernel
theorem dX12_watched_66 : decode cX12_watched 66 = .ok (.iconst 0, 1) := by decide +kernel
theorem dX12_watched_67 : decode cX12_watched 67 = .ok (.iload 7, 2) := by decide +kernel
theorem dX12_watched_69 : decode cX12_watched 69 = .ok (.iload_n 1, 1) := by decide +kernel
theorem dX12_watched_70 : decode cX12_watched 70 = .ok (.isub, 1) := by decide +kernel
theorem dX12_watched_71 : decode cX12_watched 71 = .ok (.iload 7, 2) := by decide +kernel
theorem dX12_watched_73 : decode cX12_watched 73 = .ok (.invokevirtual 144, 3) := by decide +kernel
theorem dX12_watched_76 : decode cX12_watched 76 = .ok (.aload_n 0, 1) := by decide +kernel
theorem dX12_watched_77 : decode cX12_watched 77 = .ok (.getfield 9, 3) := by decide +kernel
theorem dX12_watched_80 : decode cX12_watched 80 = .ok (.sipush 918, 3) := by decide +kernel
theorem dX12_watched_83 : decode cX12_watched 83 = .ok (.iload 7, 2) := by decide +kernel
theorem dX12_watched_85 : decode cX12_watched 85 = .ok (.iadd, 1) := by decide +kernel
theorem dX12_watched_86 : decode cX12_watched 86 = .ok (.iaload, 1) := by decide +kernel
theorem dX12_watched_87 : decode cX12_watched 87 = .ok (.isub, 1) := by decide +kernel
theorem dX12_watched_88 : decode cX12_watched 88 = .ok (.i2l, 1) := by decide +kernel
theorem dX12_watched_89 : decode cX12_watched 89 = .ok (.invokestatic 171, 3) := by decide +kernel
theorem dX12_watched_92 : decode cX12_watched 92 = .ok (.l2i, 1) := by decide +kernel
theorem dX12_watched_93 : decode cX12_watched 93 = .ok (.iadd, 1) := by decide +kernel
theorem dX12_watched_94 : decode cX12_watched 94 = .ok (.istore 6, 2) := by decide +kernel
theorem dX12_watched_96 : decode cX12_watched 96 = .ok (.iinc 7 1, 3) := by decide +kernel
theorem dX12_watched_99 : decode cX12_watched 99 = .ok (.goto (-50), 3) := by decide +kernel
theorem dX12_watched_102 : decode cX12_watched 102 = .ok (.iload_n 3, 1) := by decide +kernel
theorem dX12_watched_103 : decode cX12_watched 103 = .ok (.iconst (-1), 1) := by decide +kernel
theorem dX12_watched_104 : decode cX12_watched 104 = .ok (.if_icmp .eq 10, 3) := by decide +kernel
theorem dX12_watched_107 : decode cX12_watched 107 = .ok (.iload 6, 2) := by decide +kernel
theorem dX12_watched_109 : decode cX12_watched 109 = .ok (.iload 4, 2) := by decide +kernel
theorem dX12_watched_111 : decode cX12_watched 111 = .ok (.if_icmp .ge 7, 3) := by decide +kernel
theorem dX12_watched_114 : decode cX12_watched 114 = .ok (.iconst 1, 1) := by decide +kernel
theorem dX12_watched_115 : decode cX12_watched 115 = .ok (.goto 4, 3) := by decide +kernel
theorem dX12_watched_118 : decode cX12_watched 118 = .ok (.iconst 0, 1) := by decide +kernel
theorem dX12_watched_119 : decode cX12_watched 119 = .ok (.istore 7, 2) := by decide +kernel
theorem dX12_watched_121 : decode cX12_watched 121 = .ok (.iload 7, 2) := by decide +kernel
theorem dX12_watched_123 : decode cX12_watched 123 = .ok (.ifCond .eq 8, 3) := by decide +kernel
theorem dX12_watched_126 : decode cX12_watched 126 = .ok (.iload 5, 2) := by decide +kernel
theorem dX12_watched_128 : decode cX12_watched 128 = .ok (.goto 4, 3) := by decide +kernel
theorem dX12_watched_131 : decode cX12_watched 131 = .ok (.iload_n 3, 1) := by decide +kernel
theorem dX12_watched_132 : decode cX12_watched 132 = .ok (.istore_n 3, 1) := by decide +kernel
theorem dX12_watched_133 : decode cX12_watched 133 = .ok (.iload 7, 2) := by decide +kernel
theorem dX12_watched_135 : decode cX12_watched 135 = .ok (.ifCond .eq 8, 3) := by decide +kernel
theorem dX12_watched_138 : decode cX12_watched 138 = .ok (.iload 6, 2) := by decide +kernel
theorem dX12_watched_140 : decode cX12_watched 140 = .ok (.goto 5, 3) := by decide +kernel
theorem dX12_watched_143 : decode cX12_watched 143 = .ok (.iload 4, 2) := by decide +kernel
theorem dX12_watched_145 : decode cX12_watched 145 = .ok (.istore 4, 2) := by decide +kernel
theorem dX12_watched_147 : decode cX12_watched 147 = .ok (.iinc 5 1, 3) := by decide +kernel
theorem dX12_watched_150 : decode cX12_watched 150 = .ok (.goto (-114), 3) := by decide +kernel
theorem dX12_watched_153 : decode cX12_watched 153 = .ok (.iload_n 2, 1) := by decide +kernel
theorem dX12_watched_154 : decode cX12_watched 154 = .ok (.ifCond .ne 7, 3) := by decide +kernel
theorem dX12_watched_157 : decode cX12_watched 157 = .ok (.iload_n 3, 1) := by decide +kernel
theorem dX12_watched_158 : decode cX12_watched 158 = .ok (.goto 5, 3) := by decide +kernel
theorem dX12_watched_161 : decode cX12_watched 161 = .ok (.iload 4, 2) := by decide +kernel
theorem dX12_watched_163 : decode cX12_watched 163 = .ok (.ireturn, 1) := by decide +kernel
theorem dX12_greatest_0 : decode cX12_greatest 0 = .ok (.aload_n 0, 1) := by decide +kernel
theorem dX12_greatest_1 : decode cX12_greatest 1 = .ok (.iconst 0, 1) := by decide +kernel
theorem dX12_greatest_2 : decode cX12_greatest 2 = .ok (.invokevirtual 156, 3) := by decide +kernel
theorem dX12_greatest_5 : decode cX12_greatest 5 = .ok (.istore_n 1, 1) := by decide +kernel
theorem dX12_greatest_6 : decode cX12_greatest 6 = .ok (.iconst 1, 1) := by decide +kernel
theorem dX12_greatest_7 : decode cX12_greatest 7 = .ok (.istore_n 2, 1) := by decide +kernel
theorem dX12_greatest_8 : decode cX12_greatest 8 = .ok (.iload_n 2, 1) := by decide +kernel
theorem dX12_greatest_9 : decode cX12_greatest 9 = .ok (.bipush 40, 2) := by decide +kernel
theorem dX12_greatest_11 : decode cX12_greatest 11 = .ok (.if_icmp .ge 26, 3) := by decide +kernel
theorem dX12_greatest_14 : decode cX12_greatest 14 = .ok (.aload_n 0, 1) := by decide +kernel
theorem dX12_greatest_15 : decode cX12_greatest 15 = .ok (.iload_n 2, 1) := by decide +kernel
theorem dX12_greatest_16 : decode cX12_greatest 16 = .ok (.invokevirtual 156, 3) := by decide +kernel
theorem dX12_greatest_19 : decode cX12_greatest 19 = .ok (.istore_n 3, 1) := by decide +kernel
theorem dX12_greatest_20 : decode cX12_greatest 20 = .ok (.iload_n 3, 1) := by decide +kernel
theorem dX12_greatest_21 : decode cX12_greatest 21 = .ok (.iload_n 1, 1) := by decide +kernel
theorem dX12_greatest_22 : decode cX12_greatest 22 = .ok (.if_icmp .le 7, 3) := by decide +kernel
theorem dX12_greatest_25 : decode cX12_greatest 25 = .ok (.iload_n 3, 1) := by decide +kernel
theorem dX12_greatest_26 : decode cX12_greatest 26 = .ok (.goto 4, 3) := by decide +kernel
theorem dX12_greatest_29 : decode cX12_greatest 29 = .ok (.iload_n 1, 1) := by decide +kernel
theorem dX12_greatest_30 : decode cX12_greatest 30 = .ok (.istore_n 1, 1) := by decide +kernel
theorem dX12_greatest_31 : decode cX12_greatest 31 = .ok (.iinc 2 1, 3) := by decide +kernel
theorem dX12_greatest_34 : decode cX12_greatest 34 = .ok (.goto (-26), 3) := by decide +kernel
theorem dX12_greatest_37 : decode cX12_greatest 37 = .ok (.iload_n 1, 1) := by decide +kernel
theorem dX12_greatest_38 : decode cX12_greatest 38 = .ok (.ireturn, 1) := by decide +kernel
theorem dX12_waits_0 : decode cX12_waits 0 = .ok (.aload_n 0, 1) := by decide +kernel
theorem dX12_waits_1 : decode cX12_waits 1 = .ok (.iload_n 1, 1) := by decide +kernel
theorem dX12_waits_2 : decode cX12_waits 2 = .ok (.invokevirtual 56, 3) := by decide +kernel
theorem dX12_waits_5 : decode cX12_waits 5 = .ok (.ifCond .eq 27, 3) := by decide +kernel
theorem dX12_waits_8 : decode cX12_waits 8 = .ok (.aload_n 0, 1) := by decide +kernel
theorem dX12_waits_9 : decode cX12_waits 9 = .ok (.iload_n 2, 1) := by decide +kernel
theorem dX12_waits_10 : decode cX12_waits 10 = .ok (.invokevirtual 56, 3) := by decide +kernel
theorem dX12_waits_13 : decode cX12_waits 13 = .ok (.ifCond .eq 19, 3) := by decide +kernel
theorem dX12_waits_16 : decode cX12_waits 16 = .ok (.iload_n 3, 1) := by decide +kernel
theorem dX12_waits_17 : decode cX12_waits 17 = .ok (.iconst 0, 1) := by decide +kernel
theorem dX12_waits_18 : decode cX12_waits 18 = .ok (.iconst 1, 1) := by decide +kernel
theorem dX12_waits_19 : decode cX12_waits 19 = .ok (.invokestatic 48, 3) := by decide +kernel
theorem dX12_waits_22 : decode cX12_waits 22 = .ok (.ifCond .eq 10, 3) := by decide +kernel
theorem dX12_waits_25 : decode cX12_waits 25 = .ok (.aload_n 0, 1) := by decide +kernel
theorem dX12_waits_26 : decode cX12_waits 26 = .ok (.invokevirtual 152, 3) := by decide +kernel
theorem dX12_waits_29 : decode cX12_waits 29 = .ok (.ifCond .ne 5, 3) := by decide +kernel
theorem dX12_waits_32 : decode cX12_waits 32 = .ok (.iconst (-1), 1) := by decide +kernel
theorem dX12_waits_33 : decode cX12_waits 33 = .ok (.ireturn, 1) := by decide +kernel
theorem dX12_waits_34 : decode cX12_waits 34 = .ok (.iload_n 1, 1) := by decide +kernel
theorem dX12_waits_35 : decode cX12_waits 35 = .ok (.iload_n 2, 1) := by decide +kernel
theorem dX12_waits_36 : decode cX12_waits 36 = .ok (.if_icmp .ne 6, 3) := by decide +kernel
theorem dX12_waits_39 : decode cX12_waits 39 = .ok (.bipush (-2), 2) := by decide +kernel
theorem dX12_waits_41 : decode cX12_waits 41 = .ok (.ireturn, 1) := by decide +kernel
theorem dX12_waits_42 : decode cX12_waits 42 = .ok (.aload_n 0, 1) := by decide +kernel
theorem dX12_waits_43 : decode cX12_waits 43 = .ok (.invokevirtual 228, 3) := by decide +kernel
theorem dX12_waits_46 : decode cX12_waits 46 = .ok (.istore 4, 2) := by decide +kernel
theorem dX12_waits_48 : decode cX12_waits 48 = .ok (.iconst 0, 1) := by decide +kernel
theorem dX12_waits_49 : decode cX12_waits 49 = .ok (.istore 5, 2) := by decide +kernel
theorem dX12_waits_51 : decode cX12_waits 51 = .ok (.iload 4, 2) := by decide +kernel
theorem dX12_waits_53 : decode cX12_waits 53 = .ok (.istore 6, 2) := by decide +kernel
theorem dX12_waits_55 : decode cX12_waits 55 = .ok (.iconst 1, 1) := by decide +kernel
theorem dX12_waits_56 : decode cX12_waits 56 = .ok (.istore 7, 2) := by decide +kernel
theorem dX12_waits_58 : decode cX12_waits 58 = .ok (.iload 7, 2) := by decide +kernel
theorem dX12_waits_60 : decode cX12_waits 60 = .ok (.bipush 10, 2) := by decide +kernel
theorem dX12_waits_62 : decode cX12_waits 62 = .ok (.if_icmp .ge 55, 3) := by decide +kernel
theorem dX12_waits_65 : decode cX12_waits 65 = .ok (.aload_n 0, 1) := by decide +kernel
theorem dX12_waits_66 : decode cX12_waits 66 = .ok (.getfield 25, 3) := by decide +kernel
theorem dX12_waits_69 : decode cX12_waits 69 = .ok (.iload_n 2, 1) := by decide +kernel
theorem dX12_waits_70 : decode cX12_waits 70 = .ok (.iload 7, 2) := by decide +kernel
theorem dX12_waits_72 : decode cX12_waits 72 = .ok (.iastore, 1) := by decide +kernel
theorem dX12_waits_73 : decode cX12_waits 73 = .ok (.aload_n 0, 1) := by decide +kernel
theorem dX12_waits_74 : decode cX12_waits 74 = .ok (.invokevirtual 228, 3) := by decide +kernel
theorem dX12_waits_77 : decode cX12_waits 77 = .ok (.istore 8, 2) := by decide +kernel
theorem dX12_waits_79 : decode cX12_waits 79 = .ok (.iload 8, 2) := by decide +kernel
theorem dX12_waits_81 : decode cX12_waits 81 = .ok (.iload 6, 2) := by decide +kernel
theorem dX12_waits_83 : decode cX12_waits 83 = .ok (.if_icmp .ge 8, 3) := by decide +kernel
theorem dX12_waits_86 : decode cX12_waits 86 = .ok (.iload 7, 2) := by decide +kernel
theorem dX12_waits_88 : decode cX12_waits 88 = .ok (.goto 5, 3) := by decide +kernel
theorem dX12_waits_91 : decode cX12_waits 91 = .ok (.iload 5, 2) := by decide +kernel
theorem dX12_waits_93 : decode cX12_waits 93 = .ok (.istore 5, 2) := by decide +kernel
theorem dX12_waits_95 : decode cX12_waits 95 = .ok (.iload 8, 2) := by decide +kernel
theorem dX12_waits_97 : decode cX12_waits 97 = .ok (.iload 6, 2) := by decide +kernel
theorem dX12_waits_99 : decode cX12_waits 99 = .ok (.if_icmp .ge 8, 3) := by decide +kernel
theorem dX12_waits_102 : decode cX12_waits 102 = .ok (.iload 8, 2) := by decide +kernel
theorem dX12_waits_104 : decode cX12_waits 104 = .ok (.goto 5, 3) := by decide +kernel
theorem dX12_waits_107 : decode cX12_waits 107 = .ok (.iload 6, 2) := by decide +kernel
theorem dX12_waits_109 : decode cX12_waits 109 = .ok (.istore 6, 2) := by decide +kernel
theorem dX12_waits_111 : decode cX12_waits 111 = .ok (.iinc 7 1, 3) := by decide +kernel
theorem dX12_waits_114 : decode cX12_waits 114 = .ok (.goto (-56), 3) := by decide +kernel
theorem dX12_waits_117 : decode cX12_waits 117 = .ok (.aload_n 0, 1) := by decide +kernel
theorem dX12_waits_118 : decode cX12_waits 118 = .ok (.getfield 25, 3) := by decide +kernel
theorem dX12_waits_121 : decode cX12_waits 121 = .ok (.iload_n 2, 1) := by decide +kernel
theorem dX12_waits_122 : decode cX12_waits 122 = .ok (.iconst 0, 1) := by decide +kernel
theorem dX12_waits_123 : decode cX12_waits 123 = .ok (.iastore, 1) := by decide +kernel
theorem dX12_waits_124 : decode cX12_waits 124 = .ok (.iload_n 3, 1) := by decide +kernel
theorem dX12_waits_125 : decode cX12_waits 125 = .ok (.ifCond .ne 8, 3) := by decide +kernel
theorem dX12_waits_128 : decode cX12_waits 128 = .ok (.iload 5, 2) := by decide +kernel
theorem dX12_waits_130 : decode cX12_waits 130 = .ok (.goto 8, 3) := by decide +kernel
theorem dX12_waits_133 : decode cX12_waits 133 = .ok (.iload 4, 2) := by decide +kernel
theorem dX12_waits_135 : decode cX12_waits 135 = .ok (.iload 6, 2) := by decide +kernel
theorem dX12_waits_137 : decode cX12_waits 137 = .ok (.isub, 1) := by decide +kernel
theorem dX12_waits_138 : decode cX12_waits 138 = .ok (.ireturn, 1) := by decide +kernel
theorem dX12_runs_0 : decode cX12_runs 0 = .ok (.aload_n 0, 1) := by decide +kernel
theorem dX12_runs_1 : decode cX12_runs 1 = .ok (.getfield 231, 3) := by decide +kernel
theorem dX12_runs_4 : decode cX12_runs 4 = .ok (.bipush 20, 2) := by decide +kernel
theorem dX12_runs_6 : decode cX12_runs 6 = .ok (.if_icmp .ge 13, 3) := by decide +kernel
theorem dX12_runs_9 : decode cX12_runs 9 = .ok (.aload_n 0, 1) := by decide +kernel
theorem dX12_runs_10 : decode cX12_runs 10 = .ok (.getfield 41, 3) := by decide +kernel
theorem dX12_runs_13 : decode cX12_runs 13 = .ok (.aload_n 0, 1) := by decide +kernel
theorem dX12_runs_14 : decode cX12_runs 14 = .ok (.getfield 231, 3) := by decide +kernel
theorem dX12_runs_17 : decode cX12_runs 17 = .ok (.iload_n 1, 1) := by decide +kernel
theorem dX12_runs_18 : decode cX12_runs 18 = .ok (.iastore, 1) := by decide +kernel
theorem dX12_runs_19 : decode cX12_runs 19 = .ok (.aload_n 0, 1) := by decide +kernel
theorem dX12_runs_20 : decode cX12_runs 20 = .ok (.dup, 1) := by decide +kernel
theorem dX12_runs_21 : decode cX12_runs 21 = .ok (.getfield 231, 3) := by decide +kernel
theorem dX12_runs_24 : decode cX12_runs 24 = .ok (.iconst 1, 1) := by decide +kernel
theorem dX12_runs_25 : decode cX12_runs 25 = .ok (.iadd, 1) := by decide +kernel
theorem dX12_runs_26 : decode cX12_runs 26 = .ok (.putfield 231, 3) := by decide +kernel
theorem dX12_runs_29 : decode cX12_runs 29 = .ok (.return_, 1) := by decide +kernel
theorem dX12_isUnder_0 : decode cX12_isUnder 0 = .ok (.iload_n 1, 1) := by decide +kernel
theorem dX12_isUnder_1 : decode cX12_isUnder 1 = .ok (.ifCond .eq 34, 3) := by decide +kernel
theorem dX12_isUnder_4 : decode cX12_isUnder 4 = .ok (.iload_n 1, 1) := by decide +kernel
theorem dX12_isUnder_5 : decode cX12_isUnder 5 = .ok (.iload_n 0, 1) := by decide +kernel
theorem dX12_isUnder_6 : decode cX12_isUnder 6 = .ok (.if_icmp .eq 29, 3) := by decide +kernel
theorem dX12_isUnder_9 : decode cX12_isUnder 9 = .ok (.iload_n 1, 1) := by decide +kernel
theorem dX12_isUnder_10 : decode cX12_isUnder 10 = .ok (.iconst 1, 1) := by decide +kernel
theorem dX12_isUnder_11 : decode cX12_isUnder 11 = .ok (.if_icmp .ne 14, 3) := by decide +kernel
theorem dX12_isUnder_14 : decode cX12_isUnder 14 = .ok (.iload_n 0, 1) := by decide +kernel
theorem dX12_isUnder_15 : decode cX12_isUnder 15 = .ok (.iconst 2, 1) := by decide +kernel
theorem dX12_isUnder_16 : decode cX12_isUnder 16 = .ok (.if_icmp .eq 19, 3) := by decide +kernel
theorem dX12_isUnder_19 : decode cX12_isUnder 19 = .ok (.iload_n 0, 1) := by decide +kernel
theorem dX12_isUnder_20 : decode cX12_isUnder 20 = .ok (.bipush 6, 2) := by decide +kernel
theorem dX12_isUnder_22 : decode cX12_isUnder 22 = .ok (.if_icmp .eq 13, 3) := by decide +kernel
theorem dX12_isUnder_25 : decode cX12_isUnder 25 = .ok (.iload_n 1, 1) := by decide +kernel
theorem dX12_isUnder_26 : decode cX12_isUnder 26 = .ok (.iconst 4, 1) := by decide +kernel
theorem dX12_isUnder_27 : decode cX12_isUnder 27 = .ok (.if_icmp .ne 12, 3) := by decide +kernel
theorem dX12_isUnder_30 : decode cX12_isUnder 30 = .ok (.iload_n 0, 1) := by decide +kernel
theorem dX12_isUnder_31 : decode cX12_isUnder 31 = .ok (.iconst 5, 1) := by decide +kernel
theorem dX12_isUnder_32 : decode cX12_isUnder 32 = .ok (.if_icmp .ne 7, 3) := by decide +kernel
theorem dX12_isUnder_35 : decode cX12_isUnder 35 = .ok (.iconst 1, 1) := by decide +kernel
theorem dX12_isUnder_36 : decode cX12_isUnder 36 = .ok (.goto 4, 3) := by decide +kernel
theorem dX12_isUnder_39 : decode cX12_isUnder 39 = .ok (.iconst 0, 1) := by decide +kernel
theorem dX12_isUnder_40 : decode cX12_isUnder 40 = .ok (.ireturn, 1) := by decide +kernel
theorem dX12_plainDraws_0 : decode cX12_plainDraws 0 = .ok (.aload_n 0, 1) := by decide +kernel
theorem dX12_plainDraws_1 : decode cX12_plainDraws 1 = .ok (.iconst 1, 1) := by decide +kernel
theorem dX12_plainDraws_2 : decode cX12_plainDraws 2 = .ok (.invokevirtual 234, 3) := by decide +kernel
theorem dX12_plainDraws_5 : decode cX12_plainDraws 5 = .ok (.iload_n 1, 1) := by decide +kernel
theorem dX12_plainDraws_6 : decode cX12_plainDraws 6 = .ok (.aload_n 0, 1) := by decide +kernel
theorem dX12_plainDraws_7 : decode cX12_plainDraws 7 = .ok (.getfield 237, 3) := by decide +kernel
theorem dX12_plainDraws_10 : decode cX12_plainDraws 10 = .ok (.iadd, 1) := by decide +kernel
theorem dX12_plainDraws_11 : decode cX12_plainDraws 11 = .ok (.ireturn, 1) := by decide +kernel
theorem dX12_whistleDraws_0 : decode cX12_whistleDraws 0 = .ok (.aload_n 0, 1) := by decide +kernel
theorem dX12_whistleDraws_1 : decode cX12_whistleDraws 1 = .ok (.bipush 11, 2) := by decide +kernel
theorem dX12_whistleDraws_3 : decode cX12_whistleDraws 3 = .ok (.invokevirtual 234, 3) := by decide +kernel
theorem dX12_whistleDraws_6 : decode cX12_whistleDraws 6 = .ok (.aload_n 0, 1) := by decide +kernel
theorem dX12_whistleDraws_7 : decode cX12_whistleDraws 7 = .ok (.iload_n 1, 1) := by decide +kernel
theorem dX12_whistleDraws_8 : decode cX12_whistleDraws 8 = .ok (.iconst 3, 1) := by decide +kernel
theorem dX12_whistleDraws_9 : decode cX12_whistleDraws 9 = .ok (.imul, 1) := by decide +kernel
theorem dX12_whistleDraws_10 : decode cX12_whistleDraws 10 = .ok (.invokevirtual 240, 3) := by decide +kernel
theorem dX12_whistleDraws_13 : decode cX12_whistleDraws 13 = .ok (.ireturn, 1) := by decide +kernel
theorem dX12_drawsActs_0 : decode cX12_drawsActs 0 = .ok (.aload_n 0, 1) := by decide +kernel
theorem dX12_drawsActs_1 : decode cX12_drawsActs 1 = .ok (.getfield 243, 3) := by decide +kernel
theorem dX12_drawsActs_4 : decode cX12_drawsActs 4 = .ok (.bipush 6, 2) := by decide +kernel
theorem dX12_drawsActs_6 : decode cX12_drawsActs 6 = .ok (.if_icmp .ne 20, 3) := by decide +kernel
theorem dX12_drawsActs_9 : decode cX12_drawsActs 9 = .ok (.aload_n 0, 1) := by decide +kernel
theorem dX12_drawsActs_10 : decode cX12_drawsActs 10 = .ok (.bipush 51, 2) := by decide +kernel
theorem dX12_drawsActs_12 : decode cX12_drawsActs 12 = .ok (.invokevirtual 234, 3) := by decide +kernel
theorem dX12_drawsActs_15 : decode cX12_drawsActs 15 = .ok (.aload_n 0, 1) := by decide +kernel
theorem dX12_drawsActs_16 : decode cX12_drawsActs 16 = .ok (.iload_n 1, 1) := by decide +kernel
theorem dX12_drawsActs_17 : decode cX12_drawsActs 17 = .ok (.invokevirtual 246, 3) := by decide +kernel
theorem dX12_drawsActs_20 : decode cX12_drawsActs 20 = .ok (.aload_n 0, 1) := by decide +kernel
theorem dX12_drawsActs_21 : decode cX12_drawsActs 21 = .ok (.getfield 237, 3) := by decide +kernel
theorem dX12_drawsActs_24 : decode cX12_drawsActs 24 = .ok (.ixor, 1) := by decide +kernel
theorem dX12_drawsActs_25 : decode cX12_drawsActs 25 = .ok (.ireturn, 1) := by decide +kernel
theorem dX12_drawsActs_26 : decode cX12_drawsActs 26 = .ok (.aload_n 0, 1) := by decide +kernel
theorem dX12_drawsActs_27 : decode cX12_drawsActs 27 = .ok (.getfield 243, 3) := by decide +kernel
theorem dX12_drawsActs_30 : decode cX12_drawsActs 30 = .ok (.iconst 1, 1) := by decide +kernel
theorem dX12_drawsActs_31 : decode cX12_drawsActs 31 = .ok (.invokestatic 249, 3) := by decide +kernel
theorem dX12_drawsActs_34 : decode cX12_drawsActs 34 = .ok (.ifCond .eq 11, 3) := by decide +kernel
theorem dX12_drawsActs_37 : decode cX12_drawsActs 37 = .ok (.aload_n 0, 1) := by decide +kernel
theorem dX12_drawsActs_38 : decode cX12_drawsActs 38 = .ok (.iload_n 1, 1) := by decide +kernel
theorem dX12_drawsActs_39 : decode cX12_drawsActs 39 = .ok (.invokevirtual 246, 3) := by decide +kernel
theorem dX12_drawsActs_42 : decode cX12_drawsActs 42 = .ok (.goto 8, 3) := by decide +kernel
theorem dX12_drawsActs_45 : decode cX12_drawsActs 45 = .ok (.aload_n 0, 1) := by decide +kernel
theorem dX12_drawsActs_46 : decode cX12_drawsActs 46 = .ok (.iload_n 1, 1) := by decide +kernel
theorem dX12_drawsActs_47 : decode cX12_drawsActs 47 = .ok (.invokevirtual 240, 3) := by decide +kernel
theorem dX12_drawsActs_50 : decode cX12_drawsActs 50 = .ok (.ireturn, 1) := by decide +kernel
theorem dX12_plainRises_0 : decode cX12_plainRises 0 = .ok (.aload_n 0, 1) := by decide +kernel
theorem dX12_plainRises_1 : decode cX12_plainRises 1 = .ok (.iconst 2, 1) := by decide +kernel
theorem dX12_plainRises_2 : decode cX12_plainRises 2 = .ok (.invokevirtual 234, 3) := by decide +kernel
theorem dX12_plainRises_5 : decode cX12_plainRises 5 = .ok (.aload_n 0, 1) := by decide +kernel
theorem dX12_plainRises_6 : decode cX12_plainRises 6 = .ok (.iload_n 1, 1) := by decide +kernel
theorem dX12_plainRises_7 : decode cX12_plainRises 7 = .ok (.invokevirtual 253, 3) := by decide +kernel
theorem dX12_plainRises_10 : decode cX12_plainRises 10 = .ok (.aload_n 0, 1) := by decide +kernel
theorem dX12_plainRises_11 : decode cX12_plainRises 11 = .ok (.getfield 256, 3) := by decide +kernel
theorem dX12_plainRises_14 : decode cX12_plainRises 14 = .ok (.isub, 1) := by decide +kernel
theorem dX12_plainRises_15 : decode cX12_plainRises 15 = .ok (.ireturn, 1) := by decide +kernel
theorem dX12_risesActs_0 : decode cX12_risesActs 0 = .ok (.aload_n 0, 1) := by decide +kernel
theorem dX12_risesActs_1 : decode cX12_risesActs 1 = .ok (.getfield 243, 3) := by decide +kernel
theorem dX12_risesActs_4 : decode cX12_risesActs 4 = .ok (.iconst 3, 1) := by decide +kernel
theorem dX12_risesActs_5 : decode cX12_risesActs 5 = .ok (.if_icmp .ne 16, 3) := by decide +kernel
theorem dX12_risesActs_8 : decode cX12_risesActs 8 = .ok (.aload_n 0, 1) := by decide +kernel
theorem dX12_risesActs_9 : decode cX12_risesActs 9 = .ok (.bipush 21, 2) := by decide +kernel
theorem dX12_risesActs_11 : decode cX12_risesActs 11 = .ok (.invokevirtual 234, 3) := by decide +kernel
theorem dX12_risesActs_14 : decode cX12_risesActs 14 = .ok (.aload_n 0, 1) := by decide +kernel
theorem dX12_risesActs_15 : decode cX12_risesActs 15 = .ok (.iload_n 1, 1) := by decide +kernel
theorem dX12_risesActs_16 : decode cX12_risesActs 16 = .ok (.invokevirtual 259, 3) := by decide +kernel
theorem dX12_risesActs_19 : decode cX12_risesActs 19 = .ok (.ineg, 1) := by decide +kernel
theorem dX12_risesActs_20 : decode cX12_risesActs 20 = .ok (.ireturn, 1) := by decide +kernel
theorem dX12_risesActs_21 : decode cX12_risesActs 21 = .ok (.aload_n 0, 1) := by decide +kernel
theorem dX12_risesActs_22 : decode cX12_risesActs 22 = .ok (.getfield 243, 3) := by decide +kernel
theorem dX12_risesActs_25 : decode cX12_risesActs 25 = .ok (.iconst 5, 1) := by decide +kernel
theorem dX12_risesActs_26 : decode cX12_risesActs 26 = .ok (.if_icmp .ne 20, 3) := by decide +kernel
theorem dX12_risesActs_29 : decode cX12_risesActs 29 = .ok (.aload_n 0, 1) := by decide +kernel
theorem dX12_risesActs_30 : decode cX12_risesActs 30 = .ok (.bipush 61, 2) := by decide +kernel
theorem dX12_risesActs_32 : decode cX12_risesActs 32 = .ok (.invokevirtual 234, 3) := by decide +kernel
theorem dX12_risesActs_35 : decode cX12_risesActs 35 = .ok (.aload_n 0, 1) := by decide +kernel
theorem dX12_risesActs_36 : decode cX12_risesActs 36 = .ok (.iload_n 1, 1) := by decide +kernel
theorem dX12_risesActs_37 : decode cX12_risesActs 37 = .ok (.invokevirtual 259, 3) := by decide +kernel
theorem dX12_risesActs_40 : decode cX12_risesActs 40 = .ok (.aload_n 0, 1) := by decide +kernel
theorem dX12_risesActs_41 : decode cX12_risesActs 41 = .ok (.getfield 256, 3) := by decide +kernel
theorem dX12_risesActs_44 : decode cX12_risesActs 44 = .ok (.iadd, 1) := by decide +kernel
theorem dX12_risesActs_45 : decode cX12_risesActs 45 = .ok (.ireturn, 1) := by decide +kernel
theorem dX12_risesActs_46 : decode cX12_risesActs 46 = .ok (.aload_n 0, 1) := by decide +kernel
theorem dX12_risesActs_47 : decode cX12_risesActs 47 = .ok (.iload_n 1, 1) := by decide +kernel
theorem dX12_risesActs_48 : decode cX12_risesActs 48 = .ok (.invokevirtual 259, 3) := by decide +kernel
theorem dX12_risesActs_51 : decode cX12_risesActs 51 = .ok (.ireturn, 1) := by decide +kernel
theorem dX12_plainTells_0 : decode cX12_plainTells 0 = .ok (.aload_n 0, 1) := by decide +kernel
theorem dX12_plainTells_1 : decode cX12_plainTells 1 = .ok (.iconst 3, 1) := by decide +kernel
theorem dX12_plainTells_2 : decode cX12_plainTells 2 = .ok (.invokevirtual 234, 3) := by decide +kernel
theorem dX12_plainTells_5 : decode cX12_plainTells 5 = .ok (.aload_n 0, 1) := by decide +kernel
theorem dX12_plainTells_6 : decode cX12_plainTells 6 = .ok (.iload_n 1, 1) := by decide +kernel
theorem dX12_plainTells_7 : decode cX12_plainTells 7 = .ok (.invokevirtual 262, 3) := by decide +kernel
theorem dX12_plainTells_10 : decode cX12_plainTells 10 = .ok (.iconst 2, 1) := by decide +kernel
theorem dX12_plainTells_11 : decode cX12_plainTells 11 = .ok (.imul, 1) := by decide +kernel
theorem dX12_plainTells_12 : decode cX12_plainTells 12 = .ok (.ireturn, 1) := by decide +kernel
theorem dX12_tellsActs_0 : decode cX12_tellsActs 0 = .ok (.aload_n 0, 1) := by decide +kernel
theorem dX12_tellsActs_1 : decode cX12_tellsActs 1 = .ok (.getfield 243, 3) := by decide +kernel
theorem dX12_tellsActs_4 : decode cX12_tellsActs 4 = .ok (.iconst 4, 1) := by decide +kernel
theorem dX12_tellsActs_5 : decode cX12_tellsActs 5 = .ok (.invokestatic 249, 3) := by decide +kernel
theorem dX12_tellsActs_8 : decode cX12_tellsActs 8 = .ok (.ifCond .eq 18, 3) := by decide +kernel
theorem dX12_tellsActs_11 : decode cX12_tellsActs 11 = .ok (.aload_n 0, 1) := by decide +kernel
theorem dX12_tellsActs_12 : decode cX12_tellsActs 12 = .ok (.bipush 31, 2) := by decide +kernel
theorem dX12_tellsActs_14 : decode cX12_tellsActs 14 = .ok (.invokevirtual 234, 3) := by decide +kernel
theorem dX12_tellsActs_17 : decode cX12_tellsActs 17 = .ok (.aload_n 0, 1) := by decide +kernel
theorem dX12_tellsActs_18 : decode cX12_tellsActs 18 = .ok (.iload_n 1, 1) := by decide +kernel
theorem dX12_tellsActs_19 : decode cX12_tellsActs 19 = .ok (.invokevirtual 265, 3) := by decide +kernel
theorem dX12_tellsActs_22 : decode cX12_tellsActs 22 = .ok (.bipush 7, 2) := by decide +kernel
theorem dX12_tellsActs_24 : decode cX12_tellsActs 24 = .ok (.ixor, 1) := by decide +kernel
theorem dX12_tellsActs_25 : decode cX12_tellsActs 25 = .ok (.ireturn, 1) := by decide +kernel
theorem dX12_tellsActs_26 : decode cX12_tellsActs 26 = .ok (.aload_n 0, 1) := by decide +kernel
theorem dX12_tellsActs_27 : decode cX12_tellsActs 27 = .ok (.getfield 243, 3) := by decide +kernel
theorem dX12_tellsActs_30 : decode cX12_tellsActs 30 = .ok (.iconst 2, 1) := by decide +kernel
theorem dX12_tellsActs_31 : decode cX12_tellsActs 31 = .ok (.if_icmp .ne 25, 3) := by decide +kernel
theorem dX12_tellsActs_34 : decode cX12_tellsActs 34 = .ok (.aload_n 0, 1) := by decide +kernel
theorem dX12_tellsActs_35 : decode cX12_tellsActs 35 = .ok (.bipush 41, 2) := by decide +kernel
theorem dX12_tellsActs_37 : decode cX12_tellsActs 37 = .ok (.invokevirtual 234, 3) := by decide +kernel
theorem dX12_tellsActs_40 : decode cX12_tellsActs 40 = .ok (.aload_n 0, 1) := by decide +kernel
theorem dX12_tellsActs_41 : decode cX12_tellsActs 41 = .ok (.iload_n 1, 1) := by decide +kernel
theorem dX12_tellsActs_42 : decode cX12_tellsActs 42 = .ok (.iconst 1, 1) := by decide +kernel
theorem dX12_tellsActs_43 : decode cX12_tellsActs 43 = .ok (.isub, 1) := by decide +kernel
theorem dX12_tellsActs_44 : decode cX12_tellsActs 44 = .ok (.invokevirtual 265, 3) := by decide +kernel
theorem dX12_tellsActs_47 : decode cX12_tellsActs 47 = .ok (.istore_n 2, 1) := by decide +kernel
theorem dX12_tellsActs_48 : decode cX12_tellsActs 48 = .ok (.iload_n 2, 1) := by decide +kernel
theorem dX12_tellsActs_49 : decode cX12_tellsActs 49 = .ok (.aload_n 0, 1) := by decide +kernel
theorem dX12_tellsActs_50 : decode cX12_tellsActs 50 = .ok (.iconst 2, 1) := by decide +kernel
theorem dX12_tellsActs_51 : decode cX12_tellsActs 51 = .ok (.invokevirtual 253, 3) := by decide +kernel
theorem dX12_tellsActs_54 : decode cX12_tellsActs 54 = .ok (.iadd, 1) := by decide +kernel
theorem dX12_tellsActs_55 : decode cX12_tellsActs 55 = .ok (.ireturn, 1) := by decide +kernel
theorem dX12_tellsActs_56 : decode cX12_tellsActs 56 = .ok (.aload_n 0, 1) := by decide +kernel
theorem dX12_tellsActs_57 : decode cX12_tellsActs 57 = .ok (.iload_n 1, 1) := by decide +kernel
theorem dX12_tellsActs_58 : decode cX12_tellsActs 58 = .ok (.invokevirtual 265, 3) := by decide +kernel
theorem dX12_tellsActs_61 : decode cX12_tellsActs 61 = .ok (.ireturn, 1) := by decide +kernel
theorem dX12_act_0 : decode cX12_act 0 = .ok (.aload_n 0, 1) := by decide +kernel
theorem dX12_act_1 : decode cX12_act 1 = .ok (.iconst 0, 1) := by decide +kernel
theorem dX12_act_2 : decode cX12_act 2 = .ok (.putfield 231, 3) := by decide +kernel
theorem dX12_act_5 : decode cX12_act 5 = .ok (.aload_n 0, 1) := by decide +kernel
theorem dX12_act_6 : decode cX12_act 6 = .ok (.iload_n 1, 1) := by decide +kernel
theorem dX12_act_7 : decode cX12_act 7 = .ok (.invokevirtual 56, 3) := by decide +kernel
theorem dX12_act_10 : decode cX12_act 10 = .ok (.ifCond .eq 12, 3) := by decide +kernel
theorem dX12_act_13 : decode cX12_act 13 = .ok (.iload_n 2, 1) := by decide +kernel
theorem dX12_act_14 : decode cX12_act 14 = .ok (.iconst 0, 1) := by decide +kernel
theorem dX12_act_15 : decode cX12_act 15 = .ok (.iconst 2, 1) := by decide +kernel
theorem dX12_act_16 : decode cX12_act 16 = .ok (.invokestatic 48, 3) := by decide +kernel
theorem dX12_act_19 : decode cX12_act 19 = .ok (.ifCond .ne 5, 3) := by decide +kernel
theorem dX12_act_22 : decode cX12_act 22 = .ok (.iconst 0, 1) := by decide +kernel
theorem dX12_act_23 : decode cX12_act 23 = .ok (.ireturn, 1) := by decide +kernel
theorem dX12_act_24 : decode cX12_act 24 = .ok (.aload_n 0, 1) := by decide +kernel
theorem dX12_act_25 : decode cX12_act 25 = .ok (.aload_n 0, 1) := by decide +kernel
theorem dX12_act_26 : decode cX12_act 26 = .ok (.getfield 9, 3) := by decide +kernel
theorem dX12_act_29 : decode cX12_act 29 = .ok (.sipush 130, 3) := by decide +kernel
theorem dX12_act_32 : decode cX12_act 32 = .ok (.iload_n 1, 1) := by decide +kernel
theorem dX12_act_33 : decode cX12_act 33 = .ok (.iadd, 1) := by decide +kernel
theorem dX12_act_34 : decode cX12_act 34 = .ok (.iaload, 1) := by decide +kernel
theorem dX12_act_35 : decode cX12_act 35 = .ok (.putfield 243, 3) := by decide +kernel
theorem dX12_act_38 : decode cX12_act 38 = .ok (.aload_n 0, 1) := by decide +kernel
theorem dX12_act_39 : decode cX12_act 39 = .ok (.iload_n 1, 1) := by decide +kernel
theorem dX12_act_40 : decode cX12_act 40 = .ok (.putfield 237, 3) := by decide +kernel
theorem dX12_act_43 : decode cX12_act 43 = .ok (.aload_n 0, 1) := by decide +kernel
theorem dX12_act_44 : decode cX12_act 44 = .ok (.aload_n 0, 1) := by decide +kernel
theorem dX12_act_45 : decode cX12_act 45 = .ok (.getfield 9, 3) := by decide +kernel
theorem dX12_act_48 : decode cX12_act 48 = .ok (.sipush 154, 3) := by decide +kernel
theorem dX12_act_51 : decode cX12_act 51 = .ok (.iload_n 1, 1) := by decide +kernel
theorem dX12_act_52 : decode cX12_act 52 = .ok (.iadd, 1) := by decide +kernel
theorem dX12_act_53 : decode cX12_act 53 = .ok (.iaload, 1) := by decide +kernel
theorem dX12_act_54 : decode cX12_act 54 = .ok (.putfield 256, 3) := by decide +kernel
theorem dX12_act_57 : decode cX12_act 57 = .ok (.iload_n 2, 1) := by decide +kernel
theorem dX12_act_58 : decode cX12_act 58 = .ok (.ifCond .ne 11, 3) := by decide +kernel
theorem dX12_act_61 : decode cX12_act 61 = .ok (.aload_n 0, 1) := by decide +kernel
theorem dX12_act_62 : decode cX12_act 62 = .ok (.iload_n 3, 1) := by decide +kernel
theorem dX12_act_63 : decode cX12_act 63 = .ok (.invokevirtual 253, 3) := by decide +kernel
theorem dX12_act_66 : decode cX12_act 66 = .ok (.goto 21, 3) := by decide +kernel
theorem dX12_act_69 : decode cX12_act 69 = .ok (.iload_n 2, 1) := by decide +kernel
theorem dX12_act_70 : decode cX12_act 70 = .ok (.iconst 1, 1) := by decide +kernel
theorem dX12_act_71 : decode cX12_act 71 = .ok (.if_icmp .ne 11, 3) := by decide +kernel
theorem dX12_act_74 : decode cX12_act 74 = .ok (.aload_n 0, 1) := by decide +kernel
theorem dX12_act_75 : decode cX12_act 75 = .ok (.iload_n 3, 1) := by decide +kernel
theorem dX12_act_76 : decode cX12_act 76 = .ok (.invokevirtual 262, 3) := by decide +kernel
theorem dX12_act_79 : decode cX12_act 79 = .ok (.goto 8, 3) := by decide +kernel
theorem dX12_act_82 : decode cX12_act 82 = .ok (.aload_n 0, 1) := by decide +kernel
theorem dX12_act_83 : decode cX12_act 83 = .ok (.iload_n 3, 1) := by decide +kernel
theorem dX12_act_84 : decode cX12_act 84 = .ok (.invokevirtual 268, 3) := by decide +kernel
theorem dX12_act_87 : decode cX12_act 87 = .ok (.ireturn, 1) := by decide +kernel
theorem dX12_trace_0 : decode cX12_trace 0 = .ok (.iload_n 1, 1) := by decide +kernel
theorem dX12_trace_1 : decode cX12_trace 1 = .ok (.iconst 0, 1) := by decide +kernel
theorem dX12_trace_2 : decode cX12_trace 2 = .ok (.aload_n 0, 1) := by decide +kernel
theorem dX12_trace_3 : decode cX12_trace 3 = .ok (.getfield 231, 3) := by decide +kernel
theorem dX12_trace_6 : decode cX12_trace 6 = .ok (.bipush 20, 2) := by decide +kernel
theorem dX12_trace_8 : decode cX12_trace 8 = .ok (.if_icmp .ge 10, 3) := by decide +kernel
theorem dX12_trace_11 : decode cX12_trace 11 = .ok (.aload_n 0, 1) := by decide +kernel
theorem dX12_trace_12 : decode cX12_trace 12 = .ok (.getfield 231, 3) := by decide +kernel
theorem dX12_trace_15 : decode cX12_trace 15 = .ok (.goto 5, 3) := by decide +kernel
theorem dX12_trace_18 : decode cX12_trace 18 = .ok (.bipush 20, 2) := by decide +kernel
theorem dX12_trace_20 : decode cX12_trace 20 = .ok (.iconst 1, 1) := by decide +kernel
theorem dX12_trace_21 : decode cX12_trace 21 = .ok (.isub, 1) := by decide +kernel
theorem dX12_trace_22 : decode cX12_trace 22 = .ok (.invokestatic 48, 3) := by decide +kernel
theorem dX12_trace_25 : decode cX12_trace 25 = .ok (.ifCond .eq 12, 3) := by decide +kernel
theorem dX12_trace_28 : decode cX12_trace 28 = .ok (.aload_n 0, 1) := by decide +kernel
theorem dX12_trace_29 : decode cX12_trace 29 = .ok (.getfield 41, 3) := by decide +kernel
theorem dX12_trace_32 : decode cX12_trace 32 = .ok (.iload_n 1, 1) := by decide +kernel
theorem dX12_trace_33 : decode cX12_trace 33 = .ok (.iaload, 1) := by decide +kernel
theorem dX12_trace_34 : decode cX12_trace 34 = .ok (.goto 4, 3) := by decide +kernel
theorem dX12_trace_37 : decode cX12_trace 37 = .ok (.iconst (-1), 1) := by decide +kernel
theorem dX12_trace_38 : decode cX12_trace 38 = .ok (.ireturn, 1) := by decide +kernel
theorem dX12_as_0 : decode cX12_as 0 = .ok (.aload_n 0, 1) := by decide +kernel
theorem dX12_as_1 : decode cX12_as 1 = .ok (.iload_n 1, 1) := by decide +kernel
theorem dX12_as_2 : decode cX12_as 2 = .ok (.invokevirtual 56, 3) := by decide +kernel
theorem dX12_as_5 : decode cX12_as 5 = .ok (.ifCond .eq 13, 3) := by decide +kernel
theorem dX12_as_8 : decode cX12_as 8 = .ok (.iload_n 2, 1) := by decide +kernel
theorem dX12_as_9 : decode cX12_as 9 = .ok (.iconst 0, 1) := by decide +kernel
theorem dX12_as_10 : decode cX12_as 10 = .ok (.bipush 6, 2) := by decide +kernel
theorem dX12_as_12 : decode cX12_as 12 = .ok (.invokestatic 48, 3) := by decide +kernel
theorem dX12_as_15 : decode cX12_as 15 = .ok (.ifCond .ne 5, 3) := by decide +kernel
theorem dX12_as_18 : decode cX12_as 18 = .ok (.iconst (-1), 1) := by decide +kernel
theorem dX12_as_19 : decode cX12_as 19 = .ok (.ireturn, 1) := by decide +kernel
theorem dX12_as_20 : decode cX12_as 20 = .ok (.aload_n 0, 1) := by decide +kernel
theorem dX12_as_21 : decode cX12_as 21 = .ok (.getfield 9, 3) := by decide +kernel
theorem dX12_as_24 : decode cX12_as 24 = .ok (.sipush 130, 3) := by decide +kernel
theorem dX12_as_27 : decode cX12_as 27 = .ok (.iload_n 1, 1) := by decide +kernel
theorem dX12_as_28 : decode cX12_as 28 = .ok (.iadd, 1) := by decide +kernel
theorem dX12_as_29 : decode cX12_as 29 = .ok (.iaload, 1) := by decide +kernel
theorem dX12_as_30 : decode cX12_as 30 = .ok (.iload_n 2, 1) := by decide +kernel
theorem dX12_as_31 : decode cX12_as 31 = .ok (.invokestatic 249, 3) := by decide +kernel
theorem dX12_as_34 : decode cX12_as 34 = .ok (.ifCond .eq 16, 3) := by decide +kernel
theorem dX12_as_37 : decode cX12_as 37 = .ok (.aload_n 0, 1) := by decide +kernel
theorem dX12_as_38 : decode cX12_as 38 = .ok (.getfield 9, 3) := by decide +kernel
theorem dX12_as_41 : decode cX12_as 41 = .ok (.sipush 154, 3) := by decide +kernel
theorem dX12_as_44 : decode cX12_as 44 = .ok (.iload_n 1, 1) := by decide +kernel
theorem dX12_as_45 : decode cX12_as 45 = .ok (.iadd, 1) := by decide +kernel
theorem dX12_as_46 : decode cX12_as 46 = .ok (.iaload, 1) := by decide +kernel
theorem dX12_as_47 : decode cX12_as 47 = .ok (.goto 5, 3) := by decide +kernel
theorem dX12_as_50 : decode cX12_as 50 = .ok (.bipush (-6), 2) := by decide +kernel
theorem dX12_as_52 : decode cX12_as 52 = .ok (.ireturn, 1) := by decide +kernel
theorem dX12_image_0 : decode cX12_image 0 = .ok (.iconst 0, 1) := by decide +kernel
theorem dX12_image_1 : decode cX12_image 1 = .ok (.istore_n 1, 1) := by decide +kernel
theorem dX12_image_2 : decode cX12_image 2 = .ok (.iload_n 1, 1) := by decide +kernel
theorem dX12_image_3 : decode cX12_image 3 = .ok (.sipush 938, 3) := by decide +kernel
theorem dX12_image_6 : decode cX12_image 6 = .ok (.if_icmp .ge 21, 3) := by decide +kernel
theorem dX12_image_9 : decode cX12_image 9 = .ok (.aload_n 0, 1) := by decide +kernel
theorem dX12_image_10 : decode cX12_image 10 = .ok (.getfield 15, 3) := by decide +kernel
theorem dX12_image_13 : decode cX12_image 13 = .ok (.iload_n 1, 1) := by decide +kernel
theorem dX12_image_14 : decode cX12_image 14 = .ok (.aload_n 0, 1) := by decide +kernel
theorem dX12_image_15 : decode cX12_image 15 = .ok (.getfield 9, 3) := by decide +kernel
theorem dX12_image_18 : decode cX12_image 18 = .ok (.iload_n 1, 1) := by decide +kernel
theorem dX12_image_19 : decode cX12_image 19 = .ok (.iaload, 1) := by decide +kernel
theorem dX12_image_20 : decode cX12_image 20 = .ok (.iastore, 1) := by decide +kernel
theorem dX12_image_21 : decode cX12_image 21 = .ok (.iinc 1 1, 3) := by decide +kernel
theorem dX12_image_24 : decode cX12_image 24 = .ok (.goto (-22), 3) := by decide +kernel
theorem dX12_image_27 : decode cX12_image 27 = .ok (.aload_n 0, 1) := by decide +kernel
theorem dX12_image_28 : decode cX12_image 28 = .ok (.iconst 1, 1) := by decide +kernel
theorem dX12_image_29 : decode cX12_image 29 = .ok (.putfield 271, 3) := by decide +kernel
theorem dX12_image_32 : decode cX12_image 32 = .ok (.aload_n 0, 1) := by decide +kernel
theorem dX12_image_33 : decode cX12_image 33 = .ok (.getfield 9, 3) := by decide +kernel
theorem dX12_image_36 : decode cX12_image 36 = .ok (.iconst 0, 1) := by decide +kernel
theorem dX12_image_37 : decode cX12_image 37 = .ok (.iaload, 1) := by decide +kernel
theorem dX12_image_38 : decode cX12_image 38 = .ok (.ireturn, 1) := by decide +kernel
theorem dX12_undo_0 : decode cX12_undo 0 = .ok (.aload_n 0, 1) := by decide +kernel
theorem dX12_undo_1 : decode cX12_undo 1 = .ok (.getfield 271, 3) := by decide +kernel
theorem dX12_undo_4 : decode cX12_undo 4 = .ok (.ifCond .ne 6, 3) := by decide +kernel
theorem dX12_undo_7 : decode cX12_undo 7 = .ok (.bipush (-3), 2) := by decide +kernel
theorem dX12_undo_9 : decode cX12_undo 9 = .ok (.ireturn, 1) := by decide +kernel
theorem dX12_undo_10 : decode cX12_undo 10 = .ok (.iconst 0, 1) := by decide +kernel
theorem dX12_undo_11 : decode cX12_undo 11 = .ok (.istore_n 1, 1) := by decide +kernel
theorem dX12_undo_12 : decode cX12_undo 12 = .ok (.iload_n 1, 1) := by decide +kernel
theorem dX12_undo_13 : decode cX12_undo 13 = .ok (.sipush 938, 3) := by decide +kernel
theorem dX12_undo_16 : decode cX12_undo 16 = .ok (.if_icmp .ge 21, 3) := by decide +kernel
theorem dX12_undo_19 : decode cX12_undo 19 = .ok (.aload_n 0, 1) := by decide +kernel
theorem dX12_undo_20 : decode cX12_undo 20 = .ok (.getfield 9, 3) := by decide +kernel
theorem dX12_undo_23 : decode cX12_undo 23 = .ok (.iload_n 1, 1) := by decide +kernel
theorem dX12_undo_24 : decode cX12_undo 24 = .ok (.aload_n 0, 1) := by decide +kernel
theorem dX12_undo_25 : decode cX12_undo 25 = .ok (.getfield 15, 3) := by decide +kernel
theorem dX12_undo_28 : decode cX12_undo 28 = .ok (.iload_n 1, 1) := by decide +kernel
theorem dX12_undo_29 : decode cX12_undo 29 = .ok (.iaload, 1) := by decide +kernel
theorem dX12_undo_30 : decode cX12_undo 30 = .ok (.iastore, 1) := by decide +kernel
theorem dX12_undo_31 : decode cX12_undo 31 = .ok (.iinc 1 1, 3) := by decide +kernel
theorem dX12_undo_34 : decode cX12_undo 34 = .ok (.goto (-22), 3) := by decide +kernel
theorem dX12_undo_37 : decode cX12_undo 37 = .ok (.aload_n 0, 1) := by decide +kernel
theorem dX12_undo_38 : decode cX12_undo 38 = .ok (.getfield 9, 3) := by decide +kernel
theorem dX12_undo_41 : decode cX12_undo 41 = .ok (.iconst 0, 1) := by decide +kernel
theorem dX12_undo_42 : decode cX12_undo 42 = .ok (.iaload, 1) := by decide +kernel
theorem dX12_undo_43 : decode cX12_undo 43 = .ok (.ireturn, 1) := by decide +kernel
theorem dX12_count_0 : decode cX12_count 0 = .ok (.iload_n 1, 1) := by decide +kernel
theorem dX12_count_1 : decode cX12_count 1 = .ok (.tableswitch 79 0 5 #[39, 46, 53, 60, 67, 74], 39) := by decide +kernel
theorem dX12_count_40 : decode cX12_count 40 = .ok (.aload_n 0, 1) := by decide +kernel
theorem dX12_count_41 : decode cX12_count 41 = .ok (.getfield 9, 3) := by decide +kernel
theorem dX12_count_44 : decode cX12_count 44 = .ok (.iconst 0, 1) := by decide +kernel
theorem dX12_count_45 : decode cX12_count 45 = .ok (.iaload, 1) := by decide +kernel
theorem dX12_count_46 : decode cX12_count 46 = .ok (.ireturn, 1) := by decide +kernel
theorem dX12_count_47 : decode cX12_count 47 = .ok (.aload_n 0, 1) := by decide +kernel
theorem dX12_count_48 : decode cX12_count 48 = .ok (.getfield 9, 3) := by decide +kernel
theorem dX12_count_51 : decode cX12_count 51 = .ok (.iconst 1, 1) := by decide +kernel
theorem dX12_count_52 : decode cX12_count 52 = .ok (.iaload, 1) := by decide +kernel
theorem dX12_count_53 : decode cX12_count 53 = .ok (.ireturn, 1) := by decide +kernel
theorem dX12_count_54 : decode cX12_count 54 = .ok (.aload_n 0, 1) := by decide +kernel
theorem dX12_count_55 : decode cX12_count 55 = .ok (.getfield 9, 3) := by decide +kernel
theorem dX12_count_58 : decode cX12_count 58 = .ok (.iconst 2, 1) := by decide +kernel
theorem dX12_count_59 : decode cX12_count 59 = .ok (.iaload, 1) := by decide +kernel
theorem dX12_count_60 : decode cX12_count 60 = .ok (.ireturn, 1) := by decide +kernel
theorem dX12_count_61 : decode cX12_count 61 = .ok (.aload_n 0, 1) := by decide +kernel
theorem dX12_count_62 : decode cX12_count 62 = .ok (.getfield 9, 3) := by decide +kernel
theorem dX12_count_65 : decode cX12_count 65 = .ok (.iconst 3, 1) := by decide +kernel
theorem dX12_count_66 : decode cX12_count 66 = .ok (.iaload, 1) := by decide +kernel
theorem dX12_count_67 : decode cX12_count 67 = .ok (.ireturn, 1) := by decide +kernel
theorem dX12_count_68 : decode cX12_count 68 = .ok (.aload_n 0, 1) := by decide +kernel
theorem dX12_count_69 : decode cX12_count 69 = .ok (.getfield 9, 3) := by decide +kernel
theorem dX12_count_72 : decode cX12_count 72 = .ok (.iconst 4, 1) := by decide +kernel
theorem dX12_count_73 : decode cX12_count 73 = .ok (.iaload, 1) := by decide +kernel
theorem dX12_count_74 : decode cX12_count 74 = .ok (.ireturn, 1) := by decide +kernel
theorem dX12_count_75 : decode cX12_count 75 = .ok (.aload_n 0, 1) := by decide +kernel
theorem dX12_count_76 : decode cX12_count 76 = .ok (.getfield 231, 3) := by decide +kernel
theorem dX12_count_79 : decode cX12_count 79 = .ok (.ireturn, 1) := by decide +kernel
theorem dX12_count_80 : decode cX12_count 80 = .ok (.iconst (-1), 1) := by decide +kernel
theorem dX12_count_81 : decode cX12_count 81 = .ok (.ireturn, 1) := by decide +kernel
