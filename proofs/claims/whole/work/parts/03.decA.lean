theorem dX0_init_0 : decode cX0_init 0 = .ok (.aload_n 0, 1) := by decide +kernel
theorem dX0_init_1 : decode cX0_init 1 = .ok (.iload_n 1, 1) := by decide +kernel
theorem dX0_init_2 : decode cX0_init 2 = .ok (.iload_n 2, 1) := by decide +kernel
theorem dX0_init_3 : decode cX0_init 3 = .ok (.iload_n 3, 1) := by decide +kernel
theorem dX0_init_4 : decode cX0_init 4 = .ok (.iload 4, 2) := by decide +kernel
theorem dX0_init_6 : decode cX0_init 6 = .ok (.iload 5, 2) := by decide +kernel
theorem dX0_init_8 : decode cX0_init 8 = .ok (.invokespecial 1, 3) := by decide +kernel
theorem dX0_init_11 : decode cX0_init 11 = .ok (.return_, 1) := by decide +kernel
theorem dX0_drawnAt_0 : decode cX0_drawnAt 0 = .ok (.aload_n 1, 1) := by decide +kernel
theorem dX0_drawnAt_1 : decode cX0_drawnAt 1 = .ok (.aload_n 0, 1) := by decide +kernel
theorem dX0_drawnAt_2 : decode cX0_drawnAt 2 = .ok (.getfield 7, 3) := by decide +kernel
theorem dX0_drawnAt_5 : decode cX0_drawnAt 5 = .ok (.aload_n 0, 1) := by decide +kernel
theorem dX0_drawnAt_6 : decode cX0_drawnAt 6 = .ok (.getfield 13, 3) := by decide +kernel
theorem dX0_drawnAt_9 : decode cX0_drawnAt 9 = .ok (.iload_n 2, 1) := by decide +kernel
theorem dX0_drawnAt_10 : decode cX0_drawnAt 10 = .ok (.aload_n 0, 1) := by decide +kernel
theorem dX0_drawnAt_11 : decode cX0_drawnAt 11 = .ok (.getfield 16, 3) := by decide +kernel
theorem dX0_drawnAt_14 : decode cX0_drawnAt 14 = .ok (.isub, 1) := by decide +kernel
theorem dX0_drawnAt_15 : decode cX0_drawnAt 15 = .ok (.iload_n 3, 1) := by decide +kernel
theorem dX0_drawnAt_16 : decode cX0_drawnAt 16 = .ok (.invokevirtual 19, 3) := by decide +kernel
theorem dX0_drawnAt_19 : decode cX0_drawnAt 19 = .ok (.ireturn, 1) := by decide +kernel
theorem dX0_tells_0 : decode cX0_tells 0 = .ok (.aload_n 2, 1) := by decide +kernel
theorem dX0_tells_1 : decode cX0_tells 1 = .ok (.bipush 41, 2) := by decide +kernel
theorem dX0_tells_3 : decode cX0_tells 3 = .ok (.invokevirtual 25, 3) := by decide +kernel
theorem dX0_tells_6 : decode cX0_tells 6 = .ok (.aload_n 0, 1) := by decide +kernel
theorem dX0_tells_7 : decode cX0_tells 7 = .ok (.iload_n 1, 1) := by decide +kernel
theorem dX0_tells_8 : decode cX0_tells 8 = .ok (.iconst 1, 1) := by decide +kernel
theorem dX0_tells_9 : decode cX0_tells 9 = .ok (.isub, 1) := by decide +kernel
theorem dX0_tells_10 : decode cX0_tells 10 = .ok (.aload_n 2, 1) := by decide +kernel
theorem dX0_tells_11 : decode cX0_tells 11 = .ok (.invokespecial 31, 3) := by decide +kernel
theorem dX0_tells_14 : decode cX0_tells 14 = .ok (.aload_n 0, 1) := by decide +kernel
theorem dX0_tells_15 : decode cX0_tells 15 = .ok (.iconst 2, 1) := by decide +kernel
theorem dX0_tells_16 : decode cX0_tells 16 = .ok (.aload_n 2, 1) := by decide +kernel
theorem dX0_tells_17 : decode cX0_tells 17 = .ok (.invokevirtual 35, 3) := by decide +kernel
theorem dX0_tells_20 : decode cX0_tells 20 = .ok (.iadd, 1) := by decide +kernel
theorem dX0_tells_21 : decode cX0_tells 21 = .ok (.ireturn, 1) := by decide +kernel
theorem dX1_init_0 : decode cX1_init 0 = .ok (.aload_n 0, 1) := by decide +kernel
theorem dX1_init_1 : decode cX1_init 1 = .ok (.invokespecial 1, 3) := by decide +kernel
theorem dX1_init_4 : decode cX1_init 4 = .ok (.aload_n 0, 1) := by decide +kernel
theorem dX1_init_5 : decode cX1_init 5 = .ok (.iconst 0, 1) := by decide +kernel
theorem dX1_init_6 : decode cX1_init 6 = .ok (.putfield 7, 3) := by decide +kernel
theorem dX1_init_9 : decode cX1_init 9 = .ok (.aload_n 0, 1) := by decide +kernel
theorem dX1_init_10 : decode cX1_init 10 = .ok (.sipush 999, 3) := by decide +kernel
theorem dX1_init_13 : decode cX1_init 13 = .ok (.putfield 13, 3) := by decide +kernel
theorem dX1_init_16 : decode cX1_init 16 = .ok (.aload_n 0, 1) := by decide +kernel
theorem dX1_init_17 : decode cX1_init 17 = .ok (.bipush 8, 2) := by decide +kernel
theorem dX1_init_19 : decode cX1_init 19 = .ok (.newarray .int, 2) := by decide +kernel
theorem dX1_init_21 : decode cX1_init 21 = .ok (.putfield 16, 3) := by decide +kernel
theorem dX1_init_24 : decode cX1_init 24 = .ok (.aload_n 0, 1) := by decide +kernel
theorem dX1_init_25 : decode cX1_init 25 = .ok (.bipush 8, 2) := by decide +kernel
theorem dX1_init_27 : decode cX1_init 27 = .ok (.newarray .int, 2) := by decide +kernel
theorem dX1_init_29 : decode cX1_init 29 = .ok (.putfield 20, 3) := by decide +kernel
theorem dX1_init_32 : decode cX1_init 32 = .ok (.aload_n 0, 1) := by decide +kernel
theorem dX1_init_33 : decode cX1_init 33 = .ok (.iconst 0, 1) := by decide +kernel
theorem dX1_init_34 : decode cX1_init 34 = .ok (.putfield 23, 3) := by decide +kernel
theorem dX1_init_37 : decode cX1_init 37 = .ok (.aload_n 0, 1) := by decide +kernel
theorem dX1_init_38 : decode cX1_init 38 = .ok (.iconst 0, 1) := by decide +kernel
theorem dX1_init_39 : decode cX1_init 39 = .ok (.putfield 26, 3) := by decide +kernel
theorem dX1_init_42 : decode cX1_init 42 = .ok (.aload_n 0, 1) := by decide +kernel
theorem dX1_init_43 : decode cX1_init 43 = .ok (.iconst 5, 1) := by decide +kernel
theorem dX1_init_44 : decode cX1_init 44 = .ok (.newarray .int, 2) := by decide +kernel
theorem dX1_init_46 : decode cX1_init 46 = .ok (.putfield 29, 3) := by decide +kernel
theorem dX1_init_49 : decode cX1_init 49 = .ok (.aload_n 0, 1) := by decide +kernel
theorem dX1_init_50 : decode cX1_init 50 = .ok (.aload_n 1, 1) := by decide +kernel
theorem dX1_init_51 : decode cX1_init 51 = .ok (.putfield 32, 3) := by decide +kernel
theorem dX1_init_54 : decode cX1_init 54 = .ok (.aload_n 0, 1) := by decide +kernel
theorem dX1_init_55 : decode cX1_init 55 = .ok (.aload_n 1, 1) := by decide +kernel
theorem dX1_init_56 : decode cX1_init 56 = .ok (.arraylength, 1) := by decide +kernel
theorem dX1_init_57 : decode cX1_init 57 = .ok (.newarray .int, 2) := by decide +kernel
theorem dX1_init_59 : decode cX1_init 59 = .ok (.putfield 36, 3) := by decide +kernel
theorem dX1_init_62 : decode cX1_init 62 = .ok (.aload_n 0, 1) := by decide +kernel
theorem dX1_init_63 : decode cX1_init 63 = .ok (.invokevirtual 39, 3) := by decide +kernel
theorem dX1_init_66 : decode cX1_init 66 = .ok (.istore_n 2, 1) := by decide +kernel
theorem dX1_init_67 : decode cX1_init 67 = .ok (.iconst 1, 1) := by decide +kernel
theorem dX1_init_68 : decode cX1_init 68 = .ok (.istore_n 3, 1) := by decide +kernel
theorem dX1_init_69 : decode cX1_init 69 = .ok (.iload_n 3, 1) := by decide +kernel
theorem dX1_init_70 : decode cX1_init 70 = .ok (.bipush 8, 2) := by decide +kernel
theorem dX1_init_72 : decode cX1_init 72 = .ok (.if_icmp .ge 44, 3) := by decide +kernel
theorem dX1_init_75 : decode cX1_init 75 = .ok (.iload_n 2, 1) := by decide +kernel
theorem dX1_init_76 : decode cX1_init 76 = .ok (.ifCond .eq 40, 3) := by decide +kernel
theorem dX1_init_79 : decode cX1_init 79 = .ok (.aload_n 0, 1) := by decide +kernel
theorem dX1_init_80 : decode cX1_init 80 = .ok (.getfield 7, 3) := by decide +kernel
theorem dX1_init_83 : decode cX1_init 83 = .ok (.aload_n 1, 1) := by decide +kernel
theorem dX1_init_84 : decode cX1_init 84 = .ok (.arraylength, 1) := by decide +kernel
theorem dX1_init_85 : decode cX1_init 85 = .ok (.if_icmp .ge 31, 3) := by decide +kernel
theorem dX1_init_88 : decode cX1_init 88 = .ok (.aload_n 0, 1) := by decide +kernel
theorem dX1_init_89 : decode cX1_init 89 = .ok (.bipush 59, 2) := by decide +kernel
theorem dX1_init_91 : decode cX1_init 91 = .ok (.invokevirtual 43, 3) := by decide +kernel
theorem dX1_init_94 : decode cX1_init 94 = .ok (.ifCond .eq 14, 3) := by decide +kernel
theorem dX1_init_97 : decode cX1_init 97 = .ok (.aload_n 0, 1) := by decide +kernel
theorem dX1_init_98 : decode cX1_init 98 = .ok (.invokevirtual 39, 3) := by decide +kernel
theorem dX1_init_101 : decode cX1_init 101 = .ok (.ifCond .eq 7, 3) := by decide +kernel
theorem dX1_init_104 : decode cX1_init 104 = .ok (.iconst 1, 1) := by decide +kernel
theorem dX1_init_105 : decode cX1_init 105 = .ok (.goto 4, 3) := by decide +kernel
theorem dX1_init_108 : decode cX1_init 108 = .ok (.iconst 0, 1) := by decide +kernel
theorem dX1_init_109 : decode cX1_init 109 = .ok (.istore_n 2, 1) := by decide +kernel
theorem dX1_init_110 : decode cX1_init 110 = .ok (.iinc 3 1, 3) := by decide +kernel
theorem dX1_init_113 : decode cX1_init 113 = .ok (.goto (-44), 3) := by decide +kernel
theorem dX1_init_116 : decode cX1_init 116 = .ok (.aload_n 0, 1) := by decide +kernel
theorem dX1_init_117 : decode cX1_init 117 = .ok (.iload_n 2, 1) := by decide +kernel
theorem dX1_init_118 : decode cX1_init 118 = .ok (.ifCond .eq 16, 3) := by decide +kernel
theorem dX1_init_121 : decode cX1_init 121 = .ok (.aload_n 0, 1) := by decide +kernel
theorem dX1_init_122 : decode cX1_init 122 = .ok (.getfield 7, 3) := by decide +kernel
theorem dX1_init_125 : decode cX1_init 125 = .ok (.aload_n 1, 1) := by decide +kernel
theorem dX1_init_126 : decode cX1_init 126 = .ok (.arraylength, 1) := by decide +kernel
theorem dX1_init_127 : decode cX1_init 127 = .ok (.if_icmp .ne 7, 3) := by decide +kernel
theorem dX1_init_130 : decode cX1_init 130 = .ok (.iconst 1, 1) := by decide +kernel
theorem dX1_init_131 : decode cX1_init 131 = .ok (.goto 4, 3) := by decide +kernel
theorem dX1_init_134 : decode cX1_init 134 = .ok (.iconst 0, 1) := by decide +kernel
theorem dX1_init_135 : decode cX1_init 135 = .ok (.putfield 47, 3) := by decide +kernel
theorem dX1_init_138 : decode cX1_init 138 = .ok (.return_, 1) := by decide +kernel
theorem dX1_percent_0 : decode cX1_percent 0 = .ok (.aload_n 0, 1) := by decide +kernel
theorem dX1_percent_1 : decode cX1_percent 1 = .ok (.getfield 29, 3) := by decide +kernel
theorem dX1_percent_4 : decode cX1_percent 4 = .ok (.iconst 0, 1) := by decide +kernel
theorem dX1_percent_5 : decode cX1_percent 5 = .ok (.iload_n 1, 1) := by decide +kernel
theorem dX1_percent_6 : decode cX1_percent 6 = .ok (.iastore, 1) := by decide +kernel
theorem dX1_percent_7 : decode cX1_percent 7 = .ok (.aload_n 0, 1) := by decide +kernel
theorem dX1_percent_8 : decode cX1_percent 8 = .ok (.getfield 29, 3) := by decide +kernel
theorem dX1_percent_11 : decode cX1_percent 11 = .ok (.iconst 1, 1) := by decide +kernel
theorem dX1_percent_12 : decode cX1_percent 12 = .ok (.iload_n 2, 1) := by decide +kernel
theorem dX1_percent_13 : decode cX1_percent 13 = .ok (.iastore, 1) := by decide +kernel
theorem dX1_percent_14 : decode cX1_percent 14 = .ok (.aload_n 0, 1) := by decide +kernel
theorem dX1_percent_15 : decode cX1_percent 15 = .ok (.getfield 29, 3) := by decide +kernel
theorem dX1_percent_18 : decode cX1_percent 18 = .ok (.iconst 2, 1) := by decide +kernel
theorem dX1_percent_19 : decode cX1_percent 19 = .ok (.iload_n 3, 1) := by decide +kernel
theorem dX1_percent_20 : decode cX1_percent 20 = .ok (.iastore, 1) := by decide +kernel
theorem dX1_percent_21 : decode cX1_percent 21 = .ok (.aload_n 0, 1) := by decide +kernel
theorem dX1_percent_22 : decode cX1_percent 22 = .ok (.getfield 29, 3) := by decide +kernel
theorem dX1_percent_25 : decode cX1_percent 25 = .ok (.iconst 3, 1) := by decide +kernel
theorem dX1_percent_26 : decode cX1_percent 26 = .ok (.iload 4, 2) := by decide +kernel
theorem dX1_percent_28 : decode cX1_percent 28 = .ok (.iastore, 1) := by decide +kernel
theorem dX1_percent_29 : decode cX1_percent 29 = .ok (.aload_n 0, 1) := by decide +kernel
theorem dX1_percent_30 : decode cX1_percent 30 = .ok (.getfield 29, 3) := by decide +kernel
theorem dX1_percent_33 : decode cX1_percent 33 = .ok (.iconst 4, 1) := by decide +kernel
theorem dX1_percent_34 : decode cX1_percent 34 = .ok (.iload 5, 2) := by decide +kernel
theorem dX1_percent_36 : decode cX1_percent 36 = .ok (.iastore, 1) := by decide +kernel
theorem dX1_percent_37 : decode cX1_percent 37 = .ok (.iconst 0, 1) := by decide +kernel
theorem dX1_percent_38 : decode cX1_percent 38 = .ok (.istore 6, 2) := by decide +kernel
theorem dX1_percent_40 : decode cX1_percent 40 = .ok (.iconst 0, 1) := by decide +kernel
theorem dX1_percent_41 : decode cX1_percent 41 = .ok (.istore 7, 2) := by decide +kernel
theorem dX1_percent_43 : decode cX1_percent 43 = .ok (.iconst 0, 1) := by decide +kernel
theorem dX1_percent_44 : decode cX1_percent 44 = .ok (.istore 8, 2) := by decide +kernel
theorem dX1_percent_46 : decode cX1_percent 46 = .ok (.iload 8, 2) := by decide +kernel
theorem dX1_percent_48 : decode cX1_percent 48 = .ok (.aload_n 0, 1) := by decide +kernel
theorem dX1_percent_49 : decode cX1_percent 49 = .ok (.getfield 23, 3) := by decide +kernel
theorem dX1_percent_52 : decode cX1_percent 52 = .ok (.if_icmp .ge 50, 3) := by decide +kernel
theorem dX1_percent_55 : decode cX1_percent 55 = .ok (.iload 6, 2) := by decide +kernel
theorem dX1_percent_57 : decode cX1_percent 57 = .ok (.aload_n 0, 1) := by decide +kernel
theorem dX1_percent_58 : decode cX1_percent 58 = .ok (.iload 7, 2) := by decide +kernel
theorem dX1_percent_60 : decode cX1_percent 60 = .ok (.aload_n 0, 1) := by decide +kernel
theorem dX1_percent_61 : decode cX1_percent 61 = .ok (.getfield 20, 3) := by decide +kernel
theorem dX1_percent_64 : decode cX1_percent 64 = .ok (.iload 8, 2) := by decide +kernel
theorem dX1_percent_66 : decode cX1_percent 66 = .ok (.iaload, 1) := by decide +kernel
theorem dX1_percent_67 : decode cX1_percent 67 = .ok (.invokevirtual 51, 3) := by decide +kernel
theorem dX1_percent_70 : decode cX1_percent 70 = .ok (.ifCond .eq 13, 3) := by decide +kernel
theorem dX1_percent_73 : decode cX1_percent 73 = .ok (.aload_n 0, 1) := by decide +kernel
theorem dX1_percent_74 : decode cX1_percent 74 = .ok (.getfield 16, 3) := by decide +kernel
theorem dX1_percent_77 : decode cX1_percent 77 = .ok (.iload 8, 2) := by decide +kernel
theorem dX1_percent_79 : decode cX1_percent 79 = .ok (.iaload, 1) := by decide +kernel
theorem dX1_percent_80 : decode cX1_percent 80 = .ok (.goto 4, 3) := by decide +kernel
theorem dX1_percent_83 : decode cX1_percent 83 = .ok (.iconst 0, 1) := by decide +kernel
theorem dX1_percent_84 : decode cX1_percent 84 = .ok (.iadd, 1) := by decide +kernel
theorem dX1_percent_85 : decode cX1_percent 85 = .ok (.istore 6, 2) := by decide +kernel
theorem dX1_percent_87 : decode cX1_percent 87 = .ok (.aload_n 0, 1) := by decide +kernel
theorem dX1_percent_88 : decode cX1_percent 88 = .ok (.getfield 20, 3) := by decide +kernel
theorem dX1_percent_91 : decode cX1_percent 91 = .ok (.iload 8, 2) := by decide +kernel
theorem dX1_percent_93 : decode cX1_percent 93 = .ok (.iaload, 1) := by decide +kernel
theorem dX1_percent_94 : decode cX1_percent 94 = .ok (.istore 7, 2) := by decide +kernel
theorem dX1_percent_96 : decode cX1_percent 96 = .ok (.iinc 8 1, 3) := by decide +kernel
theorem dX1_percent_99 : decode cX1_percent 99 = .ok (.goto (-53), 3) := by decide +kernel
theorem dX1_percent_102 : decode cX1_percent 102 = .ok (.iconst 0, 1) := by decide +kernel
theorem dX1_percent_103 : decode cX1_percent 103 = .ok (.iload 6, 2) := by decide +kernel
theorem dX1_percent_105 : decode cX1_percent 105 = .ok (.invokestatic 55, 3) := by decide +kernel
theorem dX1_percent_108 : decode cX1_percent 108 = .ok (.ireturn, 1) := by decide +kernel
theorem dX1_codeHolds_0 : decode cX1_codeHolds 0 = .ok (.iconst 0, 1) := by decide +kernel
theorem dX1_codeHolds_1 : decode cX1_codeHolds 1 = .ok (.istore_n 3, 1) := by decide +kernel
theorem dX1_codeHolds_2 : decode cX1_codeHolds 2 = .ok (.iload_n 1, 1) := by decide +kernel
theorem dX1_codeHolds_3 : decode cX1_codeHolds 3 = .ok (.istore 4, 2) := by decide +kernel
theorem dX1_codeHolds_5 : decode cX1_codeHolds 5 = .ok (.iload 4, 2) := by decide +kernel
theorem dX1_codeHolds_7 : decode cX1_codeHolds 7 = .ok (.iload_n 2, 1) := by decide +kernel
theorem dX1_codeHolds_8 : decode cX1_codeHolds 8 = .ok (.if_icmp .ge 114, 3) := by decide +kernel
theorem dX1_codeHolds_11 : decode cX1_codeHolds 11 = .ok (.iload_n 3, 1) := by decide +kernel
theorem dX1_codeHolds_12 : decode cX1_codeHolds 12 = .ok (.iconst 1, 1) := by decide +kernel
theorem dX1_codeHolds_13 : decode cX1_codeHolds 13 = .ok (.iand, 1) := by decide +kernel
theorem dX1_codeHolds_14 : decode cX1_codeHolds 14 = .ok (.istore 5, 2) := by decide +kernel
theorem dX1_codeHolds_16 : decode cX1_codeHolds 16 = .ok (.iload_n 3, 1) := by decide +kernel
theorem dX1_codeHolds_17 : decode cX1_codeHolds 17 = .ok (.iconst 1, 1) := by decide +kernel
theorem dX1_codeHolds_18 : decode cX1_codeHolds 18 = .ok (.ishr, 1) := by decide +kernel
theorem dX1_codeHolds_19 : decode cX1_codeHolds 19 = .ok (.istore 6, 2) := by decide +kernel
theorem dX1_codeHolds_21 : decode cX1_codeHolds 21 = .ok (.aload_n 0, 1) := by decide +kernel
theorem dX1_codeHolds_22 : decode cX1_codeHolds 22 = .ok (.getfield 36, 3) := by decide +kernel
theorem dX1_codeHolds_25 : decode cX1_codeHolds 25 = .ok (.iload 4, 2) := by decide +kernel
theorem dX1_codeHolds_27 : decode cX1_codeHolds 27 = .ok (.iaload, 1) := by decide +kernel
theorem dX1_codeHolds_28 : decode cX1_codeHolds 28 = .ok (.tableswitch 64 (-3) (-1) #[28, 55, 35], 28) := by decide +kernel
theorem dX1_codeHolds_56 : decode cX1_codeHolds 56 = .ok (.iload_n 3, 1) := by decide +kernel
theorem dX1_codeHolds_57 : decode cX1_codeHolds 57 = .ok (.iconst 1, 1) := by decide +kernel
theorem dX1_codeHolds_58 : decode cX1_codeHolds 58 = .ok (.ixor, 1) := by decide +kernel
theorem dX1_codeHolds_59 : decode cX1_codeHolds 59 = .ok (.istore_n 3, 1) := by decide +kernel
theorem dX1_codeHolds_60 : decode cX1_codeHolds 60 = .ok (.goto 56, 3) := by decide +kernel
theorem dX1_codeHolds_63 : decode cX1_codeHolds 63 = .ok (.iload 5, 2) := by decide +kernel
theorem dX1_codeHolds_65 : decode cX1_codeHolds 65 = .ok (.iconst 1, 1) := by decide +kernel
theorem dX1_codeHolds_66 : decode cX1_codeHolds 66 = .ok (.if_icmp .ne 8, 3) := by decide +kernel
theorem dX1_codeHolds_69 : decode cX1_codeHolds 69 = .ok (.iload 6, 2) := by decide +kernel
theorem dX1_codeHolds_71 : decode cX1_codeHolds 71 = .ok (.goto 8, 3) := by decide +kernel
theorem dX1_codeHolds_74 : decode cX1_codeHolds 74 = .ok (.iload 6, 2) := by decide +kernel
theorem dX1_codeHolds_76 : decode cX1_codeHolds 76 = .ok (.bipush (-2), 2) := by decide +kernel
theorem dX1_codeHolds_78 : decode cX1_codeHolds 78 = .ok (.iand, 1) := by decide +kernel
theorem dX1_codeHolds_79 : decode cX1_codeHolds 79 = .ok (.istore_n 3, 1) := by decide +kernel
theorem dX1_codeHolds_80 : decode cX1_codeHolds 80 = .ok (.goto 36, 3) := by decide +kernel
theorem dX1_codeHolds_83 : decode cX1_codeHolds 83 = .ok (.iload 6, 2) := by decide +kernel
theorem dX1_codeHolds_85 : decode cX1_codeHolds 85 = .ok (.iload 5, 2) := by decide +kernel
theorem dX1_codeHolds_87 : decode cX1_codeHolds 87 = .ok (.ior, 1) := by decide +kernel
theorem dX1_codeHolds_88 : decode cX1_codeHolds 88 = .ok (.istore_n 3, 1) := by decide +kernel
theorem dX1_codeHolds_89 : decode cX1_codeHolds 89 = .ok (.goto 27, 3) := by decide +kernel
theorem dX1_codeHolds_92 : decode cX1_codeHolds 92 = .ok (.iload_n 3, 1) := by decide +kernel
theorem dX1_codeHolds_93 : decode cX1_codeHolds 93 = .ok (.iconst 1, 1) := by decide +kernel
theorem dX1_codeHolds_94 : decode cX1_codeHolds 94 = .ok (.ishl, 1) := by decide +kernel
theorem dX1_codeHolds_95 : decode cX1_codeHolds 95 = .ok (.aload_n 0, 1) := by decide +kernel
theorem dX1_codeHolds_96 : decode cX1_codeHolds 96 = .ok (.aload_n 0, 1) := by decide +kernel
theorem dX1_codeHolds_97 : decode cX1_codeHolds 97 = .ok (.getfield 36, 3) := by decide +kernel
theorem dX1_codeHolds_100 : decode cX1_codeHolds 100 = .ok (.iload 4, 2) := by decide +kernel
theorem dX1_codeHolds_102 : decode cX1_codeHolds 102 = .ok (.iaload, 1) := by decide +kernel
theorem dX1_codeHolds_103 : decode cX1_codeHolds 103 = .ok (.invokevirtual 61, 3) := by decide +kernel
theorem dX1_codeHolds_106 : decode cX1_codeHolds 106 = .ok (.ifCond .eq 7, 3) := by decide +kernel
theorem dX1_codeHolds_109 : decode cX1_codeHolds 109 = .ok (.iconst 1, 1) := by decide +kernel
theorem dX1_codeHolds_110 : decode cX1_codeHolds 110 = .ok (.goto 4, 3) := by decide +kernel
theorem dX1_codeHolds_113 : decode cX1_codeHolds 113 = .ok (.iconst 0, 1) := by decide +kernel
theorem dX1_codeHolds_114 : decode cX1_codeHolds 114 = .ok (.ior, 1) := by decide +kernel
theorem dX1_codeHolds_115 : decode cX1_codeHolds 115 = .ok (.istore_n 3, 1) := by decide +kernel
theorem dX1_codeHolds_116 : decode cX1_codeHolds 116 = .ok (.iinc 4 1, 3) := by decide +kernel
theorem dX1_codeHolds_119 : decode cX1_codeHolds 119 = .ok (.goto (-114), 3) := by decide +kernel
theorem dX1_codeHolds_122 : decode cX1_codeHolds 122 = .ok (.iload_n 3, 1) := by decide +kernel
theorem dX1_codeHolds_123 : decode cX1_codeHolds 123 = .ok (.iconst 1, 1) := by decide +kernel
theorem dX1_codeHolds_124 : decode cX1_codeHolds 124 = .ok (.iand, 1) := by decide +kernel
theorem dX1_codeHolds_125 : decode cX1_codeHolds 125 = .ok (.iconst 1, 1) := by decide +kernel
theorem dX1_codeHolds_126 : decode cX1_codeHolds 126 = .ok (.if_icmp .ne 7, 3) := by decide +kernel
theorem dX1_codeHolds_129 : decode cX1_codeHolds 129 = .ok (.iconst 1, 1) := by decide +kernel
theorem dX1_codeHolds_130 : decode cX1_codeHolds 130 = .ok (.goto 4, 3) := by decide +kernel
theorem dX1_codeHolds_133 : decode cX1_codeHolds 133 = .ok (.iconst 0, 1) := by decide +kernel
theorem dX1_codeHolds_134 : decode cX1_codeHolds 134 = .ok (.ireturn, 1) := by decide +kernel
theorem dX1_testHolds_0 : decode cX1_testHolds 0 = .ok (.aload_n 0, 1) := by decide +kernel
theorem dX1_testHolds_1 : decode cX1_testHolds 1 = .ok (.getfield 29, 3) := by decide +kernel
theorem dX1_testHolds_4 : decode cX1_testHolds 4 = .ok (.iload_n 1, 1) := by decide +kernel
theorem dX1_testHolds_5 : decode cX1_testHolds 5 = .ok (.sipush 3000, 3) := by decide +kernel
theorem dX1_testHolds_8 : decode cX1_testHolds 8 = .ok (.idiv, 1) := by decide +kernel
theorem dX1_testHolds_9 : decode cX1_testHolds 9 = .ok (.iaload, 1) := by decide +kernel
theorem dX1_testHolds_10 : decode cX1_testHolds 10 = .ok (.istore_n 2, 1) := by decide +kernel
theorem dX1_testHolds_11 : decode cX1_testHolds 11 = .ok (.iload_n 1, 1) := by decide +kernel
theorem dX1_testHolds_12 : decode cX1_testHolds 12 = .ok (.sipush 1000, 3) := by decide +kernel
theorem dX1_testHolds_15 : decode cX1_testHolds 15 = .ok (.irem, 1) := by decide +kernel
theorem dX1_testHolds_16 : decode cX1_testHolds 16 = .ok (.istore_n 3, 1) := by decide +kernel
theorem dX1_testHolds_17 : decode cX1_testHolds 17 = .ok (.iload_n 1, 1) := by decide +kernel
theorem dX1_testHolds_18 : decode cX1_testHolds 18 = .ok (.sipush 1000, 3) := by decide +kernel
theorem dX1_testHolds_21 : decode cX1_testHolds 21 = .ok (.idiv, 1) := by decide +kernel
theorem dX1_testHolds_22 : decode cX1_testHolds 22 = .ok (.iconst 3, 1) := by decide +kernel
theorem dX1_testHolds_23 : decode cX1_testHolds 23 = .ok (.irem, 1) := by decide +kernel
theorem dX1_testHolds_24 : decode cX1_testHolds 24 = .ok (.lookupswitch 50 #[(0, 28), (1, 39)], 28) := by decide +kernel
theorem dX1_testHolds_52 : decode cX1_testHolds 52 = .ok (.iload_n 2, 1) := by decide +kernel
theorem dX1_testHolds_53 : decode cX1_testHolds 53 = .ok (.iload_n 3, 1) := by decide +kernel
theorem dX1_testHolds_54 : decode cX1_testHolds 54 = .ok (.if_icmp .ge 7, 3) := by decide +kernel
theorem dX1_testHolds_57 : decode cX1_testHolds 57 = .ok (.iconst 1, 1) := by decide +kernel
theorem dX1_testHolds_58 : decode cX1_testHolds 58 = .ok (.goto 4, 3) := by decide +kernel
theorem dX1_testHolds_61 : decode cX1_testHolds 61 = .ok (.iconst 0, 1) := by decide +kernel
theorem dX1_testHolds_62 : decode cX1_testHolds 62 = .ok (.ireturn, 1) := by decide +kernel
theorem dX1_testHolds_63 : decode cX1_testHolds 63 = .ok (.iload_n 2, 1) := by decide +kernel
theorem dX1_testHolds_64 : decode cX1_testHolds 64 = .ok (.iload_n 3, 1) := by decide +kernel
theorem dX1_testHolds_65 : decode cX1_testHolds 65 = .ok (.if_icmp .ne 7, 3) := by decide +kernel
theorem dX1_testHolds_68 : decode cX1_testHolds 68 = .ok (.iconst 1, 1) := by decide +kernel
theorem dX1_testHolds_69 : decode cX1_testHolds 69 = .ok (.goto 4, 3) := by decide +kernel
theorem dX1_testHolds_72 : decode cX1_testHolds 72 = .ok (.iconst 0, 1) := by decide +kernel
theorem dX1_testHolds_73 : decode cX1_testHolds 73 = .ok (.ireturn, 1) := by decide +kernel
theorem dX1_testHolds_74 : decode cX1_testHolds 74 = .ok (.iload_n 2, 1) := by decide +kernel
theorem dX1_testHolds_75 : decode cX1_testHolds 75 = .ok (.iload_n 3, 1) := by decide +kernel
theorem dX1_testHolds_76 : decode cX1_testHolds 76 = .ok (.if_icmp .le 7, 3) := by decide +kernel
theorem dX1_testHolds_79 : decode cX1_testHolds 79 = .ok (.iconst 1, 1) := by decide +kernel
theorem dX1_testHolds_80 : decode cX1_testHolds 80 = .ok (.goto 4, 3) := by decide +kernel
theorem dX1_testHolds_83 : decode cX1_testHolds 83 = .ok (.iconst 0, 1) := by decide +kernel
theorem dX1_testHolds_84 : decode cX1_testHolds 84 = .ok (.ireturn, 1) := by decide +kernel
theorem dX1_clause_0 : decode cX1_clause 0 = .ok (.aload_n 0, 1) := by decide +kernel
theorem dX1_clause_1 : decode cX1_clause 1 = .ok (.bipush 109, 2) := by decide +kernel
theorem dX1_clause_3 : decode cX1_clause 3 = .ok (.invokevirtual 65, 3) := by decide +kernel
theorem dX1_clause_6 : decode cX1_clause 6 = .ok (.ifCond .eq 25, 3) := by decide +kernel
theorem dX1_clause_9 : decode cX1_clause 9 = .ok (.aload_n 0, 1) := by decide +kernel
theorem dX1_clause_10 : decode cX1_clause 10 = .ok (.ldc 68, 2) := by decide +kernel
theorem dX1_clause_12 : decode cX1_clause 12 = .ok (.invokevirtual 70, 3) := by decide +kernel
theorem dX1_clause_15 : decode cX1_clause 15 = .ok (.ifCond .eq 14, 3) := by decide +kernel
theorem dX1_clause_18 : decode cX1_clause 18 = .ok (.aload_n 0, 1) := by decide +kernel
theorem dX1_clause_19 : decode cX1_clause 19 = .ok (.invokevirtual 74, 3) := by decide +kernel
theorem dX1_clause_22 : decode cX1_clause 22 = .ok (.ifCond .eq 7, 3) := by decide +kernel
theorem dX1_clause_25 : decode cX1_clause 25 = .ok (.iconst 1, 1) := by decide +kernel
theorem dX1_clause_26 : decode cX1_clause 26 = .ok (.goto 4, 3) := by decide +kernel
theorem dX1_clause_29 : decode cX1_clause 29 = .ok (.iconst 0, 1) := by decide +kernel
theorem dX1_clause_30 : decode cX1_clause 30 = .ok (.ireturn, 1) := by decide +kernel
theorem dX1_clause_31 : decode cX1_clause 31 = .ok (.aload_n 0, 1) := by decide +kernel
theorem dX1_clause_32 : decode cX1_clause 32 = .ok (.bipush 101, 2) := by decide +kernel
theorem dX1_clause_34 : decode cX1_clause 34 = .ok (.invokevirtual 65, 3) := by decide +kernel
theorem dX1_clause_37 : decode cX1_clause 37 = .ok (.istore_n 1, 1) := by decide +kernel
theorem dX1_clause_38 : decode cX1_clause 38 = .ok (.aload_n 0, 1) := by decide +kernel
theorem dX1_clause_39 : decode cX1_clause 39 = .ok (.iload_n 1, 1) := by decide +kernel
theorem dX1_clause_40 : decode cX1_clause 40 = .ok (.ifCond .eq 8, 3) := by decide +kernel
theorem dX1_clause_43 : decode cX1_clause 43 = .ok (.ldc 77, 2) := by decide +kernel
theorem dX1_clause_45 : decode cX1_clause 45 = .ok (.goto 5, 3) := by decide +kernel
theorem dX1_clause_48 : decode cX1_clause 48 = .ok (.ldc 79, 2) := by decide +kernel
theorem dX1_clause_50 : decode cX1_clause 50 = .ok (.invokevirtual 70, 3) := by decide +kernel
theorem dX1_clause_53 : decode cX1_clause 53 = .ok (.ifCond .ne 5, 3) := by decide +kernel
theorem dX1_clause_56 : decode cX1_clause 56 = .ok (.iconst 0, 1) := by decide +kernel
theorem dX1_clause_57 : decode cX1_clause 57 = .ok (.ireturn, 1) := by decide +kernel
theorem dX1_clause_58 : decode cX1_clause 58 = .ok (.aload_n 0, 1) := by decide +kernel
theorem dX1_clause_59 : decode cX1_clause 59 = .ok (.invokevirtual 81, 3) := by decide +kernel
theorem dX1_clause_62 : decode cX1_clause 62 = .ok (.istore_n 2, 1) := by decide +kernel
theorem dX1_clause_63 : decode cX1_clause 63 = .ok (.iload_n 2, 1) := by decide +kernel
theorem dX1_clause_64 : decode cX1_clause 64 = .ok (.ifCond .lt 29, 3) := by decide +kernel
theorem dX1_clause_67 : decode cX1_clause 67 = .ok (.aload_n 0, 1) := by decide +kernel
theorem dX1_clause_68 : decode cX1_clause 68 = .ok (.bipush 32, 2) := by decide +kernel
theorem dX1_clause_70 : decode cX1_clause 70 = .ok (.invokevirtual 43, 3) := by decide +kernel
theorem dX1_clause_73 : decode cX1_clause 73 = .ok (.ifCond .eq 20, 3) := by decide +kernel
theorem dX1_clause_76 : decode cX1_clause 76 = .ok (.aload_n 0, 1) := by decide +kernel
theorem dX1_clause_77 : decode cX1_clause 77 = .ok (.iconst 0, 1) := by decide +kernel
theorem dX1_clause_78 : decode cX1_clause 78 = .ok (.invokevirtual 85, 3) := by decide +kernel
theorem dX1_clause_81 : decode cX1_clause 81 = .ok (.ifCond .eq 12, 3) := by decide +kernel
theorem dX1_clause_84 : decode cX1_clause 84 = .ok (.aload_n 0, 1) := by decide +kernel
theorem dX1_clause_85 : decode cX1_clause 85 = .ok (.getfield 23, 3) := by decide +kernel
theorem dX1_clause_88 : decode cX1_clause 88 = .ok (.bipush 8, 2) := by decide +kernel
theorem dX1_clause_90 : decode cX1_clause 90 = .ok (.if_icmp .lt 5, 3) := by decide +kernel
theorem dX1_clause_93 : decode cX1_clause 93 = .ok (.iconst 0, 1) := by decide +kernel
theorem dX1_clause_94 : decode cX1_clause 94 = .ok (.ireturn, 1) := by decide +kernel
theorem dX1_clause_95 : decode cX1_clause 95 = .ok (.aload_n 0, 1) := by decide +kernel
theorem dX1_clause_96 : decode cX1_clause 96 = .ok (.getfield 16, 3) := by decide +kernel
theorem dX1_clause_99 : decode cX1_clause 99 = .ok (.aload_n 0, 1) := by decide +kernel
theorem dX1_clause_100 : decode cX1_clause 100 = .ok (.getfield 23, 3) := by decide +kernel
theorem dX1_clause_103 : decode cX1_clause 103 = .ok (.iload_n 1, 1) := by decide +kernel
theorem dX1_clause_104 : decode cX1_clause 104 = .ok (.ifCond .eq 8, 3) := by decide +kernel
theorem dX1_clause_107 : decode cX1_clause 107 = .ok (.iload_n 2, 1) := by decide +kernel
theorem dX1_clause_108 : decode cX1_clause 108 = .ok (.ineg, 1) := by decide +kernel
theorem dX1_clause_109 : decode cX1_clause 109 = .ok (.goto 4, 3) := by decide +kernel
theorem dX1_clause_112 : decode cX1_clause 112 = .ok (.iload_n 2, 1) := by decide +kernel
theorem dX1_clause_113 : decode cX1_clause 113 = .ok (.iastore, 1) := by decide +kernel
theorem dX1_clause_114 : decode cX1_clause 114 = .ok (.aload_n 0, 1) := by decide +kernel
theorem dX1_clause_115 : decode cX1_clause 115 = .ok (.getfield 20, 3) := by decide +kernel
theorem dX1_clause_118 : decode cX1_clause 118 = .ok (.aload_n 0, 1) := by decide +kernel
theorem dX1_clause_119 : decode cX1_clause 119 = .ok (.getfield 23, 3) := by decide +kernel
theorem dX1_clause_122 : decode cX1_clause 122 = .ok (.aload_n 0, 1) := by decide +kernel
theorem dX1_clause_123 : decode cX1_clause 123 = .ok (.getfield 26, 3) := by decide +kernel
theorem dX1_clause_126 : decode cX1_clause 126 = .ok (.iastore, 1) := by decide +kernel
theorem dX1_clause_127 : decode cX1_clause 127 = .ok (.aload_n 0, 1) := by decide +kernel
theorem dX1_clause_128 : decode cX1_clause 128 = .ok (.dup, 1) := by decide +kernel
theorem dX1_clause_129 : decode cX1_clause 129 = .ok (.getfield 23, 3) := by decide +kernel
theorem dX1_clause_132 : decode cX1_clause 132 = .ok (.iconst 1, 1) := by decide +kernel
theorem dX1_clause_133 : decode cX1_clause 133 = .ok (.iadd, 1) := by decide +kernel
theorem dX1_clause_134 : decode cX1_clause 134 = .ok (.putfield 23, 3) := by decide +kernel
theorem dX1_clause_137 : decode cX1_clause 137 = .ok (.iconst 1, 1) := by decide +kernel
theorem dX1_clause_138 : decode cX1_clause 138 = .ok (.ireturn, 1) := by decide +kernel
theorem dX1_mostNumber_0 : decode cX1_mostNumber 0 = .ok (.aload_n 0, 1) := by decide +kernel
theorem dX1_mostNumber_1 : decode cX1_mostNumber 1 = .ok (.invokevirtual 81, 3) := by decide +kernel
theorem dX1_mostNumber_4 : decode cX1_mostNumber 4 = .ok (.istore_n 1, 1) := by decide +kernel
theorem dX1_mostNumber_5 : decode cX1_mostNumber 5 = .ok (.iload_n 1, 1) := by decide +kernel
theorem dX1_mostNumber_6 : decode cX1_mostNumber 6 = .ok (.ifCond .ge 5, 3) := by decide +kernel
theorem dX1_mostNumber_9 : decode cX1_mostNumber 9 = .ok (.iconst 0, 1) := by decide +kernel
theorem dX1_mostNumber_10 : decode cX1_mostNumber 10 = .ok (.ireturn, 1) := by decide +kernel
theorem dX1_mostNumber_11 : decode cX1_mostNumber 11 = .ok (.aload_n 0, 1) := by decide +kernel
theorem dX1_mostNumber_12 : decode cX1_mostNumber 12 = .ok (.iload_n 1, 1) := by decide +kernel
theorem dX1_mostNumber_13 : decode cX1_mostNumber 13 = .ok (.putfield 13, 3) := by decide +kernel
theorem dX1_mostNumber_16 : decode cX1_mostNumber 16 = .ok (.iconst 1, 1) := by decide +kernel
theorem dX1_mostNumber_17 : decode cX1_mostNumber 17 = .ok (.ireturn, 1) := by decide +kernel
theorem dX1_expression_0 : decode cX1_expression 0 = .ok (.aload_n 0, 1) := by decide +kernel
theorem dX1_expression_1 : decode cX1_expression 1 = .ok (.iload_n 1, 1) := by decide +kernel
theorem dX1_expression_2 : decode cX1_expression 2 = .ok (.invokevirtual 88, 3) := by decide +kernel
theorem dX1_expression_5 : decode cX1_expression 5 = .ok (.istore_n 2, 1) := by decide +kernel
theorem dX1_expression_6 : decode cX1_expression 6 = .ok (.iconst 0, 1) := by decide +kernel
theorem dX1_expression_7 : decode cX1_expression 7 = .ok (.istore_n 3, 1) := by decide +kernel
theorem dX1_expression_8 : decode cX1_expression 8 = .ok (.iload_n 3, 1) := by decide +kernel
theorem dX1_expression_9 : decode cX1_expression 9 = .ok (.aload_n 0, 1) := by decide +kernel
theorem dX1_expression_10 : decode cX1_expression 10 = .ok (.getfield 32, 3) := by decide +kernel
theorem dX1_expression_13 : decode cX1_expression 13 = .ok (.arraylength, 1) := by decide +kernel
theorem dX1_expression_14 : decode cX1_expression 14 = .ok (.if_icmp .ge 45, 3) := by decide +kernel
theorem dX1_expression_17 : decode cX1_expression 17 = .ok (.iload_n 2, 1) := by decide +kernel
theorem dX1_expression_18 : decode cX1_expression 18 = .ok (.ifCond .eq 41, 3) := by decide +kernel
theorem dX1_expression_21 : decode cX1_expression 21 = .ok (.aload_n 0, 1) := by decide +kernel
theorem dX1_expression_22 : decode cX1_expression 22 = .ok (.bipush 124, 2) := by decide +kernel
theorem dX1_expression_24 : decode cX1_expression 24 = .ok (.invokevirtual 43, 3) := by decide +kernel
theorem dX1_expression_27 : decode cX1_expression 27 = .ok (.ifCond .eq 32, 3) := by decide +kernel
theorem dX1_expression_30 : decode cX1_expression 30 = .ok (.aload_n 0, 1) := by decide +kernel
theorem dX1_expression_31 : decode cX1_expression 31 = .ok (.iload_n 1, 1) := by decide +kernel
theorem dX1_expression_32 : decode cX1_expression 32 = .ok (.invokevirtual 88, 3) := by decide +kernel
theorem dX1_expression_35 : decode cX1_expression 35 = .ok (.ifCond .eq 16, 3) := by decide +kernel
theorem dX1_expression_38 : decode cX1_expression 38 = .ok (.aload_n 0, 1) := by decide +kernel
theorem dX1_expression_39 : decode cX1_expression 39 = .ok (.bipush (-2), 2) := by decide +kernel
theorem dX1_expression_41 : decode cX1_expression 41 = .ok (.invokevirtual 91, 3) := by decide +kernel
theorem dX1_expression_44 : decode cX1_expression 44 = .ok (.ifCond .eq 7, 3) := by decide +kernel
theorem dX1_expression_47 : decode cX1_expression 47 = .ok (.iconst 1, 1) := by decide +kernel
theorem dX1_expression_48 : decode cX1_expression 48 = .ok (.goto 4, 3) := by decide +kernel
theorem dX1_expression_51 : decode cX1_expression 51 = .ok (.iconst 0, 1) := by decide +kernel
theorem dX1_expression_52 : decode cX1_expression 52 = .ok (.istore_n 2, 1) := by decide +kernel
theorem dX1_expression_53 : decode cX1_expression 53 = .ok (.iinc 3 1, 3) := by decide +kernel
theorem dX1_expression_56 : decode cX1_expression 56 = .ok (.goto (-48), 3) := by decide +kernel
theorem dX1_expression_59 : decode cX1_expression 59 = .ok (.iload_n 2, 1) := by decide +kernel
theorem dX1_expression_60 : decode cX1_expression 60 = .ok (.ireturn, 1) := by decide +kernel
theorem dX1_term_0 : decode cX1_term 0 = .ok (.aload_n 0, 1) := by decide +kernel
theorem dX1_term_1 : decode cX1_term 1 = .ok (.iload_n 1, 1) := by decide +kernel
theorem dX1_term_2 : decode cX1_term 2 = .ok (.invokevirtual 94, 3) := by decide +kernel
theorem dX1_term_5 : decode cX1_term 5 = .ok (.istore_n 2, 1) := by decide +kernel
theorem dX1_term_6 : decode cX1_term 6 = .ok (.iconst 0, 1) := by decide +kernel
theorem dX1_term_7 : decode cX1_term 7 = .ok (.istore_n 3, 1) := by decide +kernel
theorem dX1_term_8 : decode cX1_term 8 = .ok (.iload_n 3, 1) := by decide +kernel
theorem dX1_term_9 : decode cX1_term 9 = .ok (.aload_n 0, 1) := by decide +kernel
theorem dX1_term_10 : decode cX1_term 10 = .ok (.getfield 32, 3) := by decide +kernel
theorem dX1_term_13 : decode cX1_term 13 = .ok (.arraylength, 1) := by decide +kernel
theorem dX1_term_14 : decode cX1_term 14 = .ok (.if_icmp .ge 44, 3) := by decide +kernel
theorem dX1_term_17 : decode cX1_term 17 = .ok (.iload_n 2, 1) := by decide +kernel
theorem dX1_term_18 : decode cX1_term 18 = .ok (.ifCond .eq 40, 3) := by decide +kernel
theorem dX1_term_21 : decode cX1_term 21 = .ok (.aload_n 0, 1) := by decide +kernel
theorem dX1_term_22 : decode cX1_term 22 = .ok (.bipush 38, 2) := by decide +kernel
theorem dX1_term_24 : decode cX1_term 24 = .ok (.invokevirtual 43, 3) := by decide +kernel
theorem dX1_term_27 : decode cX1_term 27 = .ok (.ifCond .eq 31, 3) := by decide +kernel
theorem dX1_term_30 : decode cX1_term 30 = .ok (.aload_n 0, 1) := by decide +kernel
theorem dX1_term_31 : decode cX1_term 31 = .ok (.iload_n 1, 1) := by decide +kernel
theorem dX1_term_32 : decode cX1_term 32 = .ok (.invokevirtual 94, 3) := by decide +kernel
theorem dX1_term_35 : decode cX1_term 35 = .ok (.ifCond .eq 15, 3) := by decide +kernel
theorem dX1_term_38 : decode cX1_term 38 = .ok (.aload_n 0, 1) := by decide +kernel
theorem dX1_term_39 : decode cX1_term 39 = .ok (.iconst (-1), 1) := by decide +kernel
theorem dX1_term_40 : decode cX1_term 40 = .ok (.invokevirtual 91, 3) := by decide +kernel
theorem dX1_term_43 : decode cX1_term 43 = .ok (.ifCond .eq 7, 3) := by decide +kernel
theorem dX1_term_46 : decode cX1_term 46 = .ok (.iconst 1, 1) := by decide +kernel
theorem dX1_term_47 : decode cX1_term 47 = .ok (.goto 4, 3) := by decide +kernel
theorem dX1_term_50 : decode cX1_term 50 = .ok (.iconst 0, 1) := by decide +kernel
theorem dX1_term_51 : decode cX1_term 51 = .ok (.istore_n 2, 1) := by decide +kernel
theorem dX1_term_52 : decode cX1_term 52 = .ok (.iinc 3 1, 3) := by decide +kernel
theorem dX1_term_55 : decode cX1_term 55 = .ok (.goto (-47), 3) := by decide +kernel
theorem dX1_term_58 : decode cX1_term 58 = .ok (.iload_n 2, 1) := by decide +kernel
theorem dX1_term_59 : decode cX1_term 59 = .ok (.ireturn, 1) := by decide +kernel
theorem dX1_factor_0 : decode cX1_factor 0 = .ok (.aload_n 0, 1) := by decide +kernel
theorem dX1_factor_1 : decode cX1_factor 1 = .ok (.bipush 33, 2) := by decide +kernel
theorem dX1_factor_3 : decode cX1_factor 3 = .ok (.invokevirtual 65, 3) := by decide +kernel
theorem dX1_factor_6 : decode cX1_factor 6 = .ok (.ifCond .ne 17, 3) := by decide +kernel
theorem dX1_factor_9 : decode cX1_factor 9 = .ok (.aload_n 0, 1) := by decide +kernel
theorem dX1_factor_10 : decode cX1_factor 10 = .ok (.bipush 40, 2) := by decide +kernel
theorem dX1_factor_12 : decode cX1_factor 12 = .ok (.invokevirtual 65, 3) := by decide +kernel
theorem dX1_factor_15 : decode cX1_factor 15 = .ok (.ifCond .ne 8, 3) := by decide +kernel
theorem dX1_factor_18 : decode cX1_factor 18 = .ok (.aload_n 0, 1) := by decide +kernel
theorem dX1_factor_19 : decode cX1_factor 19 = .ok (.invokevirtual 97, 3) := by decide +kernel
theorem dX1_factor_22 : decode cX1_factor 22 = .ok (.ireturn, 1) := by decide +kernel
theorem dX1_factor_23 : decode cX1_factor 23 = .ok (.iload_n 1, 1) := by decide +kernel
theorem dX1_factor_24 : decode cX1_factor 24 = .ok (.iconst 5, 1) := by decide +kernel
theorem dX1_factor_25 : decode cX1_factor 25 = .ok (.if_icmp .lt 5, 3) := by decide +kernel
theorem dX1_factor_28 : decode cX1_factor 28 = .ok (.iconst 0, 1) := by decide +kernel
theorem dX1_factor_29 : decode cX1_factor 29 = .ok (.ireturn, 1) := by decide +kernel
theorem dX1_factor_30 : decode cX1_factor 30 = .ok (.aload_n 0, 1) := by decide +kernel
theorem dX1_factor_31 : decode cX1_factor 31 = .ok (.bipush 33, 2) := by decide +kernel
theorem dX1_factor_33 : decode cX1_factor 33 = .ok (.invokevirtual 43, 3) := by decide +kernel
theorem dX1_factor_36 : decode cX1_factor 36 = .ok (.ifCond .eq 28, 3) := by decide +kernel
theorem dX1_factor_39 : decode cX1_factor 39 = .ok (.aload_n 0, 1) := by decide +kernel
theorem dX1_factor_40 : decode cX1_factor 40 = .ok (.iload_n 1, 1) := by decide +kernel
theorem dX1_factor_41 : decode cX1_factor 41 = .ok (.iconst 1, 1) := by decide +kernel
theorem dX1_factor_42 : decode cX1_factor 42 = .ok (.iadd, 1) := by decide +kernel
theorem dX1_factor_43 : decode cX1_factor 43 = .ok (.invokevirtual 94, 3) := by decide +kernel
theorem dX1_factor_46 : decode cX1_factor 46 = .ok (.ifCond .eq 16, 3) := by decide +kernel
theorem dX1_factor_49 : decode cX1_factor 49 = .ok (.aload_n 0, 1) := by decide +kernel
theorem dX1_factor_50 : decode cX1_factor 50 = .ok (.bipush (-3), 2) := by decide +kernel
theorem dX1_factor_52 : decode cX1_factor 52 = .ok (.invokevirtual 91, 3) := by decide +kernel
theorem dX1_factor_55 : decode cX1_factor 55 = .ok (.ifCond .eq 7, 3) := by decide +kernel
theorem dX1_factor_58 : decode cX1_factor 58 = .ok (.iconst 1, 1) := by decide +kernel
theorem dX1_factor_59 : decode cX1_factor 59 = .ok (.goto 4, 3) := by decide +kernel
theorem dX1_factor_62 : decode cX1_factor 62 = .ok (.iconst 0, 1) := by decide +kernel
theorem dX1_factor_63 : decode cX1_factor 63 = .ok (.ireturn, 1) := by decide +kernel
theorem dX1_factor_64 : decode cX1_factor 64 = .ok (.aload_n 0, 1) := by decide +kernel
theorem dX1_factor_65 : decode cX1_factor 65 = .ok (.bipush 40, 2) := by decide +kernel
theorem dX1_factor_67 : decode cX1_factor 67 = .ok (.invokevirtual 43, 3) := by decide +kernel
theorem dX1_factor_70 : decode cX1_factor 70 = .ok (.ifCond .eq 26, 3) := by decide +kernel
theorem dX1_factor_73 : decode cX1_factor 73 = .ok (.aload_n 0, 1) := by decide +kernel
theorem dX1_factor_74 : decode cX1_factor 74 = .ok (.iload_n 1, 1) := by decide +kernel
theorem dX1_factor_75 : decode cX1_factor 75 = .ok (.iconst 1, 1) := by decide +kernel
theorem dX1_factor_76 : decode cX1_factor 76 = .ok (.iadd, 1) := by decide +kernel
theorem dX1_factor_77 : decode cX1_factor 77 = .ok (.invokevirtual 85, 3) := by decide +kernel
theorem dX1_factor_80 : decode cX1_factor 80 = .ok (.ifCond .eq 16, 3) := by decide +kernel
theorem dX1_factor_83 : decode cX1_factor 83 = .ok (.aload_n 0, 1) := by decide +kernel
theorem dX1_factor_84 : decode cX1_factor 84 = .ok (.bipush 41, 2) := by decide +kernel
theorem dX1_factor_86 : decode cX1_factor 86 = .ok (.invokevirtual 43, 3) := by decide +kernel
theorem dX1_factor_89 : decode cX1_factor 89 = .ok (.ifCond .eq 7, 3) := by decide +kernel
theorem dX1_factor_92 : decode cX1_factor 92 = .ok (.iconst 1, 1) := by decide +kernel
theorem dX1_factor_93 : decode cX1_factor 93 = .ok (.goto 4, 3) := by decide +kernel
theorem dX1_factor_96 : decode cX1_factor 96 = .ok (.iconst 0, 1) := by decide +kernel
theorem dX1_factor_97 : decode cX1_factor 97 = .ok (.ireturn, 1) := by decide +kernel
theorem dX1_test_0 : decode cX1_test 0 = .ok (.aload_n 0, 1) := by decide +kernel
theorem dX1_test_1 : decode cX1_test 1 = .ok (.ldc 100, 2) := by decide +kernel
theorem dX1_test_3 : decode cX1_test 3 = .ok (.invokevirtual 102, 3) := by decide +kernel
theorem dX1_test_6 : decode cX1_test 6 = .ok (.istore_n 1, 1) := by decide +kernel
theorem dX1_test_7 : decode cX1_test 7 = .ok (.iload_n 1, 1) := by decide +kernel
theorem dX1_test_8 : decode cX1_test 8 = .ok (.ifCond .ge 7, 3) := by decide +kernel
theorem dX1_test_11 : decode cX1_test 11 = .ok (.iconst (-1), 1) := by decide +kernel
theorem dX1_test_12 : decode cX1_test 12 = .ok (.goto 9, 3) := by decide +kernel
theorem dX1_test_15 : decode cX1_test 15 = .ok (.aload_n 0, 1) := by decide +kernel
theorem dX1_test_16 : decode cX1_test 16 = .ok (.ldc 106, 2) := by decide +kernel
theorem dX1_test_18 : decode cX1_test 18 = .ok (.invokevirtual 102, 3) := by decide +kernel
theorem dX1_test_21 : decode cX1_test 21 = .ok (.istore_n 2, 1) := by decide +kernel
theorem dX1_test_22 : decode cX1_test 22 = .ok (.iload_n 2, 1) := by decide +kernel
theorem dX1_test_23 : decode cX1_test 23 = .ok (.ifCond .ge 7, 3) := by decide +kernel
theorem dX1_test_26 : decode cX1_test 26 = .ok (.iconst (-1), 1) := by decide +kernel
theorem dX1_test_27 : decode cX1_test 27 = .ok (.goto 7, 3) := by decide +kernel
theorem dX1_test_30 : decode cX1_test 30 = .ok (.aload_n 0, 1) := by decide +kernel
theorem dX1_test_31 : decode cX1_test 31 = .ok (.invokevirtual 81, 3) := by decide +kernel
theorem dX1_test_34 : decode cX1_test 34 = .ok (.istore_n 3, 1) := by decide +kernel
theorem dX1_test_35 : decode cX1_test 35 = .ok (.iload_n 3, 1) := by decide +kernel
theorem dX1_test_36 : decode cX1_test 36 = .ok (.ifCond .lt 25, 3) := by decide +kernel
theorem dX1_test_39 : decode cX1_test 39 = .ok (.aload_n 0, 1) := by decide +kernel
theorem dX1_test_40 : decode cX1_test 40 = .ok (.iload_n 1, 1) := by decide +kernel
theorem dX1_test_41 : decode cX1_test 41 = .ok (.iconst 3, 1) := by decide +kernel
theorem dX1_test_42 : decode cX1_test 42 = .ok (.imul, 1) := by decide +kernel
theorem dX1_test_43 : decode cX1_test 43 = .ok (.iload_n 2, 1) := by decide +kernel
theorem dX1_test_44 : decode cX1_test 44 = .ok (.iadd, 1) := by decide +kernel
theorem dX1_test_45 : decode cX1_test 45 = .ok (.sipush 1000, 3) := by decide +kernel
theorem dX1_test_48 : decode cX1_test 48 = .ok (.imul, 1) := by decide +kernel
theorem dX1_test_49 : decode cX1_test 49 = .ok (.iload_n 3, 1) := by decide +kernel
theorem dX1_test_50 : decode cX1_test 50 = .ok (.iadd, 1) := by decide +kernel
theorem dX1_test_51 : decode cX1_test 51 = .ok (.invokevirtual 91, 3) := by decide +kernel
theorem dX1_test_54 : decode cX1_test 54 = .ok (.ifCond .eq 7, 3) := by decide +kernel
theorem dX1_test_57 : decode cX1_test 57 = .ok (.iconst 1, 1) := by decide +kernel
theorem dX1_test_58 : decode cX1_test 58 = .ok (.goto 4, 3) := by decide +kernel
theorem dX1_test_61 : decode cX1_test 61 = .ok (.iconst 0, 1) := by decide +kernel
theorem dX1_test_62 : decode cX1_test 62 = .ok (.ireturn, 1) := by decide +kernel
theorem dX1_number_0 : decode cX1_number 0 = .ok (.iconst (-1), 1) := by decide +kernel
theorem dX1_number_1 : decode cX1_number 1 = .ok (.istore_n 1, 1) := by decide +kernel
theorem dX1_number_2 : decode cX1_number 2 = .ok (.iconst 0, 1) := by decide +kernel
theorem dX1_number_3 : decode cX1_number 3 = .ok (.istore_n 2, 1) := by decide +kernel
theorem dX1_number_4 : decode cX1_number 4 = .ok (.iload_n 2, 1) := by decide +kernel
theorem dX1_number_5 : decode cX1_number 5 = .ok (.iconst 3, 1) := by decide +kernel
theorem dX1_number_6 : decode cX1_number 6 = .ok (.if_icmp .ge 71, 3) := by decide +kernel
theorem dX1_number_9 : decode cX1_number 9 = .ok (.iload_n 1, 1) := by decide +kernel
theorem dX1_number_10 : decode cX1_number 10 = .ok (.ifCond .eq 67, 3) := by decide +kernel
theorem dX1_number_13 : decode cX1_number 13 = .ok (.aload_n 0, 1) := by decide +kernel
theorem dX1_number_14 : decode cX1_number 14 = .ok (.getfield 7, 3) := by decide +kernel
theorem dX1_number_17 : decode cX1_number 17 = .ok (.aload_n 0, 1) := by decide +kernel
theorem dX1_number_18 : decode cX1_number 18 = .ok (.getfield 32, 3) := by decide +kernel
theorem dX1_number_21 : decode cX1_number 21 = .ok (.arraylength, 1) := by decide +kernel
theorem dX1_number_22 : decode cX1_number 22 = .ok (.if_icmp .ge 55, 3) := by decide +kernel
theorem dX1_number_25 : decode cX1_number 25 = .ok (.aload_n 0, 1) := by decide +kernel
theorem dX1_number_26 : decode cX1_number 26 = .ok (.getfield 32, 3) := by decide +kernel
theorem dX1_number_29 : decode cX1_number 29 = .ok (.aload_n 0, 1) := by decide +kernel
theorem dX1_number_30 : decode cX1_number 30 = .ok (.getfield 7, 3) := by decide +kernel
theorem dX1_number_33 : decode cX1_number 33 = .ok (.baload, 1) := by decide +kernel
theorem dX1_number_34 : decode cX1_number 34 = .ok (.bipush 48, 2) := by decide +kernel
theorem dX1_number_36 : decode cX1_number 36 = .ok (.isub, 1) := by decide +kernel
theorem dX1_number_37 : decode cX1_number 37 = .ok (.istore_n 3, 1) := by decide +kernel
theorem dX1_number_38 : decode cX1_number 38 = .ok (.iload_n 3, 1) := by decide +kernel
theorem dX1_number_39 : decode cX1_number 39 = .ok (.ifCond .lt 9, 3) := by decide +kernel
theorem dX1_number_42 : decode cX1_number 42 = .ok (.iload_n 3, 1) := by decide +kernel
theorem dX1_number_43 : decode cX1_number 43 = .ok (.bipush 9, 2) := by decide +kernel
theorem dX1_number_45 : decode cX1_number 45 = .ok (.if_icmp .le 5, 3) := by decide +kernel
theorem dX1_number_48 : decode cX1_number 48 = .ok (.iload_n 1, 1) := by decide +kernel
theorem dX1_number_49 : decode cX1_number 49 = .ok (.ireturn, 1) := by decide +kernel
theorem dX1_number_50 : decode cX1_number 50 = .ok (.iconst 0, 1) := by decide +kernel
theorem dX1_number_51 : decode cX1_number 51 = .ok (.iload_n 1, 1) := by decide +kernel
theorem dX1_number_52 : decode cX1_number 52 = .ok (.invokestatic 55, 3) := by decide +kernel
theorem dX1_number_55 : decode cX1_number 55 = .ok (.bipush 10, 2) := by decide +kernel
theorem dX1_number_57 : decode cX1_number 57 = .ok (.imul, 1) := by decide +kernel
theorem dX1_number_58 : decode cX1_number 58 = .ok (.iload_n 3, 1) := by decide +kernel
theorem dX1_number_59 : decode cX1_number 59 = .ok (.iadd, 1) := by decide +kernel
theorem dX1_number_60 : decode cX1_number 60 = .ok (.istore_n 1, 1) := by decide +kernel
theorem dX1_number_61 : decode cX1_number 61 = .ok (.aload_n 0, 1) := by decide +kernel
theorem dX1_number_62 : decode cX1_number 62 = .ok (.dup, 1) := by decide +kernel
theorem dX1_number_63 : decode cX1_number 63 = .ok (.getfield 7, 3) := by decide +kernel
theorem dX1_number_66 : decode cX1_number 66 = .ok (.iconst 1, 1) := by decide +kernel
theorem dX1_number_67 : decode cX1_number 67 = .ok (.iadd, 1) := by decide +kernel
theorem dX1_number_68 : decode cX1_number 68 = .ok (.putfield 7, 3) := by decide +kernel
theorem dX1_number_71 : decode cX1_number 71 = .ok (.iinc 2 1, 3) := by decide +kernel
theorem dX1_number_74 : decode cX1_number 74 = .ok (.goto (-70), 3) := by decide +kernel
theorem dX1_number_77 : decode cX1_number 77 = .ok (.iload_n 1, 1) := by decide +kernel
theorem dX1_number_78 : decode cX1_number 78 = .ok (.ireturn, 1) := by decide +kernel
theorem dX1_word_0 : decode cX1_word 0 = .ok (.iconst 0, 1) := by decide +kernel
theorem dX1_word_1 : decode cX1_word 1 = .ok (.istore_n 2, 1) := by decide +kernel
theorem dX1_word_2 : decode cX1_word 2 = .ok (.iload_n 2, 1) := by decide +kernel
theorem dX1_word_3 : decode cX1_word 3 = .ok (.aload_n 1, 1) := by decide +kernel
theorem dX1_word_4 : decode cX1_word 4 = .ok (.invokevirtual 108, 3) := by decide +kernel
theorem dX1_word_7 : decode cX1_word 7 = .ok (.if_icmp .ge 23, 3) := by decide +kernel
theorem dX1_word_10 : decode cX1_word 10 = .ok (.aload_n 0, 1) := by decide +kernel
theorem dX1_word_11 : decode cX1_word 11 = .ok (.aload_n 1, 1) := by decide +kernel
theorem dX1_word_12 : decode cX1_word 12 = .ok (.iload_n 2, 1) := by decide +kernel
theorem dX1_word_13 : decode cX1_word 13 = .ok (.invokevirtual 113, 3) := by decide +kernel
theorem dX1_word_16 : decode cX1_word 16 = .ok (.invokevirtual 43, 3) := by decide +kernel
theorem dX1_word_19 : decode cX1_word 19 = .ok (.ifCond .ne 5, 3) := by decide +kernel
theorem dX1_word_22 : decode cX1_word 22 = .ok (.iconst 0, 1) := by decide +kernel
theorem dX1_word_23 : decode cX1_word 23 = .ok (.ireturn, 1) := by decide +kernel
theorem dX1_word_24 : decode cX1_word 24 = .ok (.iinc 2 1, 3) := by decide +kernel
theorem dX1_word_27 : decode cX1_word 27 = .ok (.goto (-25), 3) := by decide +kernel
theorem dX1_word_30 : decode cX1_word 30 = .ok (.iconst 1, 1) := by decide +kernel
theorem dX1_word_31 : decode cX1_word 31 = .ok (.ireturn, 1) := by decide +kernel
theorem dX1_oneOf_0 : decode cX1_oneOf 0 = .ok (.aload_n 0, 1) := by decide +kernel
theorem dX1_oneOf_1 : decode cX1_oneOf 1 = .ok (.getfield 7, 3) := by decide +kernel
theorem dX1_oneOf_4 : decode cX1_oneOf 4 = .ok (.aload_n 0, 1) := by decide +kernel
theorem dX1_oneOf_5 : decode cX1_oneOf 5 = .ok (.getfield 32, 3) := by decide +kernel
theorem dX1_oneOf_8 : decode cX1_oneOf 8 = .ok (.arraylength, 1) := by decide +kernel
theorem dX1_oneOf_9 : decode cX1_oneOf 9 = .ok (.if_icmp .ge 24, 3) := by decide +kernel
theorem dX1_oneOf_12 : decode cX1_oneOf 12 = .ok (.aload_n 1, 1) := by decide +kernel
theorem dX1_oneOf_13 : decode cX1_oneOf 13 = .ok (.aload_n 0, 1) := by decide +kernel
theorem dX1_oneOf_14 : decode cX1_oneOf 14 = .ok (.getfield 32, 3) := by decide +kernel
theorem dX1_oneOf_17 : decode cX1_oneOf 17 = .ok (.aload_n 0, 1) := by decide +kernel
theorem dX1_oneOf_18 : decode cX1_oneOf 18 = .ok (.getfield 7, 3) := by decide +kernel
theorem dX1_oneOf_21 : decode cX1_oneOf 21 = .ok (.baload, 1) := by decide +kernel
theorem dX1_oneOf_22 : decode cX1_oneOf 22 = .ok (.sipush 255, 3) := by decide +kernel
theorem dX1_oneOf_25 : decode cX1_oneOf 25 = .ok (.iand, 1) := by decide +kernel
theorem dX1_oneOf_26 : decode cX1_oneOf 26 = .ok (.i2c, 1) := by decide +kernel
theorem dX1_oneOf_27 : decode cX1_oneOf 27 = .ok (.invokevirtual 117, 3) := by decide +kernel
theorem dX1_oneOf_30 : decode cX1_oneOf 30 = .ok (.goto 4, 3) := by decide +kernel
theorem dX1_oneOf_33 : decode cX1_oneOf 33 = .ok (.iconst (-1), 1) := by decide +kernel
theorem dX1_oneOf_34 : decode cX1_oneOf 34 = .ok (.istore_n 2, 1) := by decide +kernel
theorem dX1_oneOf_35 : decode cX1_oneOf 35 = .ok (.aload_n 0, 1) := by decide +kernel
theorem dX1_oneOf_36 : decode cX1_oneOf 36 = .ok (.dup, 1) := by decide +kernel
theorem dX1_oneOf_37 : decode cX1_oneOf 37 = .ok (.getfield 7, 3) := by decide +kernel
theorem dX1_oneOf_40 : decode cX1_oneOf 40 = .ok (.iload_n 2, 1) := by decide +kernel
theorem dX1_oneOf_41 : decode cX1_oneOf 41 = .ok (.ifCond .ge 7, 3) := by decide +kernel
theorem dX1_oneOf_44 : decode cX1_oneOf 44 = .ok (.iconst 0, 1) := by decide +kernel
theorem dX1_oneOf_45 : decode cX1_oneOf 45 = .ok (.goto 4, 3) := by decide +kernel
theorem dX1_oneOf_48 : decode cX1_oneOf 48 = .ok (.iconst 1, 1) := by decide +kernel
theorem dX1_oneOf_49 : decode cX1_oneOf 49 = .ok (.iadd, 1) := by decide +kernel
theorem dX1_oneOf_50 : decode cX1_oneOf 50 = .ok (.putfield 7, 3) := by decide +kernel
theorem dX1_oneOf_53 : decode cX1_oneOf 53 = .ok (.iload_n 2, 1) := by decide +kernel
theorem dX1_oneOf_54 : decode cX1_oneOf 54 = .ok (.ireturn, 1) := by decide +kernel
theorem dX1_next_0 : decode cX1_next 0 = .ok (.aload_n 0, 1) := by decide +kernel
theorem dX1_next_1 : decode cX1_next 1 = .ok (.getfield 7, 3) := by decide +kernel
theorem dX1_next_4 : decode cX1_next 4 = .ok (.aload_n 0, 1) := by decide +kernel
theorem dX1_next_5 : decode cX1_next 5 = .ok (.getfield 32, 3) := by decide +kernel
theorem dX1_next_8 : decode cX1_next 8 = .ok (.arraylength, 1) := by decide +kernel
theorem dX1_next_9 : decode cX1_next 9 = .ok (.if_icmp .ge 20, 3) := by decide +kernel
theorem dX1_next_12 : decode cX1_next 12 = .ok (.aload_n 0, 1) := by decide +kernel
theorem dX1_next_13 : decode cX1_next 13 = .ok (.getfield 32, 3) := by decide +kernel
theorem dX1_next_16 : decode cX1_next 16 = .ok (.aload_n 0, 1) := by decide +kernel
theorem dX1_next_17 : decode cX1_next 17 = .ok (.getfield 7, 3) := by decide +kernel
theorem dX1_next_20 : decode cX1_next 20 = .ok (.baload, 1) := by decide +kernel
theorem dX1_next_21 : decode cX1_next 21 = .ok (.iload_n 1, 1) := by decide +kernel
theorem dX1_next_22 : decode cX1_next 22 = .ok (.if_icmp .ne 7, 3) := by decide +kernel
theorem dX1_next_25 : decode cX1_next 25 = .ok (.iconst 1, 1) := by decide +kernel
theorem dX1_next_26 : decode cX1_next 26 = .ok (.goto 4, 3) := by decide +kernel
theorem dX1_next_29 : decode cX1_next 29 = .ok (.iconst 0, 1) := by decide +kernel
theorem dX1_next_30 : decode cX1_next 30 = .ok (.ireturn, 1) := by decide +kernel
theorem dX1_take_0 : decode cX1_take 0 = .ok (.aload_n 0, 1) := by decide +kernel
theorem dX1_take_1 : decode cX1_take 1 = .ok (.iload_n 1, 1) := by decide +kernel
theorem dX1_take_2 : decode cX1_take 2 = .ok (.invokevirtual 65, 3) := by decide +kernel
theorem dX1_take_5 : decode cX1_take 5 = .ok (.istore_n 2, 1) := by decide +kernel
theorem dX1_take_6 : decode cX1_take 6 = .ok (.aload_n 0, 1) := by decide +kernel
theorem dX1_take_7 : decode cX1_take 7 = .ok (.dup, 1) := by decide +kernel
theorem dX1_take_8 : decode cX1_take 8 = .ok (.getfield 7, 3) := by decide +kernel
theorem dX1_take_11 : decode cX1_take 11 = .ok (.iload_n 2, 1) := by decide +kernel
theorem dX1_take_12 : decode cX1_take 12 = .ok (.ifCond .eq 7, 3) := by decide +kernel
theorem dX1_take_15 : decode cX1_take 15 = .ok (.iconst 1, 1) := by decide +kernel
theorem dX1_take_16 : decode cX1_take 16 = .ok (.goto 4, 3) := by decide +kernel
theorem dX1_take_19 : decode cX1_take 19 = .ok (.iconst 0, 1) := by decide +kernel
theorem dX1_take_20 : decode cX1_take 20 = .ok (.iadd, 1) := by decide +kernel
theorem dX1_take_21 : decode cX1_take 21 = .ok (.putfield 7, 3) := by decide +kernel
theorem dX1_take_24 : decode cX1_take 24 = .ok (.iload_n 2, 1) := by decide +kernel
theorem dX1_take_25 : decode cX1_take 25 = .ok (.ireturn, 1) := by decide +kernel
theorem dX1_emit_0 : decode cX1_emit 0 = .ok (.aload_n 0, 1) := by decide +kernel
theorem dX1_emit_1 : decode cX1_emit 1 = .ok (.getfield 26, 3) := by decide +kernel
theorem dX1_emit_4 : decode cX1_emit 4 = .ok (.aload_n 0, 1) := by decide +kernel
theorem dX1_emit_5 : decode cX1_emit 5 = .ok (.getfield 36, 3) := by decide +kernel
theorem dX1_emit_8 : decode cX1_emit 8 = .ok (.arraylength, 1) := by decide +kernel
theorem dX1_emit_9 : decode cX1_emit 9 = .ok (.if_icmp .lt 5, 3) := by decide +kernel
theorem dX1_emit_12 : decode cX1_emit 12 = .ok (.iconst 0, 1) := by decide +kernel
theorem dX1_emit_13 : decode cX1_emit 13 = .ok (.ireturn, 1) := by decide +kernel
theorem dX1_emit_14 : decode cX1_emit 14 = .ok (.aload_n 0, 1) := by decide +kernel
theorem dX1_emit_15 : decode cX1_emit 15 = .ok (.getfield 36, 3) := by decide +kernel
theorem dX1_emit_18 : decode cX1_emit 18 = .ok (.aload_n 0, 1) := by decide +kernel
theorem dX1_emit_19 : decode cX1_emit 19 = .ok (.getfield 26, 3) := by decide +kernel
theorem dX1_emit_22 : decode cX1_emit 22 = .ok (.iload_n 1, 1) := by decide +kernel
theorem dX1_emit_23 : decode cX1_emit 23 = .ok (.iastore, 1) := by decide +kernel
theorem dX1_emit_24 : decode cX1_emit 24 = .ok (.aload_n 0, 1) := by decide +kernel
theorem dX1_emit_25 : decode cX1_emit 25 = .ok (.dup, 1) := by decide +kernel
theorem dX1_emit_26 : decode cX1_emit 26 = .ok (.getfield 26, 3) := by decide +kernel
theorem dX1_emit_29 : decode cX1_emit 29 = .ok (.iconst 1, 1) := by decide +kernel
theorem dX1_emit_30 : decode cX1_emit 30 = .ok (.iadd, 1) := by decide +kernel
theorem dX1_emit_31 : decode cX1_emit 31 = .ok (.putfield 26, 3) := by decide +kernel
theorem dX1_emit_34 : decode cX1_emit 34 = .ok (.iconst 1, 1) := by decide +kernel
theorem dX1_emit_35 : decode cX1_emit 35 = .ok (.ireturn, 1) := by decide +kernel
theorem dX2_init_0 : decode cX2_init 0 = .ok (.aload_n 0, 1) := by decide +kernel
theorem dX2_init_1 : decode cX2_init 1 = .ok (.invokespecial 1, 3) := by decide +kernel
theorem dX2_init_4 : decode cX2_init 4 = .ok (.aload_n 0, 1) := by decide +kernel
theorem dX2_init_5 : decode cX2_init 5 = .ok (.iload_n 1, 1) := by decide +kernel
theorem dX2_init_6 : decode cX2_init 6 = .ok (.putfield 7, 3) := by decide +kernel
theorem dX2_init_9 : decode cX2_init 9 = .ok (.aload_n 0, 1) := by decide +kernel
theorem dX2_init_10 : decode cX2_init 10 = .ok (.iload_n 2, 1) := by decide +kernel
theorem dX2_init_11 : decode cX2_init 11 = .ok (.putfield 13, 3) := by decide +kernel
theorem dX2_init_14 : decode cX2_init 14 = .ok (.aload_n 0, 1) := by decide +kernel
theorem dX2_init_15 : decode cX2_init 15 = .ok (.iload_n 3, 1) := by decide +kernel
theorem dX2_init_16 : decode cX2_init 16 = .ok (.putfield 16, 3) := by decide +kernel
theorem dX2_init_19 : decode cX2_init 19 = .ok (.aload_n 0, 1) := by decide +kernel
theorem dX2_init_20 : decode cX2_init 20 = .ok (.iload 4, 2) := by decide +kernel
theorem dX2_init_22 : decode cX2_init 22 = .ok (.putfield 19, 3) := by decide +kernel
theorem dX2_init_25 : decode cX2_init 25 = .ok (.aload_n 0, 1) := by decide +kernel
theorem dX2_init_26 : decode cX2_init 26 = .ok (.iload 5, 2) := by decide +kernel
theorem dX2_init_28 : decode cX2_init 28 = .ok (.putfield 22, 3) := by decide +kernel
theorem dX2_init_31 : decode cX2_init 31 = .ok (.return_, 1) := by decide +kernel
theorem dX2_ageAt_0 : decode cX2_ageAt 0 = .ok (.iload_n 1, 1) := by decide +kernel
theorem dX2_ageAt_1 : decode cX2_ageAt 1 = .ok (.aload_n 0, 1) := by decide +kernel
theorem dX2_ageAt_2 : decode cX2_ageAt 2 = .ok (.getfield 16, 3) := by decide +kernel
theorem dX2_ageAt_5 : decode cX2_ageAt 5 = .ok (.isub, 1) := by decide +kernel
theorem dX2_ageAt_6 : decode cX2_ageAt 6 = .ok (.iload_n 2, 1) := by decide +kernel
theorem dX2_ageAt_7 : decode cX2_ageAt 7 = .ok (.isub, 1) := by decide +kernel
theorem dX2_ageAt_8 : decode cX2_ageAt 8 = .ok (.ireturn, 1) := by decide +kernel
theorem dX2_drawnAt_0 : decode cX2_drawnAt 0 = .ok (.aload_n 1, 1) := by decide +kernel
theorem dX2_drawnAt_1 : decode cX2_drawnAt 1 = .ok (.aload_n 0, 1) := by decide +kernel
theorem dX2_drawnAt_2 : decode cX2_drawnAt 2 = .ok (.getfield 19, 3) := by decide +kernel
theorem dX2_drawnAt_5 : decode cX2_drawnAt 5 = .ok (.aload_n 0, 1) := by decide +kernel
theorem dX2_drawnAt_6 : decode cX2_drawnAt 6 = .ok (.getfield 13, 3) := by decide +kernel
theorem dX2_drawnAt_9 : decode cX2_drawnAt 9 = .ok (.iload_n 2, 1) := by decide +kernel
theorem dX2_drawnAt_10 : decode cX2_drawnAt 10 = .ok (.iload_n 3, 1) := by decide +kernel
theorem dX2_drawnAt_11 : decode cX2_drawnAt 11 = .ok (.invokevirtual 25, 3) := by decide +kernel
theorem dX2_drawnAt_14 : decode cX2_drawnAt 14 = .ok (.ireturn, 1) := by decide +kernel
theorem dX2_draws_0 : decode cX2_draws 0 = .ok (.aload_n 2, 1) := by decide +kernel
theorem dX2_draws_1 : decode cX2_draws 1 = .ok (.iconst 1, 1) := by decide +kernel
theorem dX2_draws_2 : decode cX2_draws 2 = .ok (.invokevirtual 31, 3) := by decide +kernel
theorem dX2_draws_5 : decode cX2_draws 5 = .ok (.iload_n 1, 1) := by decide +kernel
theorem dX2_draws_6 : decode cX2_draws 6 = .ok (.aload_n 0, 1) := by decide +kernel
theorem dX2_draws_7 : decode cX2_draws 7 = .ok (.getfield 7, 3) := by decide +kernel
theorem dX2_draws_10 : decode cX2_draws 10 = .ok (.iadd, 1) := by decide +kernel
theorem dX2_draws_11 : decode cX2_draws 11 = .ok (.ireturn, 1) := by decide +kernel
theorem dX2_rises_0 : decode cX2_rises 0 = .ok (.aload_n 2, 1) := by decide +kernel
theorem dX2_rises_1 : decode cX2_rises 1 = .ok (.iconst 2, 1) := by decide +kernel
theorem dX2_rises_2 : decode cX2_rises 2 = .ok (.invokevirtual 31, 3) := by decide +kernel
theorem dX2_rises_5 : decode cX2_rises 5 = .ok (.aload_n 0, 1) := by decide +kernel
theorem dX2_rises_6 : decode cX2_rises 6 = .ok (.iload_n 1, 1) := by decide +kernel
theorem dX2_rises_7 : decode cX2_rises 7 = .ok (.aload_n 2, 1) := by decide +kernel
theorem dX2_rises_8 : decode cX2_rises 8 = .ok (.invokevirtual 37, 3) := by decide +kernel
theorem dX2_rises_11 : decode cX2_rises 11 = .ok (.aload_n 0, 1) := by decide +kernel
theorem dX2_rises_12 : decode cX2_rises 12 = .ok (.getfield 22, 3) := by decide +kernel
theorem dX2_rises_15 : decode cX2_rises 15 = .ok (.isub, 1) := by decide +kernel
theorem dX2_rises_16 : decode cX2_rises 16 = .ok (.ireturn, 1) := by decide +kernel
theorem dX2_tells_0 : decode cX2_tells 0 = .ok (.aload_n 2, 1) := by decide +kernel
theorem dX2_tells_1 : decode cX2_tells 1 = .ok (.iconst 3, 1) := by decide +kernel
theorem dX2_tells_2 : decode cX2_tells 2 = .ok (.invokevirtual 31, 3) := by decide +kernel
theorem dX2_tells_5 : decode cX2_tells 5 = .ok (.aload_n 0, 1) := by decide +kernel
theorem dX2_tells_6 : decode cX2_tells 6 = .ok (.iload_n 1, 1) := by decide +kernel
theorem dX2_tells_7 : decode cX2_tells 7 = .ok (.aload_n 2, 1) := by decide +kernel
theorem dX2_tells_8 : decode cX2_tells 8 = .ok (.invokevirtual 41, 3) := by decide +kernel
theorem dX2_tells_11 : decode cX2_tells 11 = .ok (.iconst 2, 1) := by decide +kernel
theorem dX2_tells_12 : decode cX2_tells 12 = .ok (.imul, 1) := by decide +kernel
theorem dX2_tells_13 : decode cX2_tells 13 = .ok (.ireturn, 1) := by decide +kernel
theorem dX3_init_0 : decode cX3_init 0 = .ok (.aload_n 0, 1) := by decide +kernel
theorem dX3_init_1 : decode cX3_init 1 = .ok (.iload_n 1, 1) := by decide +kernel
theorem dX3_init_2 : decode cX3_init 2 = .ok (.iload_n 2, 1) := by decide +kernel
theorem dX3_init_3 : decode cX3_init 3 = .ok (.iload_n 3, 1) := by decide +kernel
theorem dX3_init_4 : decode cX3_init 4 = .ok (.iload 4, 2) := by decide +kernel
theorem dX3_init_6 : decode cX3_init 6 = .ok (.iload 5, 2) := by decide +kernel
theorem dX3_init_8 : decode cX3_init 8 = .ok (.invokespecial 1, 3) := by decide +kernel
theorem dX3_init_11 : decode cX3_init 11 = .ok (.return_, 1) := by decide +kernel
theorem dX3_drawnAt_0 : decode cX3_drawnAt 0 = .ok (.iload_n 2, 1) := by decide +kernel
theorem dX3_drawnAt_1 : decode cX3_drawnAt 1 = .ok (.ifCond .lt 24, 3) := by decide +kernel
theorem dX3_drawnAt_4 : decode cX3_drawnAt 4 = .ok (.aload_n 1, 1) := by decide +kernel
theorem dX3_drawnAt_5 : decode cX3_drawnAt 5 = .ok (.aload_n 0, 1) := by decide +kernel
theorem dX3_drawnAt_6 : decode cX3_drawnAt 6 = .ok (.getfield 7, 3) := by decide +kernel
theorem dX3_drawnAt_9 : decode cX3_drawnAt 9 = .ok (.aload_n 0, 1) := by decide +kernel
theorem dX3_drawnAt_10 : decode cX3_drawnAt 10 = .ok (.getfield 13, 3) := by decide +kernel
theorem dX3_drawnAt_13 : decode cX3_drawnAt 13 = .ok (.iload_n 2, 1) := by decide +kernel
theorem dX3_drawnAt_14 : decode cX3_drawnAt 14 = .ok (.iload_n 3, 1) := by decide +kernel
theorem dX3_drawnAt_15 : decode cX3_drawnAt 15 = .ok (.invokevirtual 16, 3) := by decide +kernel
theorem dX3_drawnAt_18 : decode cX3_drawnAt 18 = .ok (.ifCond .le 7, 3) := by decide +kernel
theorem dX3_drawnAt_21 : decode cX3_drawnAt 21 = .ok (.iconst 1, 1) := by decide +kernel
theorem dX3_drawnAt_22 : decode cX3_drawnAt 22 = .ok (.goto 4, 3) := by decide +kernel
theorem dX3_drawnAt_25 : decode cX3_drawnAt 25 = .ok (.iconst 0, 1) := by decide +kernel
theorem dX3_drawnAt_26 : decode cX3_drawnAt 26 = .ok (.istore 4, 2) := by decide +kernel
theorem dX3_drawnAt_28 : decode cX3_drawnAt 28 = .ok (.aload_n 1, 1) := by decide +kernel
theorem dX3_drawnAt_29 : decode cX3_drawnAt 29 = .ok (.aload_n 0, 1) := by decide +kernel
theorem dX3_drawnAt_30 : decode cX3_drawnAt 30 = .ok (.getfield 7, 3) := by decide +kernel
theorem dX3_drawnAt_33 : decode cX3_drawnAt 33 = .ok (.aload_n 0, 1) := by decide +kernel
theorem dX3_drawnAt_34 : decode cX3_drawnAt 34 = .ok (.getfield 13, 3) := by decide +kernel
theorem dX3_drawnAt_37 : decode cX3_drawnAt 37 = .ok (.iload_n 2, 1) := by decide +kernel
theorem dX3_drawnAt_38 : decode cX3_drawnAt 38 = .ok (.iload_n 3, 1) := by decide +kernel
theorem dX3_drawnAt_39 : decode cX3_drawnAt 39 = .ok (.invokevirtual 22, 3) := by decide +kernel
theorem dX3_drawnAt_42 : decode cX3_drawnAt 42 = .ok (.iload 4, 2) := by decide +kernel
theorem dX3_drawnAt_44 : decode cX3_drawnAt 44 = .ok (.ifCond .eq 10, 3) := by decide +kernel
theorem dX3_drawnAt_47 : decode cX3_drawnAt 47 = .ok (.aload_n 0, 1) := by decide +kernel
theorem dX3_drawnAt_48 : decode cX3_drawnAt 48 = .ok (.getfield 25, 3) := by decide +kernel
theorem dX3_drawnAt_51 : decode cX3_drawnAt 51 = .ok (.goto 4, 3) := by decide +kernel
theorem dX3_drawnAt_54 : decode cX3_drawnAt 54 = .ok (.iconst 0, 1) := by decide +kernel
theorem dX3_drawnAt_55 : decode cX3_drawnAt 55 = .ok (.iadd, 1) := by decide +kernel
theorem dX3_drawnAt_56 : decode cX3_drawnAt 56 = .ok (.ireturn, 1) := by decide +kernel
theorem dX3_rises_0 : decode cX3_rises 0 = .ok (.aload_n 2, 1) := by decide +kernel
theorem dX3_rises_1 : decode cX3_rises 1 = .ok (.bipush 21, 2) := by decide +kernel
theorem dX3_rises_3 : decode cX3_rises 3 = .ok (.invokevirtual 28, 3) := by decide +kernel
theorem dX3_rises_6 : decode cX3_rises 6 = .ok (.aload_n 0, 1) := by decide +kernel
theorem dX3_rises_7 : decode cX3_rises 7 = .ok (.iload_n 1, 1) := by decide +kernel
theorem dX3_rises_8 : decode cX3_rises 8 = .ok (.aload_n 2, 1) := by decide +kernel
theorem dX3_rises_9 : decode cX3_rises 9 = .ok (.invokespecial 34, 3) := by decide +kernel
theorem dX3_rises_12 : decode cX3_rises 12 = .ok (.ineg, 1) := by decide +kernel
theorem dX3_rises_13 : decode cX3_rises 13 = .ok (.ireturn, 1) := by decide +kernel
theorem dX4_init_0 : decode cX4_init 0 = .ok (.aload_n 0, 1) := by decide +kernel
theorem dX4_init_1 : decode cX4_init 1 = .ok (.iload_n 1, 1) := by decide +kernel
theorem dX4_init_2 : decode cX4_init 2 = .ok (.iload_n 2, 1) := by decide +kernel
theorem dX4_init_3 : decode cX4_init 3 = .ok (.iload_n 3, 1) := by decide +kernel
theorem dX4_init_4 : decode cX4_init 4 = .ok (.iload 4, 2) := by decide +kernel
theorem dX4_init_6 : decode cX4_init 6 = .ok (.iload 5, 2) := by decide +kernel
theorem dX4_init_8 : decode cX4_init 8 = .ok (.invokespecial 1, 3) := by decide +kernel
theorem dX4_init_11 : decode cX4_init 11 = .ok (.return_, 1) := by decide +kernel
theorem dX4_drawnAt_0 : decode cX4_drawnAt 0 = .ok (.iload_n 2, 1) := by decide +kernel
theorem dX4_drawnAt_1 : decode cX4_drawnAt 1 = .ok (.ifCond .lt 19, 3) := by decide +kernel
theorem dX4_drawnAt_4 : decode cX4_drawnAt 4 = .ok (.iload_n 2, 1) := by decide +kernel
theorem dX4_drawnAt_5 : decode cX4_drawnAt 5 = .ok (.aload_n 0, 1) := by decide +kernel
theorem dX4_drawnAt_6 : decode cX4_drawnAt 6 = .ok (.getfield 7, 3) := by decide +kernel
theorem dX4_drawnAt_9 : decode cX4_drawnAt 9 = .ok (.if_icmp .ge 11, 3) := by decide +kernel
theorem dX4_drawnAt_12 : decode cX4_drawnAt 12 = .ok (.aload_n 0, 1) := by decide +kernel
theorem dX4_drawnAt_13 : decode cX4_drawnAt 13 = .ok (.aload_n 1, 1) := by decide +kernel
theorem dX4_drawnAt_14 : decode cX4_drawnAt 14 = .ok (.invokevirtual 13, 3) := by decide +kernel
theorem dX4_drawnAt_17 : decode cX4_drawnAt 17 = .ok (.goto 22, 3) := by decide +kernel
theorem dX4_drawnAt_20 : decode cX4_drawnAt 20 = .ok (.aload_n 1, 1) := by decide +kernel
theorem dX4_drawnAt_21 : decode cX4_drawnAt 21 = .ok (.aload_n 0, 1) := by decide +kernel
theorem dX4_drawnAt_22 : decode cX4_drawnAt 22 = .ok (.getfield 17, 3) := by decide +kernel
theorem dX4_drawnAt_25 : decode cX4_drawnAt 25 = .ok (.aload_n 0, 1) := by decide +kernel
theorem dX4_drawnAt_26 : decode cX4_drawnAt 26 = .ok (.getfield 20, 3) := by decide +kernel
theorem dX4_drawnAt_29 : decode cX4_drawnAt 29 = .ok (.iload_n 2, 1) := by decide +kernel
theorem dX4_drawnAt_30 : decode cX4_drawnAt 30 = .ok (.aload_n 0, 1) := by decide +kernel
theorem dX4_drawnAt_31 : decode cX4_drawnAt 31 = .ok (.getfield 7, 3) := by decide +kernel
theorem dX4_drawnAt_34 : decode cX4_drawnAt 34 = .ok (.isub, 1) := by decide +kernel
theorem dX4_drawnAt_35 : decode cX4_drawnAt 35 = .ok (.iload_n 3, 1) := by decide +kernel
theorem dX4_drawnAt_36 : decode cX4_drawnAt 36 = .ok (.invokevirtual 23, 3) := by decide +kernel
theorem dX4_drawnAt_39 : decode cX4_drawnAt 39 = .ok (.ireturn, 1) := by decide +kernel
theorem dX4_drawnAhead_0 : decode cX4_drawnAhead 0 = .ok (.aload_n 1, 1) := by decide +kernel
theorem dX4_drawnAhead_1 : decode cX4_drawnAhead 1 = .ok (.aload_n 0, 1) := by decide +kernel
theorem dX4_drawnAhead_2 : decode cX4_drawnAhead 2 = .ok (.getfield 17, 3) := by decide +kernel
theorem dX4_drawnAhead_5 : decode cX4_drawnAhead 5 = .ok (.invokevirtual 29, 3) := by decide +kernel
theorem dX4_drawnAhead_8 : decode cX4_drawnAhead 8 = .ok (.ineg, 1) := by decide +kernel
theorem dX4_drawnAhead_9 : decode cX4_drawnAhead 9 = .ok (.ireturn, 1) := by decide +kernel
theorem dX4_tells_0 : decode cX4_tells 0 = .ok (.aload_n 2, 1) := by decide +kernel
theorem dX4_tells_1 : decode cX4_tells 1 = .ok (.bipush 31, 2) := by decide +kernel
theorem dX4_tells_3 : decode cX4_tells 3 = .ok (.invokevirtual 33, 3) := by decide +kernel
theorem dX4_tells_6 : decode cX4_tells 6 = .ok (.aload_n 0, 1) := by decide +kernel
theorem dX4_tells_7 : decode cX4_tells 7 = .ok (.iload_n 1, 1) := by decide +kernel
theorem dX4_tells_8 : decode cX4_tells 8 = .ok (.aload_n 2, 1) := by decide +kernel
theorem dX4_tells_9 : decode cX4_tells 9 = .ok (.invokespecial 39, 3) := by decide +kernel
theorem dX4_tells_12 : decode cX4_tells 12 = .ok (.bipush 7, 2) := by decide +kernel
theorem dX4_tells_14 : decode cX4_tells 14 = .ok (.ixor, 1) := by decide +kernel
theorem dX4_tells_15 : decode cX4_tells 15 = .ok (.ireturn, 1) := by decide +kernel
theorem dX5_init_0 : decode cX5_init 0 = .ok (.aload_n 0, 1) := by decide +kernel
theorem dX5_init_1 : decode cX5_init 1 = .ok (.iload_n 1, 1) := by decide +kernel
theorem dX5_init_2 : decode cX5_init 2 = .ok (.iload_n 2, 1) := by decide +kernel
theorem dX5_init_3 : decode cX5_init 3 = .ok (.iload_n 3, 1) := by decide +kernel
theorem dX5_init_4 : decode cX5_init 4 = .ok (.iload 4, 2) := by decide +kernel
theorem dX5_init_6 : decode cX5_init 6 = .ok (.iload 5, 2) := by decide +kernel
theorem dX5_init_8 : decode cX5_init 8 = .ok (.invokespecial 1, 3) := by decide +kernel
theorem dX5_init_11 : decode cX5_init 11 = .ok (.return_, 1) := by decide +kernel
theorem dX5_drawnAhead_0 : decode cX5_drawnAhead 0 = .ok (.aload_n 1, 1) := by decide +kernel
theorem dX5_drawnAhead_1 : decode cX5_drawnAhead 1 = .ok (.aload_n 0, 1) := by decide +kernel
theorem dX5_drawnAhead_2 : decode cX5_drawnAhead 2 = .ok (.getfield 7, 3) := by decide +kernel
theorem dX5_drawnAhead_5 : decode cX5_drawnAhead 5 = .ok (.invokevirtual 13, 3) := by decide +kernel
theorem dX5_drawnAhead_8 : decode cX5_drawnAhead 8 = .ok (.ireturn, 1) := by decide +kernel
theorem dX5_rises_0 : decode cX5_rises 0 = .ok (.aload_n 2, 1) := by decide +kernel
theorem dX5_rises_1 : decode cX5_rises 1 = .ok (.bipush 61, 2) := by decide +kernel
theorem dX5_rises_3 : decode cX5_rises 3 = .ok (.invokevirtual 19, 3) := by decide +kernel
theorem dX5_rises_6 : decode cX5_rises 6 = .ok (.aload_n 0, 1) := by decide +kernel
theorem dX5_rises_7 : decode cX5_rises 7 = .ok (.iload_n 1, 1) := by decide +kernel
theorem dX5_rises_8 : decode cX5_rises 8 = .ok (.aload_n 2, 1) := by decide +kernel
theorem dX5_rises_9 : decode cX5_rises 9 = .ok (.invokespecial 25, 3) := by decide +kernel
theorem dX5_rises_12 : decode cX5_rises 12 = .ok (.aload_n 0, 1) := by decide +kernel
theorem dX5_rises_13 : decode cX5_rises 13 = .ok (.getfield 29, 3) := by decide +kernel
theorem dX5_rises_16 : decode cX5_rises 16 = .ok (.iadd, 1) := by decide +kernel
theorem dX5_rises_17 : decode cX5_rises 17 = .ok (.ireturn, 1) := by decide +kernel
theorem dX6_init_0 : decode cX6_init 0 = .ok (.aload_n 0, 1) := by decide +kernel
theorem dX6_init_1 : decode cX6_init 1 = .ok (.iload_n 1, 1) := by decide +kernel
theorem dX6_init_2 : decode cX6_init 2 = .ok (.iload_n 2, 1) := by decide +kernel
theorem dX6_init_3 : decode cX6_init 3 = .ok (.iload_n 3, 1) := by decide +kernel
theorem dX6_init_4 : decode cX6_init 4 = .ok (.iload 4, 2) := by decide +kernel
theorem dX6_init_6 : decode cX6_init 6 = .ok (.iload 5, 2) := by decide +kernel
theorem dX6_init_8 : decode cX6_init 8 = .ok (.invokespecial 1, 3) := by decide +kernel
theorem dX6_init_11 : decode cX6_init 11 = .ok (.return_, 1) := by decide +kernel
theorem dX6_drawnAt_0 : decode cX6_drawnAt 0 = .ok (.aload_n 1, 1) := by decide +kernel
theorem dX6_drawnAt_1 : decode cX6_drawnAt 1 = .ok (.aload_n 0, 1) := by decide +kernel
theorem dX6_drawnAt_2 : decode cX6_drawnAt 2 = .ok (.getfield 7, 3) := by decide +kernel
theorem dX6_drawnAt_5 : decode cX6_drawnAt 5 = .ok (.aload_n 0, 1) := by decide +kernel
theorem dX6_drawnAt_6 : decode cX6_drawnAt 6 = .ok (.getfield 13, 3) := by decide +kernel
theorem dX6_drawnAt_9 : decode cX6_drawnAt 9 = .ok (.iload_n 2, 1) := by decide +kernel
theorem dX6_drawnAt_10 : decode cX6_drawnAt 10 = .ok (.iload_n 3, 1) := by decide +kernel
theorem dX6_drawnAt_11 : decode cX6_drawnAt 11 = .ok (.invokevirtual 16, 3) := by decide +kernel
theorem dX6_drawnAt_14 : decode cX6_drawnAt 14 = .ok (.iconst 2, 1) := by decide +kernel
theorem dX6_drawnAt_15 : decode cX6_drawnAt 15 = .ok (.idiv, 1) := by decide +kernel
theorem dX6_drawnAt_16 : decode cX6_drawnAt 16 = .ok (.aload_n 1, 1) := by decide +kernel
theorem dX6_drawnAt_17 : decode cX6_drawnAt 17 = .ok (.aload_n 0, 1) := by decide +kernel
theorem dX6_drawnAt_18 : decode cX6_drawnAt 18 = .ok (.getfield 7, 3) := by decide +kernel
theorem dX6_drawnAt_21 : decode cX6_drawnAt 21 = .ok (.aload_n 0, 1) := by decide +kernel
theorem dX6_drawnAt_22 : decode cX6_drawnAt 22 = .ok (.getfield 13, 3) := by decide +kernel
theorem dX6_drawnAt_25 : decode cX6_drawnAt 25 = .ok (.iload_n 2, 1) := by decide +kernel
theorem dX6_drawnAt_26 : decode cX6_drawnAt 26 = .ok (.aload_n 0, 1) := by decide +kernel
theorem dX6_drawnAt_27 : decode cX6_drawnAt 27 = .ok (.getfield 22, 3) := by decide +kernel
theorem dX6_drawnAt_30 : decode cX6_drawnAt 30 = .ok (.isub, 1) := by decide +kernel
theorem dX6_drawnAt_31 : decode cX6_drawnAt 31 = .ok (.iload_n 3, 1) := by decide +kernel
theorem dX6_drawnAt_32 : decode cX6_drawnAt 32 = .ok (.aload_n 0, 1) := by decide +kernel
theorem dX6_drawnAt_33 : decode cX6_drawnAt 33 = .ok (.getfield 22, 3) := by decide +kernel
theorem dX6_drawnAt_36 : decode cX6_drawnAt 36 = .ok (.isub, 1) := by decide +kernel
theorem dX6_drawnAt_37 : decode cX6_drawnAt 37 = .ok (.invokevirtual 16, 3) := by decide +kernel
theorem dX6_drawnAt_40 : decode cX6_drawnAt 40 = .ok (.iconst 2, 1) := by decide +kernel
theorem dX6_drawnAt_41 : decode cX6_drawnAt 41 = .ok (.idiv, 1) := by decide +kernel
theorem dX6_drawnAt_42 : decode cX6_drawnAt 42 = .ok (.iadd, 1) := by decide +kernel
theorem dX6_drawnAt_43 : decode cX6_drawnAt 43 = .ok (.ireturn, 1) := by decide +kernel
theorem dX6_draws_0 : decode cX6_draws 0 = .ok (.aload_n 2, 1) := by decide +kernel
theorem dX6_draws_1 : decode cX6_draws 1 = .ok (.bipush 51, 2) := by decide +kernel
theorem dX6_draws_3 : decode cX6_draws 3 = .ok (.invokevirtual 25, 3) := by decide +kernel
theorem dX6_draws_6 : decode cX6_draws 6 = .ok (.aload_n 0, 1) := by decide +kernel
theorem dX6_draws_7 : decode cX6_draws 7 = .ok (.iload_n 1, 1) := by decide +kernel
theorem dX6_draws_8 : decode cX6_draws 8 = .ok (.aload_n 2, 1) := by decide +kernel
theorem dX6_draws_9 : decode cX6_draws 9 = .ok (.invokespecial 31, 3) := by decide +kernel
theorem dX6_draws_12 : decode cX6_draws 12 = .ok (.aload_n 0, 1) := by decide +kernel
theorem dX6_draws_13 : decode cX6_draws 13 = .ok (.getfield 35, 3) := by decide +kernel
theorem dX6_draws_16 : decode cX6_draws 16 = .ok (.ixor, 1) := by decide +kernel
theorem dX6_draws_17 : decode cX6_draws 17 = .ok (.ireturn, 1) := by decide +kernel
theorem dX7_init_0 : decode cX7_init 0 = .ok (.aload_n 0, 1) := by decide +kernel
theorem dX7_init_1 : decode cX7_init 1 = .ok (.invokespecial 3, 3) := by decide +kernel
theorem dX7_init_4 : decode cX7_init 4 = .ok (.aload_n 0, 1) := by decide +kernel
theorem dX7_init_5 : decode cX7_init 5 = .ok (.bipush 8, 2) := by decide +kernel
theorem dX7_init_7 : decode cX7_init 7 = .ok (.anewarray 9, 3) := by decide +kernel
theorem dX7_init_10 : decode cX7_init 10 = .ok (.putfield 11, 3) := by decide +kernel
theorem dX7_init_13 : decode cX7_init 13 = .ok (.aload_n 0, 1) := by decide +kernel
theorem dX7_init_14 : decode cX7_init 14 = .ok (.bipush 8, 2) := by decide +kernel
theorem dX7_init_16 : decode cX7_init 16 = .ok (.newarray .int, 2) := by decide +kernel
theorem dX7_init_18 : decode cX7_init 18 = .ok (.putfield 17, 3) := by decide +kernel
theorem dX7_init_21 : decode cX7_init 21 = .ok (.aload_n 0, 1) := by decide +kernel
theorem dX7_init_22 : decode cX7_init 22 = .ok (.bipush 8, 2) := by decide +kernel
theorem dX7_init_24 : decode cX7_init 24 = .ok (.newarray .int, 2) := by decide +kernel
theorem dX7_init_26 : decode cX7_init 26 = .ok (.putfield 21, 3) := by decide +kernel
theorem dX7_init_29 : decode cX7_init 29 = .ok (.aload_n 0, 1) := by decide +kernel
theorem dX7_init_30 : decode cX7_init 30 = .ok (.iconst 0, 1) := by decide +kernel
theorem dX7_init_31 : decode cX7_init 31 = .ok (.putfield 24, 3) := by decide +kernel
theorem dX7_init_34 : decode cX7_init 34 = .ok (.aload_n 0, 1) := by decide +kernel
theorem dX7_init_35 : decode cX7_init 35 = .ok (.iconst 5, 1) := by decide +kernel
theorem dX7_init_36 : decode cX7_init 36 = .ok (.anewarray 28, 3) := by decide +kernel
theorem dX7_init_39 : decode cX7_init 39 = .ok (.putfield 30, 3) := by decide +kernel
theorem dX7_init_42 : decode cX7_init 42 = .ok (.aload_n 0, 1) := by decide +kernel
theorem dX7_init_43 : decode cX7_init 43 = .ok (.iconst 0, 1) := by decide +kernel
theorem dX7_init_44 : decode cX7_init 44 = .ok (.putfield 34, 3) := by decide +kernel
theorem dX7_init_47 : decode cX7_init 47 = .ok (.aload_n 0, 1) := by decide +kernel
theorem dX7_init_48 : decode cX7_init 48 = .ok (.iconst 5, 1) := by decide +kernel
theorem dX7_init_49 : decode cX7_init 49 = .ok (.anewarray 37, 3) := by decide +kernel
theorem dX7_init_52 : decode cX7_init 52 = .ok (.putfield 39, 3) := by decide +kernel
theorem dX7_init_55 : decode cX7_init 55 = .ok (.aload_n 0, 1) := by decide +kernel
theorem dX7_init_56 : decode cX7_init 56 = .ok (.iconst 0, 1) := by decide +kernel
theorem dX7_init_57 : decode cX7_init 57 = .ok (.putfield 43, 3) := by decide +kernel
theorem dX7_init_60 : decode cX7_init 60 = .ok (.aload_n 0, 1) := by decide +kernel
theorem dX7_init_61 : decode cX7_init 61 = .ok (.bipush 120, 2) := by decide +kernel
theorem dX7_init_63 : decode cX7_init 63 = .ok (.newarray .byte, 2) := by decide +kernel
theorem dX7_init_65 : decode cX7_init 65 = .ok (.putfield 46, 3) := by decide +kernel
theorem dX7_init_68 : decode cX7_init 68 = .ok (.aload_n 0, 1) := by decide +kernel
theorem dX7_init_69 : decode cX7_init 69 = .ok (.iconst 0, 1) := by decide +kernel
theorem dX7_init_70 : decode cX7_init 70 = .ok (.putfield 50, 3) := by decide +kernel
theorem dX7_init_73 : decode cX7_init 73 = .ok (.aload_n 0, 1) := by decide +kernel
theorem dX7_init_74 : decode cX7_init 74 = .ok (.bipush 20, 2) := by decide +kernel
theorem dX7_init_76 : decode cX7_init 76 = .ok (.newarray .int, 2) := by decide +kernel
theorem dX7_init_78 : decode cX7_init 78 = .ok (.putfield 53, 3) := by decide +kernel
theorem dX7_init_81 : decode cX7_init 81 = .ok (.aload_n 0, 1) := by decide +kernel
theorem dX7_init_82 : decode cX7_init 82 = .ok (.iconst 0, 1) := by decide +kernel
theorem dX7_init_83 : decode cX7_init 83 = .ok (.putfield 56, 3) := by decide +kernel
theorem dX7_init_86 : decode cX7_init 86 = .ok (.aload_n 0, 1) := by decide +kernel
theorem dX7_init_87 : decode cX7_init 87 = .ok (.iconst 3, 1) := by decide +kernel
theorem dX7_init_88 : decode cX7_init 88 = .ok (.newarray .int, 2) := by decide +kernel
theorem dX7_init_90 : decode cX7_init 90 = .ok (.dup, 1) := by decide +kernel
theorem dX7_init_91 : decode cX7_init 91 = .ok (.iconst 0, 1) := by decide +kernel
theorem dX7_init_92 : decode cX7_init 92 = .ok (.iconst 0, 1) := by decide +kernel
theorem dX7_init_93 : decode cX7_init 93 = .ok (.iastore, 1) := by decide +kernel
theorem dX7_init_94 : decode cX7_init 94 = .ok (.dup, 1) := by decide +kernel
theorem dX7_init_95 : decode cX7_init 95 = .ok (.iconst 1, 1) := by decide +kernel
theorem dX7_init_96 : decode cX7_init 96 = .ok (.iconst 1, 1) := by decide +kernel
theorem dX7_init_97 : decode cX7_init 97 = .ok (.iastore, 1) := by decide +kernel
theorem dX7_init_98 : decode cX7_init 98 = .ok (.dup, 1) := by decide +kernel
theorem dX7_init_99 : decode cX7_init 99 = .ok (.iconst 2, 1) := by decide +kernel
theorem dX7_init_100 : decode cX7_init 100 = .ok (.bipush 100, 2) := by decide +kernel
theorem dX7_init_102 : decode cX7_init 102 = .ok (.iastore, 1) := by decide +kernel
theorem dX7_init_103 : decode cX7_init 103 = .ok (.putfield 59, 3) := by decide +kernel
theorem dX7_init_106 : decode cX7_init 106 = .ok (.return_, 1) := by decide +kernel
theorem dX7_copyFrom_0 : decode cX7_copyFrom 0 = .ok (.iconst 0, 1) := by decide +kernel
theorem dX7_copyFrom_1 : decode cX7_copyFrom 1 = .ok (.istore_n 2, 1) := by decide +kernel
theorem dX7_copyFrom_2 : decode cX7_copyFrom 2 = .ok (.iload_n 2, 1) := by decide +kernel
theorem dX7_copyFrom_3 : decode cX7_copyFrom 3 = .ok (.bipush 8, 2) := by decide +kernel
theorem dX7_copyFrom_5 : decode cX7_copyFrom 5 = .ok (.if_icmp .ge 45, 3) := by decide +kernel
theorem dX7_copyFrom_8 : decode cX7_copyFrom 8 = .ok (.aload_n 0, 1) := by decide +kernel
theorem dX7_copyFrom_9 : decode cX7_copyFrom 9 = .ok (.getfield 11, 3) := by decide +kernel
theorem dX7_copyFrom_12 : decode cX7_copyFrom 12 = .ok (.iload_n 2, 1) := by decide +kernel
theorem dX7_copyFrom_13 : decode cX7_copyFrom 13 = .ok (.aload_n 1, 1) := by decide +kernel
theorem dX7_copyFrom_14 : decode cX7_copyFrom 14 = .ok (.getfield 11, 3) := by decide +kernel
theorem dX7_copyFrom_17 : decode cX7_copyFrom 17 = .ok (.iload_n 2, 1) := by decide +kernel
theorem dX7_copyFrom_18 : decode cX7_copyFrom 18 = .ok (.aaload, 1) := by decide +kernel
theorem dX7_copyFrom_19 : decode cX7_copyFrom 19 = .ok (.aastore, 1) := by decide +kernel
theorem dX7_copyFrom_20 : decode cX7_copyFrom 20 = .ok (.aload_n 0, 1) := by decide +kernel
theorem dX7_copyFrom_21 : decode cX7_copyFrom 21 = .ok (.getfield 17, 3) := by decide +kernel
theorem dX7_copyFrom_24 : decode cX7_copyFrom 24 = .ok (.iload_n 2, 1) := by decide +kernel
theorem dX7_copyFrom_25 : decode cX7_copyFrom 25 = .ok (.aload_n 1, 1) := by decide +kernel
theorem dX7_copyFrom_26 : decode cX7_copyFrom 26 = .ok (.getfield 17, 3) := by decide +kernel
theorem dX7_copyFrom_29 : decode cX7_copyFrom 29 = .ok (.iload_n 2, 1) := by decide +kernel
theorem dX7_copyFrom_30 : decode cX7_copyFrom 30 = .ok (.iaload, 1) := by decide +kernel
theorem dX7_copyFrom_31 : decode cX7_copyFrom 31 = .ok (.iastore, 1) := by decide +kernel
theorem dX7_copyFrom_32 : decode cX7_copyFrom 32 = .ok (.aload_n 0, 1) := by decide +kernel
theorem dX7_copyFrom_33 : decode cX7_copyFrom 33 = .ok (.getfield 21, 3) := by decide +kernel
theorem dX7_copyFrom_36 : decode cX7_copyFrom 36 = .ok (.iload_n 2, 1) := by decide +kernel
theorem dX7_copyFrom_37 : decode cX7_copyFrom 37 = .ok (.aload_n 1, 1) := by decide +kernel
theorem dX7_copyFrom_38 : decode cX7_copyFrom 38 = .ok (.getfield 21, 3) := by decide +kernel
theorem dX7_copyFrom_41 : decode cX7_copyFrom 41 = .ok (.iload_n 2, 1) := by decide +kernel
theorem dX7_copyFrom_42 : decode cX7_copyFrom 42 = .ok (.iaload, 1) := by decide +kernel
theorem dX7_copyFrom_43 : decode cX7_copyFrom 43 = .ok (.iastore, 1) := by decide +kernel
theorem dX7_copyFrom_44 : decode cX7_copyFrom 44 = .ok (.iinc 2 1, 3) := by decide +kernel
theorem dX7_copyFrom_47 : decode cX7_copyFrom 47 = .ok (.goto (-45), 3) := by decide +kernel
theorem dX7_copyFrom_50 : decode cX7_copyFrom 50 = .ok (.aload_n 0, 1) := by decide +kernel
theorem dX7_copyFrom_51 : decode cX7_copyFrom 51 = .ok (.aload_n 1, 1) := by decide +kernel
theorem dX7_copyFrom_52 : decode cX7_copyFrom 52 = .ok (.getfield 24, 3) := by decide +kernel
theorem dX7_copyFrom_55 : decode cX7_copyFrom 55 = .ok (.putfield 24, 3) := by decide +kernel
theorem dX7_copyFrom_58 : decode cX7_copyFrom 58 = .ok (.iconst 0, 1) := by decide +kernel
theorem dX7_copyFrom_59 : decode cX7_copyFrom 59 = .ok (.istore_n 2, 1) := by decide +kernel
theorem dX7_copyFrom_60 : decode cX7_copyFrom 60 = .ok (.iload_n 2, 1) := by decide +kernel
theorem dX7_copyFrom_61 : decode cX7_copyFrom 61 = .ok (.iconst 5, 1) := by decide +kernel
theorem dX7_copyFrom_62 : decode cX7_copyFrom 62 = .ok (.if_icmp .ge 21, 3) := by decide +kernel
theorem dX7_copyFrom_65 : decode cX7_copyFrom 65 = .ok (.aload_n 0, 1) := by decide +kernel
theorem dX7_copyFrom_66 : decode cX7_copyFrom 66 = .ok (.getfield 30, 3) := by decide +kernel
theorem dX7_copyFrom_69 : decode cX7_copyFrom 69 = .ok (.iload_n 2, 1) := by decide +kernel
theorem dX7_copyFrom_70 : decode cX7_copyFrom 70 = .ok (.aload_n 1, 1) := by decide +kernel
theorem dX7_copyFrom_71 : decode cX7_copyFrom 71 = .ok (.getfield 30, 3) := by decide +kernel
theorem dX7_copyFrom_74 : decode cX7_copyFrom 74 = .ok (.iload_n 2, 1) := by decide +kernel
theorem dX7_copyFrom_75 : decode cX7_copyFrom 75 = .ok (.aaload, 1) := by decide +kernel
theorem dX7_copyFrom_76 : decode cX7_copyFrom 76 = .ok (.aastore, 1) := by decide +kernel
theorem dX7_copyFrom_77 : decode cX7_copyFrom 77 = .ok (.iinc 2 1, 3) := by decide +kernel
theorem dX7_copyFrom_80 : decode cX7_copyFrom 80 = .ok (.goto (-20), 3) := by decide +kernel
theorem dX7_copyFrom_83 : decode cX7_copyFrom 83 = .ok (.aload_n 0, 1) := by decide +kernel
theorem dX7_copyFrom_84 : decode cX7_copyFrom 84 = .ok (.aload_n 1, 1) := by decide +kernel
theorem dX7_copyFrom_85 : decode cX7_copyFrom 85 = .ok (.getfield 34, 3) := by decide +kernel
theorem dX7_copyFrom_88 : decode cX7_copyFrom 88 = .ok (.putfield 34, 3) := by decide +kernel
theorem dX7_copyFrom_91 : decode cX7_copyFrom 91 = .ok (.iconst 0, 1) := by decide +kernel
theorem dX7_copyFrom_92 : decode cX7_copyFrom 92 = .ok (.istore_n 2, 1) := by decide +kernel
theorem dX7_copyFrom_93 : decode cX7_copyFrom 93 = .ok (.iload_n 2, 1) := by decide +kernel
theorem dX7_copyFrom_94 : decode cX7_copyFrom 94 = .ok (.iconst 5, 1) := by decide +kernel
theorem dX7_copyFrom_95 : decode cX7_copyFrom 95 = .ok (.if_icmp .ge 21, 3) := by decide +kernel
theorem dX7_copyFrom_98 : decode cX7_copyFrom 98 = .ok (.aload_n 0, 1) := by decide +kernel
theorem dX7_copyFrom_99 : decode cX7_copyFrom 99 = .ok (.getfield 39, 3) := by decide +kernel
theorem dX7_copyFrom_102 : decode cX7_copyFrom 102 = .ok (.iload_n 2, 1) := by decide +kernel
theorem dX7_copyFrom_103 : decode cX7_copyFrom 103 = .ok (.aload_n 1, 1) := by decide +kernel
theorem dX7_copyFrom_104 : decode cX7_copyFrom 104 = .ok (.getfield 39, 3) := by decide +kernel
theorem dX7_copyFrom_107 : decode cX7_copyFrom 107 = .ok (.iload_n 2, 1) := by decide +kernel
theorem dX7_copyFrom_108 : decode cX7_copyFrom 108 = .ok (.aaload, 1) := by decide +kernel
theorem dX7_copyFrom_109 : decode cX7_copyFrom 109 = .ok (.aastore, 1) := by decide +kernel
theorem dX7_copyFrom_110 : decode cX7_copyFrom 110 = .ok (.iinc 2 1, 3) := by decide +kernel
theorem dX7_copyFrom_113 : decode cX7_copyFrom 113 = .ok (.goto (-20), 3) := by decide +kernel
theorem dX7_copyFrom_116 : decode cX7_copyFrom 116 = .ok (.aload_n 0, 1) := by decide +kernel
theorem dX7_copyFrom_117 : decode cX7_copyFrom 117 = .ok (.aload_n 1, 1) := by decide +kernel
theorem dX7_copyFrom_118 : decode cX7_copyFrom 118 = .ok (.getfield 43, 3) := by decide +kernel
theorem dX7_copyFrom_121 : decode cX7_copyFrom 121 = .ok (.putfield 43, 3) := by decide +kernel
theorem dX7_copyFrom_124 : decode cX7_copyFrom 124 = .ok (.aload_n 1, 1) := by decide +kernel
theorem dX7_copyFrom_125 : decode cX7_copyFrom 125 = .ok (.getfield 46, 3) := by decide +kernel
theorem dX7_copyFrom_128 : decode cX7_copyFrom 128 = .ok (.iconst 0, 1) := by decide +kernel
theorem dX7_copyFrom_129 : decode cX7_copyFrom 129 = .ok (.aload_n 0, 1) := by decide +kernel
theorem dX7_copyFrom_130 : decode cX7_copyFrom 130 = .ok (.getfield 46, 3) := by decide +kernel
theorem dX7_copyFrom_133 : decode cX7_copyFrom 133 = .ok (.iconst 0, 1) := by decide +kernel
theorem dX7_copyFrom_134 : decode cX7_copyFrom 134 = .ok (.bipush 120, 2) := by decide +kernel
theorem dX7_copyFrom_136 : decode cX7_copyFrom 136 = .ok (.invokestatic 62, 3) := by decide +kernel
theorem dX7_copyFrom_139 : decode cX7_copyFrom 139 = .ok (.aload_n 0, 1) := by decide +kernel
theorem dX7_copyFrom_140 : decode cX7_copyFrom 140 = .ok (.aload_n 1, 1) := by decide +kernel
theorem dX7_copyFrom_141 : decode cX7_copyFrom 141 = .ok (.getfield 50, 3) := by decide +kernel
theorem dX7_copyFrom_144 : decode cX7_copyFrom 144 = .ok (.putfield 50, 3) := by decide +kernel
theorem dX7_copyFrom_147 : decode cX7_copyFrom 147 = .ok (.aload_n 1, 1) := by decide +kernel
theorem dX7_copyFrom_148 : decode cX7_copyFrom 148 = .ok (.getfield 53, 3) := by decide +kernel
theorem dX7_copyFrom_151 : decode cX7_copyFrom 151 = .ok (.iconst 0, 1) := by decide +kernel
theorem dX7_copyFrom_152 : decode cX7_copyFrom 152 = .ok (.aload_n 0, 1) := by decide +kernel
theorem dX7_copyFrom_153 : decode cX7_copyFrom 153 = .ok (.getfield 53, 3) := by decide +kernel
theorem dX7_copyFrom_156 : decode cX7_copyFrom 156 = .ok (.iconst 0, 1) := by decide +kernel
theorem dX7_copyFrom_157 : decode cX7_copyFrom 157 = .ok (.bipush 20, 2) := by decide +kernel
theorem dX7_copyFrom_159 : decode cX7_copyFrom 159 = .ok (.invokestatic 62, 3) := by decide +kernel
theorem dX7_copyFrom_162 : decode cX7_copyFrom 162 = .ok (.aload_n 0, 1) := by decide +kernel
theorem dX7_copyFrom_163 : decode cX7_copyFrom 163 = .ok (.aload_n 1, 1) := by decide +kernel
theorem dX7_copyFrom_164 : decode cX7_copyFrom 164 = .ok (.getfield 56, 3) := by decide +kernel
theorem dX7_copyFrom_167 : decode cX7_copyFrom 167 = .ok (.putfield 56, 3) := by decide +kernel
theorem dX7_copyFrom_170 : decode cX7_copyFrom 170 = .ok (.aload_n 1, 1) := by decide +kernel
theorem dX7_copyFrom_171 : decode cX7_copyFrom 171 = .ok (.getfield 59, 3) := by decide +kernel
theorem dX7_copyFrom_174 : decode cX7_copyFrom 174 = .ok (.iconst 0, 1) := by decide +kernel
theorem dX7_copyFrom_175 : decode cX7_copyFrom 175 = .ok (.aload_n 0, 1) := by decide +kernel
theorem dX7_copyFrom_176 : decode cX7_copyFrom 176 = .ok (.getfield 59, 3) := by decide +kernel
theorem dX7_copyFrom_179 : decode cX7_copyFrom 179 = .ok (.iconst 0, 1) := by decide +kernel
theorem dX7_copyFrom_180 : decode cX7_copyFrom 180 = .ok (.aload_n 0, 1) := by decide +kernel
theorem dX7_copyFrom_181 : decode cX7_copyFrom 181 = .ok (.getfield 59, 3) := by decide +kernel
theorem dX7_copyFrom_184 : decode cX7_copyFrom 184 = .ok (.arraylength, 1) := by decide +kernel
theorem dX7_copyFrom_185 : decode cX7_copyFrom 185 = .ok (.invokestatic 62, 3) := by decide +kernel
theorem dX7_copyFrom_188 : decode cX7_copyFrom 188 = .ok (.return_, 1) := by decide +kernel
theorem dX7_heads_0 : decode cX7_heads 0 = .ok (.iload_n 1, 1) := by decide +kernel
theorem dX7_heads_1 : decode cX7_heads 1 = .ok (.iconst 1, 1) := by decide +kernel
theorem dX7_heads_2 : decode cX7_heads 2 = .ok (.aload_n 0, 1) := by decide +kernel
theorem dX7_heads_3 : decode cX7_heads 3 = .ok (.getfield 59, 3) := by decide +kernel
theorem dX7_heads_6 : decode cX7_heads 6 = .ok (.iconst 1, 1) := by decide +kernel
theorem dX7_heads_7 : decode cX7_heads 7 = .ok (.iaload, 1) := by decide +kernel
theorem dX7_heads_8 : decode cX7_heads 8 = .ok (.invokestatic 68, 3) := by decide +kernel
theorem dX7_heads_11 : decode cX7_heads 11 = .ok (.idiv, 1) := by decide +kernel
theorem dX7_heads_12 : decode cX7_heads 12 = .ok (.ireturn, 1) := by decide +kernel
theorem dX7_newestLaw_0 : decode cX7_newestLaw 0 = .ok (.aload_n 0, 1) := by decide +kernel
theorem dX7_newestLaw_1 : decode cX7_newestLaw 1 = .ok (.getfield 34, 3) := by decide +kernel
theorem dX7_newestLaw_4 : decode cX7_newestLaw 4 = .ok (.ifCond .ne 7, 3) := by decide +kernel
theorem dX7_newestLaw_7 : decode cX7_newestLaw 7 = .ok (.aconst_null, 1) := by decide +kernel
theorem dX7_newestLaw_8 : decode cX7_newestLaw 8 = .ok (.goto 14, 3) := by decide +kernel
theorem dX7_newestLaw_11 : decode cX7_newestLaw 11 = .ok (.aload_n 0, 1) := by decide +kernel
theorem dX7_newestLaw_12 : decode cX7_newestLaw 12 = .ok (.getfield 30, 3) := by decide +kernel
theorem dX7_newestLaw_15 : decode cX7_newestLaw 15 = .ok (.aload_n 0, 1) := by decide +kernel
theorem dX7_newestLaw_16 : decode cX7_newestLaw 16 = .ok (.getfield 34, 3) := by decide +kernel
theorem dX7_newestLaw_19 : decode cX7_newestLaw 19 = .ok (.iconst 1, 1) := by decide +kernel
theorem dX7_newestLaw_20 : decode cX7_newestLaw 20 = .ok (.isub, 1) := by decide +kernel
theorem dX7_newestLaw_21 : decode cX7_newestLaw 21 = .ok (.aaload, 1) := by decide +kernel
theorem dX7_newestLaw_22 : decode cX7_newestLaw 22 = .ok (.areturn, 1) := by decide +kernel
theorem dX7_percent_0 : decode cX7_percent 0 = .ok (.aload_n 0, 1) := by decide +kernel
theorem dX7_percent_1 : decode cX7_percent 1 = .ok (.invokevirtual 74, 3) := by decide +kernel
theorem dX7_percent_4 : decode cX7_percent 4 = .ok (.astore 5, 2) := by decide +kernel
theorem dX7_percent_6 : decode cX7_percent 6 = .ok (.aload 5, 2) := by decide +kernel
theorem dX7_percent_8 : decode cX7_percent 8 = .ok (.ifnonnull 7, 3) := by decide +kernel
theorem dX7_percent_11 : decode cX7_percent 11 = .ok (.iconst 0, 1) := by decide +kernel
theorem dX7_percent_12 : decode cX7_percent 12 = .ok (.goto 19, 3) := by decide +kernel
theorem dX7_percent_15 : decode cX7_percent 15 = .ok (.aload 5, 2) := by decide +kernel
theorem dX7_percent_17 : decode cX7_percent 17 = .ok (.iload_n 3, 1) := by decide +kernel
theorem dX7_percent_18 : decode cX7_percent 18 = .ok (.aload_n 0, 1) := by decide +kernel
theorem dX7_percent_19 : decode cX7_percent 19 = .ok (.getfield 59, 3) := by decide +kernel
theorem dX7_percent_22 : decode cX7_percent 22 = .ok (.iconst 0, 1) := by decide +kernel
theorem dX7_percent_23 : decode cX7_percent 23 = .ok (.iaload, 1) := by decide +kernel
theorem dX7_percent_24 : decode cX7_percent 24 = .ok (.iload_n 1, 1) := by decide +kernel
theorem dX7_percent_25 : decode cX7_percent 25 = .ok (.iload_n 2, 1) := by decide +kernel
theorem dX7_percent_26 : decode cX7_percent 26 = .ok (.iload 4, 2) := by decide +kernel
theorem dX7_percent_28 : decode cX7_percent 28 = .ok (.invokevirtual 78, 3) := by decide +kernel
theorem dX7_percent_31 : decode cX7_percent 31 = .ok (.ireturn, 1) := by decide +kernel
theorem dX7_plain_0 : decode cX7_plain 0 = .ok (.aload_n 0, 1) := by decide +kernel
theorem dX7_plain_1 : decode cX7_plain 1 = .ok (.invokevirtual 74, 3) := by decide +kernel
theorem dX7_plain_4 : decode cX7_plain 4 = .ok (.astore 5, 2) := by decide +kernel
theorem dX7_plain_6 : decode cX7_plain 6 = .ok (.aload 5, 2) := by decide +kernel
theorem dX7_plain_8 : decode cX7_plain 8 = .ok (.ifnull 7, 3) := by decide +kernel
theorem dX7_plain_11 : decode cX7_plain 11 = .ok (.iload_n 3, 1) := by decide +kernel
theorem dX7_plain_12 : decode cX7_plain 12 = .ok (.ifCond .ge 5, 3) := by decide +kernel
theorem dX7_plain_15 : decode cX7_plain 15 = .ok (.iconst 0, 1) := by decide +kernel
theorem dX7_plain_16 : decode cX7_plain 16 = .ok (.ireturn, 1) := by decide +kernel
theorem dX7_plain_17 : decode cX7_plain 17 = .ok (.aload_n 0, 1) := by decide +kernel
theorem dX7_plain_18 : decode cX7_plain 18 = .ok (.iload_n 1, 1) := by decide +kernel
theorem dX7_plain_19 : decode cX7_plain 19 = .ok (.invokevirtual 82, 3) := by decide +kernel
theorem dX7_plain_22 : decode cX7_plain 22 = .ok (.aload 5, 2) := by decide +kernel
theorem dX7_plain_24 : decode cX7_plain 24 = .ok (.iload_n 3, 1) := by decide +kernel
theorem dX7_plain_25 : decode cX7_plain 25 = .ok (.aload_n 0, 1) := by decide +kernel
theorem dX7_plain_26 : decode cX7_plain 26 = .ok (.getfield 59, 3) := by decide +kernel
theorem dX7_plain_29 : decode cX7_plain 29 = .ok (.iconst 0, 1) := by decide +kernel
theorem dX7_plain_30 : decode cX7_plain 30 = .ok (.iaload, 1) := by decide +kernel
theorem dX7_plain_31 : decode cX7_plain 31 = .ok (.iload_n 1, 1) := by decide +kernel
theorem dX7_plain_32 : decode cX7_plain 32 = .ok (.iload_n 2, 1) := by decide +kernel
theorem dX7_plain_33 : decode cX7_plain 33 = .ok (.iload 4, 2) := by decide +kernel
theorem dX7_plain_35 : decode cX7_plain 35 = .ok (.invokevirtual 78, 3) := by decide +kernel
theorem dX7_plain_38 : decode cX7_plain 38 = .ok (.imul, 1) := by decide +kernel
theorem dX7_plain_39 : decode cX7_plain 39 = .ok (.bipush 100, 2) := by decide +kernel
theorem dX7_plain_41 : decode cX7_plain 41 = .ok (.idiv, 1) := by decide +kernel
theorem dX7_plain_42 : decode cX7_plain 42 = .ok (.istore 6, 2) := by decide +kernel
theorem dX7_plain_44 : decode cX7_plain 44 = .ok (.iload 6, 2) := by decide +kernel
theorem dX7_plain_46 : decode cX7_plain 46 = .ok (.aload 5, 2) := by decide +kernel
theorem dX7_plain_48 : decode cX7_plain 48 = .ok (.getfield 86, 3) := by decide +kernel
theorem dX7_plain_51 : decode cX7_plain 51 = .ok (.invokestatic 89, 3) := by decide +kernel
theorem dX7_plain_54 : decode cX7_plain 54 = .ok (.ireturn, 1) := by decide +kernel
theorem dX8_init_0 : decode cX8_init 0 = .ok (.aload_n 0, 1) := by decide +kernel
theorem dX8_init_1 : decode cX8_init 1 = .ok (.invokespecial 1, 3) := by decide +kernel
theorem dX8_init_4 : decode cX8_init 4 = .ok (.aload_n 0, 1) := by decide +kernel
theorem dX8_init_5 : decode cX8_init 5 = .ok (.bipush 20, 2) := by decide +kernel
theorem dX8_init_7 : decode cX8_init 7 = .ok (.newarray .int, 2) := by decide +kernel
theorem dX8_init_9 : decode cX8_init 9 = .ok (.putfield 7, 3) := by decide +kernel
theorem dX8_init_12 : decode cX8_init 12 = .ok (.aload_n 0, 1) := by decide +kernel
theorem dX8_init_13 : decode cX8_init 13 = .ok (.iconst 0, 1) := by decide +kernel
theorem dX8_init_14 : decode cX8_init 14 = .ok (.putfield 13, 3) := by decide +kernel
theorem dX8_init_17 : decode cX8_init 17 = .ok (.return_, 1) := by decide +kernel
theorem dX8_note_0 : decode cX8_note 0 = .ok (.aload_n 0, 1) := by decide +kernel
theorem dX8_note_1 : decode cX8_note 1 = .ok (.getfield 13, 3) := by decide +kernel
theorem dX8_note_4 : decode cX8_note 4 = .ok (.aload_n 0, 1) := by decide +kernel
theorem dX8_note_5 : decode cX8_note 5 = .ok (.getfield 7, 3) := by decide +kernel
theorem dX8_note_8 : decode cX8_note 8 = .ok (.arraylength, 1) := by decide +kernel
theorem dX8_note_9 : decode cX8_note 9 = .ok (.if_icmp .ge 13, 3) := by decide +kernel
theorem dX8_note_12 : decode cX8_note 12 = .ok (.aload_n 0, 1) := by decide +kernel
theorem dX8_note_13 : decode cX8_note 13 = .ok (.getfield 7, 3) := by decide +kernel
theorem dX8_note_16 : decode cX8_note 16 = .ok (.aload_n 0, 1) := by decide +kernel
theorem dX8_note_17 : decode cX8_note 17 = .ok (.getfield 13, 3) := by decide +kernel
theorem dX8_note_20 : decode cX8_note 20 = .ok (.iload_n 1, 1) := by decide +kernel
theorem dX8_note_21 : decode cX8_note 21 = .ok (.iastore, 1) := by decide +kernel
theorem dX8_note_22 : decode cX8_note 22 = .ok (.aload_n 0, 1) := by decide +kernel
theorem dX8_note_23 : decode cX8_note 23 = .ok (.dup, 1) := by decide +kernel
theorem dX8_note_24 : decode cX8_note 24 = .ok (.getfield 13, 3) := by decide +kernel
theorem dX8_note_27 : decode cX8_note 27 = .ok (.iconst 1, 1) := by decide +kernel
theorem dX8_note_28 : decode cX8_note 28 = .ok (.iadd, 1) := by decide +kernel
theorem dX8_note_29 : decode cX8_note 29 = .ok (.putfield 13, 3) := by decide +kernel
theorem dX8_note_32 : decode cX8_note 32 = .ok (.return_, 1) := by decide +kernel
theorem dX9_init_0 : decode cX9_init 0 = .ok (.aload_n 0, 1) := by decide +kernel
theorem dX9_init_1 : decode cX9_init 1 = .ok (.iload_n 1, 1) := by decide +kernel
theorem dX9_init_2 : decode cX9_init 2 = .ok (.iload_n 2, 1) := by decide +kernel
theorem dX9_init_3 : decode cX9_init 3 = .ok (.iload_n 3, 1) := by decide +kernel
theorem dX9_init_4 : decode cX9_init 4 = .ok (.iload 4, 2) := by decide +kernel
theorem dX9_init_6 : decode cX9_init 6 = .ok (.iload 5, 2) := by decide +kernel
theorem dX9_init_8 : decode cX9_init 8 = .ok (.invokespecial 1, 3) := by decide +kernel
theorem dX9_init_11 : decode cX9_init 11 = .ok (.return_, 1) := by decide +kernel
theorem dX9_draws_0 : decode cX9_draws 0 = .ok (.aload_n 2, 1) := by decide +kernel
theorem dX9_draws_1 : decode cX9_draws 1 = .ok (.bipush 11, 2) := by decide +kernel
theorem dX9_draws_3 : decode cX9_draws 3 = .ok (.invokevirtual 7, 3) := by decide +kernel
theorem dX9_draws_6 : decode cX9_draws 6 = .ok (.aload_n 0, 1) := by decide +kernel
theorem dX9_draws_7 : decode cX9_draws 7 = .ok (.iload_n 1, 1) := by decide +kernel
theorem dX9_draws_8 : decode cX9_draws 8 = .ok (.iconst 3, 1) := by decide +kernel
theorem dX9_draws_9 : decode cX9_draws 9 = .ok (.imul, 1) := by decide +kernel
theorem dX9_draws_10 : decode cX9_draws 10 = .ok (.aload_n 2, 1) := by decide +kernel
theorem dX9_draws_11 : decode cX9_draws 11 = .ok (.invokespecial 13, 3) := by decide +kernel
theorem dX9_draws_14 : decode cX9_draws 14 = .ok (.ireturn, 1) := by decide +kernel
theorem dX10_init_0 : decode cX10_init 0 = .ok (.aload_n 0, 1) := by decide +kernel
theorem dX10_init_1 : decode cX10_init 1 = .ok (.invokespecial 1, 3) := by decide +kernel
theorem dX10_init_4 : decode cX10_init 4 = .ok (.aload_n 0, 1) := by decide +kernel
theorem dX10_init_5 : decode cX10_init 5 = .ok (.iload_n 1, 1) := by decide +kernel
theorem dX10_init_6 : decode cX10_init 6 = .ok (.putfield 7, 3) := by decide +kernel
theorem dX10_init_9 : decode cX10_init 9 = .ok (.aload_n 0, 1) := by decide +kernel
theorem dX10_init_10 : decode cX10_init 10 = .ok (.iload_n 2, 1) := by decide +kernel
theorem dX10_init_11 : decode cX10_init 11 = .ok (.putfield 13, 3) := by decide +kernel
theorem dX10_init_14 : decode cX10_init 14 = .ok (.aload_n 0, 1) := by decide +kernel
theorem dX10_init_15 : decode cX10_init 15 = .ok (.iload_n 3, 1) := by decide +kernel
theorem dX10_init_16 : decode cX10_init 16 = .ok (.putfield 16, 3) := by decide +kernel
theorem dX10_init_19 : decode cX10_init 19 = .ok (.aload_n 0, 1) := by decide +kernel
theorem dX10_init_20 : decode cX10_init 20 = .ok (.iload 4, 2) := by decide +kernel
theorem dX10_init_22 : decode cX10_init 22 = .ok (.putfield 19, 3) := by decide +kernel
theorem dX10_init_25 : decode cX10_init 25 = .ok (.aload_n 0, 1) := by decide +kernel
theorem dX10_init_26 : decode cX10_init 26 = .ok (.iload 5, 2) := by decide +kernel
theorem dX10_init_28 : decode cX10_init 28 = .ok (.putfield 22, 3) := by decide +kernel
theorem dX10_init_31 : decode cX10_init 31 = .ok (.aload_n 0, 1) := by decide +kernel
theorem dX10_init_32 : decode cX10_init 32 = .ok (.iload 6, 2) := by decide +kernel
theorem dX10_init_34 : decode cX10_init 34 = .ok (.putfield 25, 3) := by decide +kernel
theorem dX10_init_37 : decode cX10_init 37 = .ok (.return_, 1) := by decide +kernel
theorem dX10_price_0 : decode cX10_price 0 = .ok (.iload_n 1, 1) := by decide +kernel
theorem dX10_price_1 : decode cX10_price 1 = .ok (.aload_n 0, 1) := by decide +kernel
theorem dX10_price_2 : decode cX10_price 2 = .ok (.getfield 16, 3) := by decide +kernel
theorem dX10_price_5 : decode cX10_price 5 = .ok (.invokestatic 28, 3) := by decide +kernel
theorem dX10_price_8 : decode cX10_price 8 = .ok (.aload_n 0, 1) := by decide +kernel
theorem dX10_price_9 : decode cX10_price 9 = .ok (.getfield 19, 3) := by decide +kernel
theorem dX10_price_12 : decode cX10_price 12 = .ok (.imul, 1) := by decide +kernel
theorem dX10_price_13 : decode cX10_price 13 = .ok (.ireturn, 1) := by decide +kernel
theorem dX10_wouldGive_0 : decode cX10_wouldGive 0 = .ok (.iload_n 1, 1) := by decide +kernel
theorem dX10_wouldGive_1 : decode cX10_wouldGive 1 = .ok (.aload_n 0, 1) := by decide +kernel
theorem dX10_wouldGive_2 : decode cX10_wouldGive 2 = .ok (.getfield 7, 3) := by decide +kernel
theorem dX10_wouldGive_5 : decode cX10_wouldGive 5 = .ok (.iadd, 1) := by decide +kernel
theorem dX10_wouldGive_6 : decode cX10_wouldGive 6 = .ok (.istore 4, 2) := by decide +kernel
theorem dX10_wouldGive_8 : decode cX10_wouldGive 8 = .ok (.iload_n 3, 1) := by decide +kernel
theorem dX10_wouldGive_9 : decode cX10_wouldGive 9 = .ok (.iload 4, 2) := by decide +kernel
theorem dX10_wouldGive_11 : decode cX10_wouldGive 11 = .ok (.if_icmp .lt 25, 3) := by decide +kernel
theorem dX10_wouldGive_14 : decode cX10_wouldGive 14 = .ok (.iload_n 3, 1) := by decide +kernel
theorem dX10_wouldGive_15 : decode cX10_wouldGive 15 = .ok (.iload 4, 2) := by decide +kernel
theorem dX10_wouldGive_17 : decode cX10_wouldGive 17 = .ok (.iload_n 2, 1) := by decide +kernel
theorem dX10_wouldGive_18 : decode cX10_wouldGive 18 = .ok (.aload_n 0, 1) := by decide +kernel
theorem dX10_wouldGive_19 : decode cX10_wouldGive 19 = .ok (.getfield 16, 3) := by decide +kernel
theorem dX10_wouldGive_22 : decode cX10_wouldGive 22 = .ok (.invokestatic 28, 3) := by decide +kernel
theorem dX10_wouldGive_25 : decode cX10_wouldGive 25 = .ok (.iadd, 1) := by decide +kernel
theorem dX10_wouldGive_26 : decode cX10_wouldGive 26 = .ok (.if_icmp .ge 10, 3) := by decide +kernel
theorem dX10_wouldGive_29 : decode cX10_wouldGive 29 = .ok (.aload_n 0, 1) := by decide +kernel
theorem dX10_wouldGive_30 : decode cX10_wouldGive 30 = .ok (.getfield 13, 3) := by decide +kernel
theorem dX10_wouldGive_33 : decode cX10_wouldGive 33 = .ok (.goto 4, 3) := by decide +kernel
theorem dX10_wouldGive_36 : decode cX10_wouldGive 36 = .ok (.iconst 0, 1) := by decide +kernel
theorem dX10_wouldGive_37 : decode cX10_wouldGive 37 = .ok (.ireturn, 1) := by decide +kernel
theorem dX10_givesAt_0 : decode cX10_givesAt 0 = .ok (.aload_n 0, 1) := by decide +kernel
theorem dX10_givesAt_1 : decode cX10_givesAt 1 = .ok (.aload_n 0, 1) := by decide +kernel
theorem dX10_givesAt_2 : decode cX10_givesAt 2 = .ok (.getfield 22, 3) := by decide +kernel
theorem dX10_givesAt_5 : decode cX10_givesAt 5 = .ok (.aload_n 0, 1) := by decide +kernel
theorem dX10_givesAt_6 : decode cX10_givesAt 6 = .ok (.getfield 25, 3) := by decide +kernel
theorem dX10_givesAt_9 : decode cX10_givesAt 9 = .ok (.iload_n 1, 1) := by decide +kernel
theorem dX10_givesAt_10 : decode cX10_givesAt 10 = .ok (.invokevirtual 34, 3) := by decide +kernel
theorem dX10_givesAt_13 : decode cX10_givesAt 13 = .ok (.ireturn, 1) := by decide +kernel
theorem dJ11_isValidCodePoint_9a6ad_0 : decode cJ11_isValidCodePoint_9a6ad 0 = .ok (.iload_n 0, 1) := by decide +kernel
theorem dJ11_isValidCodePoint_9a6ad_1 : decode cJ11_isValidCodePoint_9a6ad 1 = .ok (.bipush 16, 2) := by decide +kernel
theorem dJ11_isValidCodePoint_9a6ad_3 : decode cJ11_isValidCodePoint_9a6ad 3 = .ok (.iushr, 1) := by decide +kernel
theorem dJ11_isValidCodePoint_9a6ad_4 : decode cJ11_isValidCodePoint_9a6ad 4 = .ok (.istore_n 1, 1) := by decide +kernel
theorem dJ11_isValidCodePoint_9a6ad_5 : decode cJ11_isValidCodePoint_9a6ad 5 = .ok (.iload_n 1, 1) := by decide +kernel
theorem dJ11_isValidCodePoint_9a6ad_6 : decode cJ11_isValidCodePoint_9a6ad 6 = .ok (.bipush 17, 2) := by decide +kernel
theorem dJ11_isValidCodePoint_9a6ad_8 : decode cJ11_isValidCodePoint_9a6ad 8 = .ok (.if_icmp .ge 7, 3) := by decide +kernel
theorem dJ11_isValidCodePoint_9a6ad_11 : decode cJ11_isValidCodePoint_9a6ad 11 = .ok (.iconst 1, 1) := by decide +kernel
theorem dJ11_isValidCodePoint_9a6ad_12 : decode cJ11_isValidCodePoint_9a6ad 12 = .ok (.goto 4, 3) := by decide +kernel
theorem dJ11_isValidCodePoint_9a6ad_15 : decode cJ11_isValidCodePoint_9a6ad 15 = .ok (.iconst 0, 1) := by decide +kernel
theorem dJ11_isValidCodePoint_9a6ad_16 : decode cJ11_isValidCodePoint_9a6ad 16 = .ok (.ireturn, 1) := by decide +kernel
theorem dJ11_highSurrogate_5068e_0 : decode cJ11_highSurrogate_5068e 0 = .ok (.iload_n 0, 1) := by decide +kernel
theorem dJ11_highSurrogate_5068e_1 : decode cJ11_highSurrogate_5068e 1 = .ok (.bipush 10, 2) := by decide +kernel
theorem dJ11_highSurrogate_5068e_3 : decode cJ11_highSurrogate_5068e 3 = .ok (.iushr, 1) := by decide +kernel
theorem dJ11_highSurrogate_5068e_4 : decode cJ11_highSurrogate_5068e 4 = .ok (.ldc 110, 2) := by decide +kernel
theorem dJ11_highSurrogate_5068e_6 : decode cJ11_highSurrogate_5068e 6 = .ok (.iadd, 1) := by decide +kernel
theorem dJ11_highSurrogate_5068e_7 : decode cJ11_highSurrogate_5068e 7 = .ok (.i2c, 1) := by decide +kernel
theorem dJ11_highSurrogate_5068e_8 : decode cJ11_highSurrogate_5068e 8 = .ok (.ireturn, 1) := by decide +kernel
theorem dJ11_lowSurrogate_5068e_0 : decode cJ11_lowSurrogate_5068e 0 = .ok (.iload_n 0, 1) := by decide +kernel
theorem dJ11_lowSurrogate_5068e_1 : decode cJ11_lowSurrogate_5068e 1 = .ok (.sipush 1023, 3) := by decide +kernel
theorem dJ11_lowSurrogate_5068e_4 : decode cJ11_lowSurrogate_5068e 4 = .ok (.iand, 1) := by decide +kernel
theorem dJ11_lowSurrogate_5068e_5 : decode cJ11_lowSurrogate_5068e 5 = .ok (.ldc 76, 2) := by decide +kernel
theorem dJ11_lowSurrogate_5068e_7 : decode cJ11_lowSurrogate_5068e 7 = .ok (.iadd, 1) := by decide +kernel
theorem dJ11_lowSurrogate_5068e_8 : decode cJ11_lowSurrogate_5068e 8 = .ok (.i2c, 1) := by decide +kernel
theorem dJ11_lowSurrogate_5068e_9 : decode cJ11_lowSurrogate_5068e 9 = .ok (.ireturn, 1) := by decide +kernel
theorem dJ9_abs_0f7a4_0 : decode cJ9_abs_0f7a4 0 = .ok (.iload_n 0, 1) := by decide +kernel
theorem dJ9_abs_0f7a4_1 : decode cJ9_abs_0f7a4 1 = .ok (.ifCond .ge 8, 3) := by decide +kernel
theorem dJ9_abs_0f7a4_4 : decode cJ9_abs_0f7a4 4 = .ok (.iload_n 0, 1) := by decide +kernel
theorem dJ9_abs_0f7a4_5 : decode cJ9_abs_0f7a4 5 = .ok (.ineg, 1) := by decide +kernel
theorem dJ9_abs_0f7a4_6 : decode cJ9_abs_0f7a4 6 = .ok (.goto 4, 3) := by decide +kernel
theorem dJ9_abs_0f7a4_9 : decode cJ9_abs_0f7a4 9 = .ok (.iload_n 0, 1) := by decide +kernel
theorem dJ9_abs_0f7a4_10 : decode cJ9_abs_0f7a4 10 = .ok (.ireturn, 1) := by decide +kernel
theorem dJ9_max_7cf53_0 : decode cJ9_max_7cf53 0 = .ok (.iload_n 0, 1) := by decide +kernel
theorem dJ9_max_7cf53_1 : decode cJ9_max_7cf53 1 = .ok (.iload_n 1, 1) := by decide +kernel
theorem dJ9_max_7cf53_2 : decode cJ9_max_7cf53 2 = .ok (.if_icmp .lt 7, 3) := by decide +kernel
theorem dJ9_max_7cf53_5 : decode cJ9_max_7cf53 5 = .ok (.iload_n 0, 1) := by decide +kernel
theorem dJ9_max_7cf53_6 : decode cJ9_max_7cf53 6 = .ok (.goto 4, 3) := by decide +kernel
theorem dJ9_max_7cf53_9 : decode cJ9_max_7cf53 9 = .ok (.iload_n 1, 1) := by decide +kernel
theorem dJ9_max_7cf53_10 : decode cJ9_max_7cf53 10 = .ok (.ireturn, 1) := by decide +kernel
theorem dJ9_max_f86c9_0 : decode cJ9_max_f86c9 0 = .ok (.lload_n 0, 1) := by decide +kernel
theorem dJ9_max_f86c9_1 : decode cJ9_max_f86c9 1 = .ok (.lload_n 2, 1) := by decide +kernel
theorem dJ9_max_f86c9_2 : decode cJ9_max_f86c9 2 = .ok (.lcmp, 1) := by decide +kernel
theorem dJ9_max_f86c9_3 : decode cJ9_max_f86c9 3 = .ok (.ifCond .lt 7, 3) := by decide +kernel
theorem dJ9_max_f86c9_6 : decode cJ9_max_f86c9 6 = .ok (.lload_n 0, 1) := by decide +kernel
theorem dJ9_max_f86c9_7 : decode cJ9_max_f86c9 7 = .ok (.goto 4, 3) := by decide +kernel
theorem dJ9_max_f86c9_10 : decode cJ9_max_f86c9 10 = .ok (.lload_n 2, 1) := by decide +kernel
theorem dJ9_max_f86c9_11 : decode cJ9_max_f86c9 11 = .ok (.lreturn, 1) := by decide +kernel
theorem dJ9_min_7cf53_0 : decode cJ9_min_7cf53 0 = .ok (.iload_n 0, 1) := by decide +kernel
theorem dJ9_min_7cf53_1 : decode cJ9_min_7cf53 1 = .ok (.iload_n 1, 1) := by decide +kernel
theorem dJ9_min_7cf53_2 : decode cJ9_min_7cf53 2 = .ok (.if_icmp .gt 7, 3) := by decide +kernel
theorem dJ9_min_7cf53_5 : decode cJ9_min_7cf53 5 = .ok (.iload_n 0, 1) := by decide +kernel
theorem dJ9_min_7cf53_6 : decode cJ9_min_7cf53 6 = .ok (.goto 4, 3) := by decide +kernel
theorem dJ9_min_7cf53_9 : decode cJ9_min_7cf53 9 = .ok (.iload_n 1, 1) := by decide +kernel
theorem dJ9_min_7cf53_10 : decode cJ9_min_7cf53 10 = .ok (.ireturn, 1) := by decide +kernel
theorem dJ0_length_8abf5_0 : decode cJ0_length_8abf5 0 = .ok (.aload_n 0, 1) := by decide +kernel
theorem dJ0_length_8abf5_1 : decode cJ0_length_8abf5 1 = .ok (.getfield 9, 3) := by decide +kernel
theorem dJ0_length_8abf5_4 : decode cJ0_length_8abf5 4 = .ok (.arraylength, 1) := by decide +kernel
theorem dJ0_length_8abf5_5 : decode cJ0_length_8abf5 5 = .ok (.aload_n 0, 1) := by decide +kernel
theorem dJ0_length_8abf5_6 : decode cJ0_length_8abf5 6 = .ok (.invokevirtual 335, 3) := by decide +kernel
theorem dJ0_length_8abf5_9 : decode cJ0_length_8abf5 9 = .ok (.ishr, 1) := by decide +kernel
theorem dJ0_length_8abf5_10 : decode cJ0_length_8abf5 10 = .ok (.ireturn, 1) := by decide +kernel
theorem dJ0_charAt_5068e_0 : decode cJ0_charAt_5068e 0 = .ok (.aload_n 0, 1) := by decide +kernel
theorem dJ0_charAt_5068e_1 : decode cJ0_charAt_5068e 1 = .ok (.invokevirtual 492, 3) := by decide +kernel
theorem dJ0_charAt_5068e_4 : decode cJ0_charAt_5068e 4 = .ok (.ifCond .eq 12, 3) := by decide +kernel
theorem dJ0_charAt_5068e_7 : decode cJ0_charAt_5068e 7 = .ok (.aload_n 0, 1) := by decide +kernel
theorem dJ0_charAt_5068e_8 : decode cJ0_charAt_5068e 8 = .ok (.getfield 9, 3) := by decide +kernel
theorem dJ0_charAt_5068e_11 : decode cJ0_charAt_5068e 11 = .ok (.iload_n 1, 1) := by decide +kernel
theorem dJ0_charAt_5068e_12 : decode cJ0_charAt_5068e 12 = .ok (.invokestatic 495, 3) := by decide +kernel
theorem dJ0_charAt_5068e_15 : decode cJ0_charAt_5068e 15 = .ok (.ireturn, 1) := by decide +kernel
theorem dJ0_charAt_5068e_16 : decode cJ0_charAt_5068e 16 = .ok (.aload_n 0, 1) := by decide +kernel
theorem dJ0_charAt_5068e_17 : decode cJ0_charAt_5068e 17 = .ok (.getfield 9, 3) := by decide +kernel
theorem dJ0_charAt_5068e_20 : decode cJ0_charAt_5068e 20 = .ok (.iload_n 1, 1) := by decide +kernel
theorem dJ0_charAt_5068e_21 : decode cJ0_charAt_5068e 21 = .ok (.invokestatic 498, 3) := by decide +kernel
theorem dJ0_charAt_5068e_24 : decode cJ0_charAt_5068e 24 = .ok (.ireturn, 1) := by decide +kernel
theorem dJ0_indexOf_0f7a4_0 : decode cJ0_indexOf_0f7a4 0 = .ok (.aload_n 0, 1) := by decide +kernel
theorem dJ0_indexOf_0f7a4_1 : decode cJ0_indexOf_0f7a4 1 = .ok (.iload_n 1, 1) := by decide +kernel
theorem dJ0_indexOf_0f7a4_2 : decode cJ0_indexOf_0f7a4 2 = .ok (.iconst 0, 1) := by decide +kernel
theorem dJ0_indexOf_0f7a4_3 : decode cJ0_indexOf_0f7a4 3 = .ok (.invokevirtual 633, 3) := by decide +kernel
theorem dJ0_indexOf_0f7a4_6 : decode cJ0_indexOf_0f7a4 6 = .ok (.ireturn, 1) := by decide +kernel
theorem dJ0_indexOf_7cf53_0 : decode cJ0_indexOf_7cf53 0 = .ok (.aload_n 0, 1) := by decide +kernel
theorem dJ0_indexOf_7cf53_1 : decode cJ0_indexOf_7cf53 1 = .ok (.invokevirtual 492, 3) := by decide +kernel
theorem dJ0_indexOf_7cf53_4 : decode cJ0_indexOf_7cf53 4 = .ok (.ifCond .eq 19, 3) := by decide +kernel
theorem dJ0_indexOf_7cf53_7 : decode cJ0_indexOf_7cf53 7 = .ok (.aload_n 0, 1) := by decide +kernel
theorem dJ0_indexOf_7cf53_8 : decode cJ0_indexOf_7cf53 8 = .ok (.getfield 9, 3) := by decide +kernel
theorem dJ0_indexOf_7cf53_11 : decode cJ0_indexOf_7cf53 11 = .ok (.iload_n 1, 1) := by decide +kernel
theorem dJ0_indexOf_7cf53_12 : decode cJ0_indexOf_7cf53 12 = .ok (.iload_n 2, 1) := by decide +kernel
theorem dJ0_indexOf_7cf53_13 : decode cJ0_indexOf_7cf53 13 = .ok (.aload_n 0, 1) := by decide +kernel
theorem dJ0_indexOf_7cf53_14 : decode cJ0_indexOf_7cf53 14 = .ok (.invokevirtual 505, 3) := by decide +kernel
theorem dJ0_indexOf_7cf53_17 : decode cJ0_indexOf_7cf53 17 = .ok (.invokestatic 637, 3) := by decide +kernel
theorem dJ0_indexOf_7cf53_20 : decode cJ0_indexOf_7cf53 20 = .ok (.goto 16, 3) := by decide +kernel
theorem dJ0_indexOf_7cf53_23 : decode cJ0_indexOf_7cf53 23 = .ok (.aload_n 0, 1) := by decide +kernel
theorem dJ0_indexOf_7cf53_24 : decode cJ0_indexOf_7cf53 24 = .ok (.getfield 9, 3) := by decide +kernel
theorem dJ0_indexOf_7cf53_27 : decode cJ0_indexOf_7cf53 27 = .ok (.iload_n 1, 1) := by decide +kernel
theorem dJ0_indexOf_7cf53_28 : decode cJ0_indexOf_7cf53 28 = .ok (.iload_n 2, 1) := by decide +kernel
theorem dJ0_indexOf_7cf53_29 : decode cJ0_indexOf_7cf53 29 = .ok (.aload_n 0, 1) := by decide +kernel
theorem dJ0_indexOf_7cf53_30 : decode cJ0_indexOf_7cf53 30 = .ok (.invokevirtual 505, 3) := by decide +kernel
theorem dJ0_indexOf_7cf53_33 : decode cJ0_indexOf_7cf53 33 = .ok (.invokestatic 640, 3) := by decide +kernel
theorem dJ0_indexOf_7cf53_36 : decode cJ0_indexOf_7cf53 36 = .ok (.ireturn, 1) := by decide +kernel
theorem dJ0_coder_7d493_0 : decode cJ0_coder_7d493 0 = .ok (.getstatic 38, 3) := by decide +kernel
theorem dJ0_coder_7d493_3 : decode cJ0_coder_7d493 3 = .ok (.ifCond .eq 10, 3) := by decide +kernel
theorem dJ0_coder_7d493_6 : decode cJ0_coder_7d493 6 = .ok (.aload_n 0, 1) := by decide +kernel
theorem dJ0_coder_7d493_7 : decode cJ0_coder_7d493 7 = .ok (.getfield 15, 3) := by decide +kernel
theorem dJ0_coder_7d493_10 : decode cJ0_coder_7d493 10 = .ok (.goto 4, 3) := by decide +kernel
theorem dJ0_coder_7d493_13 : decode cJ0_coder_7d493 13 = .ok (.iconst 1, 1) := by decide +kernel
theorem dJ0_coder_7d493_14 : decode cJ0_coder_7d493 14 = .ok (.ireturn, 1) := by decide +kernel
theorem dJ0_isLatin1_aae02_0 : decode cJ0_isLatin1_aae02 0 = .ok (.getstatic 38, 3) := by decide +kernel
theorem dJ0_isLatin1_aae02_3 : decode cJ0_isLatin1_aae02 3 = .ok (.ifCond .eq 14, 3) := by decide +kernel
theorem dJ0_isLatin1_aae02_6 : decode cJ0_isLatin1_aae02 6 = .ok (.aload_n 0, 1) := by decide +kernel
theorem dJ0_isLatin1_aae02_7 : decode cJ0_isLatin1_aae02 7 = .ok (.getfield 15, 3) := by decide +kernel
theorem dJ0_isLatin1_aae02_10 : decode cJ0_isLatin1_aae02 10 = .ok (.ifCond .ne 7, 3) := by decide +kernel
theorem dJ0_isLatin1_aae02_13 : decode cJ0_isLatin1_aae02 13 = .ok (.iconst 1, 1) := by decide +kernel
theorem dJ0_isLatin1_aae02_14 : decode cJ0_isLatin1_aae02 14 = .ok (.goto 4, 3) := by decide +kernel
theorem dJ0_isLatin1_aae02_17 : decode cJ0_isLatin1_aae02 17 = .ok (.iconst 0, 1) := by decide +kernel
theorem dJ0_isLatin1_aae02_18 : decode cJ0_isLatin1_aae02 18 = .ok (.ireturn, 1) := by decide +kernel
theorem dJ0_checkIndex_df160_0 : decode cJ0_checkIndex_df160 0 = .ok (.iload_n 0, 1) := by decide +kernel
theorem dJ0_checkIndex_df160_1 : decode cJ0_checkIndex_df160 1 = .ok (.iload_n 1, 1) := by decide +kernel
theorem dJ0_checkIndex_df160_2 : decode cJ0_checkIndex_df160 2 = .ok (.getstatic 1053, 3) := by decide +kernel
theorem dJ0_checkIndex_df160_5 : decode cJ0_checkIndex_df160 5 = .ok (.invokestatic 1059, 3) := by decide +kernel
theorem dJ0_checkIndex_df160_8 : decode cJ0_checkIndex_df160 8 = .ok (.pop, 1) := by decide +kernel
theorem dJ0_checkIndex_df160_9 : decode cJ0_checkIndex_df160 9 = .ok (.return_, 1) := by decide +kernel
theorem dJ0_checkBoundsBeginEnd_23922_0 : decode cJ0_checkBoundsBeginEnd_23922 0 = .ok (.iload_n 0, 1) := by decide +kernel
theorem dJ0_checkBoundsBeginEnd_23922_1 : decode cJ0_checkBoundsBeginEnd_23922 1 = .ok (.iload_n 1, 1) := by decide +kernel
theorem dJ0_checkBoundsBeginEnd_23922_2 : decode cJ0_checkBoundsBeginEnd_23922 2 = .ok (.iload_n 2, 1) := by decide +kernel
theorem dJ0_checkBoundsBeginEnd_23922_3 : decode cJ0_checkBoundsBeginEnd_23922 3 = .ok (.getstatic 1053, 3) := by decide +kernel
theorem dJ0_checkBoundsBeginEnd_23922_6 : decode cJ0_checkBoundsBeginEnd_23922 6 = .ok (.invokestatic 1062, 3) := by decide +kernel
theorem dJ0_checkBoundsBeginEnd_23922_9 : decode cJ0_checkBoundsBeginEnd_23922 9 = .ok (.pop, 1) := by decide +kernel
theorem dJ0_checkBoundsBeginEnd_23922_10 : decode cJ0_checkBoundsBeginEnd_23922 10 = .ok (.return_, 1) := by decide +kernel
theorem dJ1_charAt_3b067_0 : decode cJ1_charAt_3b067 0 = .ok (.iload_n 1, 1) := by decide +kernel
theorem dJ1_charAt_3b067_1 : decode cJ1_charAt_3b067 1 = .ok (.aload_n 0, 1) := by decide +kernel
theorem dJ1_charAt_3b067_2 : decode cJ1_charAt_3b067 2 = .ok (.arraylength, 1) := by decide +kernel
theorem dJ1_charAt_3b067_3 : decode cJ1_charAt_3b067 3 = .ok (.invokestatic 9, 3) := by decide +kernel
theorem dJ1_charAt_3b067_6 : decode cJ1_charAt_3b067 6 = .ok (.aload_n 0, 1) := by decide +kernel
theorem dJ1_charAt_3b067_7 : decode cJ1_charAt_3b067 7 = .ok (.iload_n 1, 1) := by decide +kernel
theorem dJ1_charAt_3b067_8 : decode cJ1_charAt_3b067 8 = .ok (.baload, 1) := by decide +kernel
theorem dJ1_charAt_3b067_9 : decode cJ1_charAt_3b067 9 = .ok (.sipush 255, 3) := by decide +kernel
theorem dJ1_charAt_3b067_12 : decode cJ1_charAt_3b067 12 = .ok (.iand, 1) := by decide +kernel
theorem dJ1_charAt_3b067_13 : decode cJ1_charAt_3b067 13 = .ok (.i2c, 1) := by decide +kernel
theorem dJ1_charAt_3b067_14 : decode cJ1_charAt_3b067 14 = .ok (.ireturn, 1) := by decide +kernel
theorem dJ1_canEncode_9a6ad_0 : decode cJ1_canEncode_9a6ad 0 = .ok (.iload_n 0, 1) := by decide +kernel
theorem dJ1_canEncode_9a6ad_1 : decode cJ1_canEncode_9a6ad 1 = .ok (.ifCond .lt 14, 3) := by decide +kernel
theorem dJ1_canEncode_9a6ad_4 : decode cJ1_canEncode_9a6ad 4 = .ok (.iload_n 0, 1) := by decide +kernel
theorem dJ1_canEncode_9a6ad_5 : decode cJ1_canEncode_9a6ad 5 = .ok (.sipush 255, 3) := by decide +kernel
theorem dJ1_canEncode_9a6ad_8 : decode cJ1_canEncode_9a6ad 8 = .ok (.if_icmp .gt 7, 3) := by decide +kernel
theorem dJ1_canEncode_9a6ad_11 : decode cJ1_canEncode_9a6ad 11 = .ok (.iconst 1, 1) := by decide +kernel
theorem dJ1_canEncode_9a6ad_12 : decode cJ1_canEncode_9a6ad 12 = .ok (.goto 4, 3) := by decide +kernel
theorem dJ1_canEncode_9a6ad_15 : decode cJ1_canEncode_9a6ad 15 = .ok (.iconst 0, 1) := by decide +kernel
theorem dJ1_canEncode_9a6ad_16 : decode cJ1_canEncode_9a6ad 16 = .ok (.ireturn, 1) := by decide +kernel
theorem dJ1_indexOf_4cfef_0 : decode cJ1_indexOf_4cfef 0 = .ok (.iload_n 1, 1) := by decide +kernel
theorem dJ1_indexOf_4cfef_1 : decode cJ1_indexOf_4cfef 1 = .ok (.invokestatic 88, 3) := by decide +kernel
theorem dJ1_indexOf_4cfef_4 : decode cJ1_indexOf_4cfef 4 = .ok (.ifCond .ne 5, 3) := by decide +kernel
theorem dJ1_indexOf_4cfef_7 : decode cJ1_indexOf_4cfef 7 = .ok (.iconst (-1), 1) := by decide +kernel
theorem dJ1_indexOf_4cfef_8 : decode cJ1_indexOf_4cfef 8 = .ok (.ireturn, 1) := by decide +kernel
theorem dJ1_indexOf_4cfef_9 : decode cJ1_indexOf_4cfef 9 = .ok (.iload_n 2, 1) := by decide +kernel
theorem dJ1_indexOf_4cfef_10 : decode cJ1_indexOf_4cfef 10 = .ok (.iconst 0, 1) := by decide +kernel
theorem dJ1_indexOf_4cfef_11 : decode cJ1_indexOf_4cfef 11 = .ok (.invokestatic 92, 3) := by decide +kernel
theorem dJ1_indexOf_4cfef_14 : decode cJ1_indexOf_4cfef 14 = .ok (.istore_n 2, 1) := by decide +kernel
theorem dJ1_indexOf_4cfef_15 : decode cJ1_indexOf_4cfef 15 = .ok (.iload_n 3, 1) := by decide +kernel
theorem dJ1_indexOf_4cfef_16 : decode cJ1_indexOf_4cfef 16 = .ok (.aload_n 0, 1) := by decide +kernel
theorem dJ1_indexOf_4cfef_17 : decode cJ1_indexOf_4cfef 17 = .ok (.arraylength, 1) := by decide +kernel
theorem dJ1_indexOf_4cfef_18 : decode cJ1_indexOf_4cfef 18 = .ok (.invokestatic 38, 3) := by decide +kernel
theorem dJ1_indexOf_4cfef_21 : decode cJ1_indexOf_4cfef 21 = .ok (.istore_n 3, 1) := by decide +kernel
theorem dJ1_indexOf_4cfef_22 : decode cJ1_indexOf_4cfef 22 = .ok (.iload_n 2, 1) := by decide +kernel
theorem dJ1_indexOf_4cfef_23 : decode cJ1_indexOf_4cfef 23 = .ok (.iload_n 3, 1) := by decide +kernel
theorem dJ1_indexOf_4cfef_24 : decode cJ1_indexOf_4cfef 24 = .ok (.if_icmp .lt 5, 3) := by decide +kernel
theorem dJ1_indexOf_4cfef_27 : decode cJ1_indexOf_4cfef 27 = .ok (.iconst (-1), 1) := by decide +kernel
theorem dJ1_indexOf_4cfef_28 : decode cJ1_indexOf_4cfef 28 = .ok (.ireturn, 1) := by decide +kernel
theorem dJ1_indexOf_4cfef_29 : decode cJ1_indexOf_4cfef 29 = .ok (.aload_n 0, 1) := by decide +kernel
theorem dJ1_indexOf_4cfef_30 : decode cJ1_indexOf_4cfef 30 = .ok (.iload_n 1, 1) := by decide +kernel
theorem dJ1_indexOf_4cfef_31 : decode cJ1_indexOf_4cfef 31 = .ok (.iload_n 2, 1) := by decide +kernel
theorem dJ1_indexOf_4cfef_32 : decode cJ1_indexOf_4cfef 32 = .ok (.iload_n 3, 1) := by decide +kernel
theorem dJ1_indexOf_4cfef_33 : decode cJ1_indexOf_4cfef 33 = .ok (.invokestatic 95, 3) := by decide +kernel
theorem dJ1_indexOf_4cfef_36 : decode cJ1_indexOf_4cfef 36 = .ok (.ireturn, 1) := by decide +kernel
theorem dJ1_indexOfChar_4cfef_0 : decode cJ1_indexOfChar_4cfef 0 = .ok (.iload_n 1, 1) := by decide +kernel
theorem dJ1_indexOfChar_4cfef_1 : decode cJ1_indexOfChar_4cfef 1 = .ok (.i2b, 1) := by decide +kernel
theorem dJ1_indexOfChar_4cfef_2 : decode cJ1_indexOfChar_4cfef 2 = .ok (.istore 4, 2) := by decide +kernel
theorem dJ1_indexOfChar_4cfef_4 : decode cJ1_indexOfChar_4cfef 4 = .ok (.iload_n 2, 1) := by decide +kernel
theorem dJ1_indexOfChar_4cfef_5 : decode cJ1_indexOfChar_4cfef 5 = .ok (.istore 5, 2) := by decide +kernel
theorem dJ1_indexOfChar_4cfef_7 : decode cJ1_indexOfChar_4cfef 7 = .ok (.iload 5, 2) := by decide +kernel
theorem dJ1_indexOfChar_4cfef_9 : decode cJ1_indexOfChar_4cfef 9 = .ok (.iload_n 3, 1) := by decide +kernel
theorem dJ1_indexOfChar_4cfef_10 : decode cJ1_indexOfChar_4cfef 10 = .ok (.if_icmp .ge 21, 3) := by decide +kernel
theorem dJ1_indexOfChar_4cfef_13 : decode cJ1_indexOfChar_4cfef 13 = .ok (.aload_n 0, 1) := by decide +kernel
theorem dJ1_indexOfChar_4cfef_14 : decode cJ1_indexOfChar_4cfef 14 = .ok (.iload 5, 2) := by decide +kernel
theorem dJ1_indexOfChar_4cfef_16 : decode cJ1_indexOfChar_4cfef 16 = .ok (.baload, 1) := by decide +kernel
theorem dJ1_indexOfChar_4cfef_17 : decode cJ1_indexOfChar_4cfef 17 = .ok (.iload 4, 2) := by decide +kernel
theorem dJ1_indexOfChar_4cfef_19 : decode cJ1_indexOfChar_4cfef 19 = .ok (.if_icmp .ne 6, 3) := by decide +kernel
theorem dJ1_indexOfChar_4cfef_22 : decode cJ1_indexOfChar_4cfef 22 = .ok (.iload 5, 2) := by decide +kernel
theorem dJ1_indexOfChar_4cfef_24 : decode cJ1_indexOfChar_4cfef 24 = .ok (.ireturn, 1) := by decide +kernel
theorem dJ1_indexOfChar_4cfef_25 : decode cJ1_indexOfChar_4cfef 25 = .ok (.iinc 5 1, 3) := by decide +kernel
theorem dJ1_indexOfChar_4cfef_28 : decode cJ1_indexOfChar_4cfef 28 = .ok (.goto (-21), 3) := by decide +kernel
theorem dJ1_indexOfChar_4cfef_31 : decode cJ1_indexOfChar_4cfef 31 = .ok (.iconst (-1), 1) := by decide +kernel
theorem dJ1_indexOfChar_4cfef_32 : decode cJ1_indexOfChar_4cfef 32 = .ok (.ireturn, 1) := by decide +kernel
theorem dJ7_fill_53178_0 : decode cJ7_fill_53178 0 = .ok (.iconst 0, 1) := by decide +kernel
theorem dJ7_fill_53178_1 : decode cJ7_fill_53178 1 = .ok (.istore_n 2, 1) := by decide +kernel
theorem dJ7_fill_53178_2 : decode cJ7_fill_53178 2 = .ok (.aload_n 0, 1) := by decide +kernel
theorem dJ7_fill_53178_3 : decode cJ7_fill_53178 3 = .ok (.arraylength, 1) := by decide +kernel
theorem dJ7_fill_53178_4 : decode cJ7_fill_53178 4 = .ok (.istore_n 3, 1) := by decide +kernel
theorem dJ7_fill_53178_5 : decode cJ7_fill_53178 5 = .ok (.iload_n 2, 1) := by decide +kernel
theorem dJ7_fill_53178_6 : decode cJ7_fill_53178 6 = .ok (.iload_n 3, 1) := by decide +kernel
theorem dJ7_fill_53178_7 : decode cJ7_fill_53178 7 = .ok (.if_icmp .ge 13, 3) := by decide +kernel
theorem dJ7_fill_53178_10 : decode cJ7_fill_53178 10 = .ok (.aload_n 0, 1) := by decide +kernel
theorem dJ7_fill_53178_11 : decode cJ7_fill_53178 11 = .ok (.iload_n 2, 1) := by decide +kernel
theorem dJ7_fill_53178_12 : decode cJ7_fill_53178 12 = .ok (.iload_n 1, 1) := by decide +kernel
theorem dJ7_fill_53178_13 : decode cJ7_fill_53178 13 = .ok (.iastore, 1) := by decide +kernel
theorem dJ7_fill_53178_14 : decode cJ7_fill_53178 14 = .ok (.iinc 2 1, 3) := by decide +kernel
theorem dJ7_fill_53178_17 : decode cJ7_fill_53178 17 = .ok (.goto (-12), 3) := by decide +kernel
theorem dJ7_fill_53178_20 : decode cJ7_fill_53178 20 = .ok (.return_, 1) := by decide +kernel
theorem dJ7_copyOf_9075b_0 : decode cJ7_copyOf_9075b 0 = .ok (.iload_n 1, 1) := by decide +kernel
theorem dJ7_copyOf_9075b_1 : decode cJ7_copyOf_9075b 1 = .ok (.aload_n 0, 1) := by decide +kernel
theorem dJ7_copyOf_9075b_2 : decode cJ7_copyOf_9075b 2 = .ok (.arraylength, 1) := by decide +kernel
theorem dJ7_copyOf_9075b_3 : decode cJ7_copyOf_9075b 3 = .ok (.if_icmp .ne 11, 3) := by decide +kernel
theorem dJ7_copyOf_9075b_6 : decode cJ7_copyOf_9075b 6 = .ok (.aload_n 0, 1) := by decide +kernel
theorem dJ7_copyOf_9075b_7 : decode cJ7_copyOf_9075b 7 = .ok (.invokevirtual 310, 3) := by decide +kernel
theorem dJ7_copyOf_9075b_10 : decode cJ7_copyOf_9075b 10 = .ok (.checkcast 311, 3) := by decide +kernel
theorem dJ7_copyOf_9075b_13 : decode cJ7_copyOf_9075b 13 = .ok (.areturn, 1) := by decide +kernel
theorem dJ7_copyOf_9075b_14 : decode cJ7_copyOf_9075b 14 = .ok (.iload_n 1, 1) := by decide +kernel
theorem dJ7_copyOf_9075b_15 : decode cJ7_copyOf_9075b 15 = .ok (.newarray .byte, 2) := by decide +kernel
theorem dJ7_copyOf_9075b_17 : decode cJ7_copyOf_9075b 17 = .ok (.astore_n 2, 1) := by decide +kernel
theorem dJ7_copyOf_9075b_18 : decode cJ7_copyOf_9075b 18 = .ok (.aload_n 0, 1) := by decide +kernel
theorem dJ7_copyOf_9075b_19 : decode cJ7_copyOf_9075b 19 = .ok (.iconst 0, 1) := by decide +kernel
theorem dJ7_copyOf_9075b_20 : decode cJ7_copyOf_9075b 20 = .ok (.aload_n 2, 1) := by decide +kernel
theorem dJ7_copyOf_9075b_21 : decode cJ7_copyOf_9075b 21 = .ok (.iconst 0, 1) := by decide +kernel
theorem dJ7_copyOf_9075b_22 : decode cJ7_copyOf_9075b 22 = .ok (.aload_n 0, 1) := by decide +kernel
theorem dJ7_copyOf_9075b_23 : decode cJ7_copyOf_9075b 23 = .ok (.arraylength, 1) := by decide +kernel
theorem dJ7_copyOf_9075b_24 : decode cJ7_copyOf_9075b 24 = .ok (.iload_n 1, 1) := by decide +kernel
theorem dJ7_copyOf_9075b_25 : decode cJ7_copyOf_9075b 25 = .ok (.invokestatic 304, 3) := by decide +kernel
theorem dJ7_copyOf_9075b_28 : decode cJ7_copyOf_9075b 28 = .ok (.invokestatic 150, 3) := by decide +kernel
theorem dJ7_copyOf_9075b_31 : decode cJ7_copyOf_9075b 31 = .ok (.aload_n 2, 1) := by decide +kernel
theorem dJ7_copyOf_9075b_32 : decode cJ7_copyOf_9075b 32 = .ok (.areturn, 1) := by decide +kernel
theorem dJ3_checkIndex_8e157_0 : decode cJ3_checkIndex_8e157 0 = .ok (.iload_n 0, 1) := by decide +kernel
theorem dJ3_checkIndex_8e157_1 : decode cJ3_checkIndex_8e157 1 = .ok (.ifCond .lt 8, 3) := by decide +kernel
theorem dJ3_checkIndex_8e157_4 : decode cJ3_checkIndex_8e157 4 = .ok (.iload_n 0, 1) := by decide +kernel
theorem dJ3_checkIndex_8e157_5 : decode cJ3_checkIndex_8e157 5 = .ok (.iload_n 1, 1) := by decide +kernel
theorem dJ3_checkIndex_8e157_6 : decode cJ3_checkIndex_8e157 6 = .ok (.if_icmp .lt 10, 3) := by decide +kernel
theorem dJ3_checkIndex_8e157_9 : decode cJ3_checkIndex_8e157 9 = .ok (.aload_n 2, 1) := by decide +kernel
theorem dJ3_checkIndex_8e157_10 : decode cJ3_checkIndex_8e157 10 = .ok (.iload_n 0, 1) := by decide +kernel
theorem dJ3_checkIndex_8e157_11 : decode cJ3_checkIndex_8e157 11 = .ok (.iload_n 1, 1) := by decide +kernel
theorem dJ3_checkIndex_8e157_12 : decode cJ3_checkIndex_8e157 12 = .ok (.invokestatic 95, 3) := by decide +kernel
theorem dJ3_checkIndex_8e157_15 : decode cJ3_checkIndex_8e157 15 = .ok (.athrow, 1) := by decide +kernel
theorem dJ3_checkIndex_8e157_16 : decode cJ3_checkIndex_8e157 16 = .ok (.iload_n 0, 1) := by decide +kernel
theorem dJ3_checkIndex_8e157_17 : decode cJ3_checkIndex_8e157 17 = .ok (.ireturn, 1) := by decide +kernel
theorem dJ3_checkFromToIndex_8c36e_0 : decode cJ3_checkFromToIndex_8c36e 0 = .ok (.iload_n 0, 1) := by decide +kernel
theorem dJ3_checkFromToIndex_8c36e_1 : decode cJ3_checkFromToIndex_8c36e 1 = .ok (.ifCond .lt 13, 3) := by decide +kernel
theorem dJ3_checkFromToIndex_8c36e_4 : decode cJ3_checkFromToIndex_8c36e 4 = .ok (.iload_n 0, 1) := by decide +kernel
theorem dJ3_checkFromToIndex_8c36e_5 : decode cJ3_checkFromToIndex_8c36e 5 = .ok (.iload_n 1, 1) := by decide +kernel
theorem dJ3_checkFromToIndex_8c36e_6 : decode cJ3_checkFromToIndex_8c36e 6 = .ok (.if_icmp .gt 8, 3) := by decide +kernel
theorem dJ3_checkFromToIndex_8c36e_9 : decode cJ3_checkFromToIndex_8c36e 9 = .ok (.iload_n 1, 1) := by decide +kernel
theorem dJ3_checkFromToIndex_8c36e_10 : decode cJ3_checkFromToIndex_8c36e 10 = .ok (.iload_n 2, 1) := by decide +kernel
theorem dJ3_checkFromToIndex_8c36e_11 : decode cJ3_checkFromToIndex_8c36e 11 = .ok (.if_icmp .le 11, 3) := by decide +kernel
theorem dJ3_checkFromToIndex_8c36e_14 : decode cJ3_checkFromToIndex_8c36e 14 = .ok (.aload_n 3, 1) := by decide +kernel
theorem dJ3_checkFromToIndex_8c36e_15 : decode cJ3_checkFromToIndex_8c36e 15 = .ok (.iload_n 0, 1) := by decide +kernel
theorem dJ3_checkFromToIndex_8c36e_16 : decode cJ3_checkFromToIndex_8c36e 16 = .ok (.iload_n 1, 1) := by decide +kernel
theorem dJ3_checkFromToIndex_8c36e_17 : decode cJ3_checkFromToIndex_8c36e 17 = .ok (.iload_n 2, 1) := by decide +kernel
theorem dJ3_checkFromToIndex_8c36e_18 : decode cJ3_checkFromToIndex_8c36e 18 = .ok (.invokestatic 99, 3) := by decide +kernel
theorem dJ3_checkFromToIndex_8c36e_21 : decode cJ3_checkFromToIndex_8c36e 21 = .ok (.athrow, 1) := by decide +kernel
theorem dJ3_checkFromToIndex_8c36e_22 : decode cJ3_checkFromToIndex_8c36e 22 = .ok (.iload_n 0, 1) := by decide +kernel
theorem dJ3_checkFromToIndex_8c36e_23 : decode cJ3_checkFromToIndex_8c36e 23 = .ok (.ireturn, 1) := by decide +kernel
