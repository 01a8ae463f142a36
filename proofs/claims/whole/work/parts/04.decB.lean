theorem dX11_init_0 : decode cX11_init 0 = .ok (.aload_n 0, 1) := by decide +kernel
theorem dX11_init_1 : decode cX11_init 1 = .ok (.invokespecial 3, 3) := by decide +kernel
theorem dX11_init_4 : decode cX11_init 4 = .ok (.aload_n 0, 1) := by decide +kernel
theorem dX11_init_5 : decode cX11_init 5 = .ok (.new 9, 3) := by decide +kernel
theorem dX11_init_8 : decode cX11_init 8 = .ok (.dup, 1) := by decide +kernel
theorem dX11_init_9 : decode cX11_init 9 = .ok (.invokespecial 11, 3) := by decide +kernel
theorem dX11_init_12 : decode cX11_init 12 = .ok (.putfield 12, 3) := by decide +kernel
theorem dX11_init_15 : decode cX11_init 15 = .ok (.aload_n 0, 1) := by decide +kernel
theorem dX11_init_16 : decode cX11_init 16 = .ok (.new 9, 3) := by decide +kernel
theorem dX11_init_19 : decode cX11_init 19 = .ok (.dup, 1) := by decide +kernel
theorem dX11_init_20 : decode cX11_init 20 = .ok (.invokespecial 11, 3) := by decide +kernel
theorem dX11_init_23 : decode cX11_init 23 = .ok (.putfield 18, 3) := by decide +kernel
theorem dX11_init_26 : decode cX11_init 26 = .ok (.aload_n 0, 1) := by decide +kernel
theorem dX11_init_27 : decode cX11_init 27 = .ok (.iconst 0, 1) := by decide +kernel
theorem dX11_init_28 : decode cX11_init 28 = .ok (.putfield 21, 3) := by decide +kernel
theorem dX11_init_31 : decode cX11_init 31 = .ok (.aload_n 0, 1) := by decide +kernel
theorem dX11_init_32 : decode cX11_init 32 = .ok (.new 25, 3) := by decide +kernel
theorem dX11_init_35 : decode cX11_init 35 = .ok (.dup, 1) := by decide +kernel
theorem dX11_init_36 : decode cX11_init 36 = .ok (.invokespecial 27, 3) := by decide +kernel
theorem dX11_init_39 : decode cX11_init 39 = .ok (.putfield 28, 3) := by decide +kernel
theorem dX11_init_42 : decode cX11_init 42 = .ok (.aload_n 0, 1) := by decide +kernel
theorem dX11_init_43 : decode cX11_init 43 = .ok (.bipush 40, 2) := by decide +kernel
theorem dX11_init_45 : decode cX11_init 45 = .ok (.newarray .int, 2) := by decide +kernel
theorem dX11_init_47 : decode cX11_init 47 = .ok (.putfield 32, 3) := by decide +kernel
theorem dX11_init_50 : decode cX11_init 50 = .ok (.aload_n 0, 1) := by decide +kernel
theorem dX11_init_51 : decode cX11_init 51 = .ok (.bipush 40, 2) := by decide +kernel
theorem dX11_init_53 : decode cX11_init 53 = .ok (.newarray .int, 2) := by decide +kernel
theorem dX11_init_55 : decode cX11_init 55 = .ok (.putfield 36, 3) := by decide +kernel
theorem dX11_init_58 : decode cX11_init 58 = .ok (.aload_n 0, 1) := by decide +kernel
theorem dX11_init_59 : decode cX11_init 59 = .ok (.bipush 40, 2) := by decide +kernel
theorem dX11_init_61 : decode cX11_init 61 = .ok (.newarray .int, 2) := by decide +kernel
theorem dX11_init_63 : decode cX11_init 63 = .ok (.putfield 39, 3) := by decide +kernel
theorem dX11_init_66 : decode cX11_init 66 = .ok (.aload_n 0, 1) := by decide +kernel
theorem dX11_init_67 : decode cX11_init 67 = .ok (.bipush 40, 2) := by decide +kernel
theorem dX11_init_69 : decode cX11_init 69 = .ok (.newarray .int, 2) := by decide +kernel
theorem dX11_init_71 : decode cX11_init 71 = .ok (.putfield 42, 3) := by decide +kernel
theorem dX11_init_74 : decode cX11_init 74 = .ok (.aload_n 0, 1) := by decide +kernel
theorem dX11_init_75 : decode cX11_init 75 = .ok (.bipush 24, 2) := by decide +kernel
theorem dX11_init_77 : decode cX11_init 77 = .ok (.bipush 40, 2) := by decide +kernel
theorem dX11_init_79 : decode cX11_init 79 = .ok (.multianewarray 45 2, 4) := by decide +kernel
theorem dX11_init_83 : decode cX11_init 83 = .ok (.putfield 47, 3) := by decide +kernel
theorem dX11_init_86 : decode cX11_init 86 = .ok (.aload_n 0, 1) := by decide +kernel
theorem dX11_init_87 : decode cX11_init 87 = .ok (.bipush 8, 2) := by decide +kernel
theorem dX11_init_89 : decode cX11_init 89 = .ok (.newarray .int, 2) := by decide +kernel
theorem dX11_init_91 : decode cX11_init 91 = .ok (.putfield 50, 3) := by decide +kernel
theorem dX11_init_94 : decode cX11_init 94 = .ok (.return_, 1) := by decide +kernel
theorem dX11_pause_0 : decode cX11_pause 0 = .ok (.iload_n 1, 1) := by decide +kernel
theorem dX11_pause_1 : decode cX11_pause 1 = .ok (.iconst 0, 1) := by decide +kernel
theorem dX11_pause_2 : decode cX11_pause 2 = .ok (.bipush 6, 2) := by decide +kernel
theorem dX11_pause_4 : decode cX11_pause 4 = .ok (.invokestatic 53, 3) := by decide +kernel
theorem dX11_pause_7 : decode cX11_pause 7 = .ok (.ifCond .eq 5, 3) := by decide +kernel
theorem dX11_pause_10 : decode cX11_pause 10 = .ok (.iconst (-1), 1) := by decide +kernel
theorem dX11_pause_11 : decode cX11_pause 11 = .ok (.ireturn, 1) := by decide +kernel
theorem dX11_pause_12 : decode cX11_pause 12 = .ok (.iload_n 2, 1) := by decide +kernel
theorem dX11_pause_13 : decode cX11_pause 13 = .ok (.invokestatic 57, 3) := by decide +kernel
theorem dX11_pause_16 : decode cX11_pause 16 = .ok (.ifCond .ne 24, 3) := by decide +kernel
theorem dX11_pause_19 : decode cX11_pause 19 = .ok (.iload_n 3, 1) := by decide +kernel
theorem dX11_pause_20 : decode cX11_pause 20 = .ok (.iconst 0, 1) := by decide +kernel
theorem dX11_pause_21 : decode cX11_pause 21 = .ok (.bipush 99, 2) := by decide +kernel
theorem dX11_pause_23 : decode cX11_pause 23 = .ok (.invokestatic 53, 3) := by decide +kernel
theorem dX11_pause_26 : decode cX11_pause 26 = .ok (.ifCond .ne 14, 3) := by decide +kernel
theorem dX11_pause_29 : decode cX11_pause 29 = .ok (.iload 4, 2) := by decide +kernel
theorem dX11_pause_31 : decode cX11_pause 31 = .ok (.iconst 0, 1) := by decide +kernel
theorem dX11_pause_32 : decode cX11_pause 32 = .ok (.bipush 9, 2) := by decide +kernel
theorem dX11_pause_34 : decode cX11_pause 34 = .ok (.invokestatic 53, 3) := by decide +kernel
theorem dX11_pause_37 : decode cX11_pause 37 = .ok (.ifCond .eq 6, 3) := by decide +kernel
theorem dX11_pause_40 : decode cX11_pause 40 = .ok (.bipush (-2), 2) := by decide +kernel
theorem dX11_pause_42 : decode cX11_pause 42 = .ok (.ireturn, 1) := by decide +kernel
theorem dX11_pause_43 : decode cX11_pause 43 = .ok (.aload_n 0, 1) := by decide +kernel
theorem dX11_pause_44 : decode cX11_pause 44 = .ok (.getfield 12, 3) := by decide +kernel
theorem dX11_pause_47 : decode cX11_pause 47 = .ok (.getfield 61, 3) := by decide +kernel
theorem dX11_pause_50 : decode cX11_pause 50 = .ok (.bipush 8, 2) := by decide +kernel
theorem dX11_pause_52 : decode cX11_pause 52 = .ok (.if_icmp .lt 6, 3) := by decide +kernel
theorem dX11_pause_55 : decode cX11_pause 55 = .ok (.bipush (-4), 2) := by decide +kernel
theorem dX11_pause_57 : decode cX11_pause 57 = .ok (.ireturn, 1) := by decide +kernel
theorem dX11_pause_58 : decode cX11_pause 58 = .ok (.aload_n 0, 1) := by decide +kernel
theorem dX11_pause_59 : decode cX11_pause 59 = .ok (.getfield 12, 3) := by decide +kernel
theorem dX11_pause_62 : decode cX11_pause 62 = .ok (.getfield 61, 3) := by decide +kernel
theorem dX11_pause_65 : decode cX11_pause 65 = .ok (.istore 5, 2) := by decide +kernel
theorem dX11_pause_67 : decode cX11_pause 67 = .ok (.aload_n 0, 1) := by decide +kernel
theorem dX11_pause_68 : decode cX11_pause 68 = .ok (.getfield 12, 3) := by decide +kernel
theorem dX11_pause_71 : decode cX11_pause 71 = .ok (.getfield 65, 3) := by decide +kernel
theorem dX11_pause_74 : decode cX11_pause 74 = .ok (.iload 5, 2) := by decide +kernel
theorem dX11_pause_76 : decode cX11_pause 76 = .ok (.iload 5, 2) := by decide +kernel
theorem dX11_pause_78 : decode cX11_pause 78 = .ok (.iload_n 1, 1) := by decide +kernel
theorem dX11_pause_79 : decode cX11_pause 79 = .ok (.iload_n 2, 1) := by decide +kernel
theorem dX11_pause_80 : decode cX11_pause 80 = .ok (.iload_n 3, 1) := by decide +kernel
theorem dX11_pause_81 : decode cX11_pause 81 = .ok (.iload 4, 2) := by decide +kernel
theorem dX11_pause_83 : decode cX11_pause 83 = .ok (.invokestatic 69, 3) := by decide +kernel
theorem dX11_pause_86 : decode cX11_pause 86 = .ok (.aastore, 1) := by decide +kernel
theorem dX11_pause_87 : decode cX11_pause 87 = .ok (.aload_n 0, 1) := by decide +kernel
theorem dX11_pause_88 : decode cX11_pause 88 = .ok (.getfield 12, 3) := by decide +kernel
theorem dX11_pause_91 : decode cX11_pause 91 = .ok (.getfield 73, 3) := by decide +kernel
theorem dX11_pause_94 : decode cX11_pause 94 = .ok (.iload 5, 2) := by decide +kernel
theorem dX11_pause_96 : decode cX11_pause 96 = .ok (.bipush 10, 2) := by decide +kernel
theorem dX11_pause_98 : decode cX11_pause 98 = .ok (.iastore, 1) := by decide +kernel
theorem dX11_pause_99 : decode cX11_pause 99 = .ok (.aload_n 0, 1) := by decide +kernel
theorem dX11_pause_100 : decode cX11_pause 100 = .ok (.getfield 12, 3) := by decide +kernel
theorem dX11_pause_103 : decode cX11_pause 103 = .ok (.getfield 76, 3) := by decide +kernel
theorem dX11_pause_106 : decode cX11_pause 106 = .ok (.iload 5, 2) := by decide +kernel
theorem dX11_pause_108 : decode cX11_pause 108 = .ok (.iconst 0, 1) := by decide +kernel
theorem dX11_pause_109 : decode cX11_pause 109 = .ok (.iastore, 1) := by decide +kernel
theorem dX11_pause_110 : decode cX11_pause 110 = .ok (.aload_n 0, 1) := by decide +kernel
theorem dX11_pause_111 : decode cX11_pause 111 = .ok (.getfield 12, 3) := by decide +kernel
theorem dX11_pause_114 : decode cX11_pause 114 = .ok (.dup, 1) := by decide +kernel
theorem dX11_pause_115 : decode cX11_pause 115 = .ok (.getfield 61, 3) := by decide +kernel
theorem dX11_pause_118 : decode cX11_pause 118 = .ok (.iconst 1, 1) := by decide +kernel
theorem dX11_pause_119 : decode cX11_pause 119 = .ok (.iadd, 1) := by decide +kernel
theorem dX11_pause_120 : decode cX11_pause 120 = .ok (.putfield 61, 3) := by decide +kernel
theorem dX11_pause_123 : decode cX11_pause 123 = .ok (.iload 5, 2) := by decide +kernel
theorem dX11_pause_125 : decode cX11_pause 125 = .ok (.ireturn, 1) := by decide +kernel
theorem dX11_of_0 : decode cX11_of 0 = .ok (.aload_n 0, 1) := by decide +kernel
theorem dX11_of_1 : decode cX11_of 1 = .ok (.iload_n 1, 1) := by decide +kernel
theorem dX11_of_2 : decode cX11_of 2 = .ok (.invokevirtual 79, 3) := by decide +kernel
theorem dX11_of_5 : decode cX11_of 5 = .ok (.ifCond .eq 5, 3) := by decide +kernel
theorem dX11_of_8 : decode cX11_of 8 = .ok (.iconst (-1), 1) := by decide +kernel
theorem dX11_of_9 : decode cX11_of 9 = .ok (.ireturn, 1) := by decide +kernel
theorem dX11_of_10 : decode cX11_of 10 = .ok (.aload_n 0, 1) := by decide +kernel
theorem dX11_of_11 : decode cX11_of 11 = .ok (.getfield 12, 3) := by decide +kernel
theorem dX11_of_14 : decode cX11_of 14 = .ok (.getfield 65, 3) := by decide +kernel
theorem dX11_of_17 : decode cX11_of 17 = .ok (.iload_n 1, 1) := by decide +kernel
theorem dX11_of_18 : decode cX11_of 18 = .ok (.aaload, 1) := by decide +kernel
theorem dX11_of_19 : decode cX11_of 19 = .ok (.astore_n 3, 1) := by decide +kernel
theorem dX11_of_20 : decode cX11_of 20 = .ok (.iload_n 2, 1) := by decide +kernel
theorem dX11_of_21 : decode cX11_of 21 = .ok (.tableswitch 51 0 3 #[31, 36, 41, 46], 31) := by decide +kernel
theorem dX11_of_52 : decode cX11_of 52 = .ok (.aload_n 3, 1) := by decide +kernel
theorem dX11_of_53 : decode cX11_of 53 = .ok (.getfield 82, 3) := by decide +kernel
theorem dX11_of_56 : decode cX11_of 56 = .ok (.ireturn, 1) := by decide +kernel
theorem dX11_of_57 : decode cX11_of 57 = .ok (.aload_n 3, 1) := by decide +kernel
theorem dX11_of_58 : decode cX11_of 58 = .ok (.getfield 87, 3) := by decide +kernel
theorem dX11_of_61 : decode cX11_of 61 = .ok (.ireturn, 1) := by decide +kernel
theorem dX11_of_62 : decode cX11_of 62 = .ok (.aload_n 3, 1) := by decide +kernel
theorem dX11_of_63 : decode cX11_of 63 = .ok (.getfield 90, 3) := by decide +kernel
theorem dX11_of_66 : decode cX11_of 66 = .ok (.ireturn, 1) := by decide +kernel
theorem dX11_of_67 : decode cX11_of 67 = .ok (.aload_n 3, 1) := by decide +kernel
theorem dX11_of_68 : decode cX11_of 68 = .ok (.getfield 93, 3) := by decide +kernel
theorem dX11_of_71 : decode cX11_of 71 = .ok (.ireturn, 1) := by decide +kernel
theorem dX11_of_72 : decode cX11_of 72 = .ok (.iconst (-1), 1) := by decide +kernel
theorem dX11_of_73 : decode cX11_of 73 = .ok (.ireturn, 1) := by decide +kernel
theorem dX11_set_0 : decode cX11_set 0 = .ok (.iload_n 1, 1) := by decide +kernel
theorem dX11_set_1 : decode cX11_set 1 = .ok (.iconst 0, 1) := by decide +kernel
theorem dX11_set_2 : decode cX11_set 2 = .ok (.aload_n 0, 1) := by decide +kernel
theorem dX11_set_3 : decode cX11_set 3 = .ok (.getfield 12, 3) := by decide +kernel
theorem dX11_set_6 : decode cX11_set 6 = .ok (.getfield 96, 3) := by decide +kernel
theorem dX11_set_9 : decode cX11_set 9 = .ok (.arraylength, 1) := by decide +kernel
theorem dX11_set_10 : decode cX11_set 10 = .ok (.iconst 1, 1) := by decide +kernel
theorem dX11_set_11 : decode cX11_set 11 = .ok (.isub, 1) := by decide +kernel
theorem dX11_set_12 : decode cX11_set 12 = .ok (.invokestatic 53, 3) := by decide +kernel
theorem dX11_set_15 : decode cX11_set 15 = .ok (.ifCond .eq 5, 3) := by decide +kernel
theorem dX11_set_18 : decode cX11_set 18 = .ok (.iconst (-1), 1) := by decide +kernel
theorem dX11_set_19 : decode cX11_set 19 = .ok (.ireturn, 1) := by decide +kernel
theorem dX11_set_20 : decode cX11_set 20 = .ok (.iload_n 2, 1) := by decide +kernel
theorem dX11_set_21 : decode cX11_set 21 = .ok (.getstatic 99, 3) := by decide +kernel
theorem dX11_set_24 : decode cX11_set 24 = .ok (.iload_n 1, 1) := by decide +kernel
theorem dX11_set_25 : decode cX11_set 25 = .ok (.iaload, 1) := by decide +kernel
theorem dX11_set_26 : decode cX11_set 26 = .ok (.getstatic 102, 3) := by decide +kernel
theorem dX11_set_29 : decode cX11_set 29 = .ok (.iload_n 1, 1) := by decide +kernel
theorem dX11_set_30 : decode cX11_set 30 = .ok (.iaload, 1) := by decide +kernel
theorem dX11_set_31 : decode cX11_set 31 = .ok (.invokestatic 53, 3) := by decide +kernel
theorem dX11_set_34 : decode cX11_set 34 = .ok (.ifCond .eq 6, 3) := by decide +kernel
theorem dX11_set_37 : decode cX11_set 37 = .ok (.bipush (-2), 2) := by decide +kernel
theorem dX11_set_39 : decode cX11_set 39 = .ok (.ireturn, 1) := by decide +kernel
theorem dX11_set_40 : decode cX11_set 40 = .ok (.aload_n 0, 1) := by decide +kernel
theorem dX11_set_41 : decode cX11_set 41 = .ok (.getfield 12, 3) := by decide +kernel
theorem dX11_set_44 : decode cX11_set 44 = .ok (.getfield 96, 3) := by decide +kernel
theorem dX11_set_47 : decode cX11_set 47 = .ok (.iload_n 1, 1) := by decide +kernel
theorem dX11_set_48 : decode cX11_set 48 = .ok (.iaload, 1) := by decide +kernel
theorem dX11_set_49 : decode cX11_set 49 = .ok (.istore_n 3, 1) := by decide +kernel
theorem dX11_set_50 : decode cX11_set 50 = .ok (.aload_n 0, 1) := by decide +kernel
theorem dX11_set_51 : decode cX11_set 51 = .ok (.getfield 12, 3) := by decide +kernel
theorem dX11_set_54 : decode cX11_set 54 = .ok (.getfield 96, 3) := by decide +kernel
theorem dX11_set_57 : decode cX11_set 57 = .ok (.iload_n 1, 1) := by decide +kernel
theorem dX11_set_58 : decode cX11_set 58 = .ok (.iload_n 2, 1) := by decide +kernel
theorem dX11_set_59 : decode cX11_set 59 = .ok (.iastore, 1) := by decide +kernel
theorem dX11_set_60 : decode cX11_set 60 = .ok (.iload_n 3, 1) := by decide +kernel
theorem dX11_set_61 : decode cX11_set 61 = .ok (.ireturn, 1) := by decide +kernel
theorem dX11_later_0 : decode cX11_later 0 = .ok (.aload_n 0, 1) := by decide +kernel
theorem dX11_later_1 : decode cX11_later 1 = .ok (.iload_n 1, 1) := by decide +kernel
theorem dX11_later_2 : decode cX11_later 2 = .ok (.invokevirtual 79, 3) := by decide +kernel
theorem dX11_later_5 : decode cX11_later 5 = .ok (.ifCond .eq 5, 3) := by decide +kernel
theorem dX11_later_8 : decode cX11_later 8 = .ok (.iconst (-1), 1) := by decide +kernel
theorem dX11_later_9 : decode cX11_later 9 = .ok (.ireturn, 1) := by decide +kernel
theorem dX11_later_10 : decode cX11_later 10 = .ok (.iload_n 2, 1) := by decide +kernel
theorem dX11_later_11 : decode cX11_later 11 = .ok (.iconst 0, 1) := by decide +kernel
theorem dX11_later_12 : decode cX11_later 12 = .ok (.bipush 10, 2) := by decide +kernel
theorem dX11_later_14 : decode cX11_later 14 = .ok (.invokestatic 53, 3) := by decide +kernel
theorem dX11_later_17 : decode cX11_later 17 = .ok (.ifCond .ne 21, 3) := by decide +kernel
theorem dX11_later_20 : decode cX11_later 20 = .ok (.iload_n 3, 1) := by decide +kernel
theorem dX11_later_21 : decode cX11_later 21 = .ok (.iconst 0, 1) := by decide +kernel
theorem dX11_later_22 : decode cX11_later 22 = .ok (.bipush 10, 2) := by decide +kernel
theorem dX11_later_24 : decode cX11_later 24 = .ok (.invokestatic 53, 3) := by decide +kernel
theorem dX11_later_27 : decode cX11_later 27 = .ok (.ifCond .ne 11, 3) := by decide +kernel
theorem dX11_later_30 : decode cX11_later 30 = .ok (.iload_n 2, 1) := by decide +kernel
theorem dX11_later_31 : decode cX11_later 31 = .ok (.iload_n 3, 1) := by decide +kernel
theorem dX11_later_32 : decode cX11_later 32 = .ok (.iadd, 1) := by decide +kernel
theorem dX11_later_33 : decode cX11_later 33 = .ok (.bipush 10, 2) := by decide +kernel
theorem dX11_later_35 : decode cX11_later 35 = .ok (.if_icmp .le 6, 3) := by decide +kernel
theorem dX11_later_38 : decode cX11_later 38 = .ok (.bipush (-2), 2) := by decide +kernel
theorem dX11_later_40 : decode cX11_later 40 = .ok (.ireturn, 1) := by decide +kernel
theorem dX11_later_41 : decode cX11_later 41 = .ok (.aload_n 0, 1) := by decide +kernel
theorem dX11_later_42 : decode cX11_later 42 = .ok (.getfield 12, 3) := by decide +kernel
theorem dX11_later_45 : decode cX11_later 45 = .ok (.getfield 73, 3) := by decide +kernel
theorem dX11_later_48 : decode cX11_later 48 = .ok (.iload_n 1, 1) := by decide +kernel
theorem dX11_later_49 : decode cX11_later 49 = .ok (.iload_n 2, 1) := by decide +kernel
theorem dX11_later_50 : decode cX11_later 50 = .ok (.iastore, 1) := by decide +kernel
theorem dX11_later_51 : decode cX11_later 51 = .ok (.aload_n 0, 1) := by decide +kernel
theorem dX11_later_52 : decode cX11_later 52 = .ok (.getfield 12, 3) := by decide +kernel
theorem dX11_later_55 : decode cX11_later 55 = .ok (.getfield 76, 3) := by decide +kernel
theorem dX11_later_58 : decode cX11_later 58 = .ok (.iload_n 1, 1) := by decide +kernel
theorem dX11_later_59 : decode cX11_later 59 = .ok (.iload_n 3, 1) := by decide +kernel
theorem dX11_later_60 : decode cX11_later 60 = .ok (.iastore, 1) := by decide +kernel
theorem dX11_later_61 : decode cX11_later 61 = .ok (.iconst 1, 1) := by decide +kernel
theorem dX11_later_62 : decode cX11_later 62 = .ok (.ireturn, 1) := by decide +kernel
theorem dX11_feed_0 : decode cX11_feed 0 = .ok (.iload_n 3, 1) := by decide +kernel
theorem dX11_feed_1 : decode cX11_feed 1 = .ok (.iconst 1, 1) := by decide +kernel
theorem dX11_feed_2 : decode cX11_feed 2 = .ok (.bipush 8, 2) := by decide +kernel
theorem dX11_feed_4 : decode cX11_feed 4 = .ok (.invokestatic 53, 3) := by decide +kernel
theorem dX11_feed_7 : decode cX11_feed 7 = .ok (.ifCond .eq 6, 3) := by decide +kernel
theorem dX11_feed_10 : decode cX11_feed 10 = .ok (.bipush (-2), 2) := by decide +kernel
theorem dX11_feed_12 : decode cX11_feed 12 = .ok (.ireturn, 1) := by decide +kernel
theorem dX11_feed_13 : decode cX11_feed 13 = .ok (.aload_n 0, 1) := by decide +kernel
theorem dX11_feed_14 : decode cX11_feed 14 = .ok (.getfield 12, 3) := by decide +kernel
theorem dX11_feed_17 : decode cX11_feed 17 = .ok (.getfield 105, 3) := by decide +kernel
theorem dX11_feed_20 : decode cX11_feed 20 = .ok (.iload_n 3, 1) := by decide +kernel
theorem dX11_feed_21 : decode cX11_feed 21 = .ok (.iadd, 1) := by decide +kernel
theorem dX11_feed_22 : decode cX11_feed 22 = .ok (.bipush 120, 2) := by decide +kernel
theorem dX11_feed_24 : decode cX11_feed 24 = .ok (.if_icmp .le 6, 3) := by decide +kernel
theorem dX11_feed_27 : decode cX11_feed 27 = .ok (.bipush (-4), 2) := by decide +kernel
theorem dX11_feed_29 : decode cX11_feed 29 = .ok (.ireturn, 1) := by decide +kernel
theorem dX11_feed_30 : decode cX11_feed 30 = .ok (.iload_n 3, 1) := by decide +kernel
theorem dX11_feed_31 : decode cX11_feed 31 = .ok (.iconst 1, 1) := by decide +kernel
theorem dX11_feed_32 : decode cX11_feed 32 = .ok (.isub, 1) := by decide +kernel
theorem dX11_feed_33 : decode cX11_feed 33 = .ok (.istore 4, 2) := by decide +kernel
theorem dX11_feed_35 : decode cX11_feed 35 = .ok (.iload 4, 2) := by decide +kernel
theorem dX11_feed_37 : decode cX11_feed 37 = .ok (.ifCond .lt 46, 3) := by decide +kernel
theorem dX11_feed_40 : decode cX11_feed 40 = .ok (.aload_n 0, 1) := by decide +kernel
theorem dX11_feed_41 : decode cX11_feed 41 = .ok (.getfield 12, 3) := by decide +kernel
theorem dX11_feed_44 : decode cX11_feed 44 = .ok (.getfield 108, 3) := by decide +kernel
theorem dX11_feed_47 : decode cX11_feed 47 = .ok (.aload_n 0, 1) := by decide +kernel
theorem dX11_feed_48 : decode cX11_feed 48 = .ok (.getfield 12, 3) := by decide +kernel
theorem dX11_feed_51 : decode cX11_feed 51 = .ok (.getfield 105, 3) := by decide +kernel
theorem dX11_feed_54 : decode cX11_feed 54 = .ok (.lload_n 1, 1) := by decide +kernel
theorem dX11_feed_55 : decode cX11_feed 55 = .ok (.bipush 8, 2) := by decide +kernel
theorem dX11_feed_57 : decode cX11_feed 57 = .ok (.iload 4, 2) := by decide +kernel
theorem dX11_feed_59 : decode cX11_feed 59 = .ok (.imul, 1) := by decide +kernel
theorem dX11_feed_60 : decode cX11_feed 60 = .ok (.lshr, 1) := by decide +kernel
theorem dX11_feed_61 : decode cX11_feed 61 = .ok (.l2i, 1) := by decide +kernel
theorem dX11_feed_62 : decode cX11_feed 62 = .ok (.i2b, 1) := by decide +kernel
theorem dX11_feed_63 : decode cX11_feed 63 = .ok (.bastore, 1) := by decide +kernel
theorem dX11_feed_64 : decode cX11_feed 64 = .ok (.aload_n 0, 1) := by decide +kernel
theorem dX11_feed_65 : decode cX11_feed 65 = .ok (.getfield 12, 3) := by decide +kernel
theorem dX11_feed_68 : decode cX11_feed 68 = .ok (.dup, 1) := by decide +kernel
theorem dX11_feed_69 : decode cX11_feed 69 = .ok (.getfield 105, 3) := by decide +kernel
theorem dX11_feed_72 : decode cX11_feed 72 = .ok (.iconst 1, 1) := by decide +kernel
theorem dX11_feed_73 : decode cX11_feed 73 = .ok (.iadd, 1) := by decide +kernel
theorem dX11_feed_74 : decode cX11_feed 74 = .ok (.putfield 105, 3) := by decide +kernel
theorem dX11_feed_77 : decode cX11_feed 77 = .ok (.iinc 4 (-1), 3) := by decide +kernel
theorem dX11_feed_80 : decode cX11_feed 80 = .ok (.goto (-45), 3) := by decide +kernel
theorem dX11_feed_83 : decode cX11_feed 83 = .ok (.aload_n 0, 1) := by decide +kernel
theorem dX11_feed_84 : decode cX11_feed 84 = .ok (.getfield 12, 3) := by decide +kernel
theorem dX11_feed_87 : decode cX11_feed 87 = .ok (.getfield 105, 3) := by decide +kernel
theorem dX11_feed_90 : decode cX11_feed 90 = .ok (.ireturn, 1) := by decide +kernel
theorem dX11_law_0 : decode cX11_law 0 = .ok (.aload_n 0, 1) := by decide +kernel
theorem dX11_law_1 : decode cX11_law 1 = .ok (.getfield 12, 3) := by decide +kernel
theorem dX11_law_4 : decode cX11_law 4 = .ok (.getfield 112, 3) := by decide +kernel
theorem dX11_law_7 : decode cX11_law 7 = .ok (.iconst 5, 1) := by decide +kernel
theorem dX11_law_8 : decode cX11_law 8 = .ok (.if_icmp .lt 6, 3) := by decide +kernel
theorem dX11_law_11 : decode cX11_law 11 = .ok (.bipush (-4), 2) := by decide +kernel
theorem dX11_law_13 : decode cX11_law 13 = .ok (.ireturn, 1) := by decide +kernel
theorem dX11_law_14 : decode cX11_law 14 = .ok (.new 115, 3) := by decide +kernel
theorem dX11_law_17 : decode cX11_law 17 = .ok (.dup, 1) := by decide +kernel
theorem dX11_law_18 : decode cX11_law 18 = .ok (.aload_n 0, 1) := by decide +kernel
theorem dX11_law_19 : decode cX11_law 19 = .ok (.getfield 12, 3) := by decide +kernel
theorem dX11_law_22 : decode cX11_law 22 = .ok (.getfield 108, 3) := by decide +kernel
theorem dX11_law_25 : decode cX11_law 25 = .ok (.aload_n 0, 1) := by decide +kernel
theorem dX11_law_26 : decode cX11_law 26 = .ok (.getfield 12, 3) := by decide +kernel
theorem dX11_law_29 : decode cX11_law 29 = .ok (.getfield 105, 3) := by decide +kernel
theorem dX11_law_32 : decode cX11_law 32 = .ok (.invokestatic 117, 3) := by decide +kernel
theorem dX11_law_35 : decode cX11_law 35 = .ok (.invokespecial 123, 3) := by decide +kernel
theorem dX11_law_38 : decode cX11_law 38 = .ok (.astore_n 1, 1) := by decide +kernel
theorem dX11_law_39 : decode cX11_law 39 = .ok (.aload_n 0, 1) := by decide +kernel
theorem dX11_law_40 : decode cX11_law 40 = .ok (.getfield 12, 3) := by decide +kernel
theorem dX11_law_43 : decode cX11_law 43 = .ok (.iconst 0, 1) := by decide +kernel
theorem dX11_law_44 : decode cX11_law 44 = .ok (.putfield 105, 3) := by decide +kernel
theorem dX11_law_47 : decode cX11_law 47 = .ok (.aload_n 1, 1) := by decide +kernel
theorem dX11_law_48 : decode cX11_law 48 = .ok (.getfield 126, 3) := by decide +kernel
theorem dX11_law_51 : decode cX11_law 51 = .ok (.ifCond .ne 11, 3) := by decide +kernel
theorem dX11_law_54 : decode cX11_law 54 = .ok (.bipush (-10), 2) := by decide +kernel
theorem dX11_law_56 : decode cX11_law 56 = .ok (.aload_n 1, 1) := by decide +kernel
theorem dX11_law_57 : decode cX11_law 57 = .ok (.getfield 129, 3) := by decide +kernel
theorem dX11_law_60 : decode cX11_law 60 = .ok (.isub, 1) := by decide +kernel
theorem dX11_law_61 : decode cX11_law 61 = .ok (.ireturn, 1) := by decide +kernel
theorem dX11_law_62 : decode cX11_law 62 = .ok (.aload_n 0, 1) := by decide +kernel
theorem dX11_law_63 : decode cX11_law 63 = .ok (.getfield 12, 3) := by decide +kernel
theorem dX11_law_66 : decode cX11_law 66 = .ok (.getfield 132, 3) := by decide +kernel
theorem dX11_law_69 : decode cX11_law 69 = .ok (.aload_n 0, 1) := by decide +kernel
theorem dX11_law_70 : decode cX11_law 70 = .ok (.getfield 12, 3) := by decide +kernel
theorem dX11_law_73 : decode cX11_law 73 = .ok (.getfield 112, 3) := by decide +kernel
theorem dX11_law_76 : decode cX11_law 76 = .ok (.aload_n 1, 1) := by decide +kernel
theorem dX11_law_77 : decode cX11_law 77 = .ok (.aastore, 1) := by decide +kernel
theorem dX11_law_78 : decode cX11_law 78 = .ok (.aload_n 0, 1) := by decide +kernel
theorem dX11_law_79 : decode cX11_law 79 = .ok (.getfield 12, 3) := by decide +kernel
theorem dX11_law_82 : decode cX11_law 82 = .ok (.dup, 1) := by decide +kernel
theorem dX11_law_83 : decode cX11_law 83 = .ok (.getfield 112, 3) := by decide +kernel
theorem dX11_law_86 : decode cX11_law 86 = .ok (.iconst 1, 1) := by decide +kernel
theorem dX11_law_87 : decode cX11_law 87 = .ok (.iadd, 1) := by decide +kernel
theorem dX11_law_88 : decode cX11_law 88 = .ok (.putfield 112, 3) := by decide +kernel
theorem dX11_law_91 : decode cX11_law 91 = .ok (.aload_n 0, 1) := by decide +kernel
theorem dX11_law_92 : decode cX11_law 92 = .ok (.getfield 12, 3) := by decide +kernel
theorem dX11_law_95 : decode cX11_law 95 = .ok (.getfield 112, 3) := by decide +kernel
theorem dX11_law_98 : decode cX11_law 98 = .ok (.iconst 1, 1) := by decide +kernel
theorem dX11_law_99 : decode cX11_law 99 = .ok (.isub, 1) := by decide +kernel
theorem dX11_law_100 : decode cX11_law 100 = .ok (.ireturn, 1) := by decide +kernel
theorem dX11_drawn_0 : decode cX11_drawn 0 = .ok (.aload_n 0, 1) := by decide +kernel
theorem dX11_drawn_1 : decode cX11_drawn 1 = .ok (.iload_n 1, 1) := by decide +kernel
theorem dX11_drawn_2 : decode cX11_drawn 2 = .ok (.invokevirtual 79, 3) := by decide +kernel
theorem dX11_drawn_5 : decode cX11_drawn 5 = .ok (.ifCond .ne 10, 3) := by decide +kernel
theorem dX11_drawn_8 : decode cX11_drawn 8 = .ok (.aload_n 0, 1) := by decide +kernel
theorem dX11_drawn_9 : decode cX11_drawn 9 = .ok (.invokevirtual 136, 3) := by decide +kernel
theorem dX11_drawn_12 : decode cX11_drawn 12 = .ok (.ifCond .eq 7, 3) := by decide +kernel
theorem dX11_drawn_15 : decode cX11_drawn 15 = .ok (.sipush (-1001), 3) := by decide +kernel
theorem dX11_drawn_18 : decode cX11_drawn 18 = .ok (.ireturn, 1) := by decide +kernel
theorem dX11_drawn_19 : decode cX11_drawn 19 = .ok (.iload_n 2, 1) := by decide +kernel
theorem dX11_drawn_20 : decode cX11_drawn 20 = .ok (.invokestatic 57, 3) := by decide +kernel
theorem dX11_drawn_23 : decode cX11_drawn 23 = .ok (.ifCond .eq 7, 3) := by decide +kernel
theorem dX11_drawn_26 : decode cX11_drawn 26 = .ok (.sipush (-1002), 3) := by decide +kernel
theorem dX11_drawn_29 : decode cX11_drawn 29 = .ok (.ireturn, 1) := by decide +kernel
theorem dX11_drawn_30 : decode cX11_drawn 30 = .ok (.aload_n 0, 1) := by decide +kernel
theorem dX11_drawn_31 : decode cX11_drawn 31 = .ok (.getfield 12, 3) := by decide +kernel
theorem dX11_drawn_34 : decode cX11_drawn 34 = .ok (.getfield 65, 3) := by decide +kernel
theorem dX11_drawn_37 : decode cX11_drawn 37 = .ok (.iload_n 1, 1) := by decide +kernel
theorem dX11_drawn_38 : decode cX11_drawn 38 = .ok (.aaload, 1) := by decide +kernel
theorem dX11_drawn_39 : decode cX11_drawn 39 = .ok (.astore_n 3, 1) := by decide +kernel
theorem dX11_drawn_40 : decode cX11_drawn 40 = .ok (.aload_n 3, 1) := by decide +kernel
theorem dX11_drawn_41 : decode cX11_drawn 41 = .ok (.aload_n 0, 1) := by decide +kernel
theorem dX11_drawn_42 : decode cX11_drawn 42 = .ok (.getfield 12, 3) := by decide +kernel
theorem dX11_drawn_45 : decode cX11_drawn 45 = .ok (.aload_n 3, 1) := by decide +kernel
theorem dX11_drawn_46 : decode cX11_drawn 46 = .ok (.iload_n 2, 1) := by decide +kernel
theorem dX11_drawn_47 : decode cX11_drawn 47 = .ok (.iconst 0, 1) := by decide +kernel
theorem dX11_drawn_48 : decode cX11_drawn 48 = .ok (.invokevirtual 140, 3) := by decide +kernel
theorem dX11_drawn_51 : decode cX11_drawn 51 = .ok (.iload_n 2, 1) := by decide +kernel
theorem dX11_drawn_52 : decode cX11_drawn 52 = .ok (.invokevirtual 144, 3) := by decide +kernel
theorem dX11_drawn_55 : decode cX11_drawn 55 = .ok (.ireturn, 1) := by decide +kernel
theorem dX11_demand_0 : decode cX11_demand 0 = .ok (.aload_n 0, 1) := by decide +kernel
theorem dX11_demand_1 : decode cX11_demand 1 = .ok (.invokevirtual 136, 3) := by decide +kernel
theorem dX11_demand_4 : decode cX11_demand 4 = .ok (.ifCond .eq 7, 3) := by decide +kernel
theorem dX11_demand_7 : decode cX11_demand 7 = .ok (.sipush (-10001), 3) := by decide +kernel
theorem dX11_demand_10 : decode cX11_demand 10 = .ok (.ireturn, 1) := by decide +kernel
theorem dX11_demand_11 : decode cX11_demand 11 = .ok (.iload_n 1, 1) := by decide +kernel
theorem dX11_demand_12 : decode cX11_demand 12 = .ok (.invokestatic 57, 3) := by decide +kernel
theorem dX11_demand_15 : decode cX11_demand 15 = .ok (.ifCond .eq 7, 3) := by decide +kernel
theorem dX11_demand_18 : decode cX11_demand 18 = .ok (.sipush (-10002), 3) := by decide +kernel
theorem dX11_demand_21 : decode cX11_demand 21 = .ok (.ireturn, 1) := by decide +kernel
theorem dX11_demand_22 : decode cX11_demand 22 = .ok (.aload_n 0, 1) := by decide +kernel
theorem dX11_demand_23 : decode cX11_demand 23 = .ok (.iload_n 1, 1) := by decide +kernel
theorem dX11_demand_24 : decode cX11_demand 24 = .ok (.invokevirtual 148, 3) := by decide +kernel
theorem dX11_demand_27 : decode cX11_demand 27 = .ok (.ireturn, 1) := by decide +kernel
theorem dX11_work_0 : decode cX11_work 0 = .ok (.iload_n 1, 1) := by decide +kernel
theorem dX11_work_1 : decode cX11_work 1 = .ok (.iconst 0, 1) := by decide +kernel
theorem dX11_work_2 : decode cX11_work 2 = .ok (.bipush 9, 2) := by decide +kernel
theorem dX11_work_4 : decode cX11_work 4 = .ok (.invokestatic 53, 3) := by decide +kernel
theorem dX11_work_7 : decode cX11_work 7 = .ok (.ifCond .ne 34, 3) := by decide +kernel
theorem dX11_work_10 : decode cX11_work 10 = .ok (.iload_n 2, 1) := by decide +kernel
theorem dX11_work_11 : decode cX11_work 11 = .ok (.iconst 1, 1) := by decide +kernel
theorem dX11_work_12 : decode cX11_work 12 = .ok (.bipush 99, 2) := by decide +kernel
theorem dX11_work_14 : decode cX11_work 14 = .ok (.invokestatic 53, 3) := by decide +kernel
theorem dX11_work_17 : decode cX11_work 17 = .ok (.ifCond .ne 24, 3) := by decide +kernel
theorem dX11_work_20 : decode cX11_work 20 = .ok (.iload_n 3, 1) := by decide +kernel
theorem dX11_work_21 : decode cX11_work 21 = .ok (.iconst 1, 1) := by decide +kernel
theorem dX11_work_22 : decode cX11_work 22 = .ok (.bipush 40, 2) := by decide +kernel
theorem dX11_work_24 : decode cX11_work 24 = .ok (.invokestatic 53, 3) := by decide +kernel
theorem dX11_work_27 : decode cX11_work 27 = .ok (.ifCond .ne 14, 3) := by decide +kernel
theorem dX11_work_30 : decode cX11_work 30 = .ok (.iload 4, 2) := by decide +kernel
theorem dX11_work_32 : decode cX11_work 32 = .ok (.iconst 0, 1) := by decide +kernel
theorem dX11_work_33 : decode cX11_work 33 = .ok (.bipush 99, 2) := by decide +kernel
theorem dX11_work_35 : decode cX11_work 35 = .ok (.invokestatic 53, 3) := by decide +kernel
theorem dX11_work_38 : decode cX11_work 38 = .ok (.ifCond .eq 6, 3) := by decide +kernel
theorem dX11_work_41 : decode cX11_work 41 = .ok (.bipush (-2), 2) := by decide +kernel
theorem dX11_work_43 : decode cX11_work 43 = .ok (.ireturn, 1) := by decide +kernel
theorem dX11_work_44 : decode cX11_work 44 = .ok (.aload_n 0, 1) := by decide +kernel
theorem dX11_work_45 : decode cX11_work 45 = .ok (.getfield 12, 3) := by decide +kernel
theorem dX11_work_48 : decode cX11_work 48 = .ok (.getfield 152, 3) := by decide +kernel
theorem dX11_work_51 : decode cX11_work 51 = .ok (.iconst 5, 1) := by decide +kernel
theorem dX11_work_52 : decode cX11_work 52 = .ok (.if_icmp .lt 6, 3) := by decide +kernel
theorem dX11_work_55 : decode cX11_work 55 = .ok (.bipush (-4), 2) := by decide +kernel
theorem dX11_work_57 : decode cX11_work 57 = .ok (.ireturn, 1) := by decide +kernel
theorem dX11_work_58 : decode cX11_work 58 = .ok (.aload_n 0, 1) := by decide +kernel
theorem dX11_work_59 : decode cX11_work 59 = .ok (.getfield 12, 3) := by decide +kernel
theorem dX11_work_62 : decode cX11_work 62 = .ok (.getfield 155, 3) := by decide +kernel
theorem dX11_work_65 : decode cX11_work 65 = .ok (.aload_n 0, 1) := by decide +kernel
theorem dX11_work_66 : decode cX11_work 66 = .ok (.getfield 12, 3) := by decide +kernel
theorem dX11_work_69 : decode cX11_work 69 = .ok (.getfield 152, 3) := by decide +kernel
theorem dX11_work_72 : decode cX11_work 72 = .ok (.new 159, 3) := by decide +kernel
theorem dX11_work_75 : decode cX11_work 75 = .ok (.dup, 1) := by decide +kernel
theorem dX11_work_76 : decode cX11_work 76 = .ok (.iload_n 1, 1) := by decide +kernel
theorem dX11_work_77 : decode cX11_work 77 = .ok (.iload_n 2, 1) := by decide +kernel
theorem dX11_work_78 : decode cX11_work 78 = .ok (.iload_n 3, 1) := by decide +kernel
theorem dX11_work_79 : decode cX11_work 79 = .ok (.iload 4, 2) := by decide +kernel
theorem dX11_work_81 : decode cX11_work 81 = .ok (.iconst 0, 1) := by decide +kernel
theorem dX11_work_82 : decode cX11_work 82 = .ok (.iconst 0, 1) := by decide +kernel
theorem dX11_work_83 : decode cX11_work 83 = .ok (.invokespecial 161, 3) := by decide +kernel
theorem dX11_work_86 : decode cX11_work 86 = .ok (.aastore, 1) := by decide +kernel
theorem dX11_work_87 : decode cX11_work 87 = .ok (.aload_n 0, 1) := by decide +kernel
theorem dX11_work_88 : decode cX11_work 88 = .ok (.getfield 12, 3) := by decide +kernel
theorem dX11_work_91 : decode cX11_work 91 = .ok (.dup, 1) := by decide +kernel
theorem dX11_work_92 : decode cX11_work 92 = .ok (.getfield 152, 3) := by decide +kernel
theorem dX11_work_95 : decode cX11_work 95 = .ok (.iconst 1, 1) := by decide +kernel
theorem dX11_work_96 : decode cX11_work 96 = .ok (.iadd, 1) := by decide +kernel
theorem dX11_work_97 : decode cX11_work 97 = .ok (.putfield 152, 3) := by decide +kernel
theorem dX11_work_100 : decode cX11_work 100 = .ok (.aload_n 0, 1) := by decide +kernel
theorem dX11_work_101 : decode cX11_work 101 = .ok (.getfield 12, 3) := by decide +kernel
theorem dX11_work_104 : decode cX11_work 104 = .ok (.getfield 152, 3) := by decide +kernel
theorem dX11_work_107 : decode cX11_work 107 = .ok (.iconst 1, 1) := by decide +kernel
theorem dX11_work_108 : decode cX11_work 108 = .ok (.isub, 1) := by decide +kernel
theorem dX11_work_109 : decode cX11_work 109 = .ok (.ireturn, 1) := by decide +kernel
theorem dX11_call_0 : decode cX11_call 0 = .ok (.aload_n 0, 1) := by decide +kernel
theorem dX11_call_1 : decode cX11_call 1 = .ok (.iload_n 1, 1) := by decide +kernel
theorem dX11_call_2 : decode cX11_call 2 = .ok (.invokevirtual 164, 3) := by decide +kernel
theorem dX11_call_5 : decode cX11_call 5 = .ok (.ifCond .eq 5, 3) := by decide +kernel
theorem dX11_call_8 : decode cX11_call 8 = .ok (.iconst (-1), 1) := by decide +kernel
theorem dX11_call_9 : decode cX11_call 9 = .ok (.ireturn, 1) := by decide +kernel
theorem dX11_call_10 : decode cX11_call 10 = .ok (.iload_n 2, 1) := by decide +kernel
theorem dX11_call_11 : decode cX11_call 11 = .ok (.invokestatic 57, 3) := by decide +kernel
theorem dX11_call_14 : decode cX11_call 14 = .ok (.ifCond .ne 13, 3) := by decide +kernel
theorem dX11_call_17 : decode cX11_call 17 = .ok (.iload_n 3, 1) := by decide +kernel
theorem dX11_call_18 : decode cX11_call 18 = .ok (.iconst 0, 1) := by decide +kernel
theorem dX11_call_19 : decode cX11_call 19 = .ok (.bipush 40, 2) := by decide +kernel
theorem dX11_call_21 : decode cX11_call 21 = .ok (.invokestatic 53, 3) := by decide +kernel
theorem dX11_call_24 : decode cX11_call 24 = .ok (.ifCond .eq 6, 3) := by decide +kernel
theorem dX11_call_27 : decode cX11_call 27 = .ok (.bipush (-2), 2) := by decide +kernel
theorem dX11_call_29 : decode cX11_call 29 = .ok (.ireturn, 1) := by decide +kernel
theorem dX11_call_30 : decode cX11_call 30 = .ok (.aload_n 0, 1) := by decide +kernel
theorem dX11_call_31 : decode cX11_call 31 = .ok (.getfield 12, 3) := by decide +kernel
theorem dX11_call_34 : decode cX11_call 34 = .ok (.getfield 155, 3) := by decide +kernel
theorem dX11_call_37 : decode cX11_call 37 = .ok (.iload_n 1, 1) := by decide +kernel
theorem dX11_call_38 : decode cX11_call 38 = .ok (.aaload, 1) := by decide +kernel
theorem dX11_call_39 : decode cX11_call 39 = .ok (.astore 4, 2) := by decide +kernel
theorem dX11_call_41 : decode cX11_call 41 = .ok (.new 159, 3) := by decide +kernel
theorem dX11_call_44 : decode cX11_call 44 = .ok (.dup, 1) := by decide +kernel
theorem dX11_call_45 : decode cX11_call 45 = .ok (.aload 4, 2) := by decide +kernel
theorem dX11_call_47 : decode cX11_call 47 = .ok (.getfield 167, 3) := by decide +kernel
theorem dX11_call_50 : decode cX11_call 50 = .ok (.aload 4, 2) := by decide +kernel
theorem dX11_call_52 : decode cX11_call 52 = .ok (.getfield 170, 3) := by decide +kernel
theorem dX11_call_55 : decode cX11_call 55 = .ok (.aload 4, 2) := by decide +kernel
theorem dX11_call_57 : decode cX11_call 57 = .ok (.getfield 173, 3) := by decide +kernel
theorem dX11_call_60 : decode cX11_call 60 = .ok (.aload 4, 2) := by decide +kernel
theorem dX11_call_62 : decode cX11_call 62 = .ok (.getfield 176, 3) := by decide +kernel
theorem dX11_call_65 : decode cX11_call 65 = .ok (.iload_n 2, 1) := by decide +kernel
theorem dX11_call_66 : decode cX11_call 66 = .ok (.iload_n 3, 1) := by decide +kernel
theorem dX11_call_67 : decode cX11_call 67 = .ok (.invokespecial 161, 3) := by decide +kernel
theorem dX11_call_70 : decode cX11_call 70 = .ok (.astore 5, 2) := by decide +kernel
theorem dX11_call_72 : decode cX11_call 72 = .ok (.aload_n 0, 1) := by decide +kernel
theorem dX11_call_73 : decode cX11_call 73 = .ok (.getfield 12, 3) := by decide +kernel
theorem dX11_call_76 : decode cX11_call 76 = .ok (.getfield 155, 3) := by decide +kernel
theorem dX11_call_79 : decode cX11_call 79 = .ok (.iload_n 1, 1) := by decide +kernel
theorem dX11_call_80 : decode cX11_call 80 = .ok (.aload 5, 2) := by decide +kernel
theorem dX11_call_82 : decode cX11_call 82 = .ok (.aastore, 1) := by decide +kernel
theorem dX11_call_83 : decode cX11_call 83 = .ok (.aload 5, 2) := by decide +kernel
theorem dX11_call_85 : decode cX11_call 85 = .ok (.iload_n 3, 1) := by decide +kernel
theorem dX11_call_86 : decode cX11_call 86 = .ok (.invokevirtual 179, 3) := by decide +kernel
theorem dX11_call_89 : decode cX11_call 89 = .ok (.ireturn, 1) := by decide +kernel
theorem dX11_made_0 : decode cX11_made 0 = .ok (.iload_n 1, 1) := by decide +kernel
theorem dX11_made_1 : decode cX11_made 1 = .ok (.invokestatic 57, 3) := by decide +kernel
theorem dX11_made_4 : decode cX11_made 4 = .ok (.ifCond .eq 8, 3) := by decide +kernel
theorem dX11_made_7 : decode cX11_made 7 = .ok (.bipush (-2), 2) := by decide +kernel
theorem dX11_made_9 : decode cX11_made 9 = .ok (.goto 9, 3) := by decide +kernel
theorem dX11_made_12 : decode cX11_made 12 = .ok (.aload_n 0, 1) := by decide +kernel
theorem dX11_made_13 : decode cX11_made 13 = .ok (.iload_n 1, 1) := by decide +kernel
theorem dX11_made_14 : decode cX11_made 14 = .ok (.iconst (-1), 1) := by decide +kernel
theorem dX11_made_15 : decode cX11_made 15 = .ok (.invokevirtual 182, 3) := by decide +kernel
theorem dX11_made_18 : decode cX11_made 18 = .ok (.ireturn, 1) := by decide +kernel
theorem dX11_costs_0 : decode cX11_costs 0 = .ok (.aload_n 0, 1) := by decide +kernel
theorem dX11_costs_1 : decode cX11_costs 1 = .ok (.iconst (-1), 1) := by decide +kernel
theorem dX11_costs_2 : decode cX11_costs 2 = .ok (.invokevirtual 185, 3) := by decide +kernel
theorem dX11_costs_5 : decode cX11_costs 5 = .ok (.ireturn, 1) := by decide +kernel
theorem dX11_beat_0 : decode cX11_beat 0 = .ok (.aload_n 0, 1) := by decide +kernel
theorem dX11_beat_1 : decode cX11_beat 1 = .ok (.invokevirtual 136, 3) := by decide +kernel
theorem dX11_beat_4 : decode cX11_beat 4 = .ok (.ifCond .ne 10, 3) := by decide +kernel
theorem dX11_beat_7 : decode cX11_beat 7 = .ok (.iload_n 1, 1) := by decide +kernel
theorem dX11_beat_8 : decode cX11_beat 8 = .ok (.invokestatic 57, 3) := by decide +kernel
theorem dX11_beat_11 : decode cX11_beat 11 = .ok (.ifCond .eq 7, 3) := by decide +kernel
theorem dX11_beat_14 : decode cX11_beat 14 = .ok (.ldc2_w 188, 3) := by decide +kernel
theorem dX11_beat_17 : decode cX11_beat 17 = .ok (.lreturn, 1) := by decide +kernel
theorem dX11_beat_18 : decode cX11_beat 18 = .ok (.aload_n 0, 1) := by decide +kernel
theorem dX11_beat_19 : decode cX11_beat 19 = .ok (.invokevirtual 190, 3) := by decide +kernel
theorem dX11_beat_22 : decode cX11_beat 22 = .ok (.aload_n 0, 1) := by decide +kernel
theorem dX11_beat_23 : decode cX11_beat 23 = .ok (.aload_n 0, 1) := by decide +kernel
theorem dX11_beat_24 : decode cX11_beat 24 = .ok (.getfield 36, 3) := by decide +kernel
theorem dX11_beat_27 : decode cX11_beat 27 = .ok (.iconst (-1), 1) := by decide +kernel
theorem dX11_beat_28 : decode cX11_beat 28 = .ok (.invokevirtual 193, 3) := by decide +kernel
theorem dX11_beat_31 : decode cX11_beat 31 = .ok (.iconst 0, 1) := by decide +kernel
theorem dX11_beat_32 : decode cX11_beat 32 = .ok (.istore_n 2, 1) := by decide +kernel
theorem dX11_beat_33 : decode cX11_beat 33 = .ok (.iconst 0, 1) := by decide +kernel
theorem dX11_beat_34 : decode cX11_beat 34 = .ok (.istore_n 3, 1) := by decide +kernel
theorem dX11_beat_35 : decode cX11_beat 35 = .ok (.iload_n 3, 1) := by decide +kernel
theorem dX11_beat_36 : decode cX11_beat 36 = .ok (.iload_n 1, 1) := by decide +kernel
theorem dX11_beat_37 : decode cX11_beat 37 = .ok (.if_icmp .gt 26, 3) := by decide +kernel
theorem dX11_beat_40 : decode cX11_beat 40 = .ok (.iload_n 2, 1) := by decide +kernel
theorem dX11_beat_41 : decode cX11_beat 41 = .ok (.aload_n 0, 1) := by decide +kernel
theorem dX11_beat_42 : decode cX11_beat 42 = .ok (.iload_n 3, 1) := by decide +kernel
theorem dX11_beat_43 : decode cX11_beat 43 = .ok (.aload_n 0, 1) := by decide +kernel
theorem dX11_beat_44 : decode cX11_beat 44 = .ok (.getfield 12, 3) := by decide +kernel
theorem dX11_beat_47 : decode cX11_beat 47 = .ok (.getfield 96, 3) := by decide +kernel
theorem dX11_beat_50 : decode cX11_beat 50 = .ok (.iconst 2, 1) := by decide +kernel
theorem dX11_beat_51 : decode cX11_beat 51 = .ok (.iaload, 1) := by decide +kernel
theorem dX11_beat_52 : decode cX11_beat 52 = .ok (.invokevirtual 197, 3) := by decide +kernel
theorem dX11_beat_55 : decode cX11_beat 55 = .ok (.iadd, 1) := by decide +kernel
theorem dX11_beat_56 : decode cX11_beat 56 = .ok (.istore_n 2, 1) := by decide +kernel
theorem dX11_beat_57 : decode cX11_beat 57 = .ok (.iinc 3 1, 3) := by decide +kernel
theorem dX11_beat_60 : decode cX11_beat 60 = .ok (.goto (-25), 3) := by decide +kernel
theorem dX11_beat_63 : decode cX11_beat 63 = .ok (.iload_n 2, 1) := by decide +kernel
theorem dX11_beat_64 : decode cX11_beat 64 = .ok (.i2l, 1) := by decide +kernel
theorem dX11_beat_65 : decode cX11_beat 65 = .ok (.lreturn, 1) := by decide +kernel
theorem dX11_first_0 : decode cX11_first 0 = .ok (.aload_n 0, 1) := by decide +kernel
theorem dX11_first_1 : decode cX11_first 1 = .ok (.invokevirtual 136, 3) := by decide +kernel
theorem dX11_first_4 : decode cX11_first 4 = .ok (.ifCond .eq 5, 3) := by decide +kernel
theorem dX11_first_7 : decode cX11_first 7 = .ok (.iconst (-1), 1) := by decide +kernel
theorem dX11_first_8 : decode cX11_first 8 = .ok (.ireturn, 1) := by decide +kernel
theorem dX11_first_9 : decode cX11_first 9 = .ok (.iload_n 1, 1) := by decide +kernel
theorem dX11_first_10 : decode cX11_first 10 = .ok (.invokestatic 200, 3) := by decide +kernel
theorem dX11_first_13 : decode cX11_first 13 = .ok (.ifCond .eq 6, 3) := by decide +kernel
theorem dX11_first_16 : decode cX11_first 16 = .ok (.bipush (-2), 2) := by decide +kernel
theorem dX11_first_18 : decode cX11_first 18 = .ok (.ireturn, 1) := by decide +kernel
theorem dX11_first_19 : decode cX11_first 19 = .ok (.aload_n 0, 1) := by decide +kernel
theorem dX11_first_20 : decode cX11_first 20 = .ok (.invokevirtual 190, 3) := by decide +kernel
theorem dX11_first_23 : decode cX11_first 23 = .ok (.aload_n 0, 1) := by decide +kernel
theorem dX11_first_24 : decode cX11_first 24 = .ok (.aload_n 0, 1) := by decide +kernel
theorem dX11_first_25 : decode cX11_first 25 = .ok (.getfield 36, 3) := by decide +kernel
theorem dX11_first_28 : decode cX11_first 28 = .ok (.iconst (-1), 1) := by decide +kernel
theorem dX11_first_29 : decode cX11_first 29 = .ok (.invokevirtual 193, 3) := by decide +kernel
theorem dX11_first_32 : decode cX11_first 32 = .ok (.aload_n 0, 1) := by decide +kernel
theorem dX11_first_33 : decode cX11_first 33 = .ok (.iload_n 1, 1) := by decide +kernel
theorem dX11_first_34 : decode cX11_first 34 = .ok (.aload_n 0, 1) := by decide +kernel
theorem dX11_first_35 : decode cX11_first 35 = .ok (.getfield 12, 3) := by decide +kernel
theorem dX11_first_38 : decode cX11_first 38 = .ok (.getfield 96, 3) := by decide +kernel
theorem dX11_first_41 : decode cX11_first 41 = .ok (.iconst 2, 1) := by decide +kernel
theorem dX11_first_42 : decode cX11_first 42 = .ok (.iaload, 1) := by decide +kernel
theorem dX11_first_43 : decode cX11_first 43 = .ok (.invokevirtual 203, 3) := by decide +kernel
theorem dX11_first_46 : decode cX11_first 46 = .ok (.ireturn, 1) := by decide +kernel
theorem dX11_wave_0 : decode cX11_wave 0 = .ok (.aload_n 0, 1) := by decide +kernel
theorem dX11_wave_1 : decode cX11_wave 1 = .ok (.invokevirtual 136, 3) := by decide +kernel
theorem dX11_wave_4 : decode cX11_wave 4 = .ok (.ifCond .ne 12, 3) := by decide +kernel
theorem dX11_wave_7 : decode cX11_wave 7 = .ok (.iload_n 1, 1) := by decide +kernel
theorem dX11_wave_8 : decode cX11_wave 8 = .ok (.iconst 0, 1) := by decide +kernel
theorem dX11_wave_9 : decode cX11_wave 9 = .ok (.iconst 2, 1) := by decide +kernel
theorem dX11_wave_10 : decode cX11_wave 10 = .ok (.invokestatic 53, 3) := by decide +kernel
theorem dX11_wave_13 : decode cX11_wave 13 = .ok (.ifCond .eq 7, 3) := by decide +kernel
theorem dX11_wave_16 : decode cX11_wave 16 = .ok (.ldc2_w 188, 3) := by decide +kernel
theorem dX11_wave_19 : decode cX11_wave 19 = .ok (.lreturn, 1) := by decide +kernel
theorem dX11_wave_20 : decode cX11_wave 20 = .ok (.aload_n 0, 1) := by decide +kernel
theorem dX11_wave_21 : decode cX11_wave 21 = .ok (.invokevirtual 190, 3) := by decide +kernel
theorem dX11_wave_24 : decode cX11_wave 24 = .ok (.aload_n 0, 1) := by decide +kernel
theorem dX11_wave_25 : decode cX11_wave 25 = .ok (.aload_n 0, 1) := by decide +kernel
theorem dX11_wave_26 : decode cX11_wave 26 = .ok (.getfield 36, 3) := by decide +kernel
theorem dX11_wave_29 : decode cX11_wave 29 = .ok (.iconst (-1), 1) := by decide +kernel
theorem dX11_wave_30 : decode cX11_wave 30 = .ok (.invokevirtual 193, 3) := by decide +kernel
theorem dX11_wave_33 : decode cX11_wave 33 = .ok (.aload_n 0, 1) := by decide +kernel
theorem dX11_wave_34 : decode cX11_wave 34 = .ok (.iconst 0, 1) := by decide +kernel
theorem dX11_wave_35 : decode cX11_wave 35 = .ok (.aload_n 0, 1) := by decide +kernel
theorem dX11_wave_36 : decode cX11_wave 36 = .ok (.getfield 12, 3) := by decide +kernel
theorem dX11_wave_39 : decode cX11_wave 39 = .ok (.getfield 96, 3) := by decide +kernel
theorem dX11_wave_42 : decode cX11_wave 42 = .ok (.iconst 2, 1) := by decide +kernel
theorem dX11_wave_43 : decode cX11_wave 43 = .ok (.iaload, 1) := by decide +kernel
theorem dX11_wave_44 : decode cX11_wave 44 = .ok (.invokevirtual 197, 3) := by decide +kernel
theorem dX11_wave_47 : decode cX11_wave 47 = .ok (.istore_n 2, 1) := by decide +kernel
theorem dX11_wave_48 : decode cX11_wave 48 = .ok (.iload_n 2, 1) := by decide +kernel
theorem dX11_wave_49 : decode cX11_wave 49 = .ok (.istore_n 3, 1) := by decide +kernel
theorem dX11_wave_50 : decode cX11_wave 50 = .ok (.iload_n 2, 1) := by decide +kernel
theorem dX11_wave_51 : decode cX11_wave 51 = .ok (.istore 4, 2) := by decide +kernel
theorem dX11_wave_53 : decode cX11_wave 53 = .ok (.iconst 1, 1) := by decide +kernel
theorem dX11_wave_54 : decode cX11_wave 54 = .ok (.istore 5, 2) := by decide +kernel
theorem dX11_wave_56 : decode cX11_wave 56 = .ok (.iload 5, 2) := by decide +kernel
theorem dX11_wave_58 : decode cX11_wave 58 = .ok (.bipush 40, 2) := by decide +kernel
theorem dX11_wave_60 : decode cX11_wave 60 = .ok (.if_icmp .ge 41, 3) := by decide +kernel
theorem dX11_wave_63 : decode cX11_wave 63 = .ok (.iload_n 2, 1) := by decide +kernel
theorem dX11_wave_64 : decode cX11_wave 64 = .ok (.aload_n 0, 1) := by decide +kernel
theorem dX11_wave_65 : decode cX11_wave 65 = .ok (.iload 5, 2) := by decide +kernel
theorem dX11_wave_67 : decode cX11_wave 67 = .ok (.aload_n 0, 1) := by decide +kernel
theorem dX11_wave_68 : decode cX11_wave 68 = .ok (.getfield 12, 3) := by decide +kernel
theorem dX11_wave_71 : decode cX11_wave 71 = .ok (.getfield 96, 3) := by decide +kernel
theorem dX11_wave_74 : decode cX11_wave 74 = .ok (.iconst 2, 1) := by decide +kernel
theorem dX11_wave_75 : decode cX11_wave 75 = .ok (.iaload, 1) := by decide +kernel
theorem dX11_wave_76 : decode cX11_wave 76 = .ok (.invokevirtual 197, 3) := by decide +kernel
theorem dX11_wave_79 : decode cX11_wave 79 = .ok (.iadd, 1) := by decide +kernel
theorem dX11_wave_80 : decode cX11_wave 80 = .ok (.istore_n 2, 1) := by decide +kernel
theorem dX11_wave_81 : decode cX11_wave 81 = .ok (.iload_n 3, 1) := by decide +kernel
theorem dX11_wave_82 : decode cX11_wave 82 = .ok (.iload_n 2, 1) := by decide +kernel
theorem dX11_wave_83 : decode cX11_wave 83 = .ok (.invokestatic 206, 3) := by decide +kernel
theorem dX11_wave_86 : decode cX11_wave 86 = .ok (.istore_n 3, 1) := by decide +kernel
theorem dX11_wave_87 : decode cX11_wave 87 = .ok (.iload 4, 2) := by decide +kernel
theorem dX11_wave_89 : decode cX11_wave 89 = .ok (.iload_n 2, 1) := by decide +kernel
theorem dX11_wave_90 : decode cX11_wave 90 = .ok (.invokestatic 211, 3) := by decide +kernel
theorem dX11_wave_93 : decode cX11_wave 93 = .ok (.istore 4, 2) := by decide +kernel
theorem dX11_wave_95 : decode cX11_wave 95 = .ok (.iinc 5 1, 3) := by decide +kernel
theorem dX11_wave_98 : decode cX11_wave 98 = .ok (.goto (-42), 3) := by decide +kernel
theorem dX11_wave_101 : decode cX11_wave 101 = .ok (.iload_n 1, 1) := by decide +kernel
theorem dX11_wave_102 : decode cX11_wave 102 = .ok (.lookupswitch 33 #[(0, 26), (1, 29)], 26) := by decide +kernel
theorem dX11_wave_128 : decode cX11_wave 128 = .ok (.iload_n 3, 1) := by decide +kernel
theorem dX11_wave_129 : decode cX11_wave 129 = .ok (.i2l, 1) := by decide +kernel
theorem dX11_wave_130 : decode cX11_wave 130 = .ok (.lreturn, 1) := by decide +kernel
theorem dX11_wave_131 : decode cX11_wave 131 = .ok (.iload 4, 2) := by decide +kernel
theorem dX11_wave_133 : decode cX11_wave 133 = .ok (.i2l, 1) := by decide +kernel
theorem dX11_wave_134 : decode cX11_wave 134 = .ok (.lreturn, 1) := by decide +kernel
theorem dX11_wave_135 : decode cX11_wave 135 = .ok (.iload 4, 2) := by decide +kernel
theorem dX11_wave_137 : decode cX11_wave 137 = .ok (.iload_n 3, 1) := by decide +kernel
theorem dX11_wave_138 : decode cX11_wave 138 = .ok (.isub, 1) := by decide +kernel
theorem dX11_wave_139 : decode cX11_wave 139 = .ok (.i2l, 1) := by decide +kernel
theorem dX11_wave_140 : decode cX11_wave 140 = .ok (.lreturn, 1) := by decide +kernel
theorem dX11_inertia_0 : decode cX11_inertia 0 = .ok (.aload_n 0, 1) := by decide +kernel
theorem dX11_inertia_1 : decode cX11_inertia 1 = .ok (.invokevirtual 136, 3) := by decide +kernel
theorem dX11_inertia_4 : decode cX11_inertia 4 = .ok (.ifCond .eq 5, 3) := by decide +kernel
theorem dX11_inertia_7 : decode cX11_inertia 7 = .ok (.iconst (-1), 1) := by decide +kernel
theorem dX11_inertia_8 : decode cX11_inertia 8 = .ok (.ireturn, 1) := by decide +kernel
theorem dX11_inertia_9 : decode cX11_inertia 9 = .ok (.iload_n 1, 1) := by decide +kernel
theorem dX11_inertia_10 : decode cX11_inertia 10 = .ok (.invokestatic 200, 3) := by decide +kernel
theorem dX11_inertia_13 : decode cX11_inertia 13 = .ok (.ifCond .eq 6, 3) := by decide +kernel
theorem dX11_inertia_16 : decode cX11_inertia 16 = .ok (.bipush (-2), 2) := by decide +kernel
theorem dX11_inertia_18 : decode cX11_inertia 18 = .ok (.ireturn, 1) := by decide +kernel
theorem dX11_inertia_19 : decode cX11_inertia 19 = .ok (.aload_n 0, 1) := by decide +kernel
theorem dX11_inertia_20 : decode cX11_inertia 20 = .ok (.invokevirtual 190, 3) := by decide +kernel
theorem dX11_inertia_23 : decode cX11_inertia 23 = .ok (.aload_n 0, 1) := by decide +kernel
theorem dX11_inertia_24 : decode cX11_inertia 24 = .ok (.aload_n 0, 1) := by decide +kernel
theorem dX11_inertia_25 : decode cX11_inertia 25 = .ok (.getfield 36, 3) := by decide +kernel
theorem dX11_inertia_28 : decode cX11_inertia 28 = .ok (.iconst (-1), 1) := by decide +kernel
theorem dX11_inertia_29 : decode cX11_inertia 29 = .ok (.invokevirtual 193, 3) := by decide +kernel
theorem dX11_inertia_32 : decode cX11_inertia 32 = .ok (.getstatic 99, 3) := by decide +kernel
theorem dX11_inertia_35 : decode cX11_inertia 35 = .ok (.iconst 2, 1) := by decide +kernel
theorem dX11_inertia_36 : decode cX11_inertia 36 = .ok (.iaload, 1) := by decide +kernel
theorem dX11_inertia_37 : decode cX11_inertia 37 = .ok (.istore_n 2, 1) := by decide +kernel
theorem dX11_inertia_38 : decode cX11_inertia 38 = .ok (.iload_n 2, 1) := by decide +kernel
theorem dX11_inertia_39 : decode cX11_inertia 39 = .ok (.getstatic 102, 3) := by decide +kernel
theorem dX11_inertia_42 : decode cX11_inertia 42 = .ok (.iconst 2, 1) := by decide +kernel
theorem dX11_inertia_43 : decode cX11_inertia 43 = .ok (.iaload, 1) := by decide +kernel
theorem dX11_inertia_44 : decode cX11_inertia 44 = .ok (.if_icmp .gt 22, 3) := by decide +kernel
theorem dX11_inertia_47 : decode cX11_inertia 47 = .ok (.aload_n 0, 1) := by decide +kernel
theorem dX11_inertia_48 : decode cX11_inertia 48 = .ok (.iload_n 1, 1) := by decide +kernel
theorem dX11_inertia_49 : decode cX11_inertia 49 = .ok (.iload_n 2, 1) := by decide +kernel
theorem dX11_inertia_50 : decode cX11_inertia 50 = .ok (.invokevirtual 203, 3) := by decide +kernel
theorem dX11_inertia_53 : decode cX11_inertia 53 = .ok (.bipush (-5), 2) := by decide +kernel
theorem dX11_inertia_55 : decode cX11_inertia 55 = .ok (.if_icmp .ne 5, 3) := by decide +kernel
theorem dX11_inertia_58 : decode cX11_inertia 58 = .ok (.iload_n 2, 1) := by decide +kernel
theorem dX11_inertia_59 : decode cX11_inertia 59 = .ok (.ireturn, 1) := by decide +kernel
theorem dX11_inertia_60 : decode cX11_inertia 60 = .ok (.iinc 2 1, 3) := by decide +kernel
theorem dX11_inertia_63 : decode cX11_inertia 63 = .ok (.goto (-25), 3) := by decide +kernel
theorem dX11_inertia_66 : decode cX11_inertia 66 = .ok (.bipush (-5), 2) := by decide +kernel
theorem dX11_inertia_68 : decode cX11_inertia 68 = .ok (.ireturn, 1) := by decide +kernel
theorem dX11_best_0 : decode cX11_best 0 = .ok (.aload_n 0, 1) := by decide +kernel
theorem dX11_best_1 : decode cX11_best 1 = .ok (.iload_n 1, 1) := by decide +kernel
theorem dX11_best_2 : decode cX11_best 2 = .ok (.invokevirtual 164, 3) := by decide +kernel
theorem dX11_best_5 : decode cX11_best 5 = .ok (.ifCond .ne 19, 3) := by decide +kernel
theorem dX11_best_8 : decode cX11_best 8 = .ok (.iload_n 3, 1) := by decide +kernel
theorem dX11_best_9 : decode cX11_best 9 = .ok (.iconst 0, 1) := by decide +kernel
theorem dX11_best_10 : decode cX11_best 10 = .ok (.iconst 2, 1) := by decide +kernel
theorem dX11_best_11 : decode cX11_best 11 = .ok (.invokestatic 53, 3) := by decide +kernel
theorem dX11_best_14 : decode cX11_best 14 = .ok (.ifCond .ne 10, 3) := by decide +kernel
theorem dX11_best_17 : decode cX11_best 17 = .ok (.aload_n 0, 1) := by decide +kernel
theorem dX11_best_18 : decode cX11_best 18 = .ok (.invokevirtual 136, 3) := by decide +kernel
theorem dX11_best_21 : decode cX11_best 21 = .ok (.ifCond .eq 5, 3) := by decide +kernel
theorem dX11_best_24 : decode cX11_best 24 = .ok (.iconst (-1), 1) := by decide +kernel
theorem dX11_best_25 : decode cX11_best 25 = .ok (.ireturn, 1) := by decide +kernel
theorem dX11_best_26 : decode cX11_best 26 = .ok (.iload_n 2, 1) := by decide +kernel
theorem dX11_best_27 : decode cX11_best 27 = .ok (.invokestatic 200, 3) := by decide +kernel
theorem dX11_best_30 : decode cX11_best 30 = .ok (.ifCond .eq 6, 3) := by decide +kernel
theorem dX11_best_33 : decode cX11_best 33 = .ok (.bipush (-2), 2) := by decide +kernel
theorem dX11_best_35 : decode cX11_best 35 = .ok (.ireturn, 1) := by decide +kernel
theorem dX11_best_36 : decode cX11_best 36 = .ok (.aload_n 0, 1) := by decide +kernel
theorem dX11_best_37 : decode cX11_best 37 = .ok (.invokevirtual 190, 3) := by decide +kernel
theorem dX11_best_40 : decode cX11_best 40 = .ok (.aload_n 0, 1) := by decide +kernel
theorem dX11_best_41 : decode cX11_best 41 = .ok (.aload_n 0, 1) := by decide +kernel
theorem dX11_best_42 : decode cX11_best 42 = .ok (.getfield 39, 3) := by decide +kernel
theorem dX11_best_45 : decode cX11_best 45 = .ok (.iload_n 1, 1) := by decide +kernel
theorem dX11_best_46 : decode cX11_best 46 = .ok (.invokevirtual 193, 3) := by decide +kernel
theorem dX11_best_49 : decode cX11_best 49 = .ok (.aload_n 0, 1) := by decide +kernel
theorem dX11_best_50 : decode cX11_best 50 = .ok (.aload_n 0, 1) := by decide +kernel
theorem dX11_best_51 : decode cX11_best 51 = .ok (.getfield 12, 3) := by decide +kernel
theorem dX11_best_54 : decode cX11_best 54 = .ok (.getfield 155, 3) := by decide +kernel
theorem dX11_best_57 : decode cX11_best 57 = .ok (.iload_n 1, 1) := by decide +kernel
theorem dX11_best_58 : decode cX11_best 58 = .ok (.aaload, 1) := by decide +kernel
theorem dX11_best_59 : decode cX11_best 59 = .ok (.iload_n 2, 1) := by decide +kernel
theorem dX11_best_60 : decode cX11_best 60 = .ok (.invokevirtual 214, 3) := by decide +kernel
theorem dX11_best_63 : decode cX11_best 63 = .ok (.istore 4, 2) := by decide +kernel
theorem dX11_best_65 : decode cX11_best 65 = .ok (.iload 4, 2) := by decide +kernel
theorem dX11_best_67 : decode cX11_best 67 = .ok (.bipush (-5), 2) := by decide +kernel
theorem dX11_best_69 : decode cX11_best 69 = .ok (.if_icmp .ne 6, 3) := by decide +kernel
theorem dX11_best_72 : decode cX11_best 72 = .ok (.bipush (-5), 2) := by decide +kernel
theorem dX11_best_74 : decode cX11_best 74 = .ok (.ireturn, 1) := by decide +kernel
theorem dX11_best_75 : decode cX11_best 75 = .ok (.iload_n 3, 1) := by decide +kernel
theorem dX11_best_76 : decode cX11_best 76 = .ok (.lookupswitch 40 #[(0, 28), (1, 34)], 28) := by decide +kernel
theorem dX11_best_104 : decode cX11_best 104 = .ok (.iload 4, 2) := by decide +kernel
theorem dX11_best_106 : decode cX11_best 106 = .ok (.bipush 40, 2) := by decide +kernel
theorem dX11_best_108 : decode cX11_best 108 = .ok (.irem, 1) := by decide +kernel
theorem dX11_best_109 : decode cX11_best 109 = .ok (.ireturn, 1) := by decide +kernel
theorem dX11_best_110 : decode cX11_best 110 = .ok (.iload 4, 2) := by decide +kernel
theorem dX11_best_112 : decode cX11_best 112 = .ok (.bipush 40, 2) := by decide +kernel
theorem dX11_best_114 : decode cX11_best 114 = .ok (.idiv, 1) := by decide +kernel
theorem dX11_best_115 : decode cX11_best 115 = .ok (.ireturn, 1) := by decide +kernel
theorem dX11_best_116 : decode cX11_best 116 = .ok (.aload_n 0, 1) := by decide +kernel
theorem dX11_best_117 : decode cX11_best 117 = .ok (.iload_n 1, 1) := by decide +kernel
theorem dX11_best_118 : decode cX11_best 118 = .ok (.invokevirtual 185, 3) := by decide +kernel
theorem dX11_best_121 : decode cX11_best 121 = .ok (.aload_n 0, 1) := by decide +kernel
theorem dX11_best_122 : decode cX11_best 122 = .ok (.getfield 12, 3) := by decide +kernel
theorem dX11_best_125 : decode cX11_best 125 = .ok (.getfield 155, 3) := by decide +kernel
theorem dX11_best_128 : decode cX11_best 128 = .ok (.iload_n 1, 1) := by decide +kernel
theorem dX11_best_129 : decode cX11_best 129 = .ok (.aaload, 1) := by decide +kernel
theorem dX11_best_130 : decode cX11_best 130 = .ok (.iload 4, 2) := by decide +kernel
theorem dX11_best_132 : decode cX11_best 132 = .ok (.bipush 40, 2) := by decide +kernel
theorem dX11_best_134 : decode cX11_best 134 = .ok (.idiv, 1) := by decide +kernel
theorem dX11_best_135 : decode cX11_best 135 = .ok (.invokevirtual 179, 3) := by decide +kernel
theorem dX11_best_138 : decode cX11_best 138 = .ok (.iadd, 1) := by decide +kernel
theorem dX11_best_139 : decode cX11_best 139 = .ok (.ireturn, 1) := by decide +kernel
theorem dX11_sure_0 : decode cX11_sure 0 = .ok (.aload_n 0, 1) := by decide +kernel
theorem dX11_sure_1 : decode cX11_sure 1 = .ok (.invokevirtual 136, 3) := by decide +kernel
theorem dX11_sure_4 : decode cX11_sure 4 = .ok (.ifCond .ne 27, 3) := by decide +kernel
theorem dX11_sure_7 : decode cX11_sure 7 = .ok (.iload_n 1, 1) := by decide +kernel
theorem dX11_sure_8 : decode cX11_sure 8 = .ok (.invokestatic 200, 3) := by decide +kernel
theorem dX11_sure_11 : decode cX11_sure 11 = .ok (.ifCond .ne 20, 3) := by decide +kernel
theorem dX11_sure_14 : decode cX11_sure 14 = .ok (.iload_n 2, 1) := by decide +kernel
theorem dX11_sure_15 : decode cX11_sure 15 = .ok (.iconst 0, 1) := by decide +kernel
theorem dX11_sure_16 : decode cX11_sure 16 = .ok (.iconst 1, 1) := by decide +kernel
theorem dX11_sure_17 : decode cX11_sure 17 = .ok (.invokestatic 53, 3) := by decide +kernel
theorem dX11_sure_20 : decode cX11_sure 20 = .ok (.ifCond .ne 11, 3) := by decide +kernel
theorem dX11_sure_23 : decode cX11_sure 23 = .ok (.aload_n 0, 1) := by decide +kernel
theorem dX11_sure_24 : decode cX11_sure 24 = .ok (.invokevirtual 218, 3) := by decide +kernel
theorem dX11_sure_27 : decode cX11_sure 27 = .ok (.iconst 4, 1) := by decide +kernel
theorem dX11_sure_28 : decode cX11_sure 28 = .ok (.if_icmp .le 7, 3) := by decide +kernel
theorem dX11_sure_31 : decode cX11_sure 31 = .ok (.ldc2_w 188, 3) := by decide +kernel
theorem dX11_sure_34 : decode cX11_sure 34 = .ok (.lreturn, 1) := by decide +kernel
theorem dX11_sure_35 : decode cX11_sure 35 = .ok (.aload_n 0, 1) := by decide +kernel
theorem dX11_sure_36 : decode cX11_sure 36 = .ok (.aload_n 0, 1) := by decide +kernel
theorem dX11_sure_37 : decode cX11_sure 37 = .ok (.getfield 36, 3) := by decide +kernel
theorem dX11_sure_40 : decode cX11_sure 40 = .ok (.iconst (-1), 1) := by decide +kernel
theorem dX11_sure_41 : decode cX11_sure 41 = .ok (.invokevirtual 193, 3) := by decide +kernel
theorem dX11_sure_44 : decode cX11_sure 44 = .ok (.aload_n 0, 1) := by decide +kernel
theorem dX11_sure_45 : decode cX11_sure 45 = .ok (.invokevirtual 222, 3) := by decide +kernel
theorem dX11_sure_48 : decode cX11_sure 48 = .ok (.lconst 0, 1) := by decide +kernel
theorem dX11_sure_49 : decode cX11_sure 49 = .ok (.lstore_n 3, 1) := by decide +kernel
theorem dX11_sure_50 : decode cX11_sure 50 = .ok (.lconst 0, 1) := by decide +kernel
theorem dX11_sure_51 : decode cX11_sure 51 = .ok (.lstore 5, 2) := by decide +kernel
theorem dX11_sure_53 : decode cX11_sure 53 = .ok (.aload_n 0, 1) := by decide +kernel
theorem dX11_sure_54 : decode cX11_sure 54 = .ok (.invokevirtual 225, 3) := by decide +kernel
theorem dX11_sure_57 : decode cX11_sure 57 = .ok (.istore 7, 2) := by decide +kernel
theorem dX11_sure_59 : decode cX11_sure 59 = .ok (.iconst 0, 1) := by decide +kernel
theorem dX11_sure_60 : decode cX11_sure 60 = .ok (.istore 8, 2) := by decide +kernel
theorem dX11_sure_62 : decode cX11_sure 62 = .ok (.iload 8, 2) := by decide +kernel
theorem dX11_sure_64 : decode cX11_sure 64 = .ok (.iload 7, 2) := by decide +kernel
theorem dX11_sure_66 : decode cX11_sure 66 = .ok (.if_icmp .ge 46, 3) := by decide +kernel
theorem dX11_sure_69 : decode cX11_sure 69 = .ok (.aload_n 0, 1) := by decide +kernel
theorem dX11_sure_70 : decode cX11_sure 70 = .ok (.iload 8, 2) := by decide +kernel
theorem dX11_sure_72 : decode cX11_sure 72 = .ok (.invokevirtual 228, 3) := by decide +kernel
theorem dX11_sure_75 : decode cX11_sure 75 = .ok (.istore 9, 2) := by decide +kernel
theorem dX11_sure_77 : decode cX11_sure 77 = .ok (.lload 5, 2) := by decide +kernel
theorem dX11_sure_79 : decode cX11_sure 79 = .ok (.iload 9, 2) := by decide +kernel
theorem dX11_sure_81 : decode cX11_sure 81 = .ok (.i2l, 1) := by decide +kernel
theorem dX11_sure_82 : decode cX11_sure 82 = .ok (.ladd, 1) := by decide +kernel
theorem dX11_sure_83 : decode cX11_sure 83 = .ok (.lstore 5, 2) := by decide +kernel
theorem dX11_sure_85 : decode cX11_sure 85 = .ok (.iload 9, 2) := by decide +kernel
theorem dX11_sure_87 : decode cX11_sure 87 = .ok (.ifCond .le 19, 3) := by decide +kernel
theorem dX11_sure_90 : decode cX11_sure 90 = .ok (.aload_n 0, 1) := by decide +kernel
theorem dX11_sure_91 : decode cX11_sure 91 = .ok (.iload_n 1, 1) := by decide +kernel
theorem dX11_sure_92 : decode cX11_sure 92 = .ok (.invokevirtual 231, 3) := by decide +kernel
theorem dX11_sure_95 : decode cX11_sure 95 = .ok (.bipush (-5), 2) := by decide +kernel
theorem dX11_sure_97 : decode cX11_sure 97 = .ok (.if_icmp .ne 9, 3) := by decide +kernel
theorem dX11_sure_100 : decode cX11_sure 100 = .ok (.lload_n 3, 1) := by decide +kernel
theorem dX11_sure_101 : decode cX11_sure 101 = .ok (.iload 9, 2) := by decide +kernel
theorem dX11_sure_103 : decode cX11_sure 103 = .ok (.i2l, 1) := by decide +kernel
theorem dX11_sure_104 : decode cX11_sure 104 = .ok (.ladd, 1) := by decide +kernel
theorem dX11_sure_105 : decode cX11_sure 105 = .ok (.lstore_n 3, 1) := by decide +kernel
theorem dX11_sure_106 : decode cX11_sure 106 = .ok (.iinc 8 1, 3) := by decide +kernel
theorem dX11_sure_109 : decode cX11_sure 109 = .ok (.goto (-47), 3) := by decide +kernel
theorem dX11_sure_112 : decode cX11_sure 112 = .ok (.lconst 1, 1) := by decide +kernel
theorem dX11_sure_113 : decode cX11_sure 113 = .ok (.lload 5, 2) := by decide +kernel
theorem dX11_sure_115 : decode cX11_sure 115 = .ok (.lload_n 3, 1) := by decide +kernel
theorem dX11_sure_116 : decode cX11_sure 116 = .ok (.invokestatic 234, 3) := by decide +kernel
theorem dX11_sure_119 : decode cX11_sure 119 = .ok (.invokestatic 238, 3) := by decide +kernel
theorem dX11_sure_122 : decode cX11_sure 122 = .ok (.lstore 8, 2) := by decide +kernel
theorem dX11_sure_124 : decode cX11_sure 124 = .ok (.iload_n 2, 1) := by decide +kernel
theorem dX11_sure_125 : decode cX11_sure 125 = .ok (.ifCond .ne 10, 3) := by decide +kernel
theorem dX11_sure_128 : decode cX11_sure 128 = .ok (.lload_n 3, 1) := by decide +kernel
theorem dX11_sure_129 : decode cX11_sure 129 = .ok (.lload 8, 2) := by decide +kernel
theorem dX11_sure_131 : decode cX11_sure 131 = .ok (.ldiv, 1) := by decide +kernel
theorem dX11_sure_132 : decode cX11_sure 132 = .ok (.goto 8, 3) := by decide +kernel
theorem dX11_sure_135 : decode cX11_sure 135 = .ok (.lload 5, 2) := by decide +kernel
theorem dX11_sure_137 : decode cX11_sure 137 = .ok (.lload 8, 2) := by decide +kernel
theorem dX11_sure_139 : decode cX11_sure 139 = .ok (.ldiv, 1) := by decide +kernel
theorem dX11_sure_140 : decode cX11_sure 140 = .ok (.lreturn, 1) := by decide +kernel
theorem dX11_worst_0 : decode cX11_worst 0 = .ok (.iload_n 2, 1) := by decide +kernel
theorem dX11_worst_1 : decode cX11_worst 1 = .ok (.iconst 0, 1) := by decide +kernel
theorem dX11_worst_2 : decode cX11_worst 2 = .ok (.iconst 1, 1) := by decide +kernel
theorem dX11_worst_3 : decode cX11_worst 3 = .ok (.invokestatic 53, 3) := by decide +kernel
theorem dX11_worst_6 : decode cX11_worst 6 = .ok (.ifCond .ne 10, 3) := by decide +kernel
theorem dX11_worst_9 : decode cX11_worst 9 = .ok (.aload_n 0, 1) := by decide +kernel
theorem dX11_worst_10 : decode cX11_worst 10 = .ok (.invokevirtual 136, 3) := by decide +kernel
theorem dX11_worst_13 : decode cX11_worst 13 = .ok (.ifCond .eq 5, 3) := by decide +kernel
theorem dX11_worst_16 : decode cX11_worst 16 = .ok (.iconst (-1), 1) := by decide +kernel
theorem dX11_worst_17 : decode cX11_worst 17 = .ok (.ireturn, 1) := by decide +kernel
theorem dX11_worst_18 : decode cX11_worst 18 = .ok (.iload_n 1, 1) := by decide +kernel
theorem dX11_worst_19 : decode cX11_worst 19 = .ok (.invokestatic 200, 3) := by decide +kernel
theorem dX11_worst_22 : decode cX11_worst 22 = .ok (.ifCond .eq 6, 3) := by decide +kernel
theorem dX11_worst_25 : decode cX11_worst 25 = .ok (.bipush (-2), 2) := by decide +kernel
theorem dX11_worst_27 : decode cX11_worst 27 = .ok (.ireturn, 1) := by decide +kernel
theorem dX11_worst_28 : decode cX11_worst 28 = .ok (.aload_n 0, 1) := by decide +kernel
theorem dX11_worst_29 : decode cX11_worst 29 = .ok (.invokevirtual 218, 3) := by decide +kernel
theorem dX11_worst_32 : decode cX11_worst 32 = .ok (.iconst 4, 1) := by decide +kernel
theorem dX11_worst_33 : decode cX11_worst 33 = .ok (.if_icmp .le 6, 3) := by decide +kernel
theorem dX11_worst_36 : decode cX11_worst 36 = .ok (.bipush (-9), 2) := by decide +kernel
theorem dX11_worst_38 : decode cX11_worst 38 = .ok (.ireturn, 1) := by decide +kernel
theorem dX11_worst_39 : decode cX11_worst 39 = .ok (.aload_n 0, 1) := by decide +kernel
theorem dX11_worst_40 : decode cX11_worst 40 = .ok (.aload_n 0, 1) := by decide +kernel
theorem dX11_worst_41 : decode cX11_worst 41 = .ok (.getfield 36, 3) := by decide +kernel
theorem dX11_worst_44 : decode cX11_worst 44 = .ok (.iconst (-1), 1) := by decide +kernel
theorem dX11_worst_45 : decode cX11_worst 45 = .ok (.invokevirtual 193, 3) := by decide +kernel
theorem dX11_worst_48 : decode cX11_worst 48 = .ok (.aload_n 0, 1) := by decide +kernel
theorem dX11_worst_49 : decode cX11_worst 49 = .ok (.invokevirtual 222, 3) := by decide +kernel
theorem dX11_worst_52 : decode cX11_worst 52 = .ok (.bipush (-5), 2) := by decide +kernel
theorem dX11_worst_54 : decode cX11_worst 54 = .ok (.istore_n 3, 1) := by decide +kernel
theorem dX11_worst_55 : decode cX11_worst 55 = .ok (.bipush (-5), 2) := by decide +kernel
theorem dX11_worst_57 : decode cX11_worst 57 = .ok (.istore 4, 2) := by decide +kernel
theorem dX11_worst_59 : decode cX11_worst 59 = .ok (.aload_n 0, 1) := by decide +kernel
theorem dX11_worst_60 : decode cX11_worst 60 = .ok (.invokevirtual 225, 3) := by decide +kernel
theorem dX11_worst_63 : decode cX11_worst 63 = .ok (.istore 5, 2) := by decide +kernel
theorem dX11_worst_65 : decode cX11_worst 65 = .ok (.iconst 0, 1) := by decide +kernel
theorem dX11_worst_66 : decode cX11_worst 66 = .ok (.istore 6, 2) := by decide +kernel
theorem dX11_worst_68 : decode cX11_worst 68 = .ok (.iload 6, 2) := by decide +kernel
theorem dX11_worst_70 : decode cX11_worst 70 = .ok (.iload 5, 2) := by decide +kernel
theorem dX11_worst_72 : decode cX11_worst 72 = .ok (.if_icmp .ge 58, 3) := by decide +kernel
theorem dX11_worst_75 : decode cX11_worst 75 = .ok (.aload_n 0, 1) := by decide +kernel
theorem dX11_worst_76 : decode cX11_worst 76 = .ok (.iload 6, 2) := by decide +kernel
theorem dX11_worst_78 : decode cX11_worst 78 = .ok (.invokevirtual 228, 3) := by decide +kernel
theorem dX11_worst_81 : decode cX11_worst 81 = .ok (.ifCond .le 11, 3) := by decide +kernel
theorem dX11_worst_84 : decode cX11_worst 84 = .ok (.aload_n 0, 1) := by decide +kernel
theorem dX11_worst_85 : decode cX11_worst 85 = .ok (.iload_n 1, 1) := by decide +kernel
theorem dX11_worst_86 : decode cX11_worst 86 = .ok (.invokevirtual 231, 3) := by decide +kernel
theorem dX11_worst_89 : decode cX11_worst 89 = .ok (.goto 5, 3) := by decide +kernel
theorem dX11_worst_92 : decode cX11_worst 92 = .ok (.bipush (-5), 2) := by decide +kernel
theorem dX11_worst_94 : decode cX11_worst 94 = .ok (.istore 7, 2) := by decide +kernel
theorem dX11_worst_96 : decode cX11_worst 96 = .ok (.iload 7, 2) := by decide +kernel
theorem dX11_worst_98 : decode cX11_worst 98 = .ok (.bipush (-5), 2) := by decide +kernel
theorem dX11_worst_100 : decode cX11_worst 100 = .ok (.if_icmp .eq 24, 3) := by decide +kernel
theorem dX11_worst_103 : decode cX11_worst 103 = .ok (.iload_n 3, 1) := by decide +kernel
theorem dX11_worst_104 : decode cX11_worst 104 = .ok (.bipush (-5), 2) := by decide +kernel
theorem dX11_worst_106 : decode cX11_worst 106 = .ok (.if_icmp .eq 9, 3) := by decide +kernel
theorem dX11_worst_109 : decode cX11_worst 109 = .ok (.iload 7, 2) := by decide +kernel
theorem dX11_worst_111 : decode cX11_worst 111 = .ok (.iload_n 3, 1) := by decide +kernel
theorem dX11_worst_112 : decode cX11_worst 112 = .ok (.if_icmp .ge 12, 3) := by decide +kernel
theorem dX11_worst_115 : decode cX11_worst 115 = .ok (.iload 7, 2) := by decide +kernel
theorem dX11_worst_117 : decode cX11_worst 117 = .ok (.istore_n 3, 1) := by decide +kernel
theorem dX11_worst_118 : decode cX11_worst 118 = .ok (.aload_n 0, 1) := by decide +kernel
theorem dX11_worst_119 : decode cX11_worst 119 = .ok (.invokevirtual 240, 3) := by decide +kernel
theorem dX11_worst_122 : decode cX11_worst 122 = .ok (.istore 4, 2) := by decide +kernel
theorem dX11_worst_124 : decode cX11_worst 124 = .ok (.iinc 6 1, 3) := by decide +kernel
theorem dX11_worst_127 : decode cX11_worst 127 = .ok (.goto (-59), 3) := by decide +kernel
theorem dX11_worst_130 : decode cX11_worst 130 = .ok (.iload_n 2, 1) := by decide +kernel
theorem dX11_worst_131 : decode cX11_worst 131 = .ok (.ifCond .ne 7, 3) := by decide +kernel
theorem dX11_worst_134 : decode cX11_worst 134 = .ok (.iload_n 3, 1) := by decide +kernel
theorem dX11_worst_135 : decode cX11_worst 135 = .ok (.goto 5, 3) := by decide +kernel
theorem dX11_worst_138 : decode cX11_worst 138 = .ok (.iload 4, 2) := by decide +kernel
theorem dX11_worst_140 : decode cX11_worst 140 = .ok (.ireturn, 1) := by decide +kernel
theorem dX11_beside_0 : decode cX11_beside 0 = .ok (.aload_n 0, 1) := by decide +kernel
theorem dX11_beside_1 : decode cX11_beside 1 = .ok (.iload_n 1, 1) := by decide +kernel
theorem dX11_beside_2 : decode cX11_beside 2 = .ok (.invokevirtual 164, 3) := by decide +kernel
theorem dX11_beside_5 : decode cX11_beside 5 = .ok (.ifCond .ne 10, 3) := by decide +kernel
theorem dX11_beside_8 : decode cX11_beside 8 = .ok (.aload_n 0, 1) := by decide +kernel
theorem dX11_beside_9 : decode cX11_beside 9 = .ok (.invokevirtual 136, 3) := by decide +kernel
theorem dX11_beside_12 : decode cX11_beside 12 = .ok (.ifCond .eq 5, 3) := by decide +kernel
theorem dX11_beside_15 : decode cX11_beside 15 = .ok (.iconst (-1), 1) := by decide +kernel
theorem dX11_beside_16 : decode cX11_beside 16 = .ok (.ireturn, 1) := by decide +kernel
theorem dX11_beside_17 : decode cX11_beside 17 = .ok (.iload_n 2, 1) := by decide +kernel
theorem dX11_beside_18 : decode cX11_beside 18 = .ok (.iconst 0, 1) := by decide +kernel
theorem dX11_beside_19 : decode cX11_beside 19 = .ok (.sipush 999, 3) := by decide +kernel
theorem dX11_beside_22 : decode cX11_beside 22 = .ok (.invokestatic 53, 3) := by decide +kernel
theorem dX11_beside_25 : decode cX11_beside 25 = .ok (.ifCond .ne 21, 3) := by decide +kernel
theorem dX11_beside_28 : decode cX11_beside 28 = .ok (.iload_n 3, 1) := by decide +kernel
theorem dX11_beside_29 : decode cX11_beside 29 = .ok (.iconst 1, 1) := by decide +kernel
theorem dX11_beside_30 : decode cX11_beside 30 = .ok (.bipush 20, 2) := by decide +kernel
theorem dX11_beside_32 : decode cX11_beside 32 = .ok (.invokestatic 53, 3) := by decide +kernel
theorem dX11_beside_35 : decode cX11_beside 35 = .ok (.ifCond .ne 11, 3) := by decide +kernel
theorem dX11_beside_38 : decode cX11_beside 38 = .ok (.iload 4, 2) := by decide +kernel
theorem dX11_beside_40 : decode cX11_beside 40 = .ok (.invokestatic 200, 3) := by decide +kernel
theorem dX11_beside_43 : decode cX11_beside 43 = .ok (.ifCond .eq 6, 3) := by decide +kernel
theorem dX11_beside_46 : decode cX11_beside 46 = .ok (.bipush (-2), 2) := by decide +kernel
theorem dX11_beside_48 : decode cX11_beside 48 = .ok (.ireturn, 1) := by decide +kernel
theorem dX11_beside_49 : decode cX11_beside 49 = .ok (.aload_n 0, 1) := by decide +kernel
theorem dX11_beside_50 : decode cX11_beside 50 = .ok (.invokevirtual 190, 3) := by decide +kernel
theorem dX11_beside_53 : decode cX11_beside 53 = .ok (.aload_n 0, 1) := by decide +kernel
theorem dX11_beside_54 : decode cX11_beside 54 = .ok (.aload_n 0, 1) := by decide +kernel
theorem dX11_beside_55 : decode cX11_beside 55 = .ok (.getfield 39, 3) := by decide +kernel
theorem dX11_beside_58 : decode cX11_beside 58 = .ok (.iload_n 1, 1) := by decide +kernel
theorem dX11_beside_59 : decode cX11_beside 59 = .ok (.invokevirtual 193, 3) := by decide +kernel
theorem dX11_beside_62 : decode cX11_beside 62 = .ok (.aload_n 0, 1) := by decide +kernel
theorem dX11_beside_63 : decode cX11_beside 63 = .ok (.aload_n 0, 1) := by decide +kernel
theorem dX11_beside_64 : decode cX11_beside 64 = .ok (.getfield 12, 3) := by decide +kernel
theorem dX11_beside_67 : decode cX11_beside 67 = .ok (.getfield 155, 3) := by decide +kernel
theorem dX11_beside_70 : decode cX11_beside 70 = .ok (.iload_n 1, 1) := by decide +kernel
theorem dX11_beside_71 : decode cX11_beside 71 = .ok (.aaload, 1) := by decide +kernel
theorem dX11_beside_72 : decode cX11_beside 72 = .ok (.iload_n 2, 1) := by decide +kernel
theorem dX11_beside_73 : decode cX11_beside 73 = .ok (.iload_n 3, 1) := by decide +kernel
theorem dX11_beside_74 : decode cX11_beside 74 = .ok (.iload 4, 2) := by decide +kernel
theorem dX11_beside_76 : decode cX11_beside 76 = .ok (.invokevirtual 243, 3) := by decide +kernel
theorem dX11_beside_79 : decode cX11_beside 79 = .ok (.ireturn, 1) := by decide +kernel
theorem dX11_pump_0 : decode cX11_pump 0 = .ok (.iload_n 1, 1) := by decide +kernel
theorem dX11_pump_1 : decode cX11_pump 1 = .ok (.iconst 0, 1) := by decide +kernel
theorem dX11_pump_2 : decode cX11_pump 2 = .ok (.bipush 9, 2) := by decide +kernel
theorem dX11_pump_4 : decode cX11_pump 4 = .ok (.invokestatic 53, 3) := by decide +kernel
theorem dX11_pump_7 : decode cX11_pump 7 = .ok (.ifCond .ne 10, 3) := by decide +kernel
theorem dX11_pump_10 : decode cX11_pump 10 = .ok (.aload_n 0, 1) := by decide +kernel
theorem dX11_pump_11 : decode cX11_pump 11 = .ok (.invokevirtual 136, 3) := by decide +kernel
theorem dX11_pump_14 : decode cX11_pump 14 = .ok (.ifCond .eq 5, 3) := by decide +kernel
theorem dX11_pump_17 : decode cX11_pump 17 = .ok (.iconst (-1), 1) := by decide +kernel
theorem dX11_pump_18 : decode cX11_pump 18 = .ok (.ireturn, 1) := by decide +kernel
theorem dX11_pump_19 : decode cX11_pump 19 = .ok (.iload_n 2, 1) := by decide +kernel
theorem dX11_pump_20 : decode cX11_pump 20 = .ok (.iconst 0, 1) := by decide +kernel
theorem dX11_pump_21 : decode cX11_pump 21 = .ok (.iconst 4, 1) := by decide +kernel
theorem dX11_pump_22 : decode cX11_pump 22 = .ok (.invokestatic 53, 3) := by decide +kernel
theorem dX11_pump_25 : decode cX11_pump 25 = .ok (.ifCond .eq 6, 3) := by decide +kernel
theorem dX11_pump_28 : decode cX11_pump 28 = .ok (.bipush (-2), 2) := by decide +kernel
theorem dX11_pump_30 : decode cX11_pump 30 = .ok (.ireturn, 1) := by decide +kernel
theorem dX11_pump_31 : decode cX11_pump 31 = .ok (.aload_n 0, 1) := by decide +kernel
theorem dX11_pump_32 : decode cX11_pump 32 = .ok (.invokevirtual 190, 3) := by decide +kernel
theorem dX11_pump_35 : decode cX11_pump 35 = .ok (.iload_n 1, 1) := by decide +kernel
theorem dX11_pump_36 : decode cX11_pump 36 = .ok (.iload_n 2, 1) := by decide +kernel
theorem dX11_pump_37 : decode cX11_pump 37 = .ok (.imul, 1) := by decide +kernel
theorem dX11_pump_38 : decode cX11_pump 38 = .ok (.istore_n 3, 1) := by decide +kernel
theorem dX11_pump_39 : decode cX11_pump 39 = .ok (.iconst 0, 1) := by decide +kernel
theorem dX11_pump_40 : decode cX11_pump 40 = .ok (.istore 4, 2) := by decide +kernel
theorem dX11_pump_42 : decode cX11_pump 42 = .ok (.aload_n 0, 1) := by decide +kernel
theorem dX11_pump_43 : decode cX11_pump 43 = .ok (.iconst 0, 1) := by decide +kernel
theorem dX11_pump_44 : decode cX11_pump 44 = .ok (.iload_n 3, 1) := by decide +kernel
theorem dX11_pump_45 : decode cX11_pump 45 = .ok (.invokevirtual 247, 3) := by decide +kernel
theorem dX11_pump_48 : decode cX11_pump 48 = .ok (.istore 5, 2) := by decide +kernel
theorem dX11_pump_50 : decode cX11_pump 50 = .ok (.iconst 1, 1) := by decide +kernel
theorem dX11_pump_51 : decode cX11_pump 51 = .ok (.istore 6, 2) := by decide +kernel
theorem dX11_pump_53 : decode cX11_pump 53 = .ok (.iload 6, 2) := by decide +kernel
theorem dX11_pump_55 : decode cX11_pump 55 = .ok (.bipush 40, 2) := by decide +kernel
theorem dX11_pump_57 : decode cX11_pump 57 = .ok (.if_icmp .ge 33, 3) := by decide +kernel
theorem dX11_pump_60 : decode cX11_pump 60 = .ok (.aload_n 0, 1) := by decide +kernel
theorem dX11_pump_61 : decode cX11_pump 61 = .ok (.iload 6, 2) := by decide +kernel
theorem dX11_pump_63 : decode cX11_pump 63 = .ok (.iload_n 3, 1) := by decide +kernel
theorem dX11_pump_64 : decode cX11_pump 64 = .ok (.invokevirtual 247, 3) := by decide +kernel
theorem dX11_pump_67 : decode cX11_pump 67 = .ok (.istore 7, 2) := by decide +kernel
theorem dX11_pump_69 : decode cX11_pump 69 = .ok (.iload 7, 2) := by decide +kernel
theorem dX11_pump_71 : decode cX11_pump 71 = .ok (.iload 5, 2) := by decide +kernel
theorem dX11_pump_73 : decode cX11_pump 73 = .ok (.if_icmp .le 11, 3) := by decide +kernel
theorem dX11_pump_76 : decode cX11_pump 76 = .ok (.iload 7, 2) := by decide +kernel
theorem dX11_pump_78 : decode cX11_pump 78 = .ok (.istore 5, 2) := by decide +kernel
theorem dX11_pump_80 : decode cX11_pump 80 = .ok (.iload 6, 2) := by decide +kernel
theorem dX11_pump_82 : decode cX11_pump 82 = .ok (.istore 4, 2) := by decide +kernel
theorem dX11_pump_84 : decode cX11_pump 84 = .ok (.iinc 6 1, 3) := by decide +kernel
theorem dX11_pump_87 : decode cX11_pump 87 = .ok (.goto (-34), 3) := by decide +kernel
theorem dX11_pump_90 : decode cX11_pump 90 = .ok (.iload 4, 2) := by decide +kernel
theorem dX11_pump_92 : decode cX11_pump 92 = .ok (.ireturn, 1) := by decide +kernel
theorem dX11_row_0 : decode cX11_row 0 = .ok (.iload_n 1, 1) := by decide +kernel
theorem dX11_row_1 : decode cX11_row 1 = .ok (.bipush (-100), 2) := by decide +kernel
theorem dX11_row_3 : decode cX11_row 3 = .ok (.if_icmp .ne 13, 3) := by decide +kernel
theorem dX11_row_6 : decode cX11_row 6 = .ok (.aload_n 0, 1) := by decide +kernel
theorem dX11_row_7 : decode cX11_row 7 = .ok (.getfield 12, 3) := by decide +kernel
theorem dX11_row_10 : decode cX11_row 10 = .ok (.iconst 0, 1) := by decide +kernel
theorem dX11_row_11 : decode cX11_row 11 = .ok (.putfield 250, 3) := by decide +kernel
theorem dX11_row_14 : decode cX11_row 14 = .ok (.iconst 0, 1) := by decide +kernel
theorem dX11_row_15 : decode cX11_row 15 = .ok (.ireturn, 1) := by decide +kernel
theorem dX11_row_16 : decode cX11_row 16 = .ok (.iload_n 1, 1) := by decide +kernel
theorem dX11_row_17 : decode cX11_row 17 = .ok (.bipush (-99), 2) := by decide +kernel
theorem dX11_row_19 : decode cX11_row 19 = .ok (.sipush 999, 3) := by decide +kernel
theorem dX11_row_22 : decode cX11_row 22 = .ok (.invokestatic 53, 3) := by decide +kernel
theorem dX11_row_25 : decode cX11_row 25 = .ok (.ifCond .eq 6, 3) := by decide +kernel
theorem dX11_row_28 : decode cX11_row 28 = .ok (.bipush (-2), 2) := by decide +kernel
theorem dX11_row_30 : decode cX11_row 30 = .ok (.ireturn, 1) := by decide +kernel
theorem dX11_row_31 : decode cX11_row 31 = .ok (.aload_n 0, 1) := by decide +kernel
theorem dX11_row_32 : decode cX11_row 32 = .ok (.getfield 12, 3) := by decide +kernel
theorem dX11_row_35 : decode cX11_row 35 = .ok (.getfield 250, 3) := by decide +kernel
theorem dX11_row_38 : decode cX11_row 38 = .ok (.bipush 20, 2) := by decide +kernel
theorem dX11_row_40 : decode cX11_row 40 = .ok (.if_icmp .lt 6, 3) := by decide +kernel
theorem dX11_row_43 : decode cX11_row 43 = .ok (.bipush (-4), 2) := by decide +kernel
theorem dX11_row_45 : decode cX11_row 45 = .ok (.ireturn, 1) := by decide +kernel
theorem dX11_row_46 : decode cX11_row 46 = .ok (.aload_n 0, 1) := by decide +kernel
theorem dX11_row_47 : decode cX11_row 47 = .ok (.getfield 12, 3) := by decide +kernel
theorem dX11_row_50 : decode cX11_row 50 = .ok (.getfield 253, 3) := by decide +kernel
theorem dX11_row_53 : decode cX11_row 53 = .ok (.aload_n 0, 1) := by decide +kernel
theorem dX11_row_54 : decode cX11_row 54 = .ok (.getfield 12, 3) := by decide +kernel
theorem dX11_row_57 : decode cX11_row 57 = .ok (.getfield 250, 3) := by decide +kernel
theorem dX11_row_60 : decode cX11_row 60 = .ok (.iload_n 1, 1) := by decide +kernel
theorem dX11_row_61 : decode cX11_row 61 = .ok (.iastore, 1) := by decide +kernel
theorem dX11_row_62 : decode cX11_row 62 = .ok (.aload_n 0, 1) := by decide +kernel
theorem dX11_row_63 : decode cX11_row 63 = .ok (.getfield 12, 3) := by decide +kernel
theorem dX11_row_66 : decode cX11_row 66 = .ok (.dup, 1) := by decide +kernel
theorem dX11_row_67 : decode cX11_row 67 = .ok (.getfield 250, 3) := by decide +kernel
theorem dX11_row_70 : decode cX11_row 70 = .ok (.iconst 1, 1) := by decide +kernel
theorem dX11_row_71 : decode cX11_row 71 = .ok (.iadd, 1) := by decide +kernel
theorem dX11_row_72 : decode cX11_row 72 = .ok (.putfield 250, 3) := by decide +kernel
theorem dX11_row_75 : decode cX11_row 75 = .ok (.aload_n 0, 1) := by decide +kernel
theorem dX11_row_76 : decode cX11_row 76 = .ok (.getfield 12, 3) := by decide +kernel
theorem dX11_row_79 : decode cX11_row 79 = .ok (.getfield 250, 3) := by decide +kernel
theorem dX11_row_82 : decode cX11_row 82 = .ok (.ireturn, 1) := by decide +kernel
theorem dX11_watched_0 : decode cX11_watched 0 = .ok (.iload_n 2, 1) := by decide +kernel
theorem dX11_watched_1 : decode cX11_watched 1 = .ok (.iconst 0, 1) := by decide +kernel
theorem dX11_watched_2 : decode cX11_watched 2 = .ok (.iconst 1, 1) := by decide +kernel
theorem dX11_watched_3 : decode cX11_watched 3 = .ok (.invokestatic 53, 3) := by decide +kernel
theorem dX11_watched_6 : decode cX11_watched 6 = .ok (.ifCond .ne 10, 3) := by decide +kernel
theorem dX11_watched_9 : decode cX11_watched 9 = .ok (.aload_n 0, 1) := by decide +kernel
theorem dX11_watched_10 : decode cX11_watched 10 = .ok (.invokevirtual 136, 3) := by decide +kernel
theorem dX11_watched_13 : decode cX11_watched 13 = .ok (.ifCond .eq 5, 3) := by decide +kernel
theorem dX11_watched_16 : decode cX11_watched 16 = .ok (.iconst (-1), 1) := by decide +kernel
theorem dX11_watched_17 : decode cX11_watched 17 = .ok (.ireturn, 1) := by decide +kernel
theorem dX11_watched_18 : decode cX11_watched 18 = .ok (.iload_n 1, 1) := by decide +kernel
theorem dX11_watched_19 : decode cX11_watched 19 = .ok (.invokestatic 57, 3) := by decide +kernel
theorem dX11_watched_22 : decode cX11_watched 22 = .ok (.ifCond .eq 6, 3) := by decide +kernel
theorem dX11_watched_25 : decode cX11_watched 25 = .ok (.bipush (-2), 2) := by decide +kernel
theorem dX11_watched_27 : decode cX11_watched 27 = .ok (.ireturn, 1) := by decide +kernel
theorem dX11_watched_28 : decode cX11_watched 28 = .ok (.iconst 0, 1) := by decide +kernel
theorem dX11_watched_29 : decode cX11_watched 29 = .ok (.istore_n 3, 1) := by decide +kernel
theorem dX11_watched_30 : decode cX11_watched 30 = .ok (.aload_n 0, 1) := by decide +kernel
theorem dX11_watched_31 : decode cX11_watched 31 = .ok (.iconst 0, 1) := by decide +kernel
theorem dX11_watched_32 : decode cX11_watched 32 = .ok (.iload_n 1, 1) := by decide +kernel
theorem dX11_watched_33 : decode cX11_watched 33 = .ok (.invokevirtual 256, 3) := by decide +kernel
theorem dX11_watched_36 : decode cX11_watched 36 = .ok (.istore 4, 2) := by decide +kernel
theorem dX11_watched_38 : decode cX11_watched 38 = .ok (.iconst 1, 1) := by decide +kernel
theorem dX11_watched_39 : decode cX11_watched 39 = .ok (.istore 5, 2) := by decide +kernel
theorem dX11_watched_41 : decode cX11_watched 41 = .ok (.iload 5, 2) := by decide +kernel
theorem dX11_watched_43 : decode cX11_watched 43 = .ok (.bipush 99, 2) := by decide +kernel
theorem dX11_watched_45 : decode cX11_watched 45 = .ok (.if_icmp .gt 32, 3) := by decide +kernel
theorem dX11_watched_48 : decode cX11_watched 48 = .ok (.aload_n 0, 1) := by decide +kernel
theorem dX11_watched_49 : decode cX11_watched 49 = .ok (.iload 5, 2) := by decide +kernel
theorem dX11_watched_51 : decode cX11_watched 51 = .ok (.iload_n 1, 1) := by decide +kernel
theorem dX11_watched_52 : decode cX11_watched 52 = .ok (.invokevirtual 256, 3) := by decide +kernel
theorem dX11_watched_55 : decode cX11_watched 55 = .ok (.istore 6, 2) := by decide +kernel
theorem dX11_watched_57 : decode cX11_watched 57 = .ok (.iload 6, 2) := by decide +kernel
theorem dX11_watched_59 : decode cX11_watched 59 = .ok (.iload 4, 2) := by decide +kernel
theorem dX11_watched_61 : decode cX11_watched 61 = .ok (.if_icmp .ge 10, 3) := by decide +kernel
theorem dX11_watched_64 : decode cX11_watched 64 = .ok (.iload 6, 2) := by decide +kernel
theorem dX11_watched_66 : decode cX11_watched 66 = .ok (.istore 4, 2) := by decide +kernel
theorem dX11_watched_68 : decode cX11_watched 68 = .ok (.iload 5, 2) := by decide +kernel
theorem dX11_watched_70 : decode cX11_watched 70 = .ok (.istore_n 3, 1) := by decide +kernel
theorem dX11_watched_71 : decode cX11_watched 71 = .ok (.iinc 5 1, 3) := by decide +kernel
theorem dX11_watched_74 : decode cX11_watched 74 = .ok (.goto (-33), 3) := by decide +kernel
theorem dX11_watched_77 : decode cX11_watched 77 = .ok (.iload_n 2, 1) := by decide +kernel
theorem dX11_watched_78 : decode cX11_watched 78 = .ok (.ifCond .ne 7, 3) := by decide +kernel
theorem dX11_watched_81 : decode cX11_watched 81 = .ok (.iload_n 3, 1) := by decide +kernel
theorem dX11_watched_82 : decode cX11_watched 82 = .ok (.goto 5, 3) := by decide +kernel
theorem dX11_watched_85 : decode cX11_watched 85 = .ok (.iload 4, 2) := by decide +kernel
theorem dX11_watched_87 : decode cX11_watched 87 = .ok (.ireturn, 1) := by decide +kernel
theorem dX11_waits_0 : decode cX11_waits 0 = .ok (.aload_n 0, 1) := by decide +kernel
theorem dX11_waits_1 : decode cX11_waits 1 = .ok (.iload_n 1, 1) := by decide +kernel
theorem dX11_waits_2 : decode cX11_waits 2 = .ok (.invokevirtual 79, 3) := by decide +kernel
theorem dX11_waits_5 : decode cX11_waits 5 = .ok (.ifCond .ne 27, 3) := by decide +kernel
theorem dX11_waits_8 : decode cX11_waits 8 = .ok (.aload_n 0, 1) := by decide +kernel
theorem dX11_waits_9 : decode cX11_waits 9 = .ok (.iload_n 2, 1) := by decide +kernel
theorem dX11_waits_10 : decode cX11_waits 10 = .ok (.invokevirtual 79, 3) := by decide +kernel
theorem dX11_waits_13 : decode cX11_waits 13 = .ok (.ifCond .ne 19, 3) := by decide +kernel
theorem dX11_waits_16 : decode cX11_waits 16 = .ok (.iload_n 3, 1) := by decide +kernel
theorem dX11_waits_17 : decode cX11_waits 17 = .ok (.iconst 0, 1) := by decide +kernel
theorem dX11_waits_18 : decode cX11_waits 18 = .ok (.iconst 1, 1) := by decide +kernel
theorem dX11_waits_19 : decode cX11_waits 19 = .ok (.invokestatic 53, 3) := by decide +kernel
theorem dX11_waits_22 : decode cX11_waits 22 = .ok (.ifCond .ne 10, 3) := by decide +kernel
theorem dX11_waits_25 : decode cX11_waits 25 = .ok (.aload_n 0, 1) := by decide +kernel
theorem dX11_waits_26 : decode cX11_waits 26 = .ok (.invokevirtual 136, 3) := by decide +kernel
theorem dX11_waits_29 : decode cX11_waits 29 = .ok (.ifCond .eq 5, 3) := by decide +kernel
theorem dX11_waits_32 : decode cX11_waits 32 = .ok (.iconst (-1), 1) := by decide +kernel
theorem dX11_waits_33 : decode cX11_waits 33 = .ok (.ireturn, 1) := by decide +kernel
theorem dX11_waits_34 : decode cX11_waits 34 = .ok (.iload_n 1, 1) := by decide +kernel
theorem dX11_waits_35 : decode cX11_waits 35 = .ok (.iload_n 2, 1) := by decide +kernel
theorem dX11_waits_36 : decode cX11_waits 36 = .ok (.if_icmp .ne 6, 3) := by decide +kernel
theorem dX11_waits_39 : decode cX11_waits 39 = .ok (.bipush (-2), 2) := by decide +kernel
theorem dX11_waits_41 : decode cX11_waits 41 = .ok (.ireturn, 1) := by decide +kernel
theorem dX11_waits_42 : decode cX11_waits 42 = .ok (.aload_n 0, 1) := by decide +kernel
theorem dX11_waits_43 : decode cX11_waits 43 = .ok (.invokevirtual 190, 3) := by decide +kernel
theorem dX11_waits_46 : decode cX11_waits 46 = .ok (.aload_n 0, 1) := by decide +kernel
theorem dX11_waits_47 : decode cX11_waits 47 = .ok (.aload_n 0, 1) := by decide +kernel
theorem dX11_waits_48 : decode cX11_waits 48 = .ok (.getfield 12, 3) := by decide +kernel
theorem dX11_waits_51 : decode cX11_waits 51 = .ok (.getfield 65, 3) := by decide +kernel
theorem dX11_waits_54 : decode cX11_waits 54 = .ok (.iload_n 2, 1) := by decide +kernel
theorem dX11_waits_55 : decode cX11_waits 55 = .ok (.aaload, 1) := by decide +kernel
theorem dX11_waits_56 : decode cX11_waits 56 = .ok (.iconst 0, 1) := by decide +kernel
theorem dX11_waits_57 : decode cX11_waits 57 = .ok (.aload_n 0, 1) := by decide +kernel
theorem dX11_waits_58 : decode cX11_waits 58 = .ok (.getfield 47, 3) := by decide +kernel
theorem dX11_waits_61 : decode cX11_waits 61 = .ok (.iconst 0, 1) := by decide +kernel
theorem dX11_waits_62 : decode cX11_waits 62 = .ok (.aaload, 1) := by decide +kernel
theorem dX11_waits_63 : decode cX11_waits 63 = .ok (.invokevirtual 259, 3) := by decide +kernel
theorem dX11_waits_66 : decode cX11_waits 66 = .ok (.aload_n 0, 1) := by decide +kernel
theorem dX11_waits_67 : decode cX11_waits 67 = .ok (.aload_n 0, 1) := by decide +kernel
theorem dX11_waits_68 : decode cX11_waits 68 = .ok (.getfield 12, 3) := by decide +kernel
theorem dX11_waits_71 : decode cX11_waits 71 = .ok (.getfield 65, 3) := by decide +kernel
theorem dX11_waits_74 : decode cX11_waits 74 = .ok (.iload_n 2, 1) := by decide +kernel
theorem dX11_waits_75 : decode cX11_waits 75 = .ok (.aaload, 1) := by decide +kernel
theorem dX11_waits_76 : decode cX11_waits 76 = .ok (.iconst 0, 1) := by decide +kernel
theorem dX11_waits_77 : decode cX11_waits 77 = .ok (.invokevirtual 263, 3) := by decide +kernel
theorem dX11_waits_80 : decode cX11_waits 80 = .ok (.istore 4, 2) := by decide +kernel
theorem dX11_waits_82 : decode cX11_waits 82 = .ok (.iconst 0, 1) := by decide +kernel
theorem dX11_waits_83 : decode cX11_waits 83 = .ok (.istore 5, 2) := by decide +kernel
theorem dX11_waits_85 : decode cX11_waits 85 = .ok (.iload 4, 2) := by decide +kernel
theorem dX11_waits_87 : decode cX11_waits 87 = .ok (.istore 6, 2) := by decide +kernel
theorem dX11_waits_89 : decode cX11_waits 89 = .ok (.iconst 1, 1) := by decide +kernel
theorem dX11_waits_90 : decode cX11_waits 90 = .ok (.istore 7, 2) := by decide +kernel
theorem dX11_waits_92 : decode cX11_waits 92 = .ok (.iload 7, 2) := by decide +kernel
theorem dX11_waits_94 : decode cX11_waits 94 = .ok (.bipush 9, 2) := by decide +kernel
theorem dX11_waits_96 : decode cX11_waits 96 = .ok (.if_icmp .gt 41, 3) := by decide +kernel
theorem dX11_waits_99 : decode cX11_waits 99 = .ok (.aload_n 0, 1) := by decide +kernel
theorem dX11_waits_100 : decode cX11_waits 100 = .ok (.aload_n 0, 1) := by decide +kernel
theorem dX11_waits_101 : decode cX11_waits 101 = .ok (.getfield 12, 3) := by decide +kernel
theorem dX11_waits_104 : decode cX11_waits 104 = .ok (.getfield 65, 3) := by decide +kernel
theorem dX11_waits_107 : decode cX11_waits 107 = .ok (.iload_n 2, 1) := by decide +kernel
theorem dX11_waits_108 : decode cX11_waits 108 = .ok (.aaload, 1) := by decide +kernel
theorem dX11_waits_109 : decode cX11_waits 109 = .ok (.iload 7, 2) := by decide +kernel
theorem dX11_waits_111 : decode cX11_waits 111 = .ok (.invokevirtual 263, 3) := by decide +kernel
theorem dX11_waits_114 : decode cX11_waits 114 = .ok (.istore 8, 2) := by decide +kernel
theorem dX11_waits_116 : decode cX11_waits 116 = .ok (.iload 8, 2) := by decide +kernel
theorem dX11_waits_118 : decode cX11_waits 118 = .ok (.iload 6, 2) := by decide +kernel
theorem dX11_waits_120 : decode cX11_waits 120 = .ok (.if_icmp .ge 11, 3) := by decide +kernel
theorem dX11_waits_123 : decode cX11_waits 123 = .ok (.iload 8, 2) := by decide +kernel
theorem dX11_waits_125 : decode cX11_waits 125 = .ok (.istore 6, 2) := by decide +kernel
theorem dX11_waits_127 : decode cX11_waits 127 = .ok (.iload 7, 2) := by decide +kernel
theorem dX11_waits_129 : decode cX11_waits 129 = .ok (.istore 5, 2) := by decide +kernel
theorem dX11_waits_131 : decode cX11_waits 131 = .ok (.iinc 7 1, 3) := by decide +kernel
theorem dX11_waits_134 : decode cX11_waits 134 = .ok (.goto (-42), 3) := by decide +kernel
theorem dX11_waits_137 : decode cX11_waits 137 = .ok (.iload_n 3, 1) := by decide +kernel
theorem dX11_waits_138 : decode cX11_waits 138 = .ok (.ifCond .ne 8, 3) := by decide +kernel
theorem dX11_waits_141 : decode cX11_waits 141 = .ok (.iload 5, 2) := by decide +kernel
theorem dX11_waits_143 : decode cX11_waits 143 = .ok (.goto 8, 3) := by decide +kernel
theorem dX11_waits_146 : decode cX11_waits 146 = .ok (.iload 4, 2) := by decide +kernel
theorem dX11_waits_148 : decode cX11_waits 148 = .ok (.iload 6, 2) := by decide +kernel
theorem dX11_waits_150 : decode cX11_waits 150 = .ok (.isub, 1) := by decide +kernel
theorem dX11_waits_151 : decode cX11_waits 151 = .ok (.ireturn, 1) := by decide +kernel
theorem dX11_act_0 : decode cX11_act 0 = .ok (.aload_n 0, 1) := by decide +kernel
theorem dX11_act_1 : decode cX11_act 1 = .ok (.getfield 28, 3) := by decide +kernel
theorem dX11_act_4 : decode cX11_act 4 = .ok (.iconst 0, 1) := by decide +kernel
theorem dX11_act_5 : decode cX11_act 5 = .ok (.putfield 267, 3) := by decide +kernel
theorem dX11_act_8 : decode cX11_act 8 = .ok (.aload_n 0, 1) := by decide +kernel
theorem dX11_act_9 : decode cX11_act 9 = .ok (.iload_n 1, 1) := by decide +kernel
theorem dX11_act_10 : decode cX11_act 10 = .ok (.invokevirtual 79, 3) := by decide +kernel
theorem dX11_act_13 : decode cX11_act 13 = .ok (.ifCond .eq 5, 3) := by decide +kernel
theorem dX11_act_16 : decode cX11_act 16 = .ok (.iconst 0, 1) := by decide +kernel
theorem dX11_act_17 : decode cX11_act 17 = .ok (.ireturn, 1) := by decide +kernel
theorem dX11_act_18 : decode cX11_act 18 = .ok (.aload_n 0, 1) := by decide +kernel
theorem dX11_act_19 : decode cX11_act 19 = .ok (.getfield 12, 3) := by decide +kernel
theorem dX11_act_22 : decode cX11_act 22 = .ok (.getfield 65, 3) := by decide +kernel
theorem dX11_act_25 : decode cX11_act 25 = .ok (.iload_n 1, 1) := by decide +kernel
theorem dX11_act_26 : decode cX11_act 26 = .ok (.aaload, 1) := by decide +kernel
theorem dX11_act_27 : decode cX11_act 27 = .ok (.astore 4, 2) := by decide +kernel
theorem dX11_act_29 : decode cX11_act 29 = .ok (.iload_n 2, 1) := by decide +kernel
theorem dX11_act_30 : decode cX11_act 30 = .ok (.tableswitch 59 0 2 #[26, 37, 48], 26) := by decide +kernel
theorem dX11_act_56 : decode cX11_act 56 = .ok (.aload 4, 2) := by decide +kernel
theorem dX11_act_58 : decode cX11_act 58 = .ok (.iload_n 3, 1) := by decide +kernel
theorem dX11_act_59 : decode cX11_act 59 = .ok (.aload_n 0, 1) := by decide +kernel
theorem dX11_act_60 : decode cX11_act 60 = .ok (.getfield 28, 3) := by decide +kernel
theorem dX11_act_63 : decode cX11_act 63 = .ok (.invokevirtual 270, 3) := by decide +kernel
theorem dX11_act_66 : decode cX11_act 66 = .ok (.ireturn, 1) := by decide +kernel
theorem dX11_act_67 : decode cX11_act 67 = .ok (.aload 4, 2) := by decide +kernel
theorem dX11_act_69 : decode cX11_act 69 = .ok (.iload_n 3, 1) := by decide +kernel
theorem dX11_act_70 : decode cX11_act 70 = .ok (.aload_n 0, 1) := by decide +kernel
theorem dX11_act_71 : decode cX11_act 71 = .ok (.getfield 28, 3) := by decide +kernel
theorem dX11_act_74 : decode cX11_act 74 = .ok (.invokevirtual 274, 3) := by decide +kernel
theorem dX11_act_77 : decode cX11_act 77 = .ok (.ireturn, 1) := by decide +kernel
theorem dX11_act_78 : decode cX11_act 78 = .ok (.aload 4, 2) := by decide +kernel
theorem dX11_act_80 : decode cX11_act 80 = .ok (.iload_n 3, 1) := by decide +kernel
theorem dX11_act_81 : decode cX11_act 81 = .ok (.aload_n 0, 1) := by decide +kernel
theorem dX11_act_82 : decode cX11_act 82 = .ok (.getfield 28, 3) := by decide +kernel
theorem dX11_act_85 : decode cX11_act 85 = .ok (.invokevirtual 277, 3) := by decide +kernel
theorem dX11_act_88 : decode cX11_act 88 = .ok (.ireturn, 1) := by decide +kernel
theorem dX11_act_89 : decode cX11_act 89 = .ok (.iconst 0, 1) := by decide +kernel
theorem dX11_act_90 : decode cX11_act 90 = .ok (.ireturn, 1) := by decide +kernel
theorem dX11_trace_0 : decode cX11_trace 0 = .ok (.iload_n 1, 1) := by decide +kernel
theorem dX11_trace_1 : decode cX11_trace 1 = .ok (.ifCond .lt 26, 3) := by decide +kernel
theorem dX11_trace_4 : decode cX11_trace 4 = .ok (.iload_n 1, 1) := by decide +kernel
theorem dX11_trace_5 : decode cX11_trace 5 = .ok (.aload_n 0, 1) := by decide +kernel
theorem dX11_trace_6 : decode cX11_trace 6 = .ok (.getfield 28, 3) := by decide +kernel
theorem dX11_trace_9 : decode cX11_trace 9 = .ok (.getfield 267, 3) := by decide +kernel
theorem dX11_trace_12 : decode cX11_trace 12 = .ok (.if_icmp .ge 15, 3) := by decide +kernel
theorem dX11_trace_15 : decode cX11_trace 15 = .ok (.iload_n 1, 1) := by decide +kernel
theorem dX11_trace_16 : decode cX11_trace 16 = .ok (.aload_n 0, 1) := by decide +kernel
theorem dX11_trace_17 : decode cX11_trace 17 = .ok (.getfield 28, 3) := by decide +kernel
theorem dX11_trace_20 : decode cX11_trace 20 = .ok (.getfield 280, 3) := by decide +kernel
theorem dX11_trace_23 : decode cX11_trace 23 = .ok (.arraylength, 1) := by decide +kernel
theorem dX11_trace_24 : decode cX11_trace 24 = .ok (.if_icmp .lt 7, 3) := by decide +kernel
theorem dX11_trace_27 : decode cX11_trace 27 = .ok (.iconst (-1), 1) := by decide +kernel
theorem dX11_trace_28 : decode cX11_trace 28 = .ok (.goto 12, 3) := by decide +kernel
theorem dX11_trace_31 : decode cX11_trace 31 = .ok (.aload_n 0, 1) := by decide +kernel
theorem dX11_trace_32 : decode cX11_trace 32 = .ok (.getfield 28, 3) := by decide +kernel
theorem dX11_trace_35 : decode cX11_trace 35 = .ok (.getfield 280, 3) := by decide +kernel
theorem dX11_trace_38 : decode cX11_trace 38 = .ok (.iload_n 1, 1) := by decide +kernel
theorem dX11_trace_39 : decode cX11_trace 39 = .ok (.iaload, 1) := by decide +kernel
theorem dX11_trace_40 : decode cX11_trace 40 = .ok (.ireturn, 1) := by decide +kernel
theorem dX11_as_0 : decode cX11_as 0 = .ok (.aload_n 0, 1) := by decide +kernel
theorem dX11_as_1 : decode cX11_as 1 = .ok (.iload_n 1, 1) := by decide +kernel
theorem dX11_as_2 : decode cX11_as 2 = .ok (.invokevirtual 79, 3) := by decide +kernel
theorem dX11_as_5 : decode cX11_as 5 = .ok (.ifCond .ne 13, 3) := by decide +kernel
theorem dX11_as_8 : decode cX11_as 8 = .ok (.iload_n 2, 1) := by decide +kernel
theorem dX11_as_9 : decode cX11_as 9 = .ok (.iconst 0, 1) := by decide +kernel
theorem dX11_as_10 : decode cX11_as 10 = .ok (.bipush 6, 2) := by decide +kernel
theorem dX11_as_12 : decode cX11_as 12 = .ok (.invokestatic 53, 3) := by decide +kernel
theorem dX11_as_15 : decode cX11_as 15 = .ok (.ifCond .eq 5, 3) := by decide +kernel
theorem dX11_as_18 : decode cX11_as 18 = .ok (.iconst (-1), 1) := by decide +kernel
theorem dX11_as_19 : decode cX11_as 19 = .ok (.ireturn, 1) := by decide +kernel
theorem dX11_as_20 : decode cX11_as 20 = .ok (.aload_n 0, 1) := by decide +kernel
theorem dX11_as_21 : decode cX11_as 21 = .ok (.getfield 12, 3) := by decide +kernel
theorem dX11_as_24 : decode cX11_as 24 = .ok (.getfield 65, 3) := by decide +kernel
theorem dX11_as_27 : decode cX11_as 27 = .ok (.iload_n 1, 1) := by decide +kernel
theorem dX11_as_28 : decode cX11_as 28 = .ok (.aaload, 1) := by decide +kernel
theorem dX11_as_29 : decode cX11_as 29 = .ok (.astore_n 3, 1) := by decide +kernel
theorem dX11_as_30 : decode cX11_as 30 = .ok (.aload_n 3, 1) := by decide +kernel
theorem dX11_as_31 : decode cX11_as 31 = .ok (.iload_n 2, 1) := by decide +kernel
theorem dX11_as_32 : decode cX11_as 32 = .ok (.invokestatic 283, 3) := by decide +kernel
theorem dX11_as_35 : decode cX11_as 35 = .ok (.ifCond .eq 10, 3) := by decide +kernel
theorem dX11_as_38 : decode cX11_as 38 = .ok (.aload_n 3, 1) := by decide +kernel
theorem dX11_as_39 : decode cX11_as 39 = .ok (.getfield 93, 3) := by decide +kernel
theorem dX11_as_42 : decode cX11_as 42 = .ok (.goto 5, 3) := by decide +kernel
theorem dX11_as_45 : decode cX11_as 45 = .ok (.bipush (-6), 2) := by decide +kernel
theorem dX11_as_47 : decode cX11_as 47 = .ok (.ireturn, 1) := by decide +kernel
theorem dX11_image_0 : decode cX11_image 0 = .ok (.aload_n 0, 1) := by decide +kernel
theorem dX11_image_1 : decode cX11_image 1 = .ok (.getfield 18, 3) := by decide +kernel
theorem dX11_image_4 : decode cX11_image 4 = .ok (.aload_n 0, 1) := by decide +kernel
theorem dX11_image_5 : decode cX11_image 5 = .ok (.getfield 12, 3) := by decide +kernel
theorem dX11_image_8 : decode cX11_image 8 = .ok (.invokevirtual 287, 3) := by decide +kernel
theorem dX11_image_11 : decode cX11_image 11 = .ok (.aload_n 0, 1) := by decide +kernel
theorem dX11_image_12 : decode cX11_image 12 = .ok (.iconst 1, 1) := by decide +kernel
theorem dX11_image_13 : decode cX11_image 13 = .ok (.putfield 21, 3) := by decide +kernel
theorem dX11_image_16 : decode cX11_image 16 = .ok (.aload_n 0, 1) := by decide +kernel
theorem dX11_image_17 : decode cX11_image 17 = .ok (.getfield 12, 3) := by decide +kernel
theorem dX11_image_20 : decode cX11_image 20 = .ok (.getfield 61, 3) := by decide +kernel
theorem dX11_image_23 : decode cX11_image 23 = .ok (.ireturn, 1) := by decide +kernel
theorem dX11_undo_0 : decode cX11_undo 0 = .ok (.aload_n 0, 1) := by decide +kernel
theorem dX11_undo_1 : decode cX11_undo 1 = .ok (.getfield 21, 3) := by decide +kernel
theorem dX11_undo_4 : decode cX11_undo 4 = .ok (.ifCond .ne 6, 3) := by decide +kernel
theorem dX11_undo_7 : decode cX11_undo 7 = .ok (.bipush (-3), 2) := by decide +kernel
theorem dX11_undo_9 : decode cX11_undo 9 = .ok (.ireturn, 1) := by decide +kernel
theorem dX11_undo_10 : decode cX11_undo 10 = .ok (.aload_n 0, 1) := by decide +kernel
theorem dX11_undo_11 : decode cX11_undo 11 = .ok (.getfield 12, 3) := by decide +kernel
theorem dX11_undo_14 : decode cX11_undo 14 = .ok (.aload_n 0, 1) := by decide +kernel
theorem dX11_undo_15 : decode cX11_undo 15 = .ok (.getfield 18, 3) := by decide +kernel
theorem dX11_undo_18 : decode cX11_undo 18 = .ok (.invokevirtual 287, 3) := by decide +kernel
theorem dX11_undo_21 : decode cX11_undo 21 = .ok (.aload_n 0, 1) := by decide +kernel
theorem dX11_undo_22 : decode cX11_undo 22 = .ok (.getfield 12, 3) := by decide +kernel
theorem dX11_undo_25 : decode cX11_undo 25 = .ok (.getfield 61, 3) := by decide +kernel
theorem dX11_undo_28 : decode cX11_undo 28 = .ok (.ireturn, 1) := by decide +kernel
theorem dX11_count_0 : decode cX11_count 0 = .ok (.iload_n 1, 1) := by decide +kernel
theorem dX11_count_1 : decode cX11_count 1 = .ok (.tableswitch 87 0 5 #[39, 47, 55, 63, 71, 79], 39) := by decide +kernel
theorem dX11_count_40 : decode cX11_count 40 = .ok (.aload_n 0, 1) := by decide +kernel
theorem dX11_count_41 : decode cX11_count 41 = .ok (.getfield 12, 3) := by decide +kernel
theorem dX11_count_44 : decode cX11_count 44 = .ok (.getfield 61, 3) := by decide +kernel
theorem dX11_count_47 : decode cX11_count 47 = .ok (.ireturn, 1) := by decide +kernel
theorem dX11_count_48 : decode cX11_count 48 = .ok (.aload_n 0, 1) := by decide +kernel
theorem dX11_count_49 : decode cX11_count 49 = .ok (.getfield 12, 3) := by decide +kernel
theorem dX11_count_52 : decode cX11_count 52 = .ok (.getfield 152, 3) := by decide +kernel
theorem dX11_count_55 : decode cX11_count 55 = .ok (.ireturn, 1) := by decide +kernel
theorem dX11_count_56 : decode cX11_count 56 = .ok (.aload_n 0, 1) := by decide +kernel
theorem dX11_count_57 : decode cX11_count 57 = .ok (.getfield 12, 3) := by decide +kernel
theorem dX11_count_60 : decode cX11_count 60 = .ok (.getfield 112, 3) := by decide +kernel
theorem dX11_count_63 : decode cX11_count 63 = .ok (.ireturn, 1) := by decide +kernel
theorem dX11_count_64 : decode cX11_count 64 = .ok (.aload_n 0, 1) := by decide +kernel
theorem dX11_count_65 : decode cX11_count 65 = .ok (.getfield 12, 3) := by decide +kernel
theorem dX11_count_68 : decode cX11_count 68 = .ok (.getfield 250, 3) := by decide +kernel
theorem dX11_count_71 : decode cX11_count 71 = .ok (.ireturn, 1) := by decide +kernel
theorem dX11_count_72 : decode cX11_count 72 = .ok (.aload_n 0, 1) := by decide +kernel
theorem dX11_count_73 : decode cX11_count 73 = .ok (.getfield 12, 3) := by decide +kernel
theorem dX11_count_76 : decode cX11_count 76 = .ok (.getfield 105, 3) := by decide +kernel
theorem dX11_count_79 : decode cX11_count 79 = .ok (.ireturn, 1) := by decide +kernel
theorem dX11_count_80 : decode cX11_count 80 = .ok (.aload_n 0, 1) := by decide +kernel
theorem dX11_count_81 : decode cX11_count 81 = .ok (.getfield 28, 3) := by decide +kernel
theorem dX11_count_84 : decode cX11_count 84 = .ok (.getfield 267, 3) := by decide +kernel
theorem dX11_count_87 : decode cX11_count 87 = .ok (.ireturn, 1) := by decide +kernel
theorem dX11_count_88 : decode cX11_count 88 = .ok (.iconst (-1), 1) := by decide +kernel
theorem dX11_count_89 : decode cX11_count 89 = .ok (.ireturn, 1) := by decide +kernel
theorem dX11_outside_0 : decode cX11_outside 0 = .ok (.iload_n 0, 1) := by decide +kernel
theorem dX11_outside_1 : decode cX11_outside 1 = .ok (.iload_n 1, 1) := by decide +kernel
theorem dX11_outside_2 : decode cX11_outside 2 = .ok (.if_icmp .lt 8, 3) := by decide +kernel
theorem dX11_outside_5 : decode cX11_outside 5 = .ok (.iload_n 0, 1) := by decide +kernel
theorem dX11_outside_6 : decode cX11_outside 6 = .ok (.iload_n 2, 1) := by decide +kernel
theorem dX11_outside_7 : decode cX11_outside 7 = .ok (.if_icmp .le 7, 3) := by decide +kernel
theorem dX11_outside_10 : decode cX11_outside 10 = .ok (.iconst 1, 1) := by decide +kernel
theorem dX11_outside_11 : decode cX11_outside 11 = .ok (.goto 4, 3) := by decide +kernel
theorem dX11_outside_14 : decode cX11_outside 14 = .ok (.iconst 0, 1) := by decide +kernel
theorem dX11_outside_15 : decode cX11_outside 15 = .ok (.ireturn, 1) := by decide +kernel
theorem dX11_noTick_0 : decode cX11_noTick 0 = .ok (.iload_n 0, 1) := by decide +kernel
theorem dX11_noTick_1 : decode cX11_noTick 1 = .ok (.iconst 0, 1) := by decide +kernel
theorem dX11_noTick_2 : decode cX11_noTick 2 = .ok (.bipush 39, 2) := by decide +kernel
theorem dX11_noTick_4 : decode cX11_noTick 4 = .ok (.invokestatic 53, 3) := by decide +kernel
theorem dX11_noTick_7 : decode cX11_noTick 7 = .ok (.ireturn, 1) := by decide +kernel
theorem dX11_noBound_0 : decode cX11_noBound 0 = .ok (.iload_n 0, 1) := by decide +kernel
theorem dX11_noBound_1 : decode cX11_noBound 1 = .ok (.iconst 0, 1) := by decide +kernel
theorem dX11_noBound_2 : decode cX11_noBound 2 = .ok (.sipush 999, 3) := by decide +kernel
theorem dX11_noBound_5 : decode cX11_noBound 5 = .ok (.invokestatic 53, 3) := by decide +kernel
theorem dX11_noBound_8 : decode cX11_noBound 8 = .ok (.ireturn, 1) := by decide +kernel
theorem dX11_noPause_0 : decode cX11_noPause 0 = .ok (.iload_n 1, 1) := by decide +kernel
theorem dX11_noPause_1 : decode cX11_noPause 1 = .ok (.iconst 0, 1) := by decide +kernel
theorem dX11_noPause_2 : decode cX11_noPause 2 = .ok (.aload_n 0, 1) := by decide +kernel
theorem dX11_noPause_3 : decode cX11_noPause 3 = .ok (.getfield 12, 3) := by decide +kernel
theorem dX11_noPause_6 : decode cX11_noPause 6 = .ok (.getfield 61, 3) := by decide +kernel
theorem dX11_noPause_9 : decode cX11_noPause 9 = .ok (.iconst 1, 1) := by decide +kernel
theorem dX11_noPause_10 : decode cX11_noPause 10 = .ok (.isub, 1) := by decide +kernel
theorem dX11_noPause_11 : decode cX11_noPause 11 = .ok (.invokestatic 53, 3) := by decide +kernel
theorem dX11_noPause_14 : decode cX11_noPause 14 = .ok (.ireturn, 1) := by decide +kernel
theorem dX11_noWork_0 : decode cX11_noWork 0 = .ok (.iload_n 1, 1) := by decide +kernel
theorem dX11_noWork_1 : decode cX11_noWork 1 = .ok (.iconst 0, 1) := by decide +kernel
theorem dX11_noWork_2 : decode cX11_noWork 2 = .ok (.aload_n 0, 1) := by decide +kernel
theorem dX11_noWork_3 : decode cX11_noWork 3 = .ok (.getfield 12, 3) := by decide +kernel
theorem dX11_noWork_6 : decode cX11_noWork 6 = .ok (.getfield 152, 3) := by decide +kernel
theorem dX11_noWork_9 : decode cX11_noWork 9 = .ok (.iconst 1, 1) := by decide +kernel
theorem dX11_noWork_10 : decode cX11_noWork 10 = .ok (.isub, 1) := by decide +kernel
theorem dX11_noWork_11 : decode cX11_noWork 11 = .ok (.invokestatic 53, 3) := by decide +kernel
theorem dX11_noWork_14 : decode cX11_noWork 14 = .ok (.ireturn, 1) := by decide +kernel
theorem dX11_noLaw_0 : decode cX11_noLaw 0 = .ok (.aload_n 0, 1) := by decide +kernel
theorem dX11_noLaw_1 : decode cX11_noLaw 1 = .ok (.getfield 12, 3) := by decide +kernel
theorem dX11_noLaw_4 : decode cX11_noLaw 4 = .ok (.getfield 112, 3) := by decide +kernel
theorem dX11_noLaw_7 : decode cX11_noLaw 7 = .ok (.ifCond .ne 7, 3) := by decide +kernel
theorem dX11_noLaw_10 : decode cX11_noLaw 10 = .ok (.iconst 1, 1) := by decide +kernel
theorem dX11_noLaw_11 : decode cX11_noLaw 11 = .ok (.goto 4, 3) := by decide +kernel
theorem dX11_noLaw_14 : decode cX11_noLaw 14 = .ok (.iconst 0, 1) := by decide +kernel
theorem dX11_noLaw_15 : decode cX11_noLaw 15 = .ok (.ireturn, 1) := by decide +kernel
theorem dX11_newPause_0 : decode cX11_newPause 0 = .ok (.iload_n 1, 1) := by decide +kernel
theorem dX11_newPause_1 : decode cX11_newPause 1 = .ok (.tableswitch 123 1 6 #[39, 53, 67, 81, 95, 109], 39) := by decide +kernel
theorem dX11_newPause_40 : decode cX11_newPause 40 = .ok (.new 291, 3) := by decide +kernel
theorem dX11_newPause_43 : decode cX11_newPause 43 = .ok (.dup, 1) := by decide +kernel
theorem dX11_newPause_44 : decode cX11_newPause 44 = .ok (.iload_n 0, 1) := by decide +kernel
theorem dX11_newPause_45 : decode cX11_newPause 45 = .ok (.iload_n 1, 1) := by decide +kernel
theorem dX11_newPause_46 : decode cX11_newPause 46 = .ok (.iload_n 2, 1) := by decide +kernel
theorem dX11_newPause_47 : decode cX11_newPause 47 = .ok (.iload_n 3, 1) := by decide +kernel
theorem dX11_newPause_48 : decode cX11_newPause 48 = .ok (.iload 4, 2) := by decide +kernel
theorem dX11_newPause_50 : decode cX11_newPause 50 = .ok (.invokespecial 293, 3) := by decide +kernel
theorem dX11_newPause_53 : decode cX11_newPause 53 = .ok (.areturn, 1) := by decide +kernel
theorem dX11_newPause_54 : decode cX11_newPause 54 = .ok (.new 296, 3) := by decide +kernel
theorem dX11_newPause_57 : decode cX11_newPause 57 = .ok (.dup, 1) := by decide +kernel
theorem dX11_newPause_58 : decode cX11_newPause 58 = .ok (.iload_n 0, 1) := by decide +kernel
theorem dX11_newPause_59 : decode cX11_newPause 59 = .ok (.iload_n 1, 1) := by decide +kernel
theorem dX11_newPause_60 : decode cX11_newPause 60 = .ok (.iload_n 2, 1) := by decide +kernel
theorem dX11_newPause_61 : decode cX11_newPause 61 = .ok (.iload_n 3, 1) := by decide +kernel
theorem dX11_newPause_62 : decode cX11_newPause 62 = .ok (.iload 4, 2) := by decide +kernel
theorem dX11_newPause_64 : decode cX11_newPause 64 = .ok (.invokespecial 298, 3) := by decide +kernel
theorem dX11_newPause_67 : decode cX11_newPause 67 = .ok (.areturn, 1) := by decide +kernel
theorem dX11_newPause_68 : decode cX11_newPause 68 = .ok (.new 299, 3) := by decide +kernel
theorem dX11_newPause_71 : decode cX11_newPause 71 = .ok (.dup, 1) := by decide +kernel
theorem dX11_newPause_72 : decode cX11_newPause 72 = .ok (.iload_n 0, 1) := by decide +kernel
theorem dX11_newPause_73 : decode cX11_newPause 73 = .ok (.iload_n 1, 1) := by decide +kernel
theorem dX11_newPause_74 : decode cX11_newPause 74 = .ok (.iload_n 2, 1) := by decide +kernel
theorem dX11_newPause_75 : decode cX11_newPause 75 = .ok (.iload_n 3, 1) := by decide +kernel
theorem dX11_newPause_76 : decode cX11_newPause 76 = .ok (.iload 4, 2) := by decide +kernel
theorem dX11_newPause_78 : decode cX11_newPause 78 = .ok (.invokespecial 301, 3) := by decide +kernel
theorem dX11_newPause_81 : decode cX11_newPause 81 = .ok (.areturn, 1) := by decide +kernel
theorem dX11_newPause_82 : decode cX11_newPause 82 = .ok (.new 302, 3) := by decide +kernel
theorem dX11_newPause_85 : decode cX11_newPause 85 = .ok (.dup, 1) := by decide +kernel
theorem dX11_newPause_86 : decode cX11_newPause 86 = .ok (.iload_n 0, 1) := by decide +kernel
theorem dX11_newPause_87 : decode cX11_newPause 87 = .ok (.iload_n 1, 1) := by decide +kernel
theorem dX11_newPause_88 : decode cX11_newPause 88 = .ok (.iload_n 2, 1) := by decide +kernel
theorem dX11_newPause_89 : decode cX11_newPause 89 = .ok (.iload_n 3, 1) := by decide +kernel
theorem dX11_newPause_90 : decode cX11_newPause 90 = .ok (.iload 4, 2) := by decide +kernel
theorem dX11_newPause_92 : decode cX11_newPause 92 = .ok (.invokespecial 304, 3) := by decide +kernel
theorem dX11_newPause_95 : decode cX11_newPause 95 = .ok (.areturn, 1) := by decide +kernel
theorem dX11_newPause_96 : decode cX11_newPause 96 = .ok (.new 305, 3) := by decide +kernel
theorem dX11_newPause_99 : decode cX11_newPause 99 = .ok (.dup, 1) := by decide +kernel
theorem dX11_newPause_100 : decode cX11_newPause 100 = .ok (.iload_n 0, 1) := by decide +kernel
theorem dX11_newPause_101 : decode cX11_newPause 101 = .ok (.iload_n 1, 1) := by decide +kernel
theorem dX11_newPause_102 : decode cX11_newPause 102 = .ok (.iload_n 2, 1) := by decide +kernel
theorem dX11_newPause_103 : decode cX11_newPause 103 = .ok (.iload_n 3, 1) := by decide +kernel
theorem dX11_newPause_104 : decode cX11_newPause 104 = .ok (.iload 4, 2) := by decide +kernel
theorem dX11_newPause_106 : decode cX11_newPause 106 = .ok (.invokespecial 307, 3) := by decide +kernel
theorem dX11_newPause_109 : decode cX11_newPause 109 = .ok (.areturn, 1) := by decide +kernel
theorem dX11_newPause_110 : decode cX11_newPause 110 = .ok (.new 308, 3) := by decide +kernel
theorem dX11_newPause_113 : decode cX11_newPause 113 = .ok (.dup, 1) := by decide +kernel
theorem dX11_newPause_114 : decode cX11_newPause 114 = .ok (.iload_n 0, 1) := by decide +kernel
theorem dX11_newPause_115 : decode cX11_newPause 115 = .ok (.iload_n 1, 1) := by decide +kernel
theorem dX11_newPause_116 : decode cX11_newPause 116 = .ok (.iload_n 2, 1) := by decide +kernel
theorem dX11_newPause_117 : decode cX11_newPause 117 = .ok (.iload_n 3, 1) := by decide +kernel
theorem dX11_newPause_118 : decode cX11_newPause 118 = .ok (.iload 4, 2) := by decide +kernel
theorem dX11_newPause_120 : decode cX11_newPause 120 = .ok (.invokespecial 310, 3) := by decide +kernel
theorem dX11_newPause_123 : decode cX11_newPause 123 = .ok (.areturn, 1) := by decide +kernel
theorem dX11_newPause_124 : decode cX11_newPause 124 = .ok (.new 83, 3) := by decide +kernel
theorem dX11_newPause_127 : decode cX11_newPause 127 = .ok (.dup, 1) := by decide +kernel
theorem dX11_newPause_128 : decode cX11_newPause 128 = .ok (.iload_n 0, 1) := by decide +kernel
theorem dX11_newPause_129 : decode cX11_newPause 129 = .ok (.iload_n 1, 1) := by decide +kernel
theorem dX11_newPause_130 : decode cX11_newPause 130 = .ok (.iload_n 2, 1) := by decide +kernel
theorem dX11_newPause_131 : decode cX11_newPause 131 = .ok (.iload_n 3, 1) := by decide +kernel
theorem dX11_newPause_132 : decode cX11_newPause 132 = .ok (.iload 4, 2) := by decide +kernel
theorem dX11_newPause_134 : decode cX11_newPause 134 = .ok (.invokespecial 311, 3) := by decide +kernel
theorem dX11_newPause_137 : decode cX11_newPause 137 = .ok (.areturn, 1) := by decide +kernel
theorem dX11_isOfKind_0 : decode cX11_isOfKind 0 = .ok (.iload_n 1, 1) := by decide +kernel
theorem dX11_isOfKind_1 : decode cX11_isOfKind 1 = .ok (.tableswitch 69 1 6 #[39, 44, 49, 54, 59, 64], 39) := by decide +kernel
theorem dX11_isOfKind_40 : decode cX11_isOfKind 40 = .ok (.aload_n 0, 1) := by decide +kernel
theorem dX11_isOfKind_41 : decode cX11_isOfKind 41 = .ok (.instanceof 291, 3) := by decide +kernel
theorem dX11_isOfKind_44 : decode cX11_isOfKind 44 = .ok (.ireturn, 1) := by decide +kernel
theorem dX11_isOfKind_45 : decode cX11_isOfKind 45 = .ok (.aload_n 0, 1) := by decide +kernel
theorem dX11_isOfKind_46 : decode cX11_isOfKind 46 = .ok (.instanceof 296, 3) := by decide +kernel
theorem dX11_isOfKind_49 : decode cX11_isOfKind 49 = .ok (.ireturn, 1) := by decide +kernel
theorem dX11_isOfKind_50 : decode cX11_isOfKind 50 = .ok (.aload_n 0, 1) := by decide +kernel
theorem dX11_isOfKind_51 : decode cX11_isOfKind 51 = .ok (.instanceof 299, 3) := by decide +kernel
theorem dX11_isOfKind_54 : decode cX11_isOfKind 54 = .ok (.ireturn, 1) := by decide +kernel
theorem dX11_isOfKind_55 : decode cX11_isOfKind 55 = .ok (.aload_n 0, 1) := by decide +kernel
theorem dX11_isOfKind_56 : decode cX11_isOfKind 56 = .ok (.instanceof 302, 3) := by decide +kernel
theorem dX11_isOfKind_59 : decode cX11_isOfKind 59 = .ok (.ireturn, 1) := by decide +kernel
theorem dX11_isOfKind_60 : decode cX11_isOfKind 60 = .ok (.aload_n 0, 1) := by decide +kernel
theorem dX11_isOfKind_61 : decode cX11_isOfKind 61 = .ok (.instanceof 305, 3) := by decide +kernel
theorem dX11_isOfKind_64 : decode cX11_isOfKind 64 = .ok (.ireturn, 1) := by decide +kernel
theorem dX11_isOfKind_65 : decode cX11_isOfKind 65 = .ok (.aload_n 0, 1) := by decide +kernel
theorem dX11_isOfKind_66 : decode cX11_isOfKind 66 = .ok (.instanceof 308, 3) := by decide +kernel
theorem dX11_isOfKind_69 : decode cX11_isOfKind 69 = .ok (.ireturn, 1) := by decide +kernel
theorem dX11_isOfKind_70 : decode cX11_isOfKind 70 = .ok (.iconst 1, 1) := by decide +kernel
theorem dX11_isOfKind_71 : decode cX11_isOfKind 71 = .ok (.ireturn, 1) := by decide +kernel
theorem dX11_demandAt_0 : decode cX11_demandAt 0 = .ok (.iconst 0, 1) := by decide +kernel
theorem dX11_demandAt_1 : decode cX11_demandAt 1 = .ok (.istore_n 2, 1) := by decide +kernel
theorem dX11_demandAt_2 : decode cX11_demandAt 2 = .ok (.iconst 0, 1) := by decide +kernel
theorem dX11_demandAt_3 : decode cX11_demandAt 3 = .ok (.istore_n 3, 1) := by decide +kernel
theorem dX11_demandAt_4 : decode cX11_demandAt 4 = .ok (.iload_n 3, 1) := by decide +kernel
theorem dX11_demandAt_5 : decode cX11_demandAt 5 = .ok (.aload_n 0, 1) := by decide +kernel
theorem dX11_demandAt_6 : decode cX11_demandAt 6 = .ok (.getfield 12, 3) := by decide +kernel
theorem dX11_demandAt_9 : decode cX11_demandAt 9 = .ok (.getfield 61, 3) := by decide +kernel
theorem dX11_demandAt_12 : decode cX11_demandAt 12 = .ok (.if_icmp .ge 40, 3) := by decide +kernel
theorem dX11_demandAt_15 : decode cX11_demandAt 15 = .ok (.aload_n 0, 1) := by decide +kernel
theorem dX11_demandAt_16 : decode cX11_demandAt 16 = .ok (.getfield 12, 3) := by decide +kernel
theorem dX11_demandAt_19 : decode cX11_demandAt 19 = .ok (.getfield 65, 3) := by decide +kernel
theorem dX11_demandAt_22 : decode cX11_demandAt 22 = .ok (.iload_n 3, 1) := by decide +kernel
theorem dX11_demandAt_23 : decode cX11_demandAt 23 = .ok (.aaload, 1) := by decide +kernel
theorem dX11_demandAt_24 : decode cX11_demandAt 24 = .ok (.astore 4, 2) := by decide +kernel
theorem dX11_demandAt_26 : decode cX11_demandAt 26 = .ok (.iload_n 2, 1) := by decide +kernel
theorem dX11_demandAt_27 : decode cX11_demandAt 27 = .ok (.aload 4, 2) := by decide +kernel
theorem dX11_demandAt_29 : decode cX11_demandAt 29 = .ok (.aload_n 0, 1) := by decide +kernel
theorem dX11_demandAt_30 : decode cX11_demandAt 30 = .ok (.getfield 12, 3) := by decide +kernel
theorem dX11_demandAt_33 : decode cX11_demandAt 33 = .ok (.aload 4, 2) := by decide +kernel
theorem dX11_demandAt_35 : decode cX11_demandAt 35 = .ok (.iload_n 1, 1) := by decide +kernel
theorem dX11_demandAt_36 : decode cX11_demandAt 36 = .ok (.iconst 0, 1) := by decide +kernel
theorem dX11_demandAt_37 : decode cX11_demandAt 37 = .ok (.invokevirtual 140, 3) := by decide +kernel
theorem dX11_demandAt_40 : decode cX11_demandAt 40 = .ok (.iload_n 1, 1) := by decide +kernel
theorem dX11_demandAt_41 : decode cX11_demandAt 41 = .ok (.invokevirtual 144, 3) := by decide +kernel
theorem dX11_demandAt_44 : decode cX11_demandAt 44 = .ok (.iadd, 1) := by decide +kernel
theorem dX11_demandAt_45 : decode cX11_demandAt 45 = .ok (.istore_n 2, 1) := by decide +kernel
theorem dX11_demandAt_46 : decode cX11_demandAt 46 = .ok (.iinc 3 1, 3) := by decide +kernel
theorem dX11_demandAt_49 : decode cX11_demandAt 49 = .ok (.goto (-45), 3) := by decide +kernel
theorem dX11_demandAt_52 : decode cX11_demandAt 52 = .ok (.iload_n 2, 1) := by decide +kernel
theorem dX11_demandAt_53 : decode cX11_demandAt 53 = .ok (.ireturn, 1) := by decide +kernel
theorem dX11_demandBefore_0 : decode cX11_demandBefore 0 = .ok (.iload_n 1, 1) := by decide +kernel
theorem dX11_demandBefore_1 : decode cX11_demandBefore 1 = .ok (.iload_n 2, 1) := by decide +kernel
theorem dX11_demandBefore_2 : decode cX11_demandBefore 2 = .ok (.if_icmp .ge 7, 3) := by decide +kernel
theorem dX11_demandBefore_5 : decode cX11_demandBefore 5 = .ok (.iconst 0, 1) := by decide +kernel
theorem dX11_demandBefore_6 : decode cX11_demandBefore 6 = .ok (.goto 11, 3) := by decide +kernel
theorem dX11_demandBefore_9 : decode cX11_demandBefore 9 = .ok (.aload_n 0, 1) := by decide +kernel
theorem dX11_demandBefore_10 : decode cX11_demandBefore 10 = .ok (.getfield 32, 3) := by decide +kernel
theorem dX11_demandBefore_13 : decode cX11_demandBefore 13 = .ok (.iload_n 1, 1) := by decide +kernel
theorem dX11_demandBefore_14 : decode cX11_demandBefore 14 = .ok (.iload_n 2, 1) := by decide +kernel
theorem dX11_demandBefore_15 : decode cX11_demandBefore 15 = .ok (.isub, 1) := by decide +kernel
theorem dX11_demandBefore_16 : decode cX11_demandBefore 16 = .ok (.iaload, 1) := by decide +kernel
theorem dX11_demandBefore_17 : decode cX11_demandBefore 17 = .ok (.ireturn, 1) := by decide +kernel
theorem dX11_madeAt_0 : decode cX11_madeAt 0 = .ok (.iconst 0, 1) := by decide +kernel
theorem dX11_madeAt_1 : decode cX11_madeAt 1 = .ok (.istore_n 3, 1) := by decide +kernel
theorem dX11_madeAt_2 : decode cX11_madeAt 2 = .ok (.iconst 0, 1) := by decide +kernel
theorem dX11_madeAt_3 : decode cX11_madeAt 3 = .ok (.istore 4, 2) := by decide +kernel
theorem dX11_madeAt_5 : decode cX11_madeAt 5 = .ok (.iload 4, 2) := by decide +kernel
theorem dX11_madeAt_7 : decode cX11_madeAt 7 = .ok (.aload_n 0, 1) := by decide +kernel
theorem dX11_madeAt_8 : decode cX11_madeAt 8 = .ok (.getfield 12, 3) := by decide +kernel
theorem dX11_madeAt_11 : decode cX11_madeAt 11 = .ok (.getfield 152, 3) := by decide +kernel
theorem dX11_madeAt_14 : decode cX11_madeAt 14 = .ok (.if_icmp .ge 32, 3) := by decide +kernel
theorem dX11_madeAt_17 : decode cX11_madeAt 17 = .ok (.iload 4, 2) := by decide +kernel
theorem dX11_madeAt_19 : decode cX11_madeAt 19 = .ok (.iload_n 2, 1) := by decide +kernel
theorem dX11_madeAt_20 : decode cX11_madeAt 20 = .ok (.if_icmp .eq 20, 3) := by decide +kernel
theorem dX11_madeAt_23 : decode cX11_madeAt 23 = .ok (.iload_n 3, 1) := by decide +kernel
theorem dX11_madeAt_24 : decode cX11_madeAt 24 = .ok (.aload_n 0, 1) := by decide +kernel
theorem dX11_madeAt_25 : decode cX11_madeAt 25 = .ok (.getfield 12, 3) := by decide +kernel
theorem dX11_madeAt_28 : decode cX11_madeAt 28 = .ok (.getfield 155, 3) := by decide +kernel
theorem dX11_madeAt_31 : decode cX11_madeAt 31 = .ok (.iload 4, 2) := by decide +kernel
theorem dX11_madeAt_33 : decode cX11_madeAt 33 = .ok (.aaload, 1) := by decide +kernel
theorem dX11_madeAt_34 : decode cX11_madeAt 34 = .ok (.iload_n 1, 1) := by decide +kernel
theorem dX11_madeAt_35 : decode cX11_madeAt 35 = .ok (.invokevirtual 312, 3) := by decide +kernel
theorem dX11_madeAt_38 : decode cX11_madeAt 38 = .ok (.iadd, 1) := by decide +kernel
theorem dX11_madeAt_39 : decode cX11_madeAt 39 = .ok (.istore_n 3, 1) := by decide +kernel
theorem dX11_madeAt_40 : decode cX11_madeAt 40 = .ok (.iinc 4 1, 3) := by decide +kernel
theorem dX11_madeAt_43 : decode cX11_madeAt 43 = .ok (.goto (-38), 3) := by decide +kernel
theorem dX11_madeAt_46 : decode cX11_madeAt 46 = .ok (.iload_n 3, 1) := by decide +kernel
theorem dX11_madeAt_47 : decode cX11_madeAt 47 = .ok (.ireturn, 1) := by decide +kernel
theorem dX11_costsBut_0 : decode cX11_costsBut 0 = .ok (.iconst 0, 1) := by decide +kernel
theorem dX11_costsBut_1 : decode cX11_costsBut 1 = .ok (.istore_n 2, 1) := by decide +kernel
theorem dX11_costsBut_2 : decode cX11_costsBut 2 = .ok (.iconst 0, 1) := by decide +kernel
theorem dX11_costsBut_3 : decode cX11_costsBut 3 = .ok (.istore_n 3, 1) := by decide +kernel
theorem dX11_costsBut_4 : decode cX11_costsBut 4 = .ok (.iload_n 3, 1) := by decide +kernel
theorem dX11_costsBut_5 : decode cX11_costsBut 5 = .ok (.aload_n 0, 1) := by decide +kernel
theorem dX11_costsBut_6 : decode cX11_costsBut 6 = .ok (.getfield 12, 3) := by decide +kernel
theorem dX11_costsBut_9 : decode cX11_costsBut 9 = .ok (.getfield 152, 3) := by decide +kernel
theorem dX11_costsBut_12 : decode cX11_costsBut 12 = .ok (.if_icmp .ge 41, 3) := by decide +kernel
theorem dX11_costsBut_15 : decode cX11_costsBut 15 = .ok (.iload_n 3, 1) := by decide +kernel
theorem dX11_costsBut_16 : decode cX11_costsBut 16 = .ok (.iload_n 1, 1) := by decide +kernel
theorem dX11_costsBut_17 : decode cX11_costsBut 17 = .ok (.if_icmp .eq 30, 3) := by decide +kernel
theorem dX11_costsBut_20 : decode cX11_costsBut 20 = .ok (.iload_n 2, 1) := by decide +kernel
theorem dX11_costsBut_21 : decode cX11_costsBut 21 = .ok (.aload_n 0, 1) := by decide +kernel
theorem dX11_costsBut_22 : decode cX11_costsBut 22 = .ok (.getfield 12, 3) := by decide +kernel
theorem dX11_costsBut_25 : decode cX11_costsBut 25 = .ok (.getfield 155, 3) := by decide +kernel
theorem dX11_costsBut_28 : decode cX11_costsBut 28 = .ok (.iload_n 3, 1) := by decide +kernel
theorem dX11_costsBut_29 : decode cX11_costsBut 29 = .ok (.aaload, 1) := by decide +kernel
theorem dX11_costsBut_30 : decode cX11_costsBut 30 = .ok (.aload_n 0, 1) := by decide +kernel
theorem dX11_costsBut_31 : decode cX11_costsBut 31 = .ok (.getfield 12, 3) := by decide +kernel
theorem dX11_costsBut_34 : decode cX11_costsBut 34 = .ok (.getfield 155, 3) := by decide +kernel
theorem dX11_costsBut_37 : decode cX11_costsBut 37 = .ok (.iload_n 3, 1) := by decide +kernel
theorem dX11_costsBut_38 : decode cX11_costsBut 38 = .ok (.aaload, 1) := by decide +kernel
theorem dX11_costsBut_39 : decode cX11_costsBut 39 = .ok (.getfield 315, 3) := by decide +kernel
theorem dX11_costsBut_42 : decode cX11_costsBut 42 = .ok (.invokevirtual 179, 3) := by decide +kernel
theorem dX11_costsBut_45 : decode cX11_costsBut 45 = .ok (.iadd, 1) := by decide +kernel
theorem dX11_costsBut_46 : decode cX11_costsBut 46 = .ok (.istore_n 2, 1) := by decide +kernel
theorem dX11_costsBut_47 : decode cX11_costsBut 47 = .ok (.iinc 3 1, 3) := by decide +kernel
theorem dX11_costsBut_50 : decode cX11_costsBut 50 = .ok (.goto (-46), 3) := by decide +kernel
theorem dX11_costsBut_53 : decode cX11_costsBut 53 = .ok (.iload_n 2, 1) := by decide +kernel
theorem dX11_costsBut_54 : decode cX11_costsBut 54 = .ok (.ireturn, 1) := by decide +kernel
theorem dX11_layDemand_0 : decode cX11_layDemand 0 = .ok (.iconst 0, 1) := by decide +kernel
theorem dX11_layDemand_1 : decode cX11_layDemand 1 = .ok (.istore_n 1, 1) := by decide +kernel
theorem dX11_layDemand_2 : decode cX11_layDemand 2 = .ok (.iload_n 1, 1) := by decide +kernel
theorem dX11_layDemand_3 : decode cX11_layDemand 3 = .ok (.bipush 40, 2) := by decide +kernel
theorem dX11_layDemand_5 : decode cX11_layDemand 5 = .ok (.if_icmp .ge 20, 3) := by decide +kernel
theorem dX11_layDemand_8 : decode cX11_layDemand 8 = .ok (.aload_n 0, 1) := by decide +kernel
theorem dX11_layDemand_9 : decode cX11_layDemand 9 = .ok (.getfield 32, 3) := by decide +kernel
theorem dX11_layDemand_12 : decode cX11_layDemand 12 = .ok (.iload_n 1, 1) := by decide +kernel
theorem dX11_layDemand_13 : decode cX11_layDemand 13 = .ok (.aload_n 0, 1) := by decide +kernel
theorem dX11_layDemand_14 : decode cX11_layDemand 14 = .ok (.iload_n 1, 1) := by decide +kernel
theorem dX11_layDemand_15 : decode cX11_layDemand 15 = .ok (.invokevirtual 148, 3) := by decide +kernel
theorem dX11_layDemand_18 : decode cX11_layDemand 18 = .ok (.iastore, 1) := by decide +kernel
theorem dX11_layDemand_19 : decode cX11_layDemand 19 = .ok (.iinc 1 1, 3) := by decide +kernel
theorem dX11_layDemand_22 : decode cX11_layDemand 22 = .ok (.goto (-20), 3) := by decide +kernel
theorem dX11_layDemand_25 : decode cX11_layDemand 25 = .ok (.return_, 1) := by decide +kernel
theorem dX11_layMade_0 : decode cX11_layMade 0 = .ok (.iconst 0, 1) := by decide +kernel
theorem dX11_layMade_1 : decode cX11_layMade 1 = .ok (.istore_n 3, 1) := by decide +kernel
theorem dX11_layMade_2 : decode cX11_layMade 2 = .ok (.iload_n 3, 1) := by decide +kernel
theorem dX11_layMade_3 : decode cX11_layMade 3 = .ok (.bipush 40, 2) := by decide +kernel
theorem dX11_layMade_5 : decode cX11_layMade 5 = .ok (.if_icmp .ge 18, 3) := by decide +kernel
theorem dX11_layMade_8 : decode cX11_layMade 8 = .ok (.aload_n 1, 1) := by decide +kernel
theorem dX11_layMade_9 : decode cX11_layMade 9 = .ok (.iload_n 3, 1) := by decide +kernel
theorem dX11_layMade_10 : decode cX11_layMade 10 = .ok (.aload_n 0, 1) := by decide +kernel
theorem dX11_layMade_11 : decode cX11_layMade 11 = .ok (.iload_n 3, 1) := by decide +kernel
theorem dX11_layMade_12 : decode cX11_layMade 12 = .ok (.iload_n 2, 1) := by decide +kernel
theorem dX11_layMade_13 : decode cX11_layMade 13 = .ok (.invokevirtual 182, 3) := by decide +kernel
theorem dX11_layMade_16 : decode cX11_layMade 16 = .ok (.iastore, 1) := by decide +kernel
theorem dX11_layMade_17 : decode cX11_layMade 17 = .ok (.iinc 3 1, 3) := by decide +kernel
theorem dX11_layMade_20 : decode cX11_layMade 20 = .ok (.goto (-18), 3) := by decide +kernel
theorem dX11_layMade_23 : decode cX11_layMade 23 = .ok (.return_, 1) := by decide +kernel
theorem dX11_pushAt_0 : decode cX11_pushAt 0 = .ok (.aload_n 0, 1) := by decide +kernel
theorem dX11_pushAt_1 : decode cX11_pushAt 1 = .ok (.getfield 36, 3) := by decide +kernel
theorem dX11_pushAt_4 : decode cX11_pushAt 4 = .ok (.iload_n 1, 1) := by decide +kernel
theorem dX11_pushAt_5 : decode cX11_pushAt 5 = .ok (.iaload, 1) := by decide +kernel
theorem dX11_pushAt_6 : decode cX11_pushAt 6 = .ok (.aload_n 0, 1) := by decide +kernel
theorem dX11_pushAt_7 : decode cX11_pushAt 7 = .ok (.getfield 32, 3) := by decide +kernel
theorem dX11_pushAt_10 : decode cX11_pushAt 10 = .ok (.iload_n 1, 1) := by decide +kernel
theorem dX11_pushAt_11 : decode cX11_pushAt 11 = .ok (.iaload, 1) := by decide +kernel
theorem dX11_pushAt_12 : decode cX11_pushAt 12 = .ok (.isub, 1) := by decide +kernel
theorem dX11_pushAt_13 : decode cX11_pushAt 13 = .ok (.bipush 10, 2) := by decide +kernel
theorem dX11_pushAt_15 : decode cX11_pushAt 15 = .ok (.imul, 1) := by decide +kernel
theorem dX11_pushAt_16 : decode cX11_pushAt 16 = .ok (.iconst 1, 1) := by decide +kernel
theorem dX11_pushAt_17 : decode cX11_pushAt 17 = .ok (.iload_n 2, 1) := by decide +kernel
theorem dX11_pushAt_18 : decode cX11_pushAt 18 = .ok (.invokestatic 211, 3) := by decide +kernel
theorem dX11_pushAt_21 : decode cX11_pushAt 21 = .ok (.idiv, 1) := by decide +kernel
theorem dX11_pushAt_22 : decode cX11_pushAt 22 = .ok (.ireturn, 1) := by decide +kernel
theorem dX11_firstBeyond_0 : decode cX11_firstBeyond 0 = .ok (.iconst 0, 1) := by decide +kernel
theorem dX11_firstBeyond_1 : decode cX11_firstBeyond 1 = .ok (.istore_n 3, 1) := by decide +kernel
theorem dX11_firstBeyond_2 : decode cX11_firstBeyond 2 = .ok (.iconst 0, 1) := by decide +kernel
theorem dX11_firstBeyond_3 : decode cX11_firstBeyond 3 = .ok (.istore 4, 2) := by decide +kernel
theorem dX11_firstBeyond_5 : decode cX11_firstBeyond 5 = .ok (.iload 4, 2) := by decide +kernel
theorem dX11_firstBeyond_7 : decode cX11_firstBeyond 7 = .ok (.bipush 40, 2) := by decide +kernel
theorem dX11_firstBeyond_9 : decode cX11_firstBeyond 9 = .ok (.if_icmp .ge 30, 3) := by decide +kernel
theorem dX11_firstBeyond_12 : decode cX11_firstBeyond 12 = .ok (.iload_n 3, 1) := by decide +kernel
theorem dX11_firstBeyond_13 : decode cX11_firstBeyond 13 = .ok (.aload_n 0, 1) := by decide +kernel
theorem dX11_firstBeyond_14 : decode cX11_firstBeyond 14 = .ok (.iload 4, 2) := by decide +kernel
theorem dX11_firstBeyond_16 : decode cX11_firstBeyond 16 = .ok (.iload_n 2, 1) := by decide +kernel
theorem dX11_firstBeyond_17 : decode cX11_firstBeyond 17 = .ok (.invokevirtual 197, 3) := by decide +kernel
theorem dX11_firstBeyond_20 : decode cX11_firstBeyond 20 = .ok (.iadd, 1) := by decide +kernel
theorem dX11_firstBeyond_21 : decode cX11_firstBeyond 21 = .ok (.istore_n 3, 1) := by decide +kernel
theorem dX11_firstBeyond_22 : decode cX11_firstBeyond 22 = .ok (.iload_n 3, 1) := by decide +kernel
theorem dX11_firstBeyond_23 : decode cX11_firstBeyond 23 = .ok (.invokestatic 318, 3) := by decide +kernel
theorem dX11_firstBeyond_26 : decode cX11_firstBeyond 26 = .ok (.iload_n 1, 1) := by decide +kernel
theorem dX11_firstBeyond_27 : decode cX11_firstBeyond 27 = .ok (.if_icmp .le 6, 3) := by decide +kernel
theorem dX11_firstBeyond_30 : decode cX11_firstBeyond 30 = .ok (.iload 4, 2) := by decide +kernel
theorem dX11_firstBeyond_32 : decode cX11_firstBeyond 32 = .ok (.ireturn, 1) := by decide +kernel
theorem dX11_firstBeyond_33 : decode cX11_firstBeyond 33 = .ok (.iinc 4 1, 3) := by decide +kernel
theorem dX11_firstBeyond_36 : decode cX11_firstBeyond 36 = .ok (.goto (-31), 3) := by decide +kernel
theorem dX11_firstBeyond_39 : decode cX11_firstBeyond 39 = .ok (.bipush (-5), 2) := by decide +kernel
theorem dX11_firstBeyond_41 : decode cX11_firstBeyond 41 = .ok (.ireturn, 1) := by decide +kernel
theorem dX11_bestPlan_0 : decode cX11_bestPlan 0 = .ok (.bipush 20, 2) := by decide +kernel
theorem dX11_bestPlan_2 : decode cX11_bestPlan 2 = .ok (.aload_n 1, 1) := by decide +kernel
theorem dX11_bestPlan_3 : decode cX11_bestPlan 3 = .ok (.getfield 173, 3) := by decide +kernel
theorem dX11_bestPlan_6 : decode cX11_bestPlan 6 = .ok (.invokestatic 206, 3) := by decide +kernel
theorem dX11_bestPlan_9 : decode cX11_bestPlan 9 = .ok (.istore_n 3, 1) := by decide +kernel
theorem dX11_bestPlan_10 : decode cX11_bestPlan 10 = .ok (.iconst 1, 1) := by decide +kernel
theorem dX11_bestPlan_11 : decode cX11_bestPlan 11 = .ok (.istore 4, 2) := by decide +kernel
theorem dX11_bestPlan_13 : decode cX11_bestPlan 13 = .ok (.iload 4, 2) := by decide +kernel
theorem dX11_bestPlan_15 : decode cX11_bestPlan 15 = .ok (.iload_n 3, 1) := by decide +kernel
theorem dX11_bestPlan_16 : decode cX11_bestPlan 16 = .ok (.if_icmp .gt 62, 3) := by decide +kernel
theorem dX11_bestPlan_19 : decode cX11_bestPlan 19 = .ok (.iconst 0, 1) := by decide +kernel
theorem dX11_bestPlan_20 : decode cX11_bestPlan 20 = .ok (.istore 5, 2) := by decide +kernel
theorem dX11_bestPlan_22 : decode cX11_bestPlan 22 = .ok (.iload 5, 2) := by decide +kernel
theorem dX11_bestPlan_24 : decode cX11_bestPlan 24 = .ok (.bipush 40, 2) := by decide +kernel
theorem dX11_bestPlan_26 : decode cX11_bestPlan 26 = .ok (.if_icmp .ge 46, 3) := by decide +kernel
theorem dX11_bestPlan_29 : decode cX11_bestPlan 29 = .ok (.aload_n 0, 1) := by decide +kernel
theorem dX11_bestPlan_30 : decode cX11_bestPlan 30 = .ok (.aload_n 1, 1) := by decide +kernel
theorem dX11_bestPlan_31 : decode cX11_bestPlan 31 = .ok (.iload 5, 2) := by decide +kernel
theorem dX11_bestPlan_33 : decode cX11_bestPlan 33 = .ok (.iload 4, 2) := by decide +kernel
theorem dX11_bestPlan_35 : decode cX11_bestPlan 35 = .ok (.invokevirtual 321, 3) := by decide +kernel
theorem dX11_bestPlan_38 : decode cX11_bestPlan 38 = .ok (.aload_n 0, 1) := by decide +kernel
theorem dX11_bestPlan_39 : decode cX11_bestPlan 39 = .ok (.iload_n 2, 1) := by decide +kernel
theorem dX11_bestPlan_40 : decode cX11_bestPlan 40 = .ok (.aload_n 0, 1) := by decide +kernel
theorem dX11_bestPlan_41 : decode cX11_bestPlan 41 = .ok (.getfield 12, 3) := by decide +kernel
theorem dX11_bestPlan_44 : decode cX11_bestPlan 44 = .ok (.getfield 96, 3) := by decide +kernel
theorem dX11_bestPlan_47 : decode cX11_bestPlan 47 = .ok (.iconst 2, 1) := by decide +kernel
theorem dX11_bestPlan_48 : decode cX11_bestPlan 48 = .ok (.iaload, 1) := by decide +kernel
theorem dX11_bestPlan_49 : decode cX11_bestPlan 49 = .ok (.invokevirtual 203, 3) := by decide +kernel
theorem dX11_bestPlan_52 : decode cX11_bestPlan 52 = .ok (.bipush (-5), 2) := by decide +kernel
theorem dX11_bestPlan_54 : decode cX11_bestPlan 54 = .ok (.if_icmp .ne 12, 3) := by decide +kernel
theorem dX11_bestPlan_57 : decode cX11_bestPlan 57 = .ok (.iload 4, 2) := by decide +kernel
theorem dX11_bestPlan_59 : decode cX11_bestPlan 59 = .ok (.bipush 40, 2) := by decide +kernel
theorem dX11_bestPlan_61 : decode cX11_bestPlan 61 = .ok (.imul, 1) := by decide +kernel
theorem dX11_bestPlan_62 : decode cX11_bestPlan 62 = .ok (.iload 5, 2) := by decide +kernel
theorem dX11_bestPlan_64 : decode cX11_bestPlan 64 = .ok (.iadd, 1) := by decide +kernel
theorem dX11_bestPlan_65 : decode cX11_bestPlan 65 = .ok (.ireturn, 1) := by decide +kernel
theorem dX11_bestPlan_66 : decode cX11_bestPlan 66 = .ok (.iinc 5 1, 3) := by decide +kernel
theorem dX11_bestPlan_69 : decode cX11_bestPlan 69 = .ok (.goto (-47), 3) := by decide +kernel
theorem dX11_bestPlan_72 : decode cX11_bestPlan 72 = .ok (.iinc 4 1, 3) := by decide +kernel
theorem dX11_bestPlan_75 : decode cX11_bestPlan 75 = .ok (.goto (-62), 3) := by decide +kernel
theorem dX11_bestPlan_78 : decode cX11_bestPlan 78 = .ok (.bipush (-5), 2) := by decide +kernel
theorem dX11_bestPlan_80 : decode cX11_bestPlan 80 = .ok (.ireturn, 1) := by decide +kernel
theorem dX11_layPlan_0 : decode cX11_layPlan 0 = .ok (.iconst 0, 1) := by decide +kernel
theorem dX11_layPlan_1 : decode cX11_layPlan 1 = .ok (.istore 4, 2) := by decide +kernel
theorem dX11_layPlan_3 : decode cX11_layPlan 3 = .ok (.iload 4, 2) := by decide +kernel
theorem dX11_layPlan_5 : decode cX11_layPlan 5 = .ok (.bipush 40, 2) := by decide +kernel
theorem dX11_layPlan_7 : decode cX11_layPlan 7 = .ok (.if_icmp .ge 32, 3) := by decide +kernel
theorem dX11_layPlan_10 : decode cX11_layPlan 10 = .ok (.aload_n 0, 1) := by decide +kernel
theorem dX11_layPlan_11 : decode cX11_layPlan 11 = .ok (.getfield 36, 3) := by decide +kernel
theorem dX11_layPlan_14 : decode cX11_layPlan 14 = .ok (.iload 4, 2) := by decide +kernel
theorem dX11_layPlan_16 : decode cX11_layPlan 16 = .ok (.aload_n 0, 1) := by decide +kernel
theorem dX11_layPlan_17 : decode cX11_layPlan 17 = .ok (.getfield 39, 3) := by decide +kernel
theorem dX11_layPlan_20 : decode cX11_layPlan 20 = .ok (.iload 4, 2) := by decide +kernel
theorem dX11_layPlan_22 : decode cX11_layPlan 22 = .ok (.iaload, 1) := by decide +kernel
theorem dX11_layPlan_23 : decode cX11_layPlan 23 = .ok (.aload_n 1, 1) := by decide +kernel
theorem dX11_layPlan_24 : decode cX11_layPlan 24 = .ok (.iload_n 2, 1) := by decide +kernel
theorem dX11_layPlan_25 : decode cX11_layPlan 25 = .ok (.iload_n 3, 1) := by decide +kernel
theorem dX11_layPlan_26 : decode cX11_layPlan 26 = .ok (.iload 4, 2) := by decide +kernel
theorem dX11_layPlan_28 : decode cX11_layPlan 28 = .ok (.invokevirtual 325, 3) := by decide +kernel
theorem dX11_layPlan_31 : decode cX11_layPlan 31 = .ok (.iadd, 1) := by decide +kernel
theorem dX11_layPlan_32 : decode cX11_layPlan 32 = .ok (.iastore, 1) := by decide +kernel
theorem dX11_layPlan_33 : decode cX11_layPlan 33 = .ok (.iinc 4 1, 3) := by decide +kernel
theorem dX11_layPlan_36 : decode cX11_layPlan 36 = .ok (.goto (-33), 3) := by decide +kernel
theorem dX11_layPlan_39 : decode cX11_layPlan 39 = .ok (.return_, 1) := by decide +kernel
theorem dX11_firstByRule_0 : decode cX11_firstByRule 0 = .ok (.aload_n 0, 1) := by decide +kernel
theorem dX11_firstByRule_1 : decode cX11_firstByRule 1 = .ok (.getfield 42, 3) := by decide +kernel
theorem dX11_firstByRule_4 : decode cX11_firstByRule 4 = .ok (.iconst 0, 1) := by decide +kernel
theorem dX11_firstByRule_5 : decode cX11_firstByRule 5 = .ok (.invokestatic 329, 3) := by decide +kernel
theorem dX11_firstByRule_8 : decode cX11_firstByRule 8 = .ok (.aload_n 1, 1) := by decide +kernel
theorem dX11_firstByRule_9 : decode cX11_firstByRule 9 = .ok (.getfield 173, 3) := by decide +kernel
theorem dX11_firstByRule_12 : decode cX11_firstByRule 12 = .ok (.istore 5, 2) := by decide +kernel
theorem dX11_firstByRule_14 : decode cX11_firstByRule 14 = .ok (.iconst 0, 1) := by decide +kernel
theorem dX11_firstByRule_15 : decode cX11_firstByRule 15 = .ok (.istore 6, 2) := by decide +kernel
theorem dX11_firstByRule_17 : decode cX11_firstByRule 17 = .ok (.iconst 0, 1) := by decide +kernel
theorem dX11_firstByRule_18 : decode cX11_firstByRule 18 = .ok (.istore 7, 2) := by decide +kernel
theorem dX11_firstByRule_20 : decode cX11_firstByRule 20 = .ok (.iload 7, 2) := by decide +kernel
theorem dX11_firstByRule_22 : decode cX11_firstByRule 22 = .ok (.bipush 40, 2) := by decide +kernel
theorem dX11_firstByRule_24 : decode cX11_firstByRule 24 = .ok (.if_icmp .ge 128, 3) := by decide +kernel
theorem dX11_firstByRule_27 : decode cX11_firstByRule 27 = .ok (.aload_n 0, 1) := by decide +kernel
theorem dX11_firstByRule_28 : decode cX11_firstByRule 28 = .ok (.getfield 42, 3) := by decide +kernel
theorem dX11_firstByRule_31 : decode cX11_firstByRule 31 = .ok (.iload 7, 2) := by decide +kernel
theorem dX11_firstByRule_33 : decode cX11_firstByRule 33 = .ok (.iaload, 1) := by decide +kernel
theorem dX11_firstByRule_34 : decode cX11_firstByRule 34 = .ok (.ifCond .eq 12, 3) := by decide +kernel
theorem dX11_firstByRule_37 : decode cX11_firstByRule 37 = .ok (.iload 5, 2) := by decide +kernel
theorem dX11_firstByRule_39 : decode cX11_firstByRule 39 = .ok (.ifCond .le 7, 3) := by decide +kernel
theorem dX11_firstByRule_42 : decode cX11_firstByRule 42 = .ok (.iconst 1, 1) := by decide +kernel
theorem dX11_firstByRule_43 : decode cX11_firstByRule 43 = .ok (.goto 4, 3) := by decide +kernel
theorem dX11_firstByRule_46 : decode cX11_firstByRule 46 = .ok (.iconst 0, 1) := by decide +kernel
theorem dX11_firstByRule_47 : decode cX11_firstByRule 47 = .ok (.istore 8, 2) := by decide +kernel
theorem dX11_firstByRule_49 : decode cX11_firstByRule 49 = .ok (.iload 5, 2) := by decide +kernel
theorem dX11_firstByRule_51 : decode cX11_firstByRule 51 = .ok (.iload 8, 2) := by decide +kernel
theorem dX11_firstByRule_53 : decode cX11_firstByRule 53 = .ok (.ifCond .eq 7, 3) := by decide +kernel
theorem dX11_firstByRule_56 : decode cX11_firstByRule 56 = .ok (.iconst 1, 1) := by decide +kernel
theorem dX11_firstByRule_57 : decode cX11_firstByRule 57 = .ok (.goto 4, 3) := by decide +kernel
theorem dX11_firstByRule_60 : decode cX11_firstByRule 60 = .ok (.iconst 0, 1) := by decide +kernel
theorem dX11_firstByRule_61 : decode cX11_firstByRule 61 = .ok (.isub, 1) := by decide +kernel
theorem dX11_firstByRule_62 : decode cX11_firstByRule 62 = .ok (.istore 5, 2) := by decide +kernel
theorem dX11_firstByRule_64 : decode cX11_firstByRule 64 = .ok (.aload_n 0, 1) := by decide +kernel
theorem dX11_firstByRule_65 : decode cX11_firstByRule 65 = .ok (.getfield 36, 3) := by decide +kernel
theorem dX11_firstByRule_68 : decode cX11_firstByRule 68 = .ok (.iload 7, 2) := by decide +kernel
theorem dX11_firstByRule_70 : decode cX11_firstByRule 70 = .ok (.aload_n 0, 1) := by decide +kernel
theorem dX11_firstByRule_71 : decode cX11_firstByRule 71 = .ok (.getfield 39, 3) := by decide +kernel
theorem dX11_firstByRule_74 : decode cX11_firstByRule 74 = .ok (.iload 7, 2) := by decide +kernel
theorem dX11_firstByRule_76 : decode cX11_firstByRule 76 = .ok (.iaload, 1) := by decide +kernel
theorem dX11_firstByRule_77 : decode cX11_firstByRule 77 = .ok (.iload 8, 2) := by decide +kernel
theorem dX11_firstByRule_79 : decode cX11_firstByRule 79 = .ok (.ifCond .eq 10, 3) := by decide +kernel
theorem dX11_firstByRule_82 : decode cX11_firstByRule 82 = .ok (.aload_n 1, 1) := by decide +kernel
theorem dX11_firstByRule_83 : decode cX11_firstByRule 83 = .ok (.getfield 170, 3) := by decide +kernel
theorem dX11_firstByRule_86 : decode cX11_firstByRule 86 = .ok (.goto 4, 3) := by decide +kernel
theorem dX11_firstByRule_89 : decode cX11_firstByRule 89 = .ok (.iconst 0, 1) := by decide +kernel
theorem dX11_firstByRule_90 : decode cX11_firstByRule 90 = .ok (.iadd, 1) := by decide +kernel
theorem dX11_firstByRule_91 : decode cX11_firstByRule 91 = .ok (.iastore, 1) := by decide +kernel
theorem dX11_firstByRule_92 : decode cX11_firstByRule 92 = .ok (.iload 6, 2) := by decide +kernel
theorem dX11_firstByRule_94 : decode cX11_firstByRule 94 = .ok (.aload_n 0, 1) := by decide +kernel
theorem dX11_firstByRule_95 : decode cX11_firstByRule 95 = .ok (.iload 7, 2) := by decide +kernel
theorem dX11_firstByRule_97 : decode cX11_firstByRule 97 = .ok (.aload_n 0, 1) := by decide +kernel
theorem dX11_firstByRule_98 : decode cX11_firstByRule 98 = .ok (.getfield 12, 3) := by decide +kernel
theorem dX11_firstByRule_101 : decode cX11_firstByRule 101 = .ok (.getfield 96, 3) := by decide +kernel
theorem dX11_firstByRule_104 : decode cX11_firstByRule 104 = .ok (.iconst 2, 1) := by decide +kernel
theorem dX11_firstByRule_105 : decode cX11_firstByRule 105 = .ok (.iaload, 1) := by decide +kernel
theorem dX11_firstByRule_106 : decode cX11_firstByRule 106 = .ok (.invokevirtual 197, 3) := by decide +kernel
theorem dX11_firstByRule_109 : decode cX11_firstByRule 109 = .ok (.iadd, 1) := by decide +kernel
theorem dX11_firstByRule_110 : decode cX11_firstByRule 110 = .ok (.istore 6, 2) := by decide +kernel
theorem dX11_firstByRule_112 : decode cX11_firstByRule 112 = .ok (.iload 6, 2) := by decide +kernel
theorem dX11_firstByRule_114 : decode cX11_firstByRule 114 = .ok (.invokestatic 318, 3) := by decide +kernel
theorem dX11_firstByRule_117 : decode cX11_firstByRule 117 = .ok (.iload 4, 2) := by decide +kernel
theorem dX11_firstByRule_119 : decode cX11_firstByRule 119 = .ok (.if_icmp .le 6, 3) := by decide +kernel
theorem dX11_firstByRule_122 : decode cX11_firstByRule 122 = .ok (.iload 7, 2) := by decide +kernel
theorem dX11_firstByRule_124 : decode cX11_firstByRule 124 = .ok (.ireturn, 1) := by decide +kernel
theorem dX11_firstByRule_125 : decode cX11_firstByRule 125 = .ok (.iload 6, 2) := by decide +kernel
theorem dX11_firstByRule_127 : decode cX11_firstByRule 127 = .ok (.iload_n 2, 1) := by decide +kernel
theorem dX11_firstByRule_128 : decode cX11_firstByRule 128 = .ok (.ineg, 1) := by decide +kernel
theorem dX11_firstByRule_129 : decode cX11_firstByRule 129 = .ok (.if_icmp .ge 17, 3) := by decide +kernel
theorem dX11_firstByRule_132 : decode cX11_firstByRule 132 = .ok (.aload_n 0, 1) := by decide +kernel
theorem dX11_firstByRule_133 : decode cX11_firstByRule 133 = .ok (.iload 7, 2) := by decide +kernel
theorem dX11_firstByRule_135 : decode cX11_firstByRule 135 = .ok (.iconst 1, 1) := by decide +kernel
theorem dX11_firstByRule_136 : decode cX11_firstByRule 136 = .ok (.iadd, 1) := by decide +kernel
theorem dX11_firstByRule_137 : decode cX11_firstByRule 137 = .ok (.aload_n 1, 1) := by decide +kernel
theorem dX11_firstByRule_138 : decode cX11_firstByRule 138 = .ok (.getfield 167, 3) := by decide +kernel
theorem dX11_firstByRule_141 : decode cX11_firstByRule 141 = .ok (.iadd, 1) := by decide +kernel
theorem dX11_firstByRule_142 : decode cX11_firstByRule 142 = .ok (.iload_n 3, 1) := by decide +kernel
theorem dX11_firstByRule_143 : decode cX11_firstByRule 143 = .ok (.invokevirtual 332, 3) := by decide +kernel
theorem dX11_firstByRule_146 : decode cX11_firstByRule 146 = .ok (.iinc 7 1, 3) := by decide +kernel
theorem dX11_firstByRule_149 : decode cX11_firstByRule 149 = .ok (.goto (-129), 3) := by decide +kernel
theorem dX11_firstByRule_152 : decode cX11_firstByRule 152 = .ok (.bipush (-5), 2) := by decide +kernel
theorem dX11_firstByRule_154 : decode cX11_firstByRule 154 = .ok (.ireturn, 1) := by decide +kernel
theorem dX11_markDue_0 : decode cX11_markDue 0 = .ok (.bipush 40, 2) := by decide +kernel
theorem dX11_markDue_2 : decode cX11_markDue 2 = .ok (.iload_n 1, 1) := by decide +kernel
theorem dX11_markDue_3 : decode cX11_markDue 3 = .ok (.iload_n 2, 1) := by decide +kernel
theorem dX11_markDue_4 : decode cX11_markDue 4 = .ok (.iadd, 1) := by decide +kernel
theorem dX11_markDue_5 : decode cX11_markDue 5 = .ok (.invokestatic 206, 3) := by decide +kernel
theorem dX11_markDue_8 : decode cX11_markDue 8 = .ok (.istore_n 3, 1) := by decide +kernel
theorem dX11_markDue_9 : decode cX11_markDue 9 = .ok (.iload_n 1, 1) := by decide +kernel
theorem dX11_markDue_10 : decode cX11_markDue 10 = .ok (.istore 4, 2) := by decide +kernel
theorem dX11_markDue_12 : decode cX11_markDue 12 = .ok (.iload 4, 2) := by decide +kernel
theorem dX11_markDue_14 : decode cX11_markDue 14 = .ok (.iload_n 3, 1) := by decide +kernel
theorem dX11_markDue_15 : decode cX11_markDue 15 = .ok (.if_icmp .ge 17, 3) := by decide +kernel
theorem dX11_markDue_18 : decode cX11_markDue 18 = .ok (.aload_n 0, 1) := by decide +kernel
theorem dX11_markDue_19 : decode cX11_markDue 19 = .ok (.getfield 42, 3) := by decide +kernel
theorem dX11_markDue_22 : decode cX11_markDue 22 = .ok (.iload 4, 2) := by decide +kernel
theorem dX11_markDue_24 : decode cX11_markDue 24 = .ok (.iconst 1, 1) := by decide +kernel
theorem dX11_markDue_25 : decode cX11_markDue 25 = .ok (.iastore, 1) := by decide +kernel
theorem dX11_markDue_26 : decode cX11_markDue 26 = .ok (.iinc 4 1, 3) := by decide +kernel
theorem dX11_markDue_29 : decode cX11_markDue 29 = .ok (.goto (-17), 3) := by decide +kernel
theorem dX11_markDue_32 : decode cX11_markDue 32 = .ok (.return_, 1) := by decide +kernel
theorem dX11_mayBeLater_0 : decode cX11_mayBeLater 0 = .ok (.aload_n 0, 1) := by decide +kernel
theorem dX11_mayBeLater_1 : decode cX11_mayBeLater 1 = .ok (.getfield 12, 3) := by decide +kernel
theorem dX11_mayBeLater_4 : decode cX11_mayBeLater 4 = .ok (.getfield 73, 3) := by decide +kernel
theorem dX11_mayBeLater_7 : decode cX11_mayBeLater 7 = .ok (.iload_n 1, 1) := by decide +kernel
theorem dX11_mayBeLater_8 : decode cX11_mayBeLater 8 = .ok (.iaload, 1) := by decide +kernel
theorem dX11_mayBeLater_9 : decode cX11_mayBeLater 9 = .ok (.bipush 10, 2) := by decide +kernel
theorem dX11_mayBeLater_11 : decode cX11_mayBeLater 11 = .ok (.if_icmp .ge 7, 3) := by decide +kernel
theorem dX11_mayBeLater_14 : decode cX11_mayBeLater 14 = .ok (.iconst 1, 1) := by decide +kernel
theorem dX11_mayBeLater_15 : decode cX11_mayBeLater 15 = .ok (.goto 4, 3) := by decide +kernel
theorem dX11_mayBeLater_18 : decode cX11_mayBeLater 18 = .ok (.iconst 0, 1) := by decide +kernel
theorem dX11_mayBeLater_19 : decode cX11_mayBeLater 19 = .ok (.ireturn, 1) := by decide +kernel
theorem dX11_laterPauses_0 : decode cX11_laterPauses 0 = .ok (.iconst 0, 1) := by decide +kernel
theorem dX11_laterPauses_1 : decode cX11_laterPauses 1 = .ok (.istore_n 1, 1) := by decide +kernel
theorem dX11_laterPauses_2 : decode cX11_laterPauses 2 = .ok (.iconst 0, 1) := by decide +kernel
theorem dX11_laterPauses_3 : decode cX11_laterPauses 3 = .ok (.istore_n 2, 1) := by decide +kernel
theorem dX11_laterPauses_4 : decode cX11_laterPauses 4 = .ok (.iload_n 2, 1) := by decide +kernel
theorem dX11_laterPauses_5 : decode cX11_laterPauses 5 = .ok (.aload_n 0, 1) := by decide +kernel
theorem dX11_laterPauses_6 : decode cX11_laterPauses 6 = .ok (.getfield 12, 3) := by decide +kernel
theorem dX11_laterPauses_9 : decode cX11_laterPauses 9 = .ok (.getfield 61, 3) := by decide +kernel
theorem dX11_laterPauses_12 : decode cX11_laterPauses 12 = .ok (.if_icmp .ge 25, 3) := by decide +kernel
theorem dX11_laterPauses_15 : decode cX11_laterPauses 15 = .ok (.iload_n 1, 1) := by decide +kernel
theorem dX11_laterPauses_16 : decode cX11_laterPauses 16 = .ok (.aload_n 0, 1) := by decide +kernel
theorem dX11_laterPauses_17 : decode cX11_laterPauses 17 = .ok (.iload_n 2, 1) := by decide +kernel
theorem dX11_laterPauses_18 : decode cX11_laterPauses 18 = .ok (.invokevirtual 336, 3) := by decide +kernel
theorem dX11_laterPauses_21 : decode cX11_laterPauses 21 = .ok (.ifCond .eq 7, 3) := by decide +kernel
theorem dX11_laterPauses_24 : decode cX11_laterPauses 24 = .ok (.iconst 1, 1) := by decide +kernel
theorem dX11_laterPauses_25 : decode cX11_laterPauses 25 = .ok (.goto 4, 3) := by decide +kernel
theorem dX11_laterPauses_28 : decode cX11_laterPauses 28 = .ok (.iconst 0, 1) := by decide +kernel
theorem dX11_laterPauses_29 : decode cX11_laterPauses 29 = .ok (.iadd, 1) := by decide +kernel
theorem dX11_laterPauses_30 : decode cX11_laterPauses 30 = .ok (.istore_n 1, 1) := by decide +kernel
theorem dX11_laterPauses_31 : decode cX11_laterPauses 31 = .ok (.iinc 2 1, 3) := by decide +kernel
theorem dX11_laterPauses_34 : decode cX11_laterPauses 34 = .ok (.goto (-30), 3) := by decide +kernel
theorem dX11_laterPauses_37 : decode cX11_laterPauses 37 = .ok (.iload_n 1, 1) := by decide +kernel
theorem dX11_laterPauses_38 : decode cX11_laterPauses 38 = .ok (.ireturn, 1) := by decide +kernel
theorem dX11_countWays_0 : decode cX11_countWays 0 = .ok (.iconst 1, 1) := by decide +kernel
theorem dX11_countWays_1 : decode cX11_countWays 1 = .ok (.istore_n 1, 1) := by decide +kernel
theorem dX11_countWays_2 : decode cX11_countWays 2 = .ok (.iconst 0, 1) := by decide +kernel
theorem dX11_countWays_3 : decode cX11_countWays 3 = .ok (.istore_n 2, 1) := by decide +kernel
theorem dX11_countWays_4 : decode cX11_countWays 4 = .ok (.iload_n 2, 1) := by decide +kernel
theorem dX11_countWays_5 : decode cX11_countWays 5 = .ok (.aload_n 0, 1) := by decide +kernel
theorem dX11_countWays_6 : decode cX11_countWays 6 = .ok (.getfield 12, 3) := by decide +kernel
theorem dX11_countWays_9 : decode cX11_countWays 9 = .ok (.getfield 61, 3) := by decide +kernel
theorem dX11_countWays_12 : decode cX11_countWays 12 = .ok (.if_icmp .ge 25, 3) := by decide +kernel
theorem dX11_countWays_15 : decode cX11_countWays 15 = .ok (.iload_n 1, 1) := by decide +kernel
theorem dX11_countWays_16 : decode cX11_countWays 16 = .ok (.aload_n 0, 1) := by decide +kernel
theorem dX11_countWays_17 : decode cX11_countWays 17 = .ok (.iload_n 2, 1) := by decide +kernel
theorem dX11_countWays_18 : decode cX11_countWays 18 = .ok (.invokevirtual 336, 3) := by decide +kernel
theorem dX11_countWays_21 : decode cX11_countWays 21 = .ok (.ifCond .eq 7, 3) := by decide +kernel
theorem dX11_countWays_24 : decode cX11_countWays 24 = .ok (.iconst 3, 1) := by decide +kernel
theorem dX11_countWays_25 : decode cX11_countWays 25 = .ok (.goto 4, 3) := by decide +kernel
theorem dX11_countWays_28 : decode cX11_countWays 28 = .ok (.iconst 1, 1) := by decide +kernel
theorem dX11_countWays_29 : decode cX11_countWays 29 = .ok (.imul, 1) := by decide +kernel
theorem dX11_countWays_30 : decode cX11_countWays 30 = .ok (.istore_n 1, 1) := by decide +kernel
theorem dX11_countWays_31 : decode cX11_countWays 31 = .ok (.iinc 2 1, 3) := by decide +kernel
theorem dX11_countWays_34 : decode cX11_countWays 34 = .ok (.goto (-30), 3) := by decide +kernel
theorem dX11_countWays_37 : decode cX11_countWays 37 = .ok (.iload_n 1, 1) := by decide +kernel
theorem dX11_countWays_38 : decode cX11_countWays 38 = .ok (.ireturn, 1) := by decide +kernel
theorem dX11_oddsOf_0 : decode cX11_oddsOf 0 = .ok (.aload_n 0, 1) := by decide +kernel
theorem dX11_oddsOf_1 : decode cX11_oddsOf 1 = .ok (.getfield 12, 3) := by decide +kernel
theorem dX11_oddsOf_4 : decode cX11_oddsOf 4 = .ok (.getfield 73, 3) := by decide +kernel
theorem dX11_oddsOf_7 : decode cX11_oddsOf 7 = .ok (.iload_n 1, 1) := by decide +kernel
theorem dX11_oddsOf_8 : decode cX11_oddsOf 8 = .ok (.iaload, 1) := by decide +kernel
theorem dX11_oddsOf_9 : decode cX11_oddsOf 9 = .ok (.istore_n 3, 1) := by decide +kernel
theorem dX11_oddsOf_10 : decode cX11_oddsOf 10 = .ok (.aload_n 0, 1) := by decide +kernel
theorem dX11_oddsOf_11 : decode cX11_oddsOf 11 = .ok (.getfield 12, 3) := by decide +kernel
theorem dX11_oddsOf_14 : decode cX11_oddsOf 14 = .ok (.getfield 76, 3) := by decide +kernel
theorem dX11_oddsOf_17 : decode cX11_oddsOf 17 = .ok (.iload_n 1, 1) := by decide +kernel
theorem dX11_oddsOf_18 : decode cX11_oddsOf 18 = .ok (.iaload, 1) := by decide +kernel
theorem dX11_oddsOf_19 : decode cX11_oddsOf 19 = .ok (.istore 4, 2) := by decide +kernel
theorem dX11_oddsOf_21 : decode cX11_oddsOf 21 = .ok (.iload_n 2, 1) := by decide +kernel
theorem dX11_oddsOf_22 : decode cX11_oddsOf 22 = .ok (.lookupswitch 31 #[(0, 26), (1, 28)], 26) := by decide +kernel
theorem dX11_oddsOf_48 : decode cX11_oddsOf 48 = .ok (.iload_n 3, 1) := by decide +kernel
theorem dX11_oddsOf_49 : decode cX11_oddsOf 49 = .ok (.ireturn, 1) := by decide +kernel
theorem dX11_oddsOf_50 : decode cX11_oddsOf 50 = .ok (.iload 4, 2) := by decide +kernel
theorem dX11_oddsOf_52 : decode cX11_oddsOf 52 = .ok (.ireturn, 1) := by decide +kernel
theorem dX11_oddsOf_53 : decode cX11_oddsOf 53 = .ok (.bipush 10, 2) := by decide +kernel
theorem dX11_oddsOf_55 : decode cX11_oddsOf 55 = .ok (.iload_n 3, 1) := by decide +kernel
theorem dX11_oddsOf_56 : decode cX11_oddsOf 56 = .ok (.isub, 1) := by decide +kernel
theorem dX11_oddsOf_57 : decode cX11_oddsOf 57 = .ok (.iload 4, 2) := by decide +kernel
theorem dX11_oddsOf_59 : decode cX11_oddsOf 59 = .ok (.isub, 1) := by decide +kernel
theorem dX11_oddsOf_60 : decode cX11_oddsOf 60 = .ok (.ireturn, 1) := by decide +kernel
theorem dX11_layDrawn_0 : decode cX11_layDrawn 0 = .ok (.iconst 0, 1) := by decide +kernel
theorem dX11_layDrawn_1 : decode cX11_layDrawn 1 = .ok (.istore_n 1, 1) := by decide +kernel
theorem dX11_layDrawn_2 : decode cX11_layDrawn 2 = .ok (.iload_n 1, 1) := by decide +kernel
theorem dX11_layDrawn_3 : decode cX11_layDrawn 3 = .ok (.aload_n 0, 1) := by decide +kernel
theorem dX11_layDrawn_4 : decode cX11_layDrawn 4 = .ok (.getfield 12, 3) := by decide +kernel
theorem dX11_layDrawn_7 : decode cX11_layDrawn 7 = .ok (.getfield 61, 3) := by decide +kernel
theorem dX11_layDrawn_10 : decode cX11_layDrawn 10 = .ok (.if_icmp .ge 60, 3) := by decide +kernel
theorem dX11_layDrawn_13 : decode cX11_layDrawn 13 = .ok (.aload_n 0, 1) := by decide +kernel
theorem dX11_layDrawn_14 : decode cX11_layDrawn 14 = .ok (.iload_n 1, 1) := by decide +kernel
theorem dX11_layDrawn_15 : decode cX11_layDrawn 15 = .ok (.invokevirtual 336, 3) := by decide +kernel
theorem dX11_layDrawn_18 : decode cX11_layDrawn 18 = .ok (.ifCond .eq 7, 3) := by decide +kernel
theorem dX11_layDrawn_21 : decode cX11_layDrawn 21 = .ok (.iconst 3, 1) := by decide +kernel
theorem dX11_layDrawn_22 : decode cX11_layDrawn 22 = .ok (.goto 4, 3) := by decide +kernel
theorem dX11_layDrawn_25 : decode cX11_layDrawn 25 = .ok (.iconst 1, 1) := by decide +kernel
theorem dX11_layDrawn_26 : decode cX11_layDrawn 26 = .ok (.istore_n 2, 1) := by decide +kernel
theorem dX11_layDrawn_27 : decode cX11_layDrawn 27 = .ok (.iconst 0, 1) := by decide +kernel
theorem dX11_layDrawn_28 : decode cX11_layDrawn 28 = .ok (.istore_n 3, 1) := by decide +kernel
theorem dX11_layDrawn_29 : decode cX11_layDrawn 29 = .ok (.iload_n 3, 1) := by decide +kernel
theorem dX11_layDrawn_30 : decode cX11_layDrawn 30 = .ok (.iload_n 2, 1) := by decide +kernel
theorem dX11_layDrawn_31 : decode cX11_layDrawn 31 = .ok (.if_icmp .ge 33, 3) := by decide +kernel
theorem dX11_layDrawn_34 : decode cX11_layDrawn 34 = .ok (.aload_n 0, 1) := by decide +kernel
theorem dX11_layDrawn_35 : decode cX11_layDrawn 35 = .ok (.aload_n 0, 1) := by decide +kernel
theorem dX11_layDrawn_36 : decode cX11_layDrawn 36 = .ok (.getfield 12, 3) := by decide +kernel
theorem dX11_layDrawn_39 : decode cX11_layDrawn 39 = .ok (.getfield 65, 3) := by decide +kernel
theorem dX11_layDrawn_42 : decode cX11_layDrawn 42 = .ok (.iload_n 1, 1) := by decide +kernel
theorem dX11_layDrawn_43 : decode cX11_layDrawn 43 = .ok (.aaload, 1) := by decide +kernel
theorem dX11_layDrawn_44 : decode cX11_layDrawn 44 = .ok (.iload_n 3, 1) := by decide +kernel
theorem dX11_layDrawn_45 : decode cX11_layDrawn 45 = .ok (.aload_n 0, 1) := by decide +kernel
theorem dX11_layDrawn_46 : decode cX11_layDrawn 46 = .ok (.getfield 47, 3) := by decide +kernel
theorem dX11_layDrawn_49 : decode cX11_layDrawn 49 = .ok (.iload_n 1, 1) := by decide +kernel
theorem dX11_layDrawn_50 : decode cX11_layDrawn 50 = .ok (.iconst 3, 1) := by decide +kernel
theorem dX11_layDrawn_51 : decode cX11_layDrawn 51 = .ok (.imul, 1) := by decide +kernel
theorem dX11_layDrawn_52 : decode cX11_layDrawn 52 = .ok (.iload_n 3, 1) := by decide +kernel
theorem dX11_layDrawn_53 : decode cX11_layDrawn 53 = .ok (.iadd, 1) := by decide +kernel
theorem dX11_layDrawn_54 : decode cX11_layDrawn 54 = .ok (.aaload, 1) := by decide +kernel
theorem dX11_layDrawn_55 : decode cX11_layDrawn 55 = .ok (.invokevirtual 259, 3) := by decide +kernel
theorem dX11_layDrawn_58 : decode cX11_layDrawn 58 = .ok (.iinc 3 1, 3) := by decide +kernel
theorem dX11_layDrawn_61 : decode cX11_layDrawn 61 = .ok (.goto (-32), 3) := by decide +kernel
theorem dX11_layDrawn_64 : decode cX11_layDrawn 64 = .ok (.iinc 1 1, 3) := by decide +kernel
theorem dX11_layDrawn_67 : decode cX11_layDrawn 67 = .ok (.goto (-65), 3) := by decide +kernel
theorem dX11_layDrawn_70 : decode cX11_layDrawn 70 = .ok (.return_, 1) := by decide +kernel
theorem dX11_layDrawnBy_0 : decode cX11_layDrawnBy 0 = .ok (.iconst 0, 1) := by decide +kernel
theorem dX11_layDrawnBy_1 : decode cX11_layDrawnBy 1 = .ok (.istore 4, 2) := by decide +kernel
theorem dX11_layDrawnBy_3 : decode cX11_layDrawnBy 3 = .ok (.iload 4, 2) := by decide +kernel
theorem dX11_layDrawnBy_5 : decode cX11_layDrawnBy 5 = .ok (.bipush 40, 2) := by decide +kernel
theorem dX11_layDrawnBy_7 : decode cX11_layDrawnBy 7 = .ok (.if_icmp .ge 30, 3) := by decide +kernel
theorem dX11_layDrawnBy_10 : decode cX11_layDrawnBy 10 = .ok (.aload_n 3, 1) := by decide +kernel
theorem dX11_layDrawnBy_11 : decode cX11_layDrawnBy 11 = .ok (.iload 4, 2) := by decide +kernel
theorem dX11_layDrawnBy_13 : decode cX11_layDrawnBy 13 = .ok (.aload_n 1, 1) := by decide +kernel
theorem dX11_layDrawnBy_14 : decode cX11_layDrawnBy 14 = .ok (.aload_n 0, 1) := by decide +kernel
theorem dX11_layDrawnBy_15 : decode cX11_layDrawnBy 15 = .ok (.getfield 12, 3) := by decide +kernel
theorem dX11_layDrawnBy_18 : decode cX11_layDrawnBy 18 = .ok (.aload_n 1, 1) := by decide +kernel
theorem dX11_layDrawnBy_19 : decode cX11_layDrawnBy 19 = .ok (.iload 4, 2) := by decide +kernel
theorem dX11_layDrawnBy_21 : decode cX11_layDrawnBy 21 = .ok (.iload_n 2, 1) := by decide +kernel
theorem dX11_layDrawnBy_22 : decode cX11_layDrawnBy 22 = .ok (.invokevirtual 140, 3) := by decide +kernel
theorem dX11_layDrawnBy_25 : decode cX11_layDrawnBy 25 = .ok (.iload 4, 2) := by decide +kernel
theorem dX11_layDrawnBy_27 : decode cX11_layDrawnBy 27 = .ok (.invokevirtual 144, 3) := by decide +kernel
theorem dX11_layDrawnBy_30 : decode cX11_layDrawnBy 30 = .ok (.iastore, 1) := by decide +kernel
theorem dX11_layDrawnBy_31 : decode cX11_layDrawnBy 31 = .ok (.iinc 4 1, 3) := by decide +kernel
theorem dX11_layDrawnBy_34 : decode cX11_layDrawnBy 34 = .ok (.goto (-31), 3) := by decide +kernel
theorem dX11_layDrawnBy_37 : decode cX11_layDrawnBy 37 = .ok (.return_, 1) := by decide +kernel
theorem dX11_takeWay_0 : decode cX11_takeWay 0 = .ok (.iload_n 1, 1) := by decide +kernel
theorem dX11_takeWay_1 : decode cX11_takeWay 1 = .ok (.istore_n 2, 1) := by decide +kernel
theorem dX11_takeWay_2 : decode cX11_takeWay 2 = .ok (.iconst 1, 1) := by decide +kernel
theorem dX11_takeWay_3 : decode cX11_takeWay 3 = .ok (.istore_n 3, 1) := by decide +kernel
theorem dX11_takeWay_4 : decode cX11_takeWay 4 = .ok (.aload_n 0, 1) := by decide +kernel
theorem dX11_takeWay_5 : decode cX11_takeWay 5 = .ok (.getfield 12, 3) := by decide +kernel
theorem dX11_takeWay_8 : decode cX11_takeWay 8 = .ok (.getfield 61, 3) := by decide +kernel
theorem dX11_takeWay_11 : decode cX11_takeWay 11 = .ok (.iconst 1, 1) := by decide +kernel
theorem dX11_takeWay_12 : decode cX11_takeWay 12 = .ok (.isub, 1) := by decide +kernel
theorem dX11_takeWay_13 : decode cX11_takeWay 13 = .ok (.istore 4, 2) := by decide +kernel
theorem dX11_takeWay_15 : decode cX11_takeWay 15 = .ok (.iload 4, 2) := by decide +kernel
theorem dX11_takeWay_17 : decode cX11_takeWay 17 = .ok (.ifCond .lt 56, 3) := by decide +kernel
theorem dX11_takeWay_20 : decode cX11_takeWay 20 = .ok (.aload_n 0, 1) := by decide +kernel
theorem dX11_takeWay_21 : decode cX11_takeWay 21 = .ok (.getfield 50, 3) := by decide +kernel
theorem dX11_takeWay_24 : decode cX11_takeWay 24 = .ok (.iload 4, 2) := by decide +kernel
theorem dX11_takeWay_26 : decode cX11_takeWay 26 = .ok (.iconst 0, 1) := by decide +kernel
theorem dX11_takeWay_27 : decode cX11_takeWay 27 = .ok (.iastore, 1) := by decide +kernel
theorem dX11_takeWay_28 : decode cX11_takeWay 28 = .ok (.aload_n 0, 1) := by decide +kernel
theorem dX11_takeWay_29 : decode cX11_takeWay 29 = .ok (.iload 4, 2) := by decide +kernel
theorem dX11_takeWay_31 : decode cX11_takeWay 31 = .ok (.invokevirtual 336, 3) := by decide +kernel
theorem dX11_takeWay_34 : decode cX11_takeWay 34 = .ok (.ifCond .eq 33, 3) := by decide +kernel
theorem dX11_takeWay_37 : decode cX11_takeWay 37 = .ok (.aload_n 0, 1) := by decide +kernel
theorem dX11_takeWay_38 : decode cX11_takeWay 38 = .ok (.getfield 50, 3) := by decide +kernel
theorem dX11_takeWay_41 : decode cX11_takeWay 41 = .ok (.iload 4, 2) := by decide +kernel
theorem dX11_takeWay_43 : decode cX11_takeWay 43 = .ok (.iload_n 2, 1) := by decide +kernel
theorem dX11_takeWay_44 : decode cX11_takeWay 44 = .ok (.iconst 3, 1) := by decide +kernel
theorem dX11_takeWay_45 : decode cX11_takeWay 45 = .ok (.irem, 1) := by decide +kernel
theorem dX11_takeWay_46 : decode cX11_takeWay 46 = .ok (.iastore, 1) := by decide +kernel
theorem dX11_takeWay_47 : decode cX11_takeWay 47 = .ok (.iload_n 2, 1) := by decide +kernel
theorem dX11_takeWay_48 : decode cX11_takeWay 48 = .ok (.iconst 3, 1) := by decide +kernel
theorem dX11_takeWay_49 : decode cX11_takeWay 49 = .ok (.idiv, 1) := by decide +kernel
theorem dX11_takeWay_50 : decode cX11_takeWay 50 = .ok (.istore_n 2, 1) := by decide +kernel
theorem dX11_takeWay_51 : decode cX11_takeWay 51 = .ok (.iload_n 3, 1) := by decide +kernel
theorem dX11_takeWay_52 : decode cX11_takeWay 52 = .ok (.aload_n 0, 1) := by decide +kernel
theorem dX11_takeWay_53 : decode cX11_takeWay 53 = .ok (.iload 4, 2) := by decide +kernel
theorem dX11_takeWay_55 : decode cX11_takeWay 55 = .ok (.aload_n 0, 1) := by decide +kernel
theorem dX11_takeWay_56 : decode cX11_takeWay 56 = .ok (.getfield 50, 3) := by decide +kernel
theorem dX11_takeWay_59 : decode cX11_takeWay 59 = .ok (.iload 4, 2) := by decide +kernel
theorem dX11_takeWay_61 : decode cX11_takeWay 61 = .ok (.iaload, 1) := by decide +kernel
theorem dX11_takeWay_62 : decode cX11_takeWay 62 = .ok (.invokevirtual 339, 3) := by decide +kernel
theorem dX11_takeWay_65 : decode cX11_takeWay 65 = .ok (.imul, 1) := by decide +kernel
theorem dX11_takeWay_66 : decode cX11_takeWay 66 = .ok (.istore_n 3, 1) := by decide +kernel
theorem dX11_takeWay_67 : decode cX11_takeWay 67 = .ok (.iinc 4 (-1), 3) := by decide +kernel
theorem dX11_takeWay_70 : decode cX11_takeWay 70 = .ok (.goto (-55), 3) := by decide +kernel
theorem dX11_takeWay_73 : decode cX11_takeWay 73 = .ok (.iload_n 3, 1) := by decide +kernel
theorem dX11_takeWay_74 : decode cX11_takeWay 74 = .ok (.ireturn, 1) := by decide +kernel
theorem dX11_firstOfWay_0 : decode cX11_firstOfWay 0 = .ok (.iconst 0, 1) := by decide +kernel
theorem dX11_firstOfWay_1 : decode cX11_firstOfWay 1 = .ok (.istore_n 2, 1) := by decide +kernel
theorem dX11_firstOfWay_2 : decode cX11_firstOfWay 2 = .ok (.iload_n 2, 1) := by decide +kernel
theorem dX11_firstOfWay_3 : decode cX11_firstOfWay 3 = .ok (.bipush 40, 2) := by decide +kernel
theorem dX11_firstOfWay_5 : decode cX11_firstOfWay 5 = .ok (.if_icmp .ge 61, 3) := by decide +kernel
theorem dX11_firstOfWay_8 : decode cX11_firstOfWay 8 = .ok (.iconst 0, 1) := by decide +kernel
theorem dX11_firstOfWay_9 : decode cX11_firstOfWay 9 = .ok (.istore_n 3, 1) := by decide +kernel
theorem dX11_firstOfWay_10 : decode cX11_firstOfWay 10 = .ok (.iconst 0, 1) := by decide +kernel
theorem dX11_firstOfWay_11 : decode cX11_firstOfWay 11 = .ok (.istore 4, 2) := by decide +kernel
theorem dX11_firstOfWay_13 : decode cX11_firstOfWay 13 = .ok (.iload 4, 2) := by decide +kernel
theorem dX11_firstOfWay_15 : decode cX11_firstOfWay 15 = .ok (.aload_n 0, 1) := by decide +kernel
theorem dX11_firstOfWay_16 : decode cX11_firstOfWay 16 = .ok (.getfield 12, 3) := by decide +kernel
theorem dX11_firstOfWay_19 : decode cX11_firstOfWay 19 = .ok (.getfield 61, 3) := by decide +kernel
theorem dX11_firstOfWay_22 : decode cX11_firstOfWay 22 = .ok (.if_icmp .ge 31, 3) := by decide +kernel
theorem dX11_firstOfWay_25 : decode cX11_firstOfWay 25 = .ok (.iload_n 3, 1) := by decide +kernel
theorem dX11_firstOfWay_26 : decode cX11_firstOfWay 26 = .ok (.aload_n 0, 1) := by decide +kernel
theorem dX11_firstOfWay_27 : decode cX11_firstOfWay 27 = .ok (.getfield 47, 3) := by decide +kernel
theorem dX11_firstOfWay_30 : decode cX11_firstOfWay 30 = .ok (.iload 4, 2) := by decide +kernel
theorem dX11_firstOfWay_32 : decode cX11_firstOfWay 32 = .ok (.iconst 3, 1) := by decide +kernel
theorem dX11_firstOfWay_33 : decode cX11_firstOfWay 33 = .ok (.imul, 1) := by decide +kernel
theorem dX11_firstOfWay_34 : decode cX11_firstOfWay 34 = .ok (.aload_n 0, 1) := by decide +kernel
theorem dX11_firstOfWay_35 : decode cX11_firstOfWay 35 = .ok (.getfield 50, 3) := by decide +kernel
theorem dX11_firstOfWay_38 : decode cX11_firstOfWay 38 = .ok (.iload 4, 2) := by decide +kernel
theorem dX11_firstOfWay_40 : decode cX11_firstOfWay 40 = .ok (.iaload, 1) := by decide +kernel
theorem dX11_firstOfWay_41 : decode cX11_firstOfWay 41 = .ok (.iadd, 1) := by decide +kernel
theorem dX11_firstOfWay_42 : decode cX11_firstOfWay 42 = .ok (.aaload, 1) := by decide +kernel
theorem dX11_firstOfWay_43 : decode cX11_firstOfWay 43 = .ok (.iload_n 2, 1) := by decide +kernel
theorem dX11_firstOfWay_44 : decode cX11_firstOfWay 44 = .ok (.iaload, 1) := by decide +kernel
theorem dX11_firstOfWay_45 : decode cX11_firstOfWay 45 = .ok (.iadd, 1) := by decide +kernel
theorem dX11_firstOfWay_46 : decode cX11_firstOfWay 46 = .ok (.istore_n 3, 1) := by decide +kernel
theorem dX11_firstOfWay_47 : decode cX11_firstOfWay 47 = .ok (.iinc 4 1, 3) := by decide +kernel
theorem dX11_firstOfWay_50 : decode cX11_firstOfWay 50 = .ok (.goto (-37), 3) := by decide +kernel
theorem dX11_firstOfWay_53 : decode cX11_firstOfWay 53 = .ok (.aload_n 0, 1) := by decide +kernel
theorem dX11_firstOfWay_54 : decode cX11_firstOfWay 54 = .ok (.getfield 32, 3) := by decide +kernel
theorem dX11_firstOfWay_57 : decode cX11_firstOfWay 57 = .ok (.iload_n 2, 1) := by decide +kernel
theorem dX11_firstOfWay_58 : decode cX11_firstOfWay 58 = .ok (.iload_n 3, 1) := by decide +kernel
theorem dX11_firstOfWay_59 : decode cX11_firstOfWay 59 = .ok (.iastore, 1) := by decide +kernel
theorem dX11_firstOfWay_60 : decode cX11_firstOfWay 60 = .ok (.iinc 2 1, 3) := by decide +kernel
theorem dX11_firstOfWay_63 : decode cX11_firstOfWay 63 = .ok (.goto (-61), 3) := by decide +kernel
theorem dX11_firstOfWay_66 : decode cX11_firstOfWay 66 = .ok (.aload_n 0, 1) := by decide +kernel
theorem dX11_firstOfWay_67 : decode cX11_firstOfWay 67 = .ok (.iload_n 1, 1) := by decide +kernel
theorem dX11_firstOfWay_68 : decode cX11_firstOfWay 68 = .ok (.aload_n 0, 1) := by decide +kernel
theorem dX11_firstOfWay_69 : decode cX11_firstOfWay 69 = .ok (.getfield 12, 3) := by decide +kernel
theorem dX11_firstOfWay_72 : decode cX11_firstOfWay 72 = .ok (.getfield 96, 3) := by decide +kernel
theorem dX11_firstOfWay_75 : decode cX11_firstOfWay 75 = .ok (.iconst 2, 1) := by decide +kernel
theorem dX11_firstOfWay_76 : decode cX11_firstOfWay 76 = .ok (.iaload, 1) := by decide +kernel
theorem dX11_firstOfWay_77 : decode cX11_firstOfWay 77 = .ok (.invokevirtual 203, 3) := by decide +kernel
theorem dX11_firstOfWay_80 : decode cX11_firstOfWay 80 = .ok (.ireturn, 1) := by decide +kernel
theorem dX11_delaysAsDigits_0 : decode cX11_delaysAsDigits 0 = .ok (.iconst 0, 1) := by decide +kernel
theorem dX11_delaysAsDigits_1 : decode cX11_delaysAsDigits 1 = .ok (.istore_n 1, 1) := by decide +kernel
theorem dX11_delaysAsDigits_2 : decode cX11_delaysAsDigits 2 = .ok (.iconst 0, 1) := by decide +kernel
theorem dX11_delaysAsDigits_3 : decode cX11_delaysAsDigits 3 = .ok (.istore_n 2, 1) := by decide +kernel
theorem dX11_delaysAsDigits_4 : decode cX11_delaysAsDigits 4 = .ok (.iload_n 2, 1) := by decide +kernel
theorem dX11_delaysAsDigits_5 : decode cX11_delaysAsDigits 5 = .ok (.aload_n 0, 1) := by decide +kernel
theorem dX11_delaysAsDigits_6 : decode cX11_delaysAsDigits 6 = .ok (.getfield 12, 3) := by decide +kernel
theorem dX11_delaysAsDigits_9 : decode cX11_delaysAsDigits 9 = .ok (.getfield 61, 3) := by decide +kernel
theorem dX11_delaysAsDigits_12 : decode cX11_delaysAsDigits 12 = .ok (.if_icmp .ge 21, 3) := by decide +kernel
theorem dX11_delaysAsDigits_15 : decode cX11_delaysAsDigits 15 = .ok (.iload_n 1, 1) := by decide +kernel
theorem dX11_delaysAsDigits_16 : decode cX11_delaysAsDigits 16 = .ok (.bipush 10, 2) := by decide +kernel
theorem dX11_delaysAsDigits_18 : decode cX11_delaysAsDigits 18 = .ok (.imul, 1) := by decide +kernel
theorem dX11_delaysAsDigits_19 : decode cX11_delaysAsDigits 19 = .ok (.aload_n 0, 1) := by decide +kernel
theorem dX11_delaysAsDigits_20 : decode cX11_delaysAsDigits 20 = .ok (.getfield 50, 3) := by decide +kernel
theorem dX11_delaysAsDigits_23 : decode cX11_delaysAsDigits 23 = .ok (.iload_n 2, 1) := by decide +kernel
theorem dX11_delaysAsDigits_24 : decode cX11_delaysAsDigits 24 = .ok (.iaload, 1) := by decide +kernel
theorem dX11_delaysAsDigits_25 : decode cX11_delaysAsDigits 25 = .ok (.iadd, 1) := by decide +kernel
theorem dX11_delaysAsDigits_26 : decode cX11_delaysAsDigits 26 = .ok (.istore_n 1, 1) := by decide +kernel
theorem dX11_delaysAsDigits_27 : decode cX11_delaysAsDigits 27 = .ok (.iinc 2 1, 3) := by decide +kernel
theorem dX11_delaysAsDigits_30 : decode cX11_delaysAsDigits 30 = .ok (.goto (-26), 3) := by decide +kernel
theorem dX11_delaysAsDigits_33 : decode cX11_delaysAsDigits 33 = .ok (.iload_n 1, 1) := by decide +kernel
theorem dX11_delaysAsDigits_34 : decode cX11_delaysAsDigits 34 = .ok (.ireturn, 1) := by decide +kernel
theorem dX11_commonDivisor_0 : decode cX11_commonDivisor 0 = .ok (.lload_n 0, 1) := by decide +kernel
theorem dX11_commonDivisor_1 : decode cX11_commonDivisor 1 = .ok (.lstore 4, 2) := by decide +kernel
theorem dX11_commonDivisor_3 : decode cX11_commonDivisor 3 = .ok (.lload_n 2, 1) := by decide +kernel
theorem dX11_commonDivisor_4 : decode cX11_commonDivisor 4 = .ok (.lstore 6, 2) := by decide +kernel
theorem dX11_commonDivisor_6 : decode cX11_commonDivisor 6 = .ok (.iconst 0, 1) := by decide +kernel
theorem dX11_commonDivisor_7 : decode cX11_commonDivisor 7 = .ok (.istore 8, 2) := by decide +kernel
theorem dX11_commonDivisor_9 : decode cX11_commonDivisor 9 = .ok (.iload 8, 2) := by decide +kernel
theorem dX11_commonDivisor_11 : decode cX11_commonDivisor 11 = .ok (.bipush 100, 2) := by decide +kernel
theorem dX11_commonDivisor_13 : decode cX11_commonDivisor 13 = .ok (.if_icmp .ge 31, 3) := by decide +kernel
theorem dX11_commonDivisor_16 : decode cX11_commonDivisor 16 = .ok (.lload 6, 2) := by decide +kernel
theorem dX11_commonDivisor_18 : decode cX11_commonDivisor 18 = .ok (.lconst 0, 1) := by decide +kernel
theorem dX11_commonDivisor_19 : decode cX11_commonDivisor 19 = .ok (.lcmp, 1) := by decide +kernel
theorem dX11_commonDivisor_20 : decode cX11_commonDivisor 20 = .ok (.ifCond .eq 24, 3) := by decide +kernel
theorem dX11_commonDivisor_23 : decode cX11_commonDivisor 23 = .ok (.lload 4, 2) := by decide +kernel
theorem dX11_commonDivisor_25 : decode cX11_commonDivisor 25 = .ok (.lload 6, 2) := by decide +kernel
theorem dX11_commonDivisor_27 : decode cX11_commonDivisor 27 = .ok (.lrem, 1) := by decide +kernel
theorem dX11_commonDivisor_28 : decode cX11_commonDivisor 28 = .ok (.lstore 9, 2) := by decide +kernel
theorem dX11_commonDivisor_30 : decode cX11_commonDivisor 30 = .ok (.lload 6, 2) := by decide +kernel
theorem dX11_commonDivisor_32 : decode cX11_commonDivisor 32 = .ok (.lstore 4, 2) := by decide +kernel
theorem dX11_commonDivisor_34 : decode cX11_commonDivisor 34 = .ok (.lload 9, 2) := by decide +kernel
theorem dX11_commonDivisor_36 : decode cX11_commonDivisor 36 = .ok (.lstore 6, 2) := by decide +kernel
theorem dX11_commonDivisor_38 : decode cX11_commonDivisor 38 = .ok (.iinc 8 1, 3) := by decide +kernel
theorem dX11_commonDivisor_41 : decode cX11_commonDivisor 41 = .ok (.goto (-32), 3) := by decide +kernel
theorem dX11_commonDivisor_44 : decode cX11_commonDivisor 44 = .ok (.lload 4, 2) := by decide +kernel
theorem dX11_commonDivisor_46 : decode cX11_commonDivisor 46 = .ok (.lreturn, 1) := by decide +kernel
theorem dX11_offRow_0 : decode cX11_offRow 0 = .ok (.iconst 0, 1) := by decide +kernel
theorem dX11_offRow_1 : decode cX11_offRow 1 = .ok (.istore_n 3, 1) := by decide +kernel
theorem dX11_offRow_2 : decode cX11_offRow 2 = .ok (.iconst 0, 1) := by decide +kernel
theorem dX11_offRow_3 : decode cX11_offRow 3 = .ok (.istore 4, 2) := by decide +kernel
theorem dX11_offRow_5 : decode cX11_offRow 5 = .ok (.iload 4, 2) := by decide +kernel
theorem dX11_offRow_7 : decode cX11_offRow 7 = .ok (.aload_n 0, 1) := by decide +kernel
theorem dX11_offRow_8 : decode cX11_offRow 8 = .ok (.getfield 12, 3) := by decide +kernel
theorem dX11_offRow_11 : decode cX11_offRow 11 = .ok (.getfield 250, 3) := by decide +kernel
theorem dX11_offRow_14 : decode cX11_offRow 14 = .ok (.if_icmp .ge 41, 3) := by decide +kernel
theorem dX11_offRow_17 : decode cX11_offRow 17 = .ok (.iload_n 3, 1) := by decide +kernel
theorem dX11_offRow_18 : decode cX11_offRow 18 = .ok (.aload_n 0, 1) := by decide +kernel
theorem dX11_offRow_19 : decode cX11_offRow 19 = .ok (.getfield 12, 3) := by decide +kernel
theorem dX11_offRow_22 : decode cX11_offRow 22 = .ok (.getfield 253, 3) := by decide +kernel
theorem dX11_offRow_25 : decode cX11_offRow 25 = .ok (.iload 4, 2) := by decide +kernel
theorem dX11_offRow_27 : decode cX11_offRow 27 = .ok (.iaload, 1) := by decide +kernel
theorem dX11_offRow_28 : decode cX11_offRow 28 = .ok (.aload_n 0, 1) := by decide +kernel
theorem dX11_offRow_29 : decode cX11_offRow 29 = .ok (.getfield 12, 3) := by decide +kernel
theorem dX11_offRow_32 : decode cX11_offRow 32 = .ok (.iload_n 1, 1) := by decide +kernel
theorem dX11_offRow_33 : decode cX11_offRow 33 = .ok (.iconst 0, 1) := by decide +kernel
theorem dX11_offRow_34 : decode cX11_offRow 34 = .ok (.iload 4, 2) := by decide +kernel
theorem dX11_offRow_36 : decode cX11_offRow 36 = .ok (.iload_n 2, 1) := by decide +kernel
theorem dX11_offRow_37 : decode cX11_offRow 37 = .ok (.isub, 1) := by decide +kernel
theorem dX11_offRow_38 : decode cX11_offRow 38 = .ok (.iload 4, 2) := by decide +kernel
theorem dX11_offRow_40 : decode cX11_offRow 40 = .ok (.invokevirtual 342, 3) := by decide +kernel
theorem dX11_offRow_43 : decode cX11_offRow 43 = .ok (.isub, 1) := by decide +kernel
theorem dX11_offRow_44 : decode cX11_offRow 44 = .ok (.invokestatic 318, 3) := by decide +kernel
theorem dX11_offRow_47 : decode cX11_offRow 47 = .ok (.iadd, 1) := by decide +kernel
theorem dX11_offRow_48 : decode cX11_offRow 48 = .ok (.istore_n 3, 1) := by decide +kernel
theorem dX11_offRow_49 : decode cX11_offRow 49 = .ok (.iinc 4 1, 3) := by decide +kernel
theorem dX11_offRow_52 : decode cX11_offRow 52 = .ok (.goto (-47), 3) := by decide +kernel
theorem dX11_offRow_55 : decode cX11_offRow 55 = .ok (.iload_n 3, 1) := by decide +kernel
theorem dX11_offRow_56 : decode cX11_offRow 56 = .ok (.ireturn, 1) := by decide +kernel
theorem dX11_peakWith_0 : decode cX11_peakWith 0 = .ok (.aload_n 0, 1) := by decide +kernel
theorem dX11_peakWith_1 : decode cX11_peakWith 1 = .ok (.aload_n 1, 1) := by decide +kernel
theorem dX11_peakWith_2 : decode cX11_peakWith 2 = .ok (.iload_n 2, 1) := by decide +kernel
theorem dX11_peakWith_3 : decode cX11_peakWith 3 = .ok (.aload_n 0, 1) := by decide +kernel
theorem dX11_peakWith_4 : decode cX11_peakWith 4 = .ok (.getfield 47, 3) := by decide +kernel
theorem dX11_peakWith_7 : decode cX11_peakWith 7 = .ok (.iconst 1, 1) := by decide +kernel
theorem dX11_peakWith_8 : decode cX11_peakWith 8 = .ok (.aaload, 1) := by decide +kernel
theorem dX11_peakWith_9 : decode cX11_peakWith 9 = .ok (.invokevirtual 259, 3) := by decide +kernel
theorem dX11_peakWith_12 : decode cX11_peakWith 12 = .ok (.aload_n 0, 1) := by decide +kernel
theorem dX11_peakWith_13 : decode cX11_peakWith 13 = .ok (.getfield 32, 3) := by decide +kernel
theorem dX11_peakWith_16 : decode cX11_peakWith 16 = .ok (.iconst 0, 1) := by decide +kernel
theorem dX11_peakWith_17 : decode cX11_peakWith 17 = .ok (.iaload, 1) := by decide +kernel
theorem dX11_peakWith_18 : decode cX11_peakWith 18 = .ok (.aload_n 0, 1) := by decide +kernel
theorem dX11_peakWith_19 : decode cX11_peakWith 19 = .ok (.getfield 47, 3) := by decide +kernel
theorem dX11_peakWith_22 : decode cX11_peakWith 22 = .ok (.iconst 0, 1) := by decide +kernel
theorem dX11_peakWith_23 : decode cX11_peakWith 23 = .ok (.aaload, 1) := by decide +kernel
theorem dX11_peakWith_24 : decode cX11_peakWith 24 = .ok (.iconst 0, 1) := by decide +kernel
theorem dX11_peakWith_25 : decode cX11_peakWith 25 = .ok (.iaload, 1) := by decide +kernel
theorem dX11_peakWith_26 : decode cX11_peakWith 26 = .ok (.isub, 1) := by decide +kernel
theorem dX11_peakWith_27 : decode cX11_peakWith 27 = .ok (.aload_n 0, 1) := by decide +kernel
theorem dX11_peakWith_28 : decode cX11_peakWith 28 = .ok (.getfield 47, 3) := by decide +kernel
theorem dX11_peakWith_31 : decode cX11_peakWith 31 = .ok (.iconst 1, 1) := by decide +kernel
theorem dX11_peakWith_32 : decode cX11_peakWith 32 = .ok (.aaload, 1) := by decide +kernel
theorem dX11_peakWith_33 : decode cX11_peakWith 33 = .ok (.iconst 0, 1) := by decide +kernel
theorem dX11_peakWith_34 : decode cX11_peakWith 34 = .ok (.iaload, 1) := by decide +kernel
theorem dX11_peakWith_35 : decode cX11_peakWith 35 = .ok (.iadd, 1) := by decide +kernel
theorem dX11_peakWith_36 : decode cX11_peakWith 36 = .ok (.istore_n 3, 1) := by decide +kernel
theorem dX11_peakWith_37 : decode cX11_peakWith 37 = .ok (.iconst 1, 1) := by decide +kernel
theorem dX11_peakWith_38 : decode cX11_peakWith 38 = .ok (.istore 4, 2) := by decide +kernel
theorem dX11_peakWith_40 : decode cX11_peakWith 40 = .ok (.iload 4, 2) := by decide +kernel
theorem dX11_peakWith_42 : decode cX11_peakWith 42 = .ok (.bipush 40, 2) := by decide +kernel
theorem dX11_peakWith_44 : decode cX11_peakWith 44 = .ok (.if_icmp .ge 41, 3) := by decide +kernel
theorem dX11_peakWith_47 : decode cX11_peakWith 47 = .ok (.iload_n 3, 1) := by decide +kernel
theorem dX11_peakWith_48 : decode cX11_peakWith 48 = .ok (.aload_n 0, 1) := by decide +kernel
theorem dX11_peakWith_49 : decode cX11_peakWith 49 = .ok (.getfield 32, 3) := by decide +kernel
theorem dX11_peakWith_52 : decode cX11_peakWith 52 = .ok (.iload 4, 2) := by decide +kernel
theorem dX11_peakWith_54 : decode cX11_peakWith 54 = .ok (.iaload, 1) := by decide +kernel
theorem dX11_peakWith_55 : decode cX11_peakWith 55 = .ok (.aload_n 0, 1) := by decide +kernel
theorem dX11_peakWith_56 : decode cX11_peakWith 56 = .ok (.getfield 47, 3) := by decide +kernel
theorem dX11_peakWith_59 : decode cX11_peakWith 59 = .ok (.iconst 0, 1) := by decide +kernel
theorem dX11_peakWith_60 : decode cX11_peakWith 60 = .ok (.aaload, 1) := by decide +kernel
theorem dX11_peakWith_61 : decode cX11_peakWith 61 = .ok (.iload 4, 2) := by decide +kernel
theorem dX11_peakWith_63 : decode cX11_peakWith 63 = .ok (.iaload, 1) := by decide +kernel
theorem dX11_peakWith_64 : decode cX11_peakWith 64 = .ok (.isub, 1) := by decide +kernel
theorem dX11_peakWith_65 : decode cX11_peakWith 65 = .ok (.aload_n 0, 1) := by decide +kernel
theorem dX11_peakWith_66 : decode cX11_peakWith 66 = .ok (.getfield 47, 3) := by decide +kernel
theorem dX11_peakWith_69 : decode cX11_peakWith 69 = .ok (.iconst 1, 1) := by decide +kernel
theorem dX11_peakWith_70 : decode cX11_peakWith 70 = .ok (.aaload, 1) := by decide +kernel
theorem dX11_peakWith_71 : decode cX11_peakWith 71 = .ok (.iload 4, 2) := by decide +kernel
theorem dX11_peakWith_73 : decode cX11_peakWith 73 = .ok (.iaload, 1) := by decide +kernel
theorem dX11_peakWith_74 : decode cX11_peakWith 74 = .ok (.iadd, 1) := by decide +kernel
theorem dX11_peakWith_75 : decode cX11_peakWith 75 = .ok (.invokestatic 211, 3) := by decide +kernel
theorem dX11_peakWith_78 : decode cX11_peakWith 78 = .ok (.istore_n 3, 1) := by decide +kernel
theorem dX11_peakWith_79 : decode cX11_peakWith 79 = .ok (.iinc 4 1, 3) := by decide +kernel
theorem dX11_peakWith_82 : decode cX11_peakWith 82 = .ok (.goto (-42), 3) := by decide +kernel
theorem dX11_peakWith_85 : decode cX11_peakWith 85 = .ok (.iload_n 3, 1) := by decide +kernel
theorem dX11_peakWith_86 : decode cX11_peakWith 86 = .ok (.ireturn, 1) := by decide +kernel
