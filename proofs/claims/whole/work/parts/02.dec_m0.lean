theorem dX12_within_0 : decode cX12_within 0 = .ok (.lload_n 0, 1) := by decide +kernel
theorem dX12_within_1 : decode cX12_within 1 = .ok (.lload_n 2, 1) := by decide +kernel
theorem dX12_within_2 : decode cX12_within 2 = .ok (.lcmp, 1) := by decide +kernel
theorem dX12_within_3 : decode cX12_within 3 = .ok (.ifCond .lt 14, 3) := by decide +kernel
theorem dX12_within_6 : decode cX12_within 6 = .ok (.lload_n 0, 1) := by decide +kernel
theorem dX12_within_7 : decode cX12_within 7 = .ok (.lload 4, 2) := by decide +kernel
theorem dX12_within_9 : decode cX12_within 9 = .ok (.lcmp, 1) := by decide +kernel
theorem dX12_within_10 : decode cX12_within 10 = .ok (.ifCond .gt 7, 3) := by decide +kernel
theorem dX12_within_13 : decode cX12_within 13 = .ok (.iconst 1, 1) := by decide +kernel
theorem dX12_within_14 : decode cX12_within 14 = .ok (.goto 4, 3) := by decide +kernel
theorem dX12_within_17 : decode cX12_within 17 = .ok (.iconst 0, 1) := by decide +kernel
theorem dX12_within_18 : decode cX12_within 18 = .ok (.ireturn, 1) := by decide +kernel
theorem dX12_init_0 : decode cX12_init 0 = .ok (.aload_n 0, 1) := by decide +kernel
theorem dX12_init_1 : decode cX12_init 1 = .ok (.invokespecial 7, 3) := by decide +kernel
theorem dX12_init_4 : decode cX12_init 4 = .ok (.aload_n 0, 1) := by decide +kernel
theorem dX12_init_5 : decode cX12_init 5 = .ok (.sipush 4074, 3) := by decide +kernel
theorem dX12_init_8 : decode cX12_init 8 = .ok (.newarray .int, 2) := by decide +kernel
theorem dX12_init_10 : decode cX12_init 10 = .ok (.putfield 13, 3) := by decide +kernel
theorem dX12_init_13 : decode cX12_init 13 = .ok (.aload_n 0, 1) := by decide +kernel
theorem dX12_init_14 : decode cX12_init 14 = .ok (.iconst 2, 1) := by decide +kernel
theorem dX12_init_15 : decode cX12_init 15 = .ok (.newarray .boolean, 2) := by decide +kernel
theorem dX12_init_17 : decode cX12_init 17 = .ok (.putfield 17, 3) := by decide +kernel
theorem dX12_init_20 : decode cX12_init 20 = .ok (.aload_n 0, 1) := by decide +kernel
theorem dX12_init_21 : decode cX12_init 21 = .ok (.sipush 900, 3) := by decide +kernel
theorem dX12_init_24 : decode cX12_init 24 = .ok (.newarray .int, 2) := by decide +kernel
theorem dX12_init_26 : decode cX12_init 26 = .ok (.putfield 21, 3) := by decide +kernel
theorem dX12_init_29 : decode cX12_init 29 = .ok (.aload_n 0, 1) := by decide +kernel
theorem dX12_init_30 : decode cX12_init 30 = .ok (.sipush 1358, 3) := by decide +kernel
theorem dX12_init_33 : decode cX12_init 33 = .ok (.newarray .int, 2) := by decide +kernel
theorem dX12_init_35 : decode cX12_init 35 = .ok (.putfield 24, 3) := by decide +kernel
theorem dX12_init_38 : decode cX12_init 38 = .ok (.aload_n 0, 1) := by decide +kernel
theorem dX12_init_39 : decode cX12_init 39 = .ok (.iconst (-1), 1) := by decide +kernel
theorem dX12_init_40 : decode cX12_init 40 = .ok (.putfield 27, 3) := by decide +kernel
theorem dX12_init_43 : decode cX12_init 43 = .ok (.aload_n 0, 1) := by decide +kernel
theorem dX12_init_44 : decode cX12_init 44 = .ok (.sipush 900, 3) := by decide +kernel
theorem dX12_init_47 : decode cX12_init 47 = .ok (.newarray .int, 2) := by decide +kernel
theorem dX12_init_49 : decode cX12_init 49 = .ok (.putfield 30, 3) := by decide +kernel
theorem dX12_init_52 : decode cX12_init 52 = .ok (.aload_n 0, 1) := by decide +kernel
theorem dX12_init_53 : decode cX12_init 53 = .ok (.bipush 6, 2) := by decide +kernel
theorem dX12_init_55 : decode cX12_init 55 = .ok (.newarray .int, 2) := by decide +kernel
theorem dX12_init_57 : decode cX12_init 57 = .ok (.putfield 33, 3) := by decide +kernel
theorem dX12_init_60 : decode cX12_init 60 = .ok (.aload_n 0, 1) := by decide +kernel
theorem dX12_init_61 : decode cX12_init 61 = .ok (.bipush 36, 2) := by decide +kernel
theorem dX12_init_63 : decode cX12_init 63 = .ok (.newarray .int, 2) := by decide +kernel
theorem dX12_init_65 : decode cX12_init 65 = .ok (.putfield 36, 3) := by decide +kernel
theorem dX12_init_68 : decode cX12_init 68 = .ok (.aload_n 0, 1) := by decide +kernel
theorem dX12_init_69 : decode cX12_init 69 = .ok (.bipush 12, 2) := by decide +kernel
theorem dX12_init_71 : decode cX12_init 71 = .ok (.newarray .int, 2) := by decide +kernel
theorem dX12_init_73 : decode cX12_init 73 = .ok (.putfield 39, 3) := by decide +kernel
theorem dX12_init_76 : decode cX12_init 76 = .ok (.aload_n 0, 1) := by decide +kernel
theorem dX12_init_77 : decode cX12_init 77 = .ok (.iconst 4, 1) := by decide +kernel
theorem dX12_init_78 : decode cX12_init 78 = .ok (.newarray .int, 2) := by decide +kernel
theorem dX12_init_80 : decode cX12_init 80 = .ok (.dup, 1) := by decide +kernel
theorem dX12_init_81 : decode cX12_init 81 = .ok (.iconst 0, 1) := by decide +kernel
theorem dX12_init_82 : decode cX12_init 82 = .ok (.iconst (-1), 1) := by decide +kernel
theorem dX12_init_83 : decode cX12_init 83 = .ok (.iastore, 1) := by decide +kernel
theorem dX12_init_84 : decode cX12_init 84 = .ok (.dup, 1) := by decide +kernel
theorem dX12_init_85 : decode cX12_init 85 = .ok (.iconst 1, 1) := by decide +kernel
theorem dX12_init_86 : decode cX12_init 86 = .ok (.iconst (-1), 1) := by decide +kernel
theorem dX12_init_87 : decode cX12_init 87 = .ok (.iastore, 1) := by decide +kernel
theorem dX12_init_88 : decode cX12_init 88 = .ok (.dup, 1) := by decide +kernel
theorem dX12_init_89 : decode cX12_init 89 = .ok (.iconst 2, 1) := by decide +kernel
theorem dX12_init_90 : decode cX12_init 90 = .ok (.iconst (-1), 1) := by decide +kernel
theorem dX12_init_91 : decode cX12_init 91 = .ok (.iastore, 1) := by decide +kernel
theorem dX12_init_92 : decode cX12_init 92 = .ok (.dup, 1) := by decide +kernel
theorem dX12_init_93 : decode cX12_init 93 = .ok (.iconst 3, 1) := by decide +kernel
theorem dX12_init_94 : decode cX12_init 94 = .ok (.iconst (-1), 1) := by decide +kernel
theorem dX12_init_95 : decode cX12_init 95 = .ok (.iastore, 1) := by decide +kernel
theorem dX12_init_96 : decode cX12_init 96 = .ok (.putfield 42, 3) := by decide +kernel
theorem dX12_init_99 : decode cX12_init 99 = .ok (.aload_n 0, 1) := by decide +kernel
theorem dX12_init_100 : decode cX12_init 100 = .ok (.iconst 4, 1) := by decide +kernel
theorem dX12_init_101 : decode cX12_init 101 = .ok (.newarray .int, 2) := by decide +kernel
theorem dX12_init_103 : decode cX12_init 103 = .ok (.putfield 45, 3) := by decide +kernel
theorem dX12_init_106 : decode cX12_init 106 = .ok (.aload_n 0, 1) := by decide +kernel
theorem dX12_init_107 : decode cX12_init 107 = .ok (.sipush 160, 3) := by decide +kernel
theorem dX12_init_110 : decode cX12_init 110 = .ok (.newarray .long, 2) := by decide +kernel
theorem dX12_init_112 : decode cX12_init 112 = .ok (.putfield 48, 3) := by decide +kernel
theorem dX12_init_115 : decode cX12_init 115 = .ok (.aload_n 0, 1) := by decide +kernel
theorem dX12_init_116 : decode cX12_init 116 = .ok (.getfield 13, 3) := by decide +kernel
theorem dX12_init_119 : decode cX12_init 119 = .ok (.invokestatic 52, 3) := by decide +kernel
theorem dX12_init_122 : decode cX12_init 122 = .ok (.return_, 1) := by decide +kernel
theorem dX12_plain_0 : decode cX12_plain 0 = .ok (.iconst 0, 1) := by decide +kernel
theorem dX12_plain_1 : decode cX12_plain 1 = .ok (.istore_n 1, 1) := by decide +kernel
theorem dX12_plain_2 : decode cX12_plain 2 = .ok (.iload_n 1, 1) := by decide +kernel
theorem dX12_plain_3 : decode cX12_plain 3 = .ok (.sipush 1358, 3) := by decide +kernel
theorem dX12_plain_6 : decode cX12_plain 6 = .ok (.if_icmp .ge 13, 3) := by decide +kernel
theorem dX12_plain_9 : decode cX12_plain 9 = .ok (.aload_n 0, 1) := by decide +kernel
theorem dX12_plain_10 : decode cX12_plain 10 = .ok (.iload_n 1, 1) := by decide +kernel
theorem dX12_plain_11 : decode cX12_plain 11 = .ok (.iconst 0, 1) := by decide +kernel
theorem dX12_plain_12 : decode cX12_plain 12 = .ok (.iastore, 1) := by decide +kernel
theorem dX12_plain_13 : decode cX12_plain 13 = .ok (.iinc 1 1, 3) := by decide +kernel
theorem dX12_plain_16 : decode cX12_plain 16 = .ok (.goto (-14), 3) := by decide +kernel
theorem dX12_plain_19 : decode cX12_plain 19 = .ok (.aload_n 0, 1) := by decide +kernel
theorem dX12_plain_20 : decode cX12_plain 20 = .ok (.iconst 1, 1) := by decide +kernel
theorem dX12_plain_21 : decode cX12_plain 21 = .ok (.iconst 2, 1) := by decide +kernel
theorem dX12_plain_22 : decode cX12_plain 22 = .ok (.iastore, 1) := by decide +kernel
theorem dX12_plain_23 : decode cX12_plain 23 = .ok (.return_, 1) := by decide +kernel
theorem dX12_feed_0 : decode cX12_feed 0 = .ok (.aload_n 0, 1) := by decide +kernel
theorem dX12_feed_1 : decode cX12_feed 1 = .ok (.iconst 0, 1) := by decide +kernel
theorem dX12_feed_2 : decode cX12_feed 2 = .ok (.putfield 1, 3) := by decide +kernel
theorem dX12_feed_5 : decode cX12_feed 5 = .ok (.aload_n 0, 1) := by decide +kernel
theorem dX12_feed_6 : decode cX12_feed 6 = .ok (.getfield 56, 3) := by decide +kernel
theorem dX12_feed_9 : decode cX12_feed 9 = .ok (.bipush 20, 2) := by decide +kernel
theorem dX12_feed_11 : decode cX12_feed 11 = .ok (.iadd, 1) := by decide +kernel
theorem dX12_feed_12 : decode cX12_feed 12 = .ok (.sipush 900, 3) := by decide +kernel
theorem dX12_feed_15 : decode cX12_feed 15 = .ok (.if_icmp .le 6, 3) := by decide +kernel
theorem dX12_feed_18 : decode cX12_feed 18 = .ok (.bipush (-5), 2) := by decide +kernel
theorem dX12_feed_20 : decode cX12_feed 20 = .ok (.ireturn, 1) := by decide +kernel
theorem dX12_feed_21 : decode cX12_feed 21 = .ok (.iconst 0, 1) := by decide +kernel
theorem dX12_feed_22 : decode cX12_feed 22 = .ok (.istore 6, 2) := by decide +kernel
theorem dX12_feed_24 : decode cX12_feed 24 = .ok (.iload 6, 2) := by decide +kernel
theorem dX12_feed_26 : decode cX12_feed 26 = .ok (.bipush 20, 2) := by decide +kernel
theorem dX12_feed_28 : decode cX12_feed 28 = .ok (.if_icmp .ge 93, 3) := by decide +kernel
theorem dX12_feed_31 : decode cX12_feed 31 = .ok (.iload 6, 2) := by decide +kernel
theorem dX12_feed_33 : decode cX12_feed 33 = .ok (.iconst 4, 1) := by decide +kernel
theorem dX12_feed_34 : decode cX12_feed 34 = .ok (.if_icmp .ge 7, 3) := by decide +kernel
theorem dX12_feed_37 : decode cX12_feed 37 = .ok (.iload_n 1, 1) := by decide +kernel
theorem dX12_feed_38 : decode cX12_feed 38 = .ok (.goto 39, 3) := by decide +kernel
theorem dX12_feed_41 : decode cX12_feed 41 = .ok (.iload 6, 2) := by decide +kernel
theorem dX12_feed_43 : decode cX12_feed 43 = .ok (.bipush 8, 2) := by decide +kernel
theorem dX12_feed_45 : decode cX12_feed 45 = .ok (.if_icmp .ge 7, 3) := by decide +kernel
theorem dX12_feed_48 : decode cX12_feed 48 = .ok (.iload_n 2, 1) := by decide +kernel
theorem dX12_feed_49 : decode cX12_feed 49 = .ok (.goto 28, 3) := by decide +kernel
theorem dX12_feed_52 : decode cX12_feed 52 = .ok (.iload 6, 2) := by decide +kernel
theorem dX12_feed_54 : decode cX12_feed 54 = .ok (.bipush 12, 2) := by decide +kernel
theorem dX12_feed_56 : decode cX12_feed 56 = .ok (.if_icmp .ge 7, 3) := by decide +kernel
theorem dX12_feed_59 : decode cX12_feed 59 = .ok (.iload_n 3, 1) := by decide +kernel
theorem dX12_feed_60 : decode cX12_feed 60 = .ok (.goto 17, 3) := by decide +kernel
theorem dX12_feed_63 : decode cX12_feed 63 = .ok (.iload 6, 2) := by decide +kernel
theorem dX12_feed_65 : decode cX12_feed 65 = .ok (.bipush 16, 2) := by decide +kernel
theorem dX12_feed_67 : decode cX12_feed 67 = .ok (.if_icmp .ge 8, 3) := by decide +kernel
theorem dX12_feed_70 : decode cX12_feed 70 = .ok (.iload 4, 2) := by decide +kernel
theorem dX12_feed_72 : decode cX12_feed 72 = .ok (.goto 5, 3) := by decide +kernel
theorem dX12_feed_75 : decode cX12_feed 75 = .ok (.iload 5, 2) := by decide +kernel
theorem dX12_feed_77 : decode cX12_feed 77 = .ok (.istore 7, 2) := by decide +kernel
theorem dX12_feed_79 : decode cX12_feed 79 = .ok (.aload_n 0, 1) := by decide +kernel
theorem dX12_feed_80 : decode cX12_feed 80 = .ok (.getfield 21, 3) := by decide +kernel
theorem dX12_feed_83 : decode cX12_feed 83 = .ok (.aload_n 0, 1) := by decide +kernel
theorem dX12_feed_84 : decode cX12_feed 84 = .ok (.getfield 56, 3) := by decide +kernel
theorem dX12_feed_87 : decode cX12_feed 87 = .ok (.iload 7, 2) := by decide +kernel
theorem dX12_feed_89 : decode cX12_feed 89 = .ok (.bipush 24, 2) := by decide +kernel
theorem dX12_feed_91 : decode cX12_feed 91 = .ok (.bipush 8, 2) := by decide +kernel
theorem dX12_feed_93 : decode cX12_feed 93 = .ok (.iload 6, 2) := by decide +kernel
theorem dX12_feed_95 : decode cX12_feed 95 = .ok (.iconst 4, 1) := by decide +kernel
theorem dX12_feed_96 : decode cX12_feed 96 = .ok (.irem, 1) := by decide +kernel
theorem dX12_feed_97 : decode cX12_feed 97 = .ok (.imul, 1) := by decide +kernel
theorem dX12_feed_98 : decode cX12_feed 98 = .ok (.isub, 1) := by decide +kernel
theorem dX12_feed_99 : decode cX12_feed 99 = .ok (.ishr, 1) := by decide +kernel
theorem dX12_feed_100 : decode cX12_feed 100 = .ok (.sipush 255, 3) := by decide +kernel
theorem dX12_feed_103 : decode cX12_feed 103 = .ok (.iand, 1) := by decide +kernel
theorem dX12_feed_104 : decode cX12_feed 104 = .ok (.iastore, 1) := by decide +kernel
theorem dX12_feed_105 : decode cX12_feed 105 = .ok (.aload_n 0, 1) := by decide +kernel
theorem dX12_feed_106 : decode cX12_feed 106 = .ok (.dup, 1) := by decide +kernel
theorem dX12_feed_107 : decode cX12_feed 107 = .ok (.getfield 56, 3) := by decide +kernel
theorem dX12_feed_110 : decode cX12_feed 110 = .ok (.iconst 1, 1) := by decide +kernel
theorem dX12_feed_111 : decode cX12_feed 111 = .ok (.iadd, 1) := by decide +kernel
theorem dX12_feed_112 : decode cX12_feed 112 = .ok (.putfield 56, 3) := by decide +kernel
theorem dX12_feed_115 : decode cX12_feed 115 = .ok (.iinc 6 1, 3) := by decide +kernel
theorem dX12_feed_118 : decode cX12_feed 118 = .ok (.goto (-94), 3) := by decide +kernel
theorem dX12_feed_121 : decode cX12_feed 121 = .ok (.aload_n 0, 1) := by decide +kernel
theorem dX12_feed_122 : decode cX12_feed 122 = .ok (.getfield 56, 3) := by decide +kernel
theorem dX12_feed_125 : decode cX12_feed 125 = .ok (.ireturn, 1) := by decide +kernel
theorem dX12_see_0 : decode cX12_see 0 = .ok (.iload_n 1, 1) := by decide +kernel
theorem dX12_see_1 : decode cX12_see 1 = .ok (.aload_n 0, 1) := by decide +kernel
theorem dX12_see_2 : decode cX12_see 2 = .ok (.getfield 59, 3) := by decide +kernel
theorem dX12_see_5 : decode cX12_see 5 = .ok (.if_icmp .ge 12, 3) := by decide +kernel
theorem dX12_see_8 : decode cX12_see 8 = .ok (.aload_n 0, 1) := by decide +kernel
theorem dX12_see_9 : decode cX12_see 9 = .ok (.getfield 21, 3) := by decide +kernel
theorem dX12_see_12 : decode cX12_see 12 = .ok (.iload_n 1, 1) := by decide +kernel
theorem dX12_see_13 : decode cX12_see 13 = .ok (.iaload, 1) := by decide +kernel
theorem dX12_see_14 : decode cX12_see 14 = .ok (.goto 4, 3) := by decide +kernel
theorem dX12_see_17 : decode cX12_see 17 = .ok (.iconst (-1), 1) := by decide +kernel
theorem dX12_see_18 : decode cX12_see 18 = .ok (.ireturn, 1) := by decide +kernel
theorem dX12_isSmall_0 : decode cX12_isSmall 0 = .ok (.iload_n 0, 1) := by decide +kernel
theorem dX12_isSmall_1 : decode cX12_isSmall 1 = .ok (.bipush 97, 2) := by decide +kernel
theorem dX12_isSmall_3 : decode cX12_isSmall 3 = .ok (.if_icmp .lt 13, 3) := by decide +kernel
theorem dX12_isSmall_6 : decode cX12_isSmall 6 = .ok (.iload_n 0, 1) := by decide +kernel
theorem dX12_isSmall_7 : decode cX12_isSmall 7 = .ok (.bipush 122, 2) := by decide +kernel
theorem dX12_isSmall_9 : decode cX12_isSmall 9 = .ok (.if_icmp .gt 7, 3) := by decide +kernel
theorem dX12_isSmall_12 : decode cX12_isSmall 12 = .ok (.iconst 1, 1) := by decide +kernel
theorem dX12_isSmall_13 : decode cX12_isSmall 13 = .ok (.goto 4, 3) := by decide +kernel
theorem dX12_isSmall_16 : decode cX12_isSmall 16 = .ok (.iconst 0, 1) := by decide +kernel
theorem dX12_isSmall_17 : decode cX12_isSmall 17 = .ok (.ireturn, 1) := by decide +kernel
theorem dX12_isDigit_0 : decode cX12_isDigit 0 = .ok (.iload_n 0, 1) := by decide +kernel
theorem dX12_isDigit_1 : decode cX12_isDigit 1 = .ok (.bipush 48, 2) := by decide +kernel
theorem dX12_isDigit_3 : decode cX12_isDigit 3 = .ok (.if_icmp .lt 13, 3) := by decide +kernel
theorem dX12_isDigit_6 : decode cX12_isDigit 6 = .ok (.iload_n 0, 1) := by decide +kernel
theorem dX12_isDigit_7 : decode cX12_isDigit 7 = .ok (.bipush 57, 2) := by decide +kernel
theorem dX12_isDigit_9 : decode cX12_isDigit 9 = .ok (.if_icmp .gt 7, 3) := by decide +kernel
theorem dX12_isDigit_12 : decode cX12_isDigit 12 = .ok (.iconst 1, 1) := by decide +kernel
theorem dX12_isDigit_13 : decode cX12_isDigit 13 = .ok (.goto 4, 3) := by decide +kernel
theorem dX12_isDigit_16 : decode cX12_isDigit 16 = .ok (.iconst 0, 1) := by decide +kernel
theorem dX12_isDigit_17 : decode cX12_isDigit 17 = .ok (.ireturn, 1) := by decide +kernel
theorem dX12_keyAt_0 : decode cX12_keyAt 0 = .ok (.iconst 0, 1) := by decide +kernel
theorem dX12_keyAt_1 : decode cX12_keyAt 1 = .ok (.istore_n 1, 1) := by decide +kernel
theorem dX12_keyAt_2 : decode cX12_keyAt 2 = .ok (.iconst 1, 1) := by decide +kernel
theorem dX12_keyAt_3 : decode cX12_keyAt 3 = .ok (.istore_n 2, 1) := by decide +kernel
theorem dX12_keyAt_4 : decode cX12_keyAt 4 = .ok (.iload_n 2, 1) := by decide +kernel
theorem dX12_keyAt_5 : decode cX12_keyAt 5 = .ok (.ldc 62, 2) := by decide +kernel
theorem dX12_keyAt_7 : decode cX12_keyAt 7 = .ok (.invokevirtual 64, 3) := by decide +kernel
theorem dX12_keyAt_10 : decode cX12_keyAt 10 = .ok (.if_icmp .ge 113, 3) := by decide +kernel
theorem dX12_keyAt_13 : decode cX12_keyAt 13 = .ok (.iconst 0, 1) := by decide +kernel
theorem dX12_keyAt_14 : decode cX12_keyAt 14 = .ok (.istore_n 3, 1) := by decide +kernel
theorem dX12_keyAt_15 : decode cX12_keyAt 15 = .ok (.ldc 62, 2) := by decide +kernel
theorem dX12_keyAt_17 : decode cX12_keyAt 17 = .ok (.iload_n 2, 1) := by decide +kernel
theorem dX12_keyAt_18 : decode cX12_keyAt 18 = .ok (.iload_n 3, 1) := by decide +kernel
theorem dX12_keyAt_19 : decode cX12_keyAt 19 = .ok (.iadd, 1) := by decide +kernel
theorem dX12_keyAt_20 : decode cX12_keyAt 20 = .ok (.invokevirtual 70, 3) := by decide +kernel
theorem dX12_keyAt_23 : decode cX12_keyAt 23 = .ok (.bipush 32, 2) := by decide +kernel
theorem dX12_keyAt_25 : decode cX12_keyAt 25 = .ok (.if_icmp .eq 44, 3) := by decide +kernel
theorem dX12_keyAt_28 : decode cX12_keyAt 28 = .ok (.aload_n 0, 1) := by decide +kernel
theorem dX12_keyAt_29 : decode cX12_keyAt 29 = .ok (.getfield 74, 3) := by decide +kernel
theorem dX12_keyAt_32 : decode cX12_keyAt 32 = .ok (.iload_n 3, 1) := by decide +kernel
theorem dX12_keyAt_33 : decode cX12_keyAt 33 = .ok (.iadd, 1) := by decide +kernel
theorem dX12_keyAt_34 : decode cX12_keyAt 34 = .ok (.aload_n 0, 1) := by decide +kernel
theorem dX12_keyAt_35 : decode cX12_keyAt 35 = .ok (.getfield 77, 3) := by decide +kernel
theorem dX12_keyAt_38 : decode cX12_keyAt 38 = .ok (.if_icmp .ge 31, 3) := by decide +kernel
theorem dX12_keyAt_41 : decode cX12_keyAt 41 = .ok (.aload_n 0, 1) := by decide +kernel
theorem dX12_keyAt_42 : decode cX12_keyAt 42 = .ok (.getfield 21, 3) := by decide +kernel
theorem dX12_keyAt_45 : decode cX12_keyAt 45 = .ok (.aload_n 0, 1) := by decide +kernel
theorem dX12_keyAt_46 : decode cX12_keyAt 46 = .ok (.getfield 74, 3) := by decide +kernel
theorem dX12_keyAt_49 : decode cX12_keyAt 49 = .ok (.iload_n 3, 1) := by decide +kernel
theorem dX12_keyAt_50 : decode cX12_keyAt 50 = .ok (.iadd, 1) := by decide +kernel
theorem dX12_keyAt_51 : decode cX12_keyAt 51 = .ok (.iaload, 1) := by decide +kernel
theorem dX12_keyAt_52 : decode cX12_keyAt 52 = .ok (.ldc 62, 2) := by decide +kernel
theorem dX12_keyAt_54 : decode cX12_keyAt 54 = .ok (.iload_n 2, 1) := by decide +kernel
theorem dX12_keyAt_55 : decode cX12_keyAt 55 = .ok (.iload_n 3, 1) := by decide +kernel
theorem dX12_keyAt_56 : decode cX12_keyAt 56 = .ok (.iadd, 1) := by decide +kernel
theorem dX12_keyAt_57 : decode cX12_keyAt 57 = .ok (.invokevirtual 70, 3) := by decide +kernel
theorem dX12_keyAt_60 : decode cX12_keyAt 60 = .ok (.if_icmp .ne 9, 3) := by decide +kernel
theorem dX12_keyAt_63 : decode cX12_keyAt 63 = .ok (.iinc 3 1, 3) := by decide +kernel
theorem dX12_keyAt_66 : decode cX12_keyAt 66 = .ok (.goto (-51), 3) := by decide +kernel
theorem dX12_keyAt_69 : decode cX12_keyAt 69 = .ok (.ldc 62, 2) := by decide +kernel
theorem dX12_keyAt_71 : decode cX12_keyAt 71 = .ok (.iload_n 2, 1) := by decide +kernel
theorem dX12_keyAt_72 : decode cX12_keyAt 72 = .ok (.iload_n 3, 1) := by decide +kernel
theorem dX12_keyAt_73 : decode cX12_keyAt 73 = .ok (.iadd, 1) := by decide +kernel
theorem dX12_keyAt_74 : decode cX12_keyAt 74 = .ok (.invokevirtual 70, 3) := by decide +kernel
theorem dX12_keyAt_77 : decode cX12_keyAt 77 = .ok (.bipush 32, 2) := by decide +kernel
theorem dX12_keyAt_79 : decode cX12_keyAt 79 = .ok (.if_icmp .ne 18, 3) := by decide +kernel
theorem dX12_keyAt_82 : decode cX12_keyAt 82 = .ok (.aload_n 0, 1) := by decide +kernel
theorem dX12_keyAt_83 : decode cX12_keyAt 83 = .ok (.getfield 74, 3) := by decide +kernel
theorem dX12_keyAt_86 : decode cX12_keyAt 86 = .ok (.iload_n 3, 1) := by decide +kernel
theorem dX12_keyAt_87 : decode cX12_keyAt 87 = .ok (.iadd, 1) := by decide +kernel
theorem dX12_keyAt_88 : decode cX12_keyAt 88 = .ok (.aload_n 0, 1) := by decide +kernel
theorem dX12_keyAt_89 : decode cX12_keyAt 89 = .ok (.getfield 77, 3) := by decide +kernel
theorem dX12_keyAt_92 : decode cX12_keyAt 92 = .ok (.if_icmp .ne 5, 3) := by decide +kernel
theorem dX12_keyAt_95 : decode cX12_keyAt 95 = .ok (.iload_n 1, 1) := by decide +kernel
theorem dX12_keyAt_96 : decode cX12_keyAt 96 = .ok (.ireturn, 1) := by decide +kernel
theorem dX12_keyAt_97 : decode cX12_keyAt 97 = .ok (.ldc 62, 2) := by decide +kernel
theorem dX12_keyAt_99 : decode cX12_keyAt 99 = .ok (.iload_n 2, 1) := by decide +kernel
theorem dX12_keyAt_100 : decode cX12_keyAt 100 = .ok (.invokevirtual 70, 3) := by decide +kernel
theorem dX12_keyAt_103 : decode cX12_keyAt 103 = .ok (.bipush 32, 2) := by decide +kernel
theorem dX12_keyAt_105 : decode cX12_keyAt 105 = .ok (.if_icmp .eq 9, 3) := by decide +kernel
theorem dX12_keyAt_108 : decode cX12_keyAt 108 = .ok (.iinc 2 1, 3) := by decide +kernel
theorem dX12_keyAt_111 : decode cX12_keyAt 111 = .ok (.goto (-14), 3) := by decide +kernel
theorem dX12_keyAt_114 : decode cX12_keyAt 114 = .ok (.iinc 2 1, 3) := by decide +kernel
theorem dX12_keyAt_117 : decode cX12_keyAt 117 = .ok (.iinc 1 1, 3) := by decide +kernel
theorem dX12_keyAt_120 : decode cX12_keyAt 120 = .ok (.goto (-116), 3) := by decide +kernel
theorem dX12_keyAt_123 : decode cX12_keyAt 123 = .ok (.bipush 22, 2) := by decide +kernel
theorem dX12_keyAt_125 : decode cX12_keyAt 125 = .ok (.ireturn, 1) := by decide +kernel
theorem dX12_next_0 : decode cX12_next 0 = .ok (.aload_n 0, 1) := by decide +kernel
theorem dX12_next_1 : decode cX12_next 1 = .ok (.aload_n 0, 1) := by decide +kernel
theorem dX12_next_2 : decode cX12_next 2 = .ok (.getfield 77, 3) := by decide +kernel
theorem dX12_next_5 : decode cX12_next 5 = .ok (.putfield 74, 3) := by decide +kernel
theorem dX12_next_8 : decode cX12_next 8 = .ok (.aload_n 0, 1) := by decide +kernel
theorem dX12_next_9 : decode cX12_next 9 = .ok (.aload_n 0, 1) := by decide +kernel
theorem dX12_next_10 : decode cX12_next 10 = .ok (.getfield 74, 3) := by decide +kernel
theorem dX12_next_13 : decode cX12_next 13 = .ok (.invokevirtual 80, 3) := by decide +kernel
theorem dX12_next_16 : decode cX12_next 16 = .ok (.bipush 10, 2) := by decide +kernel
theorem dX12_next_18 : decode cX12_next 18 = .ok (.if_icmp .eq 16, 3) := by decide +kernel
theorem dX12_next_21 : decode cX12_next 21 = .ok (.aload_n 0, 1) := by decide +kernel
theorem dX12_next_22 : decode cX12_next 22 = .ok (.aload_n 0, 1) := by decide +kernel
theorem dX12_next_23 : decode cX12_next 23 = .ok (.getfield 74, 3) := by decide +kernel
theorem dX12_next_26 : decode cX12_next 26 = .ok (.invokevirtual 80, 3) := by decide +kernel
theorem dX12_next_29 : decode cX12_next 29 = .ok (.bipush 32, 2) := by decide +kernel
theorem dX12_next_31 : decode cX12_next 31 = .ok (.if_icmp .ne 16, 3) := by decide +kernel
theorem dX12_next_34 : decode cX12_next 34 = .ok (.aload_n 0, 1) := by decide +kernel
theorem dX12_next_35 : decode cX12_next 35 = .ok (.dup, 1) := by decide +kernel
theorem dX12_next_36 : decode cX12_next 36 = .ok (.getfield 74, 3) := by decide +kernel
theorem dX12_next_39 : decode cX12_next 39 = .ok (.iconst 1, 1) := by decide +kernel
theorem dX12_next_40 : decode cX12_next 40 = .ok (.iadd, 1) := by decide +kernel
theorem dX12_next_41 : decode cX12_next 41 = .ok (.putfield 74, 3) := by decide +kernel
theorem dX12_next_44 : decode cX12_next 44 = .ok (.goto (-36), 3) := by decide +kernel
theorem dX12_next_47 : decode cX12_next 47 = .ok (.aload_n 0, 1) := by decide +kernel
theorem dX12_next_48 : decode cX12_next 48 = .ok (.aload_n 0, 1) := by decide +kernel
theorem dX12_next_49 : decode cX12_next 49 = .ok (.getfield 74, 3) := by decide +kernel
theorem dX12_next_52 : decode cX12_next 52 = .ok (.putfield 77, 3) := by decide +kernel
theorem dX12_next_55 : decode cX12_next 55 = .ok (.aload_n 0, 1) := by decide +kernel
theorem dX12_next_56 : decode cX12_next 56 = .ok (.getfield 74, 3) := by decide +kernel
theorem dX12_next_59 : decode cX12_next 59 = .ok (.aload_n 0, 1) := by decide +kernel
theorem dX12_next_60 : decode cX12_next 60 = .ok (.getfield 59, 3) := by decide +kernel
theorem dX12_next_63 : decode cX12_next 63 = .ok (.if_icmp .lt 12, 3) := by decide +kernel
theorem dX12_next_66 : decode cX12_next 66 = .ok (.aload_n 0, 1) := by decide +kernel
theorem dX12_next_67 : decode cX12_next 67 = .ok (.bipush 24, 2) := by decide +kernel
theorem dX12_next_69 : decode cX12_next 69 = .ok (.putfield 84, 3) := by decide +kernel
theorem dX12_next_72 : decode cX12_next 72 = .ok (.goto 222, 3) := by decide +kernel
theorem dX12_next_75 : decode cX12_next 75 = .ok (.aload_n 0, 1) := by decide +kernel
theorem dX12_next_76 : decode cX12_next 76 = .ok (.aload_n 0, 1) := by decide +kernel
theorem dX12_next_77 : decode cX12_next 77 = .ok (.getfield 74, 3) := by decide +kernel
theorem dX12_next_80 : decode cX12_next 80 = .ok (.invokevirtual 80, 3) := by decide +kernel
theorem dX12_next_83 : decode cX12_next 83 = .ok (.invokestatic 87, 3) := by decide +kernel
theorem dX12_next_86 : decode cX12_next 86 = .ok (.ifCond .eq 41, 3) := by decide +kernel
theorem dX12_next_89 : decode cX12_next 89 = .ok (.aload_n 0, 1) := by decide +kernel
theorem dX12_next_90 : decode cX12_next 90 = .ok (.aload_n 0, 1) := by decide +kernel
theorem dX12_next_91 : decode cX12_next 91 = .ok (.getfield 77, 3) := by decide +kernel
theorem dX12_next_94 : decode cX12_next 94 = .ok (.invokevirtual 80, 3) := by decide +kernel
theorem dX12_next_97 : decode cX12_next 97 = .ok (.invokestatic 87, 3) := by decide +kernel
theorem dX12_next_100 : decode cX12_next 100 = .ok (.ifCond .eq 16, 3) := by decide +kernel
theorem dX12_next_103 : decode cX12_next 103 = .ok (.aload_n 0, 1) := by decide +kernel
theorem dX12_next_104 : decode cX12_next 104 = .ok (.dup, 1) := by decide +kernel
theorem dX12_next_105 : decode cX12_next 105 = .ok (.getfield 77, 3) := by decide +kernel
theorem dX12_next_108 : decode cX12_next 108 = .ok (.iconst 1, 1) := by decide +kernel
theorem dX12_next_109 : decode cX12_next 109 = .ok (.iadd, 1) := by decide +kernel
theorem dX12_next_110 : decode cX12_next 110 = .ok (.putfield 77, 3) := by decide +kernel
theorem dX12_next_113 : decode cX12_next 113 = .ok (.goto (-24), 3) := by decide +kernel
theorem dX12_next_116 : decode cX12_next 116 = .ok (.aload_n 0, 1) := by decide +kernel
theorem dX12_next_117 : decode cX12_next 117 = .ok (.aload_n 0, 1) := by decide +kernel
theorem dX12_next_118 : decode cX12_next 118 = .ok (.invokevirtual 91, 3) := by decide +kernel
theorem dX12_next_121 : decode cX12_next 121 = .ok (.putfield 84, 3) := by decide +kernel
theorem dX12_next_124 : decode cX12_next 124 = .ok (.goto 170, 3) := by decide +kernel
theorem dX12_next_127 : decode cX12_next 127 = .ok (.aload_n 0, 1) := by decide +kernel
theorem dX12_next_128 : decode cX12_next 128 = .ok (.aload_n 0, 1) := by decide +kernel
theorem dX12_next_129 : decode cX12_next 129 = .ok (.getfield 74, 3) := by decide +kernel
theorem dX12_next_132 : decode cX12_next 132 = .ok (.invokevirtual 80, 3) := by decide +kernel
theorem dX12_next_135 : decode cX12_next 135 = .ok (.invokestatic 94, 3) := by decide +kernel
theorem dX12_next_138 : decode cX12_next 138 = .ok (.ifCond .eq 98, 3) := by decide +kernel
theorem dX12_next_141 : decode cX12_next 141 = .ok (.aload_n 0, 1) := by decide +kernel
theorem dX12_next_142 : decode cX12_next 142 = .ok (.iconst 0, 1) := by decide +kernel
theorem dX12_next_143 : decode cX12_next 143 = .ok (.putfield 97, 3) := by decide +kernel
theorem dX12_next_146 : decode cX12_next 146 = .ok (.aload_n 0, 1) := by decide +kernel
theorem dX12_next_147 : decode cX12_next 147 = .ok (.aload_n 0, 1) := by decide +kernel
theorem dX12_next_148 : decode cX12_next 148 = .ok (.getfield 77, 3) := by decide +kernel
theorem dX12_next_151 : decode cX12_next 151 = .ok (.invokevirtual 80, 3) := by decide +kernel
theorem dX12_next_154 : decode cX12_next 154 = .ok (.invokestatic 94, 3) := by decide +kernel
theorem dX12_next_157 : decode cX12_next 157 = .ok (.ifCond .eq 52, 3) := by decide +kernel
theorem dX12_next_160 : decode cX12_next 160 = .ok (.aload_n 0, 1) := by decide +kernel
theorem dX12_next_161 : decode cX12_next 161 = .ok (.getfield 77, 3) := by decide +kernel
theorem dX12_next_164 : decode cX12_next 164 = .ok (.aload_n 0, 1) := by decide +kernel
theorem dX12_next_165 : decode cX12_next 165 = .ok (.getfield 74, 3) := by decide +kernel
theorem dX12_next_168 : decode cX12_next 168 = .ok (.isub, 1) := by decide +kernel
theorem dX12_next_169 : decode cX12_next 169 = .ok (.iconst 3, 1) := by decide +kernel
theorem dX12_next_170 : decode cX12_next 170 = .ok (.if_icmp .ge 26, 3) := by decide +kernel
theorem dX12_next_173 : decode cX12_next 173 = .ok (.aload_n 0, 1) := by decide +kernel
theorem dX12_next_174 : decode cX12_next 174 = .ok (.bipush 10, 2) := by decide +kernel
theorem dX12_next_176 : decode cX12_next 176 = .ok (.aload_n 0, 1) := by decide +kernel
theorem dX12_next_177 : decode cX12_next 177 = .ok (.getfield 97, 3) := by decide +kernel
theorem dX12_next_180 : decode cX12_next 180 = .ok (.imul, 1) := by decide +kernel
theorem dX12_next_181 : decode cX12_next 181 = .ok (.aload_n 0, 1) := by decide +kernel
theorem dX12_next_182 : decode cX12_next 182 = .ok (.aload_n 0, 1) := by decide +kernel
theorem dX12_next_183 : decode cX12_next 183 = .ok (.getfield 77, 3) := by decide +kernel
theorem dX12_next_186 : decode cX12_next 186 = .ok (.invokevirtual 80, 3) := by decide +kernel
theorem dX12_next_189 : decode cX12_next 189 = .ok (.iadd, 1) := by decide +kernel
theorem dX12_next_190 : decode cX12_next 190 = .ok (.bipush 48, 2) := by decide +kernel
theorem dX12_next_192 : decode cX12_next 192 = .ok (.isub, 1) := by decide +kernel
theorem dX12_next_193 : decode cX12_next 193 = .ok (.putfield 97, 3) := by decide +kernel
theorem dX12_next_196 : decode cX12_next 196 = .ok (.aload_n 0, 1) := by decide +kernel
theorem dX12_next_197 : decode cX12_next 197 = .ok (.dup, 1) := by decide +kernel
theorem dX12_next_198 : decode cX12_next 198 = .ok (.getfield 77, 3) := by decide +kernel
theorem dX12_next_201 : decode cX12_next 201 = .ok (.iconst 1, 1) := by decide +kernel
theorem dX12_next_202 : decode cX12_next 202 = .ok (.iadd, 1) := by decide +kernel
theorem dX12_next_203 : decode cX12_next 203 = .ok (.putfield 77, 3) := by decide +kernel
theorem dX12_next_206 : decode cX12_next 206 = .ok (.goto (-60), 3) := by decide +kernel
theorem dX12_next_209 : decode cX12_next 209 = .ok (.aload_n 0, 1) := by decide +kernel
theorem dX12_next_210 : decode cX12_next 210 = .ok (.aload_n 0, 1) := by decide +kernel
theorem dX12_next_211 : decode cX12_next 211 = .ok (.getfield 77, 3) := by decide +kernel
theorem dX12_next_214 : decode cX12_next 214 = .ok (.aload_n 0, 1) := by decide +kernel
theorem dX12_next_215 : decode cX12_next 215 = .ok (.getfield 74, 3) := by decide +kernel
theorem dX12_next_218 : decode cX12_next 218 = .ok (.isub, 1) := by decide +kernel
theorem dX12_next_219 : decode cX12_next 219 = .ok (.iconst 3, 1) := by decide +kernel
theorem dX12_next_220 : decode cX12_next 220 = .ok (.if_icmp .le 8, 3) := by decide +kernel
theorem dX12_next_223 : decode cX12_next 223 = .ok (.bipush 25, 2) := by decide +kernel
theorem dX12_next_225 : decode cX12_next 225 = .ok (.goto 5, 3) := by decide +kernel
theorem dX12_next_228 : decode cX12_next 228 = .ok (.bipush 23, 2) := by decide +kernel
theorem dX12_next_230 : decode cX12_next 230 = .ok (.putfield 84, 3) := by decide +kernel
theorem dX12_next_233 : decode cX12_next 233 = .ok (.goto 61, 3) := by decide +kernel
theorem dX12_next_236 : decode cX12_next 236 = .ok (.aload_n 0, 1) := by decide +kernel
theorem dX12_next_237 : decode cX12_next 237 = .ok (.dup, 1) := by decide +kernel
theorem dX12_next_238 : decode cX12_next 238 = .ok (.getfield 77, 3) := by decide +kernel
theorem dX12_next_241 : decode cX12_next 241 = .ok (.iconst 1, 1) := by decide +kernel
theorem dX12_next_242 : decode cX12_next 242 = .ok (.iadd, 1) := by decide +kernel
theorem dX12_next_243 : decode cX12_next 243 = .ok (.putfield 77, 3) := by decide +kernel
theorem dX12_next_246 : decode cX12_next 246 = .ok (.aload_n 0, 1) := by decide +kernel
theorem dX12_next_247 : decode cX12_next 247 = .ok (.bipush 25, 2) := by decide +kernel
theorem dX12_next_249 : decode cX12_next 249 = .ok (.putfield 84, 3) := by decide +kernel
theorem dX12_next_252 : decode cX12_next 252 = .ok (.iconst 0, 1) := by decide +kernel
theorem dX12_next_253 : decode cX12_next 253 = .ok (.istore_n 1, 1) := by decide +kernel
theorem dX12_next_254 : decode cX12_next 254 = .ok (.iload_n 1, 1) := by decide +kernel
theorem dX12_next_255 : decode cX12_next 255 = .ok (.ldc 100, 2) := by decide +kernel
theorem dX12_next_257 : decode cX12_next 257 = .ok (.invokevirtual 64, 3) := by decide +kernel
theorem dX12_next_260 : decode cX12_next 260 = .ok (.if_icmp .ge 34, 3) := by decide +kernel
theorem dX12_next_263 : decode cX12_next 263 = .ok (.aload_n 0, 1) := by decide +kernel
theorem dX12_next_264 : decode cX12_next 264 = .ok (.aload_n 0, 1) := by decide +kernel
theorem dX12_next_265 : decode cX12_next 265 = .ok (.getfield 74, 3) := by decide +kernel
theorem dX12_next_268 : decode cX12_next 268 = .ok (.invokevirtual 80, 3) := by decide +kernel
theorem dX12_next_271 : decode cX12_next 271 = .ok (.ldc 100, 2) := by decide +kernel
theorem dX12_next_273 : decode cX12_next 273 = .ok (.iload_n 1, 1) := by decide +kernel
theorem dX12_next_274 : decode cX12_next 274 = .ok (.invokevirtual 70, 3) := by decide +kernel
theorem dX12_next_277 : decode cX12_next 277 = .ok (.if_icmp .ne 11, 3) := by decide +kernel
theorem dX12_next_280 : decode cX12_next 280 = .ok (.aload_n 0, 1) := by decide +kernel
theorem dX12_next_281 : decode cX12_next 281 = .ok (.bipush 30, 2) := by decide +kernel
theorem dX12_next_283 : decode cX12_next 283 = .ok (.iload_n 1, 1) := by decide +kernel
theorem dX12_next_284 : decode cX12_next 284 = .ok (.iadd, 1) := by decide +kernel
theorem dX12_next_285 : decode cX12_next 285 = .ok (.putfield 84, 3) := by decide +kernel
theorem dX12_next_288 : decode cX12_next 288 = .ok (.iinc 1 1, 3) := by decide +kernel
theorem dX12_next_291 : decode cX12_next 291 = .ok (.goto (-37), 3) := by decide +kernel
theorem dX12_next_294 : decode cX12_next 294 = .ok (.return_, 1) := by decide +kernel
theorem dX12_fails_0 : decode cX12_fails 0 = .ok (.aload_n 0, 1) := by decide +kernel
theorem dX12_fails_1 : decode cX12_fails 1 = .ok (.getfield 102, 3) := by decide +kernel
theorem dX12_fails_4 : decode cX12_fails 4 = .ok (.ifCond .eq 4, 3) := by decide +kernel
theorem dX12_fails_7 : decode cX12_fails 7 = .ok (.return_, 1) := by decide +kernel
theorem dX12_fails_8 : decode cX12_fails 8 = .ok (.aload_n 0, 1) := by decide +kernel
theorem dX12_fails_9 : decode cX12_fails 9 = .ok (.aload_n 0, 1) := by decide +kernel
theorem dX12_fails_10 : decode cX12_fails 10 = .ok (.getfield 84, 3) := by decide +kernel
theorem dX12_fails_13 : decode cX12_fails 13 = .ok (.bipush 25, 2) := by decide +kernel
theorem dX12_fails_15 : decode cX12_fails 15 = .ok (.if_icmp .ne 7, 3) := by decide +kernel
theorem dX12_fails_18 : decode cX12_fails 18 = .ok (.iconst 1, 1) := by decide +kernel
theorem dX12_fails_19 : decode cX12_fails 19 = .ok (.goto 4, 3) := by decide +kernel
theorem dX12_fails_22 : decode cX12_fails 22 = .ok (.iload_n 1, 1) := by decide +kernel
theorem dX12_fails_23 : decode cX12_fails 23 = .ok (.putfield 102, 3) := by decide +kernel
theorem dX12_fails_26 : decode cX12_fails 26 = .ok (.aload_n 0, 1) := by decide +kernel
theorem dX12_fails_27 : decode cX12_fails 27 = .ok (.aload_n 0, 1) := by decide +kernel
theorem dX12_fails_28 : decode cX12_fails 28 = .ok (.getfield 74, 3) := by decide +kernel
theorem dX12_fails_31 : decode cX12_fails 31 = .ok (.putfield 105, 3) := by decide +kernel
theorem dX12_fails_34 : decode cX12_fails 34 = .ok (.return_, 1) := by decide +kernel
theorem dX12_is_0 : decode cX12_is 0 = .ok (.aload_n 0, 1) := by decide +kernel
theorem dX12_is_1 : decode cX12_is 1 = .ok (.getfield 102, 3) := by decide +kernel
theorem dX12_is_4 : decode cX12_is 4 = .ok (.ifCond .ne 15, 3) := by decide +kernel
theorem dX12_is_7 : decode cX12_is 7 = .ok (.aload_n 0, 1) := by decide +kernel
theorem dX12_is_8 : decode cX12_is 8 = .ok (.getfield 84, 3) := by decide +kernel
theorem dX12_is_11 : decode cX12_is 11 = .ok (.iload_n 1, 1) := by decide +kernel
theorem dX12_is_12 : decode cX12_is 12 = .ok (.if_icmp .ne 7, 3) := by decide +kernel
theorem dX12_is_15 : decode cX12_is 15 = .ok (.iconst 1, 1) := by decide +kernel
theorem dX12_is_16 : decode cX12_is 16 = .ok (.goto 4, 3) := by decide +kernel
theorem dX12_is_19 : decode cX12_is 19 = .ok (.iconst 0, 1) := by decide +kernel
theorem dX12_is_20 : decode cX12_is 20 = .ok (.ireturn, 1) := by decide +kernel
theorem dX12_eats_0 : decode cX12_eats 0 = .ok (.aload_n 0, 1) := by decide +kernel
theorem dX12_eats_1 : decode cX12_eats 1 = .ok (.iload_n 1, 1) := by decide +kernel
theorem dX12_eats_2 : decode cX12_eats 2 = .ok (.invokevirtual 108, 3) := by decide +kernel
theorem dX12_eats_5 : decode cX12_eats 5 = .ok (.ifCond .ne 5, 3) := by decide +kernel
theorem dX12_eats_8 : decode cX12_eats 8 = .ok (.iconst 0, 1) := by decide +kernel
theorem dX12_eats_9 : decode cX12_eats 9 = .ok (.ireturn, 1) := by decide +kernel
theorem dX12_eats_10 : decode cX12_eats 10 = .ok (.aload_n 0, 1) := by decide +kernel
theorem dX12_eats_11 : decode cX12_eats 11 = .ok (.invokevirtual 111, 3) := by decide +kernel
theorem dX12_eats_14 : decode cX12_eats 14 = .ok (.iconst 1, 1) := by decide +kernel
theorem dX12_eats_15 : decode cX12_eats 15 = .ok (.ireturn, 1) := by decide +kernel
theorem dX12_takes_0 : decode cX12_takes 0 = .ok (.aload_n 0, 1) := by decide +kernel
theorem dX12_takes_1 : decode cX12_takes 1 = .ok (.bipush 23, 2) := by decide +kernel
theorem dX12_takes_3 : decode cX12_takes 3 = .ok (.invokevirtual 108, 3) := by decide +kernel
theorem dX12_takes_6 : decode cX12_takes 6 = .ok (.ifCond .ne 11, 3) := by decide +kernel
theorem dX12_takes_9 : decode cX12_takes 9 = .ok (.aload_n 0, 1) := by decide +kernel
theorem dX12_takes_10 : decode cX12_takes 10 = .ok (.iconst 2, 1) := by decide +kernel
theorem dX12_takes_11 : decode cX12_takes 11 = .ok (.invokevirtual 114, 3) := by decide +kernel
theorem dX12_takes_14 : decode cX12_takes 14 = .ok (.goto 23, 3) := by decide +kernel
theorem dX12_takes_17 : decode cX12_takes 17 = .ok (.aload_n 0, 1) := by decide +kernel
theorem dX12_takes_18 : decode cX12_takes 18 = .ok (.getfield 97, 3) := by decide +kernel
theorem dX12_takes_21 : decode cX12_takes 21 = .ok (.i2l, 1) := by decide +kernel
theorem dX12_takes_22 : decode cX12_takes 22 = .ok (.iload_n 1, 1) := by decide +kernel
theorem dX12_takes_23 : decode cX12_takes 23 = .ok (.i2l, 1) := by decide +kernel
theorem dX12_takes_24 : decode cX12_takes 24 = .ok (.iload_n 2, 1) := by decide +kernel
theorem dX12_takes_25 : decode cX12_takes 25 = .ok (.i2l, 1) := by decide +kernel
theorem dX12_takes_26 : decode cX12_takes 26 = .ok (.invokestatic 118, 3) := by decide +kernel
theorem dX12_takes_29 : decode cX12_takes 29 = .ok (.ifCond .ne 8, 3) := by decide +kernel
theorem dX12_takes_32 : decode cX12_takes 32 = .ok (.aload_n 0, 1) := by decide +kernel
theorem dX12_takes_33 : decode cX12_takes 33 = .ok (.iconst 3, 1) := by decide +kernel
theorem dX12_takes_34 : decode cX12_takes 34 = .ok (.invokevirtual 114, 3) := by decide +kernel
theorem dX12_takes_37 : decode cX12_takes 37 = .ok (.aload_n 0, 1) := by decide +kernel
theorem dX12_takes_38 : decode cX12_takes 38 = .ok (.getfield 97, 3) := by decide +kernel
theorem dX12_takes_41 : decode cX12_takes 41 = .ok (.istore_n 3, 1) := by decide +kernel
theorem dX12_takes_42 : decode cX12_takes 42 = .ok (.aload_n 0, 1) := by decide +kernel
theorem dX12_takes_43 : decode cX12_takes 43 = .ok (.getfield 102, 3) := by decide +kernel
theorem dX12_takes_46 : decode cX12_takes 46 = .ok (.ifCond .ne 7, 3) := by decide +kernel
theorem dX12_takes_49 : decode cX12_takes 49 = .ok (.aload_n 0, 1) := by decide +kernel
theorem dX12_takes_50 : decode cX12_takes 50 = .ok (.invokevirtual 111, 3) := by decide +kernel
theorem dX12_takes_53 : decode cX12_takes 53 = .ok (.iload_n 3, 1) := by decide +kernel
theorem dX12_takes_54 : decode cX12_takes 54 = .ok (.ireturn, 1) := by decide +kernel
theorem dX12_isIn_0 : decode cX12_isIn 0 = .ok (.lload_n 0, 1) := by decide +kernel
theorem dX12_isIn_1 : decode cX12_isIn 1 = .ok (.iload_n 2, 1) := by decide +kernel
theorem dX12_isIn_2 : decode cX12_isIn 2 = .ok (.lshr, 1) := by decide +kernel
theorem dX12_isIn_3 : decode cX12_isIn 3 = .ok (.lconst 1, 1) := by decide +kernel
theorem dX12_isIn_4 : decode cX12_isIn 4 = .ok (.land, 1) := by decide +kernel
theorem dX12_isIn_5 : decode cX12_isIn 5 = .ok (.lconst 1, 1) := by decide +kernel
theorem dX12_isIn_6 : decode cX12_isIn 6 = .ok (.lcmp, 1) := by decide +kernel
theorem dX12_isIn_7 : decode cX12_isIn 7 = .ok (.ifCond .ne 7, 3) := by decide +kernel
theorem dX12_isIn_10 : decode cX12_isIn 10 = .ok (.iconst 1, 1) := by decide +kernel
theorem dX12_isIn_11 : decode cX12_isIn 11 = .ok (.goto 4, 3) := by decide +kernel
theorem dX12_isIn_14 : decode cX12_isIn 14 = .ok (.iconst 0, 1) := by decide +kernel
theorem dX12_isIn_15 : decode cX12_isIn 15 = .ok (.ireturn, 1) := by decide +kernel
theorem dX12_wordOf_0 : decode cX12_wordOf 0 = .ok (.iload_n 1, 1) := by decide +kernel
theorem dX12_wordOf_1 : decode cX12_wordOf 1 = .ok (.bipush 18, 2) := by decide +kernel
theorem dX12_wordOf_3 : decode cX12_wordOf 3 = .ok (.if_icmp .ne 5, 3) := by decide +kernel
theorem dX12_wordOf_6 : decode cX12_wordOf 6 = .ok (.iconst 0, 1) := by decide +kernel
theorem dX12_wordOf_7 : decode cX12_wordOf 7 = .ok (.ireturn, 1) := by decide +kernel
theorem dX12_wordOf_8 : decode cX12_wordOf 8 = .ok (.aload_n 0, 1) := by decide +kernel
theorem dX12_wordOf_9 : decode cX12_wordOf 9 = .ok (.getfield 122, 3) := by decide +kernel
theorem dX12_wordOf_12 : decode cX12_wordOf 12 = .ok (.ifCond .ne 35, 3) := by decide +kernel
theorem dX12_wordOf_15 : decode cX12_wordOf 15 = .ok (.iload_n 1, 1) := by decide +kernel
theorem dX12_wordOf_16 : decode cX12_wordOf 16 = .ok (.bipush 17, 2) := by decide +kernel
theorem dX12_wordOf_18 : decode cX12_wordOf 18 = .ok (.if_icmp .ne 7, 3) := by decide +kernel
theorem dX12_wordOf_21 : decode cX12_wordOf 21 = .ok (.iconst 1, 1) := by decide +kernel
theorem dX12_wordOf_22 : decode cX12_wordOf 22 = .ok (.goto 24, 3) := by decide +kernel
theorem dX12_wordOf_25 : decode cX12_wordOf 25 = .ok (.iload_n 1, 1) := by decide +kernel
theorem dX12_wordOf_26 : decode cX12_wordOf 26 = .ok (.bipush 10, 2) := by decide +kernel
theorem dX12_wordOf_28 : decode cX12_wordOf 28 = .ok (.if_icmp .ne 7, 3) := by decide +kernel
theorem dX12_wordOf_31 : decode cX12_wordOf 31 = .ok (.iconst 2, 1) := by decide +kernel
theorem dX12_wordOf_32 : decode cX12_wordOf 32 = .ok (.goto 14, 3) := by decide +kernel
theorem dX12_wordOf_35 : decode cX12_wordOf 35 = .ok (.iload_n 1, 1) := by decide +kernel
theorem dX12_wordOf_36 : decode cX12_wordOf 36 = .ok (.bipush 11, 2) := by decide +kernel
theorem dX12_wordOf_38 : decode cX12_wordOf 38 = .ok (.if_icmp .ne 7, 3) := by decide +kernel
theorem dX12_wordOf_41 : decode cX12_wordOf 41 = .ok (.iconst 3, 1) := by decide +kernel
theorem dX12_wordOf_42 : decode cX12_wordOf 42 = .ok (.goto 4, 3) := by decide +kernel
theorem dX12_wordOf_45 : decode cX12_wordOf 45 = .ok (.iconst (-1), 1) := by decide +kernel
theorem dX12_wordOf_46 : decode cX12_wordOf 46 = .ok (.ireturn, 1) := by decide +kernel
theorem dX12_wordOf_47 : decode cX12_wordOf 47 = .ok (.iload_n 1, 1) := by decide +kernel
theorem dX12_wordOf_48 : decode cX12_wordOf 48 = .ok (.iconst 5, 1) := by decide +kernel
theorem dX12_wordOf_49 : decode cX12_wordOf 49 = .ok (.if_icmp .ne 7, 3) := by decide +kernel
theorem dX12_wordOf_52 : decode cX12_wordOf 52 = .ok (.iconst 4, 1) := by decide +kernel
theorem dX12_wordOf_53 : decode cX12_wordOf 53 = .ok (.goto 13, 3) := by decide +kernel
theorem dX12_wordOf_56 : decode cX12_wordOf 56 = .ok (.iload_n 1, 1) := by decide +kernel
theorem dX12_wordOf_57 : decode cX12_wordOf 57 = .ok (.iconst 1, 1) := by decide +kernel
theorem dX12_wordOf_58 : decode cX12_wordOf 58 = .ok (.if_icmp .ne 7, 3) := by decide +kernel
theorem dX12_wordOf_61 : decode cX12_wordOf 61 = .ok (.iconst 5, 1) := by decide +kernel
theorem dX12_wordOf_62 : decode cX12_wordOf 62 = .ok (.goto 4, 3) := by decide +kernel
theorem dX12_wordOf_65 : decode cX12_wordOf 65 = .ok (.iconst (-1), 1) := by decide +kernel
theorem dX12_wordOf_66 : decode cX12_wordOf 66 = .ok (.ireturn, 1) := by decide +kernel
theorem dX12_codes_0 : decode cX12_codes 0 = .ok (.aload_n 0, 1) := by decide +kernel
theorem dX12_codes_1 : decode cX12_codes 1 = .ok (.getfield 102, 3) := by decide +kernel
theorem dX12_codes_4 : decode cX12_codes 4 = .ok (.ifCond .eq 4, 3) := by decide +kernel
theorem dX12_codes_7 : decode cX12_codes 7 = .ok (.return_, 1) := by decide +kernel
theorem dX12_codes_8 : decode cX12_codes 8 = .ok (.aload_n 0, 1) := by decide +kernel
theorem dX12_codes_9 : decode cX12_codes 9 = .ok (.getfield 24, 3) := by decide +kernel
theorem dX12_codes_12 : decode cX12_codes 12 = .ok (.sipush 458, 3) := by decide +kernel
theorem dX12_codes_15 : decode cX12_codes 15 = .ok (.aload_n 0, 1) := by decide +kernel
theorem dX12_codes_16 : decode cX12_codes 16 = .ok (.getfield 24, 3) := by decide +kernel
theorem dX12_codes_19 : decode cX12_codes 19 = .ok (.sipush 457, 3) := by decide +kernel
theorem dX12_codes_22 : decode cX12_codes 22 = .ok (.iaload, 1) := by decide +kernel
theorem dX12_codes_23 : decode cX12_codes 23 = .ok (.iadd, 1) := by decide +kernel
theorem dX12_codes_24 : decode cX12_codes 24 = .ok (.iload_n 1, 1) := by decide +kernel
theorem dX12_codes_25 : decode cX12_codes 25 = .ok (.iastore, 1) := by decide +kernel
theorem dX12_codes_26 : decode cX12_codes 26 = .ok (.aload_n 0, 1) := by decide +kernel
theorem dX12_codes_27 : decode cX12_codes 27 = .ok (.getfield 24, 3) := by decide +kernel
theorem dX12_codes_30 : decode cX12_codes 30 = .ok (.sipush 457, 3) := by decide +kernel
theorem dX12_codes_33 : decode cX12_codes 33 = .ok (.dup2, 1) := by decide +kernel
theorem dX12_codes_34 : decode cX12_codes 34 = .ok (.iaload, 1) := by decide +kernel
theorem dX12_codes_35 : decode cX12_codes 35 = .ok (.iconst 1, 1) := by decide +kernel
theorem dX12_codes_36 : decode cX12_codes 36 = .ok (.iadd, 1) := by decide +kernel
theorem dX12_codes_37 : decode cX12_codes 37 = .ok (.iastore, 1) := by decide +kernel
theorem dX12_codes_38 : decode cX12_codes 38 = .ok (.return_, 1) := by decide +kernel
theorem dX12_goesIn_0 : decode cX12_goesIn 0 = .ok (.iload_n 1, 1) := by decide +kernel
theorem dX12_goesIn_1 : decode cX12_goesIn 1 = .ok (.bipush 6, 2) := by decide +kernel
theorem dX12_goesIn_3 : decode cX12_goesIn 3 = .ok (.if_icmp .ne 8, 3) := by decide +kernel
theorem dX12_goesIn_6 : decode cX12_goesIn 6 = .ok (.aload_n 0, 1) := by decide +kernel
theorem dX12_goesIn_7 : decode cX12_goesIn 7 = .ok (.iconst 4, 1) := by decide +kernel
theorem dX12_goesIn_8 : decode cX12_goesIn 8 = .ok (.invokevirtual 114, 3) := by decide +kernel
theorem dX12_goesIn_11 : decode cX12_goesIn 11 = .ok (.aload_n 0, 1) := by decide +kernel
theorem dX12_goesIn_12 : decode cX12_goesIn 12 = .ok (.getfield 102, 3) := by decide +kernel
theorem dX12_goesIn_15 : decode cX12_goesIn 15 = .ok (.ifCond .ne 7, 3) := by decide +kernel
theorem dX12_goesIn_18 : decode cX12_goesIn 18 = .ok (.aload_n 0, 1) := by decide +kernel
theorem dX12_goesIn_19 : decode cX12_goesIn 19 = .ok (.invokevirtual 111, 3) := by decide +kernel
theorem dX12_goesIn_22 : decode cX12_goesIn 22 = .ok (.aload_n 0, 1) := by decide +kernel
theorem dX12_goesIn_23 : decode cX12_goesIn 23 = .ok (.getfield 102, 3) := by decide +kernel
theorem dX12_goesIn_26 : decode cX12_goesIn 26 = .ok (.ifCond .ne 7, 3) := by decide +kernel
theorem dX12_goesIn_29 : decode cX12_goesIn 29 = .ok (.iconst 1, 1) := by decide +kernel
theorem dX12_goesIn_30 : decode cX12_goesIn 30 = .ok (.goto 4, 3) := by decide +kernel
theorem dX12_goesIn_33 : decode cX12_goesIn 33 = .ok (.iconst 0, 1) := by decide +kernel
theorem dX12_goesIn_34 : decode cX12_goesIn 34 = .ok (.ireturn, 1) := by decide +kernel
theorem dX12_readAtom_0 : decode cX12_readAtom 0 = .ok (.aload_n 0, 1) := by decide +kernel
theorem dX12_readAtom_1 : decode cX12_readAtom 1 = .ok (.bipush 23, 2) := by decide +kernel
theorem dX12_readAtom_3 : decode cX12_readAtom 3 = .ok (.invokevirtual 108, 3) := by decide +kernel
theorem dX12_readAtom_6 : decode cX12_readAtom 6 = .ok (.ifCond .eq 18, 3) := by decide +kernel
theorem dX12_readAtom_9 : decode cX12_readAtom 9 = .ok (.aload_n 0, 1) := by decide +kernel
theorem dX12_readAtom_10 : decode cX12_readAtom 10 = .ok (.aload_n 0, 1) := by decide +kernel
theorem dX12_readAtom_11 : decode cX12_readAtom 11 = .ok (.getfield 97, 3) := by decide +kernel
theorem dX12_readAtom_14 : decode cX12_readAtom 14 = .ok (.invokevirtual 125, 3) := by decide +kernel
theorem dX12_readAtom_17 : decode cX12_readAtom 17 = .ok (.aload_n 0, 1) := by decide +kernel
theorem dX12_readAtom_18 : decode cX12_readAtom 18 = .ok (.invokevirtual 111, 3) := by decide +kernel
theorem dX12_readAtom_21 : decode cX12_readAtom 21 = .ok (.goto 92, 3) := by decide +kernel
theorem dX12_readAtom_24 : decode cX12_readAtom 24 = .ok (.aload_n 0, 1) := by decide +kernel
theorem dX12_readAtom_25 : decode cX12_readAtom 25 = .ok (.getfield 102, 3) := by decide +kernel
theorem dX12_readAtom_28 : decode cX12_readAtom 28 = .ok (.ifCond .ne 38, 3) := by decide +kernel
theorem dX12_readAtom_31 : decode cX12_readAtom 31 = .ok (.aload_n 0, 1) := by decide +kernel
theorem dX12_readAtom_32 : decode cX12_readAtom 32 = .ok (.aload_n 0, 1) := by decide +kernel
theorem dX12_readAtom_33 : decode cX12_readAtom 33 = .ok (.getfield 84, 3) := by decide +kernel
theorem dX12_readAtom_36 : decode cX12_readAtom 36 = .ok (.invokevirtual 128, 3) := by decide +kernel
theorem dX12_readAtom_39 : decode cX12_readAtom 39 = .ok (.iconst (-1), 1) := by decide +kernel
theorem dX12_readAtom_40 : decode cX12_readAtom 40 = .ok (.if_icmp .eq 26, 3) := by decide +kernel
theorem dX12_readAtom_43 : decode cX12_readAtom 43 = .ok (.aload_n 0, 1) := by decide +kernel
theorem dX12_readAtom_44 : decode cX12_readAtom 44 = .ok (.sipush 1000, 3) := by decide +kernel
theorem dX12_readAtom_47 : decode cX12_readAtom 47 = .ok (.aload_n 0, 1) := by decide +kernel
theorem dX12_readAtom_48 : decode cX12_readAtom 48 = .ok (.aload_n 0, 1) := by decide +kernel
theorem dX12_readAtom_49 : decode cX12_readAtom 49 = .ok (.getfield 84, 3) := by decide +kernel
theorem dX12_readAtom_52 : decode cX12_readAtom 52 = .ok (.invokevirtual 128, 3) := by decide +kernel
theorem dX12_readAtom_55 : decode cX12_readAtom 55 = .ok (.iadd, 1) := by decide +kernel
theorem dX12_readAtom_56 : decode cX12_readAtom 56 = .ok (.invokevirtual 125, 3) := by decide +kernel
theorem dX12_readAtom_59 : decode cX12_readAtom 59 = .ok (.aload_n 0, 1) := by decide +kernel
theorem dX12_readAtom_60 : decode cX12_readAtom 60 = .ok (.invokevirtual 111, 3) := by decide +kernel
theorem dX12_readAtom_63 : decode cX12_readAtom 63 = .ok (.goto 50, 3) := by decide +kernel
theorem dX12_readAtom_66 : decode cX12_readAtom 66 = .ok (.aload_n 0, 1) := by decide +kernel
theorem dX12_readAtom_67 : decode cX12_readAtom 67 = .ok (.bipush 35, 2) := by decide +kernel
theorem dX12_readAtom_69 : decode cX12_readAtom 69 = .ok (.invokevirtual 108, 3) := by decide +kernel
theorem dX12_readAtom_72 : decode cX12_readAtom 72 = .ok (.ifCond .eq 36, 3) := by decide +kernel
theorem dX12_readAtom_75 : decode cX12_readAtom 75 = .ok (.aload_n 0, 1) := by decide +kernel
theorem dX12_readAtom_76 : decode cX12_readAtom 76 = .ok (.iload_n 1, 1) := by decide +kernel
theorem dX12_readAtom_77 : decode cX12_readAtom 77 = .ok (.invokevirtual 131, 3) := by decide +kernel
theorem dX12_readAtom_80 : decode cX12_readAtom 80 = .ok (.ifCond .ne 4, 3) := by decide +kernel
theorem dX12_readAtom_83 : decode cX12_readAtom 83 = .ok (.return_, 1) := by decide +kernel
theorem dX12_readAtom_84 : decode cX12_readAtom 84 = .ok (.aload_n 0, 1) := by decide +kernel
theorem dX12_readAtom_85 : decode cX12_readAtom 85 = .ok (.iload_n 1, 1) := by decide +kernel
theorem dX12_readAtom_86 : decode cX12_readAtom 86 = .ok (.iconst 1, 1) := by decide +kernel
theorem dX12_readAtom_87 : decode cX12_readAtom 87 = .ok (.iadd, 1) := by decide +kernel
theorem dX12_readAtom_88 : decode cX12_readAtom 88 = .ok (.invokevirtual 134, 3) := by decide +kernel
theorem dX12_readAtom_91 : decode cX12_readAtom 91 = .ok (.aload_n 0, 1) := by decide +kernel
theorem dX12_readAtom_92 : decode cX12_readAtom 92 = .ok (.bipush 36, 2) := by decide +kernel
theorem dX12_readAtom_94 : decode cX12_readAtom 94 = .ok (.invokevirtual 137, 3) := by decide +kernel
theorem dX12_readAtom_97 : decode cX12_readAtom 97 = .ok (.ifCond .ne 16, 3) := by decide +kernel
theorem dX12_readAtom_100 : decode cX12_readAtom 100 = .ok (.aload_n 0, 1) := by decide +kernel
theorem dX12_readAtom_101 : decode cX12_readAtom 101 = .ok (.iconst 2, 1) := by decide +kernel
theorem dX12_readAtom_102 : decode cX12_readAtom 102 = .ok (.invokevirtual 114, 3) := by decide +kernel
theorem dX12_readAtom_105 : decode cX12_readAtom 105 = .ok (.goto 8, 3) := by decide +kernel
theorem dX12_readAtom_108 : decode cX12_readAtom 108 = .ok (.aload_n 0, 1) := by decide +kernel
theorem dX12_readAtom_109 : decode cX12_readAtom 109 = .ok (.iconst 2, 1) := by decide +kernel
theorem dX12_readAtom_110 : decode cX12_readAtom 110 = .ok (.invokevirtual 114, 3) := by decide +kernel
theorem dX12_readAtom_113 : decode cX12_readAtom 113 = .ok (.return_, 1) := by decide +kernel
theorem dX12_readTerm_0 : decode cX12_readTerm 0 = .ok (.aload_n 0, 1) := by decide +kernel
theorem dX12_readTerm_1 : decode cX12_readTerm 1 = .ok (.iload_n 1, 1) := by decide +kernel
theorem dX12_readTerm_2 : decode cX12_readTerm 2 = .ok (.invokevirtual 140, 3) := by decide +kernel
theorem dX12_readTerm_5 : decode cX12_readTerm 5 = .ok (.aload_n 0, 1) := by decide +kernel
theorem dX12_readTerm_6 : decode cX12_readTerm 6 = .ok (.bipush 34, 2) := by decide +kernel
theorem dX12_readTerm_8 : decode cX12_readTerm 8 = .ok (.invokevirtual 137, 3) := by decide +kernel
theorem dX12_readTerm_11 : decode cX12_readTerm 11 = .ok (.ifCond .eq 18, 3) := by decide +kernel
theorem dX12_readTerm_14 : decode cX12_readTerm 14 = .ok (.aload_n 0, 1) := by decide +kernel
theorem dX12_readTerm_15 : decode cX12_readTerm 15 = .ok (.iload_n 1, 1) := by decide +kernel
theorem dX12_readTerm_16 : decode cX12_readTerm 16 = .ok (.invokevirtual 140, 3) := by decide +kernel
theorem dX12_readTerm_19 : decode cX12_readTerm 19 = .ok (.aload_n 0, 1) := by decide +kernel
theorem dX12_readTerm_20 : decode cX12_readTerm 20 = .ok (.sipush 3002, 3) := by decide +kernel
theorem dX12_readTerm_23 : decode cX12_readTerm 23 = .ok (.invokevirtual 125, 3) := by decide +kernel
theorem dX12_readTerm_26 : decode cX12_readTerm 26 = .ok (.goto (-21), 3) := by decide +kernel
theorem dX12_readTerm_29 : decode cX12_readTerm 29 = .ok (.return_, 1) := by decide +kernel
theorem dX12_readSum_0 : decode cX12_readSum 0 = .ok (.aload_n 0, 1) := by decide +kernel
theorem dX12_readSum_1 : decode cX12_readSum 1 = .ok (.iload_n 1, 1) := by decide +kernel
theorem dX12_readSum_2 : decode cX12_readSum 2 = .ok (.invokevirtual 143, 3) := by decide +kernel
theorem dX12_readSum_5 : decode cX12_readSum 5 = .ok (.aload_n 0, 1) := by decide +kernel
theorem dX12_readSum_6 : decode cX12_readSum 6 = .ok (.bipush 32, 2) := by decide +kernel
theorem dX12_readSum_8 : decode cX12_readSum 8 = .ok (.invokevirtual 108, 3) := by decide +kernel
theorem dX12_readSum_11 : decode cX12_readSum 11 = .ok (.ifCond .ne 12, 3) := by decide +kernel
theorem dX12_readSum_14 : decode cX12_readSum 14 = .ok (.aload_n 0, 1) := by decide +kernel
theorem dX12_readSum_15 : decode cX12_readSum 15 = .ok (.bipush 33, 2) := by decide +kernel
theorem dX12_readSum_17 : decode cX12_readSum 17 = .ok (.invokevirtual 108, 3) := by decide +kernel
theorem dX12_readSum_20 : decode cX12_readSum 20 = .ok (.ifCond .eq 39, 3) := by decide +kernel
theorem dX12_readSum_23 : decode cX12_readSum 23 = .ok (.aload_n 0, 1) := by decide +kernel
theorem dX12_readSum_24 : decode cX12_readSum 24 = .ok (.getfield 84, 3) := by decide +kernel
theorem dX12_readSum_27 : decode cX12_readSum 27 = .ok (.bipush 32, 2) := by decide +kernel
theorem dX12_readSum_29 : decode cX12_readSum 29 = .ok (.if_icmp .ne 9, 3) := by decide +kernel
theorem dX12_readSum_32 : decode cX12_readSum 32 = .ok (.sipush 3000, 3) := by decide +kernel
theorem dX12_readSum_35 : decode cX12_readSum 35 = .ok (.goto 6, 3) := by decide +kernel
theorem dX12_readSum_38 : decode cX12_readSum 38 = .ok (.sipush 3001, 3) := by decide +kernel
theorem dX12_readSum_41 : decode cX12_readSum 41 = .ok (.istore_n 2, 1) := by decide +kernel
theorem dX12_readSum_42 : decode cX12_readSum 42 = .ok (.aload_n 0, 1) := by decide +kernel
theorem dX12_readSum_43 : decode cX12_readSum 43 = .ok (.invokevirtual 111, 3) := by decide +kernel
theorem dX12_readSum_46 : decode cX12_readSum 46 = .ok (.aload_n 0, 1) := by decide +kernel
theorem dX12_readSum_47 : decode cX12_readSum 47 = .ok (.iload_n 1, 1) := by decide +kernel
theorem dX12_readSum_48 : decode cX12_readSum 48 = .ok (.invokevirtual 143, 3) := by decide +kernel
theorem dX12_readSum_51 : decode cX12_readSum 51 = .ok (.aload_n 0, 1) := by decide +kernel
theorem dX12_readSum_52 : decode cX12_readSum 52 = .ok (.iload_n 2, 1) := by decide +kernel
theorem dX12_readSum_53 : decode cX12_readSum 53 = .ok (.invokevirtual 125, 3) := by decide +kernel
theorem dX12_readSum_56 : decode cX12_readSum 56 = .ok (.goto (-51), 3) := by decide +kernel
theorem dX12_readSum_59 : decode cX12_readSum 59 = .ok (.return_, 1) := by decide +kernel
theorem dX12_readLit_0 : decode cX12_readLit 0 = .ok (.iconst 0, 1) := by decide +kernel
theorem dX12_readLit_1 : decode cX12_readLit 1 = .ok (.istore_n 2, 1) := by decide +kernel
theorem dX12_readLit_2 : decode cX12_readLit 2 = .ok (.iconst 0, 1) := by decide +kernel
theorem dX12_readLit_3 : decode cX12_readLit 3 = .ok (.istore_n 3, 1) := by decide +kernel
theorem dX12_readLit_4 : decode cX12_readLit 4 = .ok (.aload_n 0, 1) := by decide +kernel
theorem dX12_readLit_5 : decode cX12_readLit 5 = .ok (.getfield 102, 3) := by decide +kernel
theorem dX12_readLit_8 : decode cX12_readLit 8 = .ok (.ifCond .ne 80, 3) := by decide +kernel
theorem dX12_readLit_11 : decode cX12_readLit 11 = .ok (.iload_n 3, 1) := by decide +kernel
theorem dX12_readLit_12 : decode cX12_readLit 12 = .ok (.ifCond .eq 12, 3) := by decide +kernel
theorem dX12_readLit_15 : decode cX12_readLit 15 = .ok (.aload_n 0, 1) := by decide +kernel
theorem dX12_readLit_16 : decode cX12_readLit 16 = .ok (.bipush 23, 2) := by decide +kernel
theorem dX12_readLit_18 : decode cX12_readLit 18 = .ok (.invokevirtual 108, 3) := by decide +kernel
theorem dX12_readLit_21 : decode cX12_readLit 21 = .ok (.ifCond .eq 67, 3) := by decide +kernel
theorem dX12_readLit_24 : decode cX12_readLit 24 = .ok (.aload_n 0, 1) := by decide +kernel
theorem dX12_readLit_25 : decode cX12_readLit 25 = .ok (.bipush 23, 2) := by decide +kernel
theorem dX12_readLit_27 : decode cX12_readLit 27 = .ok (.invokevirtual 108, 3) := by decide +kernel
theorem dX12_readLit_30 : decode cX12_readLit 30 = .ok (.ifCond .eq 24, 3) := by decide +kernel
theorem dX12_readLit_33 : decode cX12_readLit 33 = .ok (.aload_n 0, 1) := by decide +kernel
theorem dX12_readLit_34 : decode cX12_readLit 34 = .ok (.getfield 97, 3) := by decide +kernel
theorem dX12_readLit_37 : decode cX12_readLit 37 = .ok (.aload_n 0, 1) := by decide +kernel
theorem dX12_readLit_38 : decode cX12_readLit 38 = .ok (.getfield 24, 3) := by decide +kernel
theorem dX12_readLit_41 : decode cX12_readLit 41 = .ok (.bipush 60, 2) := by decide +kernel
theorem dX12_readLit_43 : decode cX12_readLit 43 = .ok (.iload_n 1, 1) := by decide +kernel
theorem dX12_readLit_44 : decode cX12_readLit 44 = .ok (.iadd, 1) := by decide +kernel
theorem dX12_readLit_45 : decode cX12_readLit 45 = .ok (.iaload, 1) := by decide +kernel
theorem dX12_readLit_46 : decode cX12_readLit 46 = .ok (.if_icmp .ne 8, 3) := by decide +kernel
theorem dX12_readLit_49 : decode cX12_readLit 49 = .ok (.aload_n 0, 1) := by decide +kernel
theorem dX12_readLit_50 : decode cX12_readLit 50 = .ok (.iconst 3, 1) := by decide +kernel
theorem dX12_readLit_51 : decode cX12_readLit 51 = .ok (.invokevirtual 114, 3) := by decide +kernel
theorem dX12_readLit_54 : decode cX12_readLit 54 = .ok (.aload_n 0, 1) := by decide +kernel
theorem dX12_readLit_55 : decode cX12_readLit 55 = .ok (.iconst 0, 1) := by decide +kernel
theorem dX12_readLit_56 : decode cX12_readLit 56 = .ok (.aload_n 0, 1) := by decide +kernel
theorem dX12_readLit_57 : decode cX12_readLit 57 = .ok (.getfield 24, 3) := by decide +kernel
theorem dX12_readLit_60 : decode cX12_readLit 60 = .ok (.iconst 1, 1) := by decide +kernel
theorem dX12_readLit_61 : decode cX12_readLit 61 = .ok (.iaload, 1) := by decide +kernel
theorem dX12_readLit_62 : decode cX12_readLit 62 = .ok (.iconst 1, 1) := by decide +kernel
theorem dX12_readLit_63 : decode cX12_readLit 63 = .ok (.isub, 1) := by decide +kernel
theorem dX12_readLit_64 : decode cX12_readLit 64 = .ok (.invokevirtual 146, 3) := by decide +kernel
theorem dX12_readLit_67 : decode cX12_readLit 67 = .ok (.istore 4, 2) := by decide +kernel
theorem dX12_readLit_69 : decode cX12_readLit 69 = .ok (.aload_n 0, 1) := by decide +kernel
theorem dX12_readLit_70 : decode cX12_readLit 70 = .ok (.getfield 102, 3) := by decide +kernel
theorem dX12_readLit_73 : decode cX12_readLit 73 = .ok (.ifCond .ne 10, 3) := by decide +kernel
theorem dX12_readLit_76 : decode cX12_readLit 76 = .ok (.iload_n 2, 1) := by decide +kernel
theorem dX12_readLit_77 : decode cX12_readLit 77 = .ok (.iconst 1, 1) := by decide +kernel
theorem dX12_readLit_78 : decode cX12_readLit 78 = .ok (.iload 4, 2) := by decide +kernel
theorem dX12_readLit_80 : decode cX12_readLit 80 = .ok (.ishl, 1) := by decide +kernel
theorem dX12_readLit_81 : decode cX12_readLit 81 = .ok (.ior, 1) := by decide +kernel
theorem dX12_readLit_82 : decode cX12_readLit 82 = .ok (.istore_n 2, 1) := by decide +kernel
theorem dX12_readLit_83 : decode cX12_readLit 83 = .ok (.iconst 1, 1) := by decide +kernel
theorem dX12_readLit_84 : decode cX12_readLit 84 = .ok (.istore_n 3, 1) := by decide +kernel
theorem dX12_readLit_85 : decode cX12_readLit 85 = .ok (.goto (-81), 3) := by decide +kernel
theorem dX12_readLit_88 : decode cX12_readLit 88 = .ok (.aload_n 0, 1) := by decide +kernel
theorem dX12_readLit_89 : decode cX12_readLit 89 = .ok (.getfield 102, 3) := by decide +kernel
theorem dX12_readLit_92 : decode cX12_readLit 92 = .ok (.ifCond .ne 13, 3) := by decide +kernel
theorem dX12_readLit_95 : decode cX12_readLit 95 = .ok (.aload_n 0, 1) := by decide +kernel
theorem dX12_readLit_96 : decode cX12_readLit 96 = .ok (.getfield 24, 3) := by decide +kernel
theorem dX12_readLit_99 : decode cX12_readLit 99 = .ok (.bipush 66, 2) := by decide +kernel
theorem dX12_readLit_101 : decode cX12_readLit 101 = .ok (.iload_n 1, 1) := by decide +kernel
theorem dX12_readLit_102 : decode cX12_readLit 102 = .ok (.iadd, 1) := by decide +kernel
theorem dX12_readLit_103 : decode cX12_readLit 103 = .ok (.iload_n 2, 1) := by decide +kernel
theorem dX12_readLit_104 : decode cX12_readLit 104 = .ok (.iastore, 1) := by decide +kernel
theorem dX12_readLit_105 : decode cX12_readLit 105 = .ok (.return_, 1) := by decide +kernel
theorem dX12_readLiftFlag_0 : decode cX12_readLiftFlag 0 = .ok (.aload_n 0, 1) := by decide +kernel
theorem dX12_readLiftFlag_1 : decode cX12_readLiftFlag 1 = .ok (.iconst 3, 1) := by decide +kernel
theorem dX12_readLiftFlag_2 : decode cX12_readLiftFlag 2 = .ok (.invokevirtual 137, 3) := by decide +kernel
theorem dX12_readLiftFlag_5 : decode cX12_readLiftFlag 5 = .ok (.ifCond .eq 22, 3) := by decide +kernel
theorem dX12_readLiftFlag_8 : decode cX12_readLiftFlag 8 = .ok (.aload_n 0, 1) := by decide +kernel
theorem dX12_readLiftFlag_9 : decode cX12_readLiftFlag 9 = .ok (.getfield 24, 3) := by decide +kernel
theorem dX12_readLiftFlag_12 : decode cX12_readLiftFlag 12 = .ok (.bipush 22, 2) := by decide +kernel
theorem dX12_readLiftFlag_14 : decode cX12_readLiftFlag 14 = .ok (.iload_n 1, 1) := by decide +kernel
theorem dX12_readLiftFlag_15 : decode cX12_readLiftFlag 15 = .ok (.iadd, 1) := by decide +kernel
theorem dX12_readLiftFlag_16 : decode cX12_readLiftFlag 16 = .ok (.aload_n 0, 1) := by decide +kernel
theorem dX12_readLiftFlag_17 : decode cX12_readLiftFlag 17 = .ok (.iconst 1, 1) := by decide +kernel
theorem dX12_readLiftFlag_18 : decode cX12_readLiftFlag 18 = .ok (.bipush 60, 2) := by decide +kernel
theorem dX12_readLiftFlag_20 : decode cX12_readLiftFlag 20 = .ok (.invokevirtual 146, 3) := by decide +kernel
theorem dX12_readLiftFlag_23 : decode cX12_readLiftFlag 23 = .ok (.iastore, 1) := by decide +kernel
theorem dX12_readLiftFlag_24 : decode cX12_readLiftFlag 24 = .ok (.goto 70, 3) := by decide +kernel
theorem dX12_readLiftFlag_27 : decode cX12_readLiftFlag 27 = .ok (.aload_n 0, 1) := by decide +kernel
theorem dX12_readLiftFlag_28 : decode cX12_readLiftFlag 28 = .ok (.iconst 4, 1) := by decide +kernel
theorem dX12_readLiftFlag_29 : decode cX12_readLiftFlag 29 = .ok (.invokevirtual 137, 3) := by decide +kernel
theorem dX12_readLiftFlag_32 : decode cX12_readLiftFlag 32 = .ok (.ifCond .eq 22, 3) := by decide +kernel
theorem dX12_readLiftFlag_35 : decode cX12_readLiftFlag 35 = .ok (.aload_n 0, 1) := by decide +kernel
theorem dX12_readLiftFlag_36 : decode cX12_readLiftFlag 36 = .ok (.getfield 24, 3) := by decide +kernel
theorem dX12_readLiftFlag_39 : decode cX12_readLiftFlag 39 = .ok (.bipush 25, 2) := by decide +kernel
theorem dX12_readLiftFlag_41 : decode cX12_readLiftFlag 41 = .ok (.iload_n 1, 1) := by decide +kernel
theorem dX12_readLiftFlag_42 : decode cX12_readLiftFlag 42 = .ok (.iadd, 1) := by decide +kernel
theorem dX12_readLiftFlag_43 : decode cX12_readLiftFlag 43 = .ok (.aload_n 0, 1) := by decide +kernel
theorem dX12_readLiftFlag_44 : decode cX12_readLiftFlag 44 = .ok (.iconst 0, 1) := by decide +kernel
theorem dX12_readLiftFlag_45 : decode cX12_readLiftFlag 45 = .ok (.bipush 99, 2) := by decide +kernel
theorem dX12_readLiftFlag_47 : decode cX12_readLiftFlag 47 = .ok (.invokevirtual 146, 3) := by decide +kernel
theorem dX12_readLiftFlag_50 : decode cX12_readLiftFlag 50 = .ok (.iastore, 1) := by decide +kernel
theorem dX12_readLiftFlag_51 : decode cX12_readLiftFlag 51 = .ok (.goto 43, 3) := by decide +kernel
theorem dX12_readLiftFlag_54 : decode cX12_readLiftFlag 54 = .ok (.aload_n 0, 1) := by decide +kernel
theorem dX12_readLiftFlag_55 : decode cX12_readLiftFlag 55 = .ok (.iconst 5, 1) := by decide +kernel
theorem dX12_readLiftFlag_56 : decode cX12_readLiftFlag 56 = .ok (.invokevirtual 137, 3) := by decide +kernel
theorem dX12_readLiftFlag_59 : decode cX12_readLiftFlag 59 = .ok (.ifCond .eq 11, 3) := by decide +kernel
theorem dX12_readLiftFlag_62 : decode cX12_readLiftFlag 62 = .ok (.aload_n 0, 1) := by decide +kernel
theorem dX12_readLiftFlag_63 : decode cX12_readLiftFlag 63 = .ok (.iload_n 1, 1) := by decide +kernel
theorem dX12_readLiftFlag_64 : decode cX12_readLiftFlag 64 = .ok (.invokevirtual 150, 3) := by decide +kernel
theorem dX12_readLiftFlag_67 : decode cX12_readLiftFlag 67 = .ok (.goto 27, 3) := by decide +kernel
theorem dX12_readLiftFlag_70 : decode cX12_readLiftFlag 70 = .ok (.aload_n 0, 1) := by decide +kernel
theorem dX12_readLiftFlag_71 : decode cX12_readLiftFlag 71 = .ok (.bipush 6, 2) := by decide +kernel
theorem dX12_readLiftFlag_73 : decode cX12_readLiftFlag 73 = .ok (.invokevirtual 137, 3) := by decide +kernel
theorem dX12_readLiftFlag_76 : decode cX12_readLiftFlag 76 = .ok (.ifCond .eq 16, 3) := by decide +kernel
theorem dX12_readLiftFlag_79 : decode cX12_readLiftFlag 79 = .ok (.aload_n 0, 1) := by decide +kernel
theorem dX12_readLiftFlag_80 : decode cX12_readLiftFlag 80 = .ok (.getfield 24, 3) := by decide +kernel
theorem dX12_readLiftFlag_83 : decode cX12_readLiftFlag 83 = .ok (.bipush 69, 2) := by decide +kernel
theorem dX12_readLiftFlag_85 : decode cX12_readLiftFlag 85 = .ok (.iload_n 1, 1) := by decide +kernel
theorem dX12_readLiftFlag_86 : decode cX12_readLiftFlag 86 = .ok (.iadd, 1) := by decide +kernel
theorem dX12_readLiftFlag_87 : decode cX12_readLiftFlag 87 = .ok (.iconst 0, 1) := by decide +kernel
theorem dX12_readLiftFlag_88 : decode cX12_readLiftFlag 88 = .ok (.iastore, 1) := by decide +kernel
theorem dX12_readLiftFlag_89 : decode cX12_readLiftFlag 89 = .ok (.goto 5, 3) := by decide +kernel
theorem dX12_readLiftFlag_92 : decode cX12_readLiftFlag 92 = .ok (.iconst 0, 1) := by decide +kernel
theorem dX12_readLiftFlag_93 : decode cX12_readLiftFlag 93 = .ok (.ireturn, 1) := by decide +kernel
theorem dX12_readLiftFlag_94 : decode cX12_readLiftFlag 94 = .ok (.aload_n 0, 1) := by decide +kernel
theorem dX12_readLiftFlag_95 : decode cX12_readLiftFlag 95 = .ok (.getfield 102, 3) := by decide +kernel
theorem dX12_readLiftFlag_98 : decode cX12_readLiftFlag 98 = .ok (.ifCond .ne 7, 3) := by decide +kernel
theorem dX12_readLiftFlag_101 : decode cX12_readLiftFlag 101 = .ok (.iconst 1, 1) := by decide +kernel
theorem dX12_readLiftFlag_102 : decode cX12_readLiftFlag 102 = .ok (.goto 4, 3) := by decide +kernel
theorem dX12_readLiftFlag_105 : decode cX12_readLiftFlag 105 = .ok (.iconst 0, 1) := by decide +kernel
theorem dX12_readLiftFlag_106 : decode cX12_readLiftFlag 106 = .ok (.ireturn, 1) := by decide +kernel
theorem dX12_readLift_0 : decode cX12_readLift 0 = .ok (.aload_n 0, 1) := by decide +kernel
theorem dX12_readLift_1 : decode cX12_readLift 1 = .ok (.getfield 24, 3) := by decide +kernel
theorem dX12_readLift_4 : decode cX12_readLift 4 = .ok (.iconst 2, 1) := by decide +kernel
theorem dX12_readLift_5 : decode cX12_readLift 5 = .ok (.iaload, 1) := by decide +kernel
theorem dX12_readLift_6 : decode cX12_readLift 6 = .ok (.istore_n 1, 1) := by decide +kernel
theorem dX12_readLift_7 : decode cX12_readLift 7 = .ok (.iload_n 1, 1) := by decide +kernel
theorem dX12_readLift_8 : decode cX12_readLift 8 = .ok (.iconst 3, 1) := by decide +kernel
theorem dX12_readLift_9 : decode cX12_readLift 9 = .ok (.if_icmp .ne 8, 3) := by decide +kernel
theorem dX12_readLift_12 : decode cX12_readLift 12 = .ok (.aload_n 0, 1) := by decide +kernel
theorem dX12_readLift_13 : decode cX12_readLift 13 = .ok (.iconst 4, 1) := by decide +kernel
theorem dX12_readLift_14 : decode cX12_readLift 14 = .ok (.invokevirtual 114, 3) := by decide +kernel
theorem dX12_readLift_17 : decode cX12_readLift 17 = .ok (.aload_n 0, 1) := by decide +kernel
theorem dX12_readLift_18 : decode cX12_readLift 18 = .ok (.getfield 102, 3) := by decide +kernel
theorem dX12_readLift_21 : decode cX12_readLift 21 = .ok (.ifCond .eq 4, 3) := by decide +kernel
theorem dX12_readLift_24 : decode cX12_readLift 24 = .ok (.return_, 1) := by decide +kernel
theorem dX12_readLift_25 : decode cX12_readLift 25 = .ok (.aload_n 0, 1) := by decide +kernel
theorem dX12_readLift_26 : decode cX12_readLift 26 = .ok (.invokevirtual 111, 3) := by decide +kernel
theorem dX12_readLift_29 : decode cX12_readLift 29 = .ok (.aload_n 0, 1) := by decide +kernel
theorem dX12_readLift_30 : decode cX12_readLift 30 = .ok (.iconst 2, 1) := by decide +kernel
theorem dX12_readLift_31 : decode cX12_readLift 31 = .ok (.invokevirtual 137, 3) := by decide +kernel
theorem dX12_readLift_34 : decode cX12_readLift 34 = .ok (.ifCond .ne 8, 3) := by decide +kernel
theorem dX12_readLift_37 : decode cX12_readLift 37 = .ok (.aload_n 0, 1) := by decide +kernel
theorem dX12_readLift_38 : decode cX12_readLift 38 = .ok (.iconst 2, 1) := by decide +kernel
theorem dX12_readLift_39 : decode cX12_readLift 39 = .ok (.invokevirtual 114, 3) := by decide +kernel
theorem dX12_readLift_42 : decode cX12_readLift 42 = .ok (.aload_n 0, 1) := by decide +kernel
theorem dX12_readLift_43 : decode cX12_readLift 43 = .ok (.getfield 24, 3) := by decide +kernel
theorem dX12_readLift_46 : decode cX12_readLift 46 = .ok (.bipush 60, 2) := by decide +kernel
theorem dX12_readLift_48 : decode cX12_readLift 48 = .ok (.iload_n 1, 1) := by decide +kernel
theorem dX12_readLift_49 : decode cX12_readLift 49 = .ok (.iadd, 1) := by decide +kernel
theorem dX12_readLift_50 : decode cX12_readLift 50 = .ok (.aload_n 0, 1) := by decide +kernel
theorem dX12_readLift_51 : decode cX12_readLift 51 = .ok (.iconst 0, 1) := by decide +kernel
theorem dX12_readLift_52 : decode cX12_readLift 52 = .ok (.aload_n 0, 1) := by decide +kernel
theorem dX12_readLift_53 : decode cX12_readLift 53 = .ok (.getfield 24, 3) := by decide +kernel
theorem dX12_readLift_56 : decode cX12_readLift 56 = .ok (.iconst 1, 1) := by decide +kernel
theorem dX12_readLift_57 : decode cX12_readLift 57 = .ok (.iaload, 1) := by decide +kernel
theorem dX12_readLift_58 : decode cX12_readLift 58 = .ok (.iconst 1, 1) := by decide +kernel
theorem dX12_readLift_59 : decode cX12_readLift 59 = .ok (.isub, 1) := by decide +kernel
theorem dX12_readLift_60 : decode cX12_readLift 60 = .ok (.invokevirtual 146, 3) := by decide +kernel
theorem dX12_readLift_63 : decode cX12_readLift 63 = .ok (.iastore, 1) := by decide +kernel
theorem dX12_readLift_64 : decode cX12_readLift 64 = .ok (.aload_n 0, 1) := by decide +kernel
theorem dX12_readLift_65 : decode cX12_readLift 65 = .ok (.getfield 24, 3) := by decide +kernel
theorem dX12_readLift_68 : decode cX12_readLift 68 = .ok (.bipush 22, 2) := by decide +kernel
theorem dX12_readLift_70 : decode cX12_readLift 70 = .ok (.iload_n 1, 1) := by decide +kernel
theorem dX12_readLift_71 : decode cX12_readLift 71 = .ok (.iadd, 1) := by decide +kernel
theorem dX12_readLift_72 : decode cX12_readLift 72 = .ok (.iconst 3, 1) := by decide +kernel
theorem dX12_readLift_73 : decode cX12_readLift 73 = .ok (.iastore, 1) := by decide +kernel
theorem dX12_readLift_74 : decode cX12_readLift 74 = .ok (.aload_n 0, 1) := by decide +kernel
theorem dX12_readLift_75 : decode cX12_readLift 75 = .ok (.getfield 24, 3) := by decide +kernel
theorem dX12_readLift_78 : decode cX12_readLift 78 = .ok (.bipush 25, 2) := by decide +kernel
theorem dX12_readLift_80 : decode cX12_readLift 80 = .ok (.iload_n 1, 1) := by decide +kernel
theorem dX12_readLift_81 : decode cX12_readLift 81 = .ok (.iadd, 1) := by decide +kernel
theorem dX12_readLift_82 : decode cX12_readLift 82 = .ok (.bipush 8, 2) := by decide +kernel
theorem dX12_readLift_84 : decode cX12_readLift 84 = .ok (.iastore, 1) := by decide +kernel
theorem dX12_readLift_85 : decode cX12_readLift 85 = .ok (.aload_n 0, 1) := by decide +kernel
theorem dX12_readLift_86 : decode cX12_readLift 86 = .ok (.getfield 24, 3) := by decide +kernel
theorem dX12_readLift_89 : decode cX12_readLift 89 = .ok (.bipush 69, 2) := by decide +kernel
theorem dX12_readLift_91 : decode cX12_readLift 91 = .ok (.iload_n 1, 1) := by decide +kernel
theorem dX12_readLift_92 : decode cX12_readLift 92 = .ok (.iadd, 1) := by decide +kernel
theorem dX12_readLift_93 : decode cX12_readLift 93 = .ok (.iconst 1, 1) := by decide +kernel
theorem dX12_readLift_94 : decode cX12_readLift 94 = .ok (.iastore, 1) := by decide +kernel
theorem dX12_readLift_95 : decode cX12_readLift 95 = .ok (.aload_n 0, 1) := by decide +kernel
theorem dX12_readLift_96 : decode cX12_readLift 96 = .ok (.getfield 102, 3) := by decide +kernel
theorem dX12_readLift_99 : decode cX12_readLift 99 = .ok (.ifCond .ne 14, 3) := by decide +kernel
theorem dX12_readLift_102 : decode cX12_readLift 102 = .ok (.aload_n 0, 1) := by decide +kernel
theorem dX12_readLift_103 : decode cX12_readLift 103 = .ok (.iload_n 1, 1) := by decide +kernel
theorem dX12_readLift_104 : decode cX12_readLift 104 = .ok (.invokevirtual 153, 3) := by decide +kernel
theorem dX12_readLift_107 : decode cX12_readLift 107 = .ok (.ifCond .eq 6, 3) := by decide +kernel
theorem dX12_readLift_110 : decode cX12_readLift 110 = .ok (.goto (-15), 3) := by decide +kernel
theorem dX12_readLift_113 : decode cX12_readLift 113 = .ok (.aload_n 0, 1) := by decide +kernel
theorem dX12_readLift_114 : decode cX12_readLift 114 = .ok (.getfield 102, 3) := by decide +kernel
theorem dX12_readLift_117 : decode cX12_readLift 117 = .ok (.ifCond .ne 13, 3) := by decide +kernel
theorem dX12_readLift_120 : decode cX12_readLift 120 = .ok (.aload_n 0, 1) := by decide +kernel
theorem dX12_readLift_121 : decode cX12_readLift 121 = .ok (.getfield 24, 3) := by decide +kernel
theorem dX12_readLift_124 : decode cX12_readLift 124 = .ok (.iconst 2, 1) := by decide +kernel
theorem dX12_readLift_125 : decode cX12_readLift 125 = .ok (.dup2, 1) := by decide +kernel
theorem dX12_readLift_126 : decode cX12_readLift 126 = .ok (.iaload, 1) := by decide +kernel
theorem dX12_readLift_127 : decode cX12_readLift 127 = .ok (.iconst 1, 1) := by decide +kernel
theorem dX12_readLift_128 : decode cX12_readLift 128 = .ok (.iadd, 1) := by decide +kernel
theorem dX12_readLift_129 : decode cX12_readLift 129 = .ok (.iastore, 1) := by decide +kernel
theorem dX12_readLift_130 : decode cX12_readLift 130 = .ok (.return_, 1) := by decide +kernel
theorem dX12_readPersonFlag_0 : decode cX12_readPersonFlag 0 = .ok (.aload_n 0, 1) := by decide +kernel
theorem dX12_readPersonFlag_1 : decode cX12_readPersonFlag 1 = .ok (.iconst 2, 1) := by decide +kernel
theorem dX12_readPersonFlag_2 : decode cX12_readPersonFlag 2 = .ok (.invokevirtual 137, 3) := by decide +kernel
theorem dX12_readPersonFlag_5 : decode cX12_readPersonFlag 5 = .ok (.ifCond .eq 38, 3) := by decide +kernel
theorem dX12_readPersonFlag_8 : decode cX12_readPersonFlag 8 = .ok (.aload_n 0, 1) := by decide +kernel
theorem dX12_readPersonFlag_9 : decode cX12_readPersonFlag 9 = .ok (.getfield 24, 3) := by decide +kernel
theorem dX12_readPersonFlag_12 : decode cX12_readPersonFlag 12 = .ok (.bipush 72, 2) := by decide +kernel
theorem dX12_readPersonFlag_14 : decode cX12_readPersonFlag 14 = .ok (.iload_n 1, 1) := by decide +kernel
theorem dX12_readPersonFlag_15 : decode cX12_readPersonFlag 15 = .ok (.iadd, 1) := by decide +kernel
theorem dX12_readPersonFlag_16 : decode cX12_readPersonFlag 16 = .ok (.aload_n 0, 1) := by decide +kernel
theorem dX12_readPersonFlag_17 : decode cX12_readPersonFlag 17 = .ok (.iconst 0, 1) := by decide +kernel
theorem dX12_readPersonFlag_18 : decode cX12_readPersonFlag 18 = .ok (.aload_n 0, 1) := by decide +kernel
theorem dX12_readPersonFlag_19 : decode cX12_readPersonFlag 19 = .ok (.getfield 24, 3) := by decide +kernel
theorem dX12_readPersonFlag_22 : decode cX12_readPersonFlag 22 = .ok (.iconst 1, 1) := by decide +kernel
theorem dX12_readPersonFlag_23 : decode cX12_readPersonFlag 23 = .ok (.iaload, 1) := by decide +kernel
theorem dX12_readPersonFlag_24 : decode cX12_readPersonFlag 24 = .ok (.iconst 1, 1) := by decide +kernel
theorem dX12_readPersonFlag_25 : decode cX12_readPersonFlag 25 = .ok (.isub, 1) := by decide +kernel
theorem dX12_readPersonFlag_26 : decode cX12_readPersonFlag 26 = .ok (.invokevirtual 146, 3) := by decide +kernel
theorem dX12_readPersonFlag_29 : decode cX12_readPersonFlag 29 = .ok (.iastore, 1) := by decide +kernel
theorem dX12_readPersonFlag_30 : decode cX12_readPersonFlag 30 = .ok (.aload_n 0, 1) := by decide +kernel
theorem dX12_readPersonFlag_31 : decode cX12_readPersonFlag 31 = .ok (.getfield 24, 3) := by decide +kernel
theorem dX12_readPersonFlag_34 : decode cX12_readPersonFlag 34 = .ok (.bipush 88, 2) := by decide +kernel
theorem dX12_readPersonFlag_36 : decode cX12_readPersonFlag 36 = .ok (.iload_n 1, 1) := by decide +kernel
theorem dX12_readPersonFlag_37 : decode cX12_readPersonFlag 37 = .ok (.iadd, 1) := by decide +kernel
theorem dX12_readPersonFlag_38 : decode cX12_readPersonFlag 38 = .ok (.iconst (-1), 1) := by decide +kernel
theorem dX12_readPersonFlag_39 : decode cX12_readPersonFlag 39 = .ok (.iastore, 1) := by decide +kernel
theorem dX12_readPersonFlag_40 : decode cX12_readPersonFlag 40 = .ok (.goto 150, 3) := by decide +kernel
theorem dX12_readPersonFlag_43 : decode cX12_readPersonFlag 43 = .ok (.aload_n 0, 1) := by decide +kernel
theorem dX12_readPersonFlag_44 : decode cX12_readPersonFlag 44 = .ok (.bipush 9, 2) := by decide +kernel
theorem dX12_readPersonFlag_46 : decode cX12_readPersonFlag 46 = .ok (.invokevirtual 137, 3) := by decide +kernel
theorem dX12_readPersonFlag_49 : decode cX12_readPersonFlag 49 = .ok (.ifCond .eq 55, 3) := by decide +kernel
theorem dX12_readPersonFlag_52 : decode cX12_readPersonFlag 52 = .ok (.aload_n 0, 1) := by decide +kernel
theorem dX12_readPersonFlag_53 : decode cX12_readPersonFlag 53 = .ok (.iconst 0, 1) := by decide +kernel
theorem dX12_readPersonFlag_54 : decode cX12_readPersonFlag 54 = .ok (.aload_n 0, 1) := by decide +kernel
theorem dX12_readPersonFlag_55 : decode cX12_readPersonFlag 55 = .ok (.getfield 24, 3) := by decide +kernel
theorem dX12_readPersonFlag_58 : decode cX12_readPersonFlag 58 = .ok (.iconst 2, 1) := by decide +kernel
theorem dX12_readPersonFlag_59 : decode cX12_readPersonFlag 59 = .ok (.iaload, 1) := by decide +kernel
theorem dX12_readPersonFlag_60 : decode cX12_readPersonFlag 60 = .ok (.iconst 1, 1) := by decide +kernel
theorem dX12_readPersonFlag_61 : decode cX12_readPersonFlag 61 = .ok (.isub, 1) := by decide +kernel
theorem dX12_readPersonFlag_62 : decode cX12_readPersonFlag 62 = .ok (.invokevirtual 146, 3) := by decide +kernel
theorem dX12_readPersonFlag_65 : decode cX12_readPersonFlag 65 = .ok (.istore_n 2, 1) := by decide +kernel
theorem dX12_readPersonFlag_66 : decode cX12_readPersonFlag 66 = .ok (.aload_n 0, 1) := by decide +kernel
theorem dX12_readPersonFlag_67 : decode cX12_readPersonFlag 67 = .ok (.getfield 102, 3) := by decide +kernel
theorem dX12_readPersonFlag_70 : decode cX12_readPersonFlag 70 = .ok (.ifCond .ne 21, 3) := by decide +kernel
theorem dX12_readPersonFlag_73 : decode cX12_readPersonFlag 73 = .ok (.aload_n 0, 1) := by decide +kernel
theorem dX12_readPersonFlag_74 : decode cX12_readPersonFlag 74 = .ok (.getfield 24, 3) := by decide +kernel
theorem dX12_readPersonFlag_77 : decode cX12_readPersonFlag 77 = .ok (.bipush 72, 2) := by decide +kernel
theorem dX12_readPersonFlag_79 : decode cX12_readPersonFlag 79 = .ok (.iload_n 1, 1) := by decide +kernel
theorem dX12_readPersonFlag_80 : decode cX12_readPersonFlag 80 = .ok (.iadd, 1) := by decide +kernel
theorem dX12_readPersonFlag_81 : decode cX12_readPersonFlag 81 = .ok (.aload_n 0, 1) := by decide +kernel
theorem dX12_readPersonFlag_82 : decode cX12_readPersonFlag 82 = .ok (.getfield 24, 3) := by decide +kernel
theorem dX12_readPersonFlag_85 : decode cX12_readPersonFlag 85 = .ok (.bipush 60, 2) := by decide +kernel
theorem dX12_readPersonFlag_87 : decode cX12_readPersonFlag 87 = .ok (.iload_n 2, 1) := by decide +kernel
theorem dX12_readPersonFlag_88 : decode cX12_readPersonFlag 88 = .ok (.iadd, 1) := by decide +kernel
theorem dX12_readPersonFlag_89 : decode cX12_readPersonFlag 89 = .ok (.iaload, 1) := by decide +kernel
theorem dX12_readPersonFlag_90 : decode cX12_readPersonFlag 90 = .ok (.iastore, 1) := by decide +kernel
theorem dX12_readPersonFlag_91 : decode cX12_readPersonFlag 91 = .ok (.aload_n 0, 1) := by decide +kernel
theorem dX12_readPersonFlag_92 : decode cX12_readPersonFlag 92 = .ok (.getfield 24, 3) := by decide +kernel
theorem dX12_readPersonFlag_95 : decode cX12_readPersonFlag 95 = .ok (.bipush 88, 2) := by decide +kernel
theorem dX12_readPersonFlag_97 : decode cX12_readPersonFlag 97 = .ok (.iload_n 1, 1) := by decide +kernel
theorem dX12_readPersonFlag_98 : decode cX12_readPersonFlag 98 = .ok (.iadd, 1) := by decide +kernel
theorem dX12_readPersonFlag_99 : decode cX12_readPersonFlag 99 = .ok (.iload_n 2, 1) := by decide +kernel
theorem dX12_readPersonFlag_100 : decode cX12_readPersonFlag 100 = .ok (.iastore, 1) := by decide +kernel
theorem dX12_readPersonFlag_101 : decode cX12_readPersonFlag 101 = .ok (.goto 89, 3) := by decide +kernel
theorem dX12_readPersonFlag_104 : decode cX12_readPersonFlag 104 = .ok (.aload_n 0, 1) := by decide +kernel
theorem dX12_readPersonFlag_105 : decode cX12_readPersonFlag 105 = .ok (.bipush 10, 2) := by decide +kernel
theorem dX12_readPersonFlag_107 : decode cX12_readPersonFlag 107 = .ok (.invokevirtual 137, 3) := by decide +kernel
theorem dX12_readPersonFlag_110 : decode cX12_readPersonFlag 110 = .ok (.ifCond .eq 22, 3) := by decide +kernel
theorem dX12_readPersonFlag_113 : decode cX12_readPersonFlag 113 = .ok (.aload_n 0, 1) := by decide +kernel
theorem dX12_readPersonFlag_114 : decode cX12_readPersonFlag 114 = .ok (.getfield 24, 3) := by decide +kernel
theorem dX12_readPersonFlag_117 : decode cX12_readPersonFlag 117 = .ok (.bipush 36, 2) := by decide +kernel
theorem dX12_readPersonFlag_119 : decode cX12_readPersonFlag 119 = .ok (.iload_n 1, 1) := by decide +kernel
theorem dX12_readPersonFlag_120 : decode cX12_readPersonFlag 120 = .ok (.iadd, 1) := by decide +kernel
theorem dX12_readPersonFlag_121 : decode cX12_readPersonFlag 121 = .ok (.aload_n 0, 1) := by decide +kernel
theorem dX12_readPersonFlag_122 : decode cX12_readPersonFlag 122 = .ok (.iconst 0, 1) := by decide +kernel
theorem dX12_readPersonFlag_123 : decode cX12_readPersonFlag 123 = .ok (.bipush 99, 2) := by decide +kernel
theorem dX12_readPersonFlag_125 : decode cX12_readPersonFlag 125 = .ok (.invokevirtual 146, 3) := by decide +kernel
theorem dX12_readPersonFlag_128 : decode cX12_readPersonFlag 128 = .ok (.iastore, 1) := by decide +kernel
theorem dX12_readPersonFlag_129 : decode cX12_readPersonFlag 129 = .ok (.goto 61, 3) := by decide +kernel
theorem dX12_readPersonFlag_132 : decode cX12_readPersonFlag 132 = .ok (.aload_n 0, 1) := by decide +kernel
theorem dX12_readPersonFlag_133 : decode cX12_readPersonFlag 133 = .ok (.bipush 11, 2) := by decide +kernel
theorem dX12_readPersonFlag_135 : decode cX12_readPersonFlag 135 = .ok (.invokevirtual 137, 3) := by decide +kernel
theorem dX12_readPersonFlag_138 : decode cX12_readPersonFlag 138 = .ok (.ifCond .eq 22, 3) := by decide +kernel
theorem dX12_readPersonFlag_141 : decode cX12_readPersonFlag 141 = .ok (.aload_n 0, 1) := by decide +kernel
theorem dX12_readPersonFlag_142 : decode cX12_readPersonFlag 142 = .ok (.getfield 24, 3) := by decide +kernel
theorem dX12_readPersonFlag_145 : decode cX12_readPersonFlag 145 = .ok (.bipush 44, 2) := by decide +kernel
theorem dX12_readPersonFlag_147 : decode cX12_readPersonFlag 147 = .ok (.iload_n 1, 1) := by decide +kernel
theorem dX12_readPersonFlag_148 : decode cX12_readPersonFlag 148 = .ok (.iadd, 1) := by decide +kernel
theorem dX12_readPersonFlag_149 : decode cX12_readPersonFlag 149 = .ok (.aload_n 0, 1) := by decide +kernel
theorem dX12_readPersonFlag_150 : decode cX12_readPersonFlag 150 = .ok (.iconst 0, 1) := by decide +kernel
theorem dX12_readPersonFlag_151 : decode cX12_readPersonFlag 151 = .ok (.bipush 99, 2) := by decide +kernel
theorem dX12_readPersonFlag_153 : decode cX12_readPersonFlag 153 = .ok (.invokevirtual 146, 3) := by decide +kernel
theorem dX12_readPersonFlag_156 : decode cX12_readPersonFlag 156 = .ok (.iastore, 1) := by decide +kernel
theorem dX12_readPersonFlag_157 : decode cX12_readPersonFlag 157 = .ok (.goto 33, 3) := by decide +kernel
theorem dX12_readPersonFlag_160 : decode cX12_readPersonFlag 160 = .ok (.aload_n 0, 1) := by decide +kernel
theorem dX12_readPersonFlag_161 : decode cX12_readPersonFlag 161 = .ok (.bipush 12, 2) := by decide +kernel
theorem dX12_readPersonFlag_163 : decode cX12_readPersonFlag 163 = .ok (.invokevirtual 137, 3) := by decide +kernel
theorem dX12_readPersonFlag_166 : decode cX12_readPersonFlag 166 = .ok (.ifCond .eq 22, 3) := by decide +kernel
theorem dX12_readPersonFlag_169 : decode cX12_readPersonFlag 169 = .ok (.aload_n 0, 1) := by decide +kernel
theorem dX12_readPersonFlag_170 : decode cX12_readPersonFlag 170 = .ok (.getfield 24, 3) := by decide +kernel
theorem dX12_readPersonFlag_173 : decode cX12_readPersonFlag 173 = .ok (.bipush 52, 2) := by decide +kernel
theorem dX12_readPersonFlag_175 : decode cX12_readPersonFlag 175 = .ok (.iload_n 1, 1) := by decide +kernel
theorem dX12_readPersonFlag_176 : decode cX12_readPersonFlag 176 = .ok (.iadd, 1) := by decide +kernel
theorem dX12_readPersonFlag_177 : decode cX12_readPersonFlag 177 = .ok (.aload_n 0, 1) := by decide +kernel
theorem dX12_readPersonFlag_178 : decode cX12_readPersonFlag 178 = .ok (.iconst 1, 1) := by decide +kernel
theorem dX12_readPersonFlag_179 : decode cX12_readPersonFlag 179 = .ok (.bipush 99, 2) := by decide +kernel
theorem dX12_readPersonFlag_181 : decode cX12_readPersonFlag 181 = .ok (.invokevirtual 146, 3) := by decide +kernel
theorem dX12_readPersonFlag_184 : decode cX12_readPersonFlag 184 = .ok (.iastore, 1) := by decide +kernel
theorem dX12_readPersonFlag_185 : decode cX12_readPersonFlag 185 = .ok (.goto 5, 3) := by decide +kernel
theorem dX12_readPersonFlag_188 : decode cX12_readPersonFlag 188 = .ok (.iconst 0, 1) := by decide +kernel
theorem dX12_readPersonFlag_189 : decode cX12_readPersonFlag 189 = .ok (.ireturn, 1) := by decide +kernel
theorem dX12_readPersonFlag_190 : decode cX12_readPersonFlag 190 = .ok (.aload_n 0, 1) := by decide +kernel
theorem dX12_readPersonFlag_191 : decode cX12_readPersonFlag 191 = .ok (.getfield 102, 3) := by decide +kernel
theorem dX12_readPersonFlag_194 : decode cX12_readPersonFlag 194 = .ok (.ifCond .ne 7, 3) := by decide +kernel
theorem dX12_readPersonFlag_197 : decode cX12_readPersonFlag 197 = .ok (.iconst 1, 1) := by decide +kernel
theorem dX12_readPersonFlag_198 : decode cX12_readPersonFlag 198 = .ok (.goto 4, 3) := by decide +kernel
theorem dX12_readPersonFlag_201 : decode cX12_readPersonFlag 201 = .ok (.iconst 0, 1) := by decide +kernel
theorem dX12_readPersonFlag_202 : decode cX12_readPersonFlag 202 = .ok (.ireturn, 1) := by decide +kernel
theorem dX12_readPerson_0 : decode cX12_readPerson 0 = .ok (.aload_n 0, 1) := by decide +kernel
theorem dX12_readPerson_1 : decode cX12_readPerson 1 = .ok (.getfield 24, 3) := by decide +kernel
theorem dX12_readPerson_4 : decode cX12_readPerson 4 = .ok (.iconst 3, 1) := by decide +kernel
theorem dX12_readPerson_5 : decode cX12_readPerson 5 = .ok (.iaload, 1) := by decide +kernel
theorem dX12_readPerson_6 : decode cX12_readPerson 6 = .ok (.istore_n 1, 1) := by decide +kernel
theorem dX12_readPerson_7 : decode cX12_readPerson 7 = .ok (.iload_n 1, 1) := by decide +kernel
theorem dX12_readPerson_8 : decode cX12_readPerson 8 = .ok (.bipush 8, 2) := by decide +kernel
theorem dX12_readPerson_10 : decode cX12_readPerson 10 = .ok (.if_icmp .ne 8, 3) := by decide +kernel
theorem dX12_readPerson_13 : decode cX12_readPerson 13 = .ok (.aload_n 0, 1) := by decide +kernel
theorem dX12_readPerson_14 : decode cX12_readPerson 14 = .ok (.iconst 4, 1) := by decide +kernel
theorem dX12_readPerson_15 : decode cX12_readPerson 15 = .ok (.invokevirtual 114, 3) := by decide +kernel
theorem dX12_readPerson_18 : decode cX12_readPerson 18 = .ok (.aload_n 0, 1) := by decide +kernel
theorem dX12_readPerson_19 : decode cX12_readPerson 19 = .ok (.getfield 102, 3) := by decide +kernel
theorem dX12_readPerson_22 : decode cX12_readPerson 22 = .ok (.ifCond .eq 4, 3) := by decide +kernel
theorem dX12_readPerson_25 : decode cX12_readPerson 25 = .ok (.return_, 1) := by decide +kernel
theorem dX12_readPerson_26 : decode cX12_readPerson 26 = .ok (.aload_n 0, 1) := by decide +kernel
theorem dX12_readPerson_27 : decode cX12_readPerson 27 = .ok (.invokevirtual 111, 3) := by decide +kernel
theorem dX12_readPerson_30 : decode cX12_readPerson 30 = .ok (.aload_n 0, 1) := by decide +kernel
theorem dX12_readPerson_31 : decode cX12_readPerson 31 = .ok (.bipush 8, 2) := by decide +kernel
theorem dX12_readPerson_33 : decode cX12_readPerson 33 = .ok (.invokevirtual 137, 3) := by decide +kernel
theorem dX12_readPerson_36 : decode cX12_readPerson 36 = .ok (.ifCond .ne 8, 3) := by decide +kernel
theorem dX12_readPerson_39 : decode cX12_readPerson 39 = .ok (.aload_n 0, 1) := by decide +kernel
theorem dX12_readPerson_40 : decode cX12_readPerson 40 = .ok (.iconst 2, 1) := by decide +kernel
theorem dX12_readPerson_41 : decode cX12_readPerson 41 = .ok (.invokevirtual 114, 3) := by decide +kernel
theorem dX12_readPerson_44 : decode cX12_readPerson 44 = .ok (.aload_n 0, 1) := by decide +kernel
theorem dX12_readPerson_45 : decode cX12_readPerson 45 = .ok (.getfield 24, 3) := by decide +kernel
theorem dX12_readPerson_48 : decode cX12_readPerson 48 = .ok (.bipush 28, 2) := by decide +kernel
theorem dX12_readPerson_50 : decode cX12_readPerson 50 = .ok (.iload_n 1, 1) := by decide +kernel
theorem dX12_readPerson_51 : decode cX12_readPerson 51 = .ok (.iadd, 1) := by decide +kernel
theorem dX12_readPerson_52 : decode cX12_readPerson 52 = .ok (.aload_n 0, 1) := by decide +kernel
theorem dX12_readPerson_53 : decode cX12_readPerson 53 = .ok (.iconst 0, 1) := by decide +kernel
theorem dX12_readPerson_54 : decode cX12_readPerson 54 = .ok (.aload_n 0, 1) := by decide +kernel
theorem dX12_readPerson_55 : decode cX12_readPerson 55 = .ok (.getfield 24, 3) := by decide +kernel
theorem dX12_readPerson_58 : decode cX12_readPerson 58 = .ok (.iconst 1, 1) := by decide +kernel
theorem dX12_readPerson_59 : decode cX12_readPerson 59 = .ok (.iaload, 1) := by decide +kernel
theorem dX12_readPerson_60 : decode cX12_readPerson 60 = .ok (.iconst 1, 1) := by decide +kernel
theorem dX12_readPerson_61 : decode cX12_readPerson 61 = .ok (.isub, 1) := by decide +kernel
theorem dX12_readPerson_62 : decode cX12_readPerson 62 = .ok (.invokevirtual 146, 3) := by decide +kernel
theorem dX12_readPerson_65 : decode cX12_readPerson 65 = .ok (.iastore, 1) := by decide +kernel
theorem dX12_readPerson_66 : decode cX12_readPerson 66 = .ok (.aload_n 0, 1) := by decide +kernel
theorem dX12_readPerson_67 : decode cX12_readPerson 67 = .ok (.getfield 24, 3) := by decide +kernel
theorem dX12_readPerson_70 : decode cX12_readPerson 70 = .ok (.bipush 52, 2) := by decide +kernel
theorem dX12_readPerson_72 : decode cX12_readPerson 72 = .ok (.iload_n 1, 1) := by decide +kernel
theorem dX12_readPerson_73 : decode cX12_readPerson 73 = .ok (.iadd, 1) := by decide +kernel
theorem dX12_readPerson_74 : decode cX12_readPerson 74 = .ok (.iconst 1, 1) := by decide +kernel
theorem dX12_readPerson_75 : decode cX12_readPerson 75 = .ok (.iastore, 1) := by decide +kernel
theorem dX12_readPerson_76 : decode cX12_readPerson 76 = .ok (.aload_n 0, 1) := by decide +kernel
theorem dX12_readPerson_77 : decode cX12_readPerson 77 = .ok (.getfield 24, 3) := by decide +kernel
theorem dX12_readPerson_80 : decode cX12_readPerson 80 = .ok (.bipush 72, 2) := by decide +kernel
theorem dX12_readPerson_82 : decode cX12_readPerson 82 = .ok (.iload_n 1, 1) := by decide +kernel
theorem dX12_readPerson_83 : decode cX12_readPerson 83 = .ok (.iadd, 1) := by decide +kernel
theorem dX12_readPerson_84 : decode cX12_readPerson 84 = .ok (.iconst 0, 1) := by decide +kernel
theorem dX12_readPerson_85 : decode cX12_readPerson 85 = .ok (.iastore, 1) := by decide +kernel
theorem dX12_readPerson_86 : decode cX12_readPerson 86 = .ok (.aload_n 0, 1) := by decide +kernel
theorem dX12_readPerson_87 : decode cX12_readPerson 87 = .ok (.getfield 24, 3) := by decide +kernel
theorem dX12_readPerson_90 : decode cX12_readPerson 90 = .ok (.bipush 88, 2) := by decide +kernel
theorem dX12_readPerson_92 : decode cX12_readPerson 92 = .ok (.iload_n 1, 1) := by decide +kernel
theorem dX12_readPerson_93 : decode cX12_readPerson 93 = .ok (.iadd, 1) := by decide +kernel
theorem dX12_readPerson_94 : decode cX12_readPerson 94 = .ok (.iconst (-1), 1) := by decide +kernel
theorem dX12_readPerson_95 : decode cX12_readPerson 95 = .ok (.iastore, 1) := by decide +kernel
theorem dX12_readPerson_96 : decode cX12_readPerson 96 = .ok (.aload_n 0, 1) := by decide +kernel
theorem dX12_readPerson_97 : decode cX12_readPerson 97 = .ok (.getfield 102, 3) := by decide +kernel
theorem dX12_readPerson_100 : decode cX12_readPerson 100 = .ok (.ifCond .ne 14, 3) := by decide +kernel
theorem dX12_readPerson_103 : decode cX12_readPerson 103 = .ok (.aload_n 0, 1) := by decide +kernel
theorem dX12_readPerson_104 : decode cX12_readPerson 104 = .ok (.iload_n 1, 1) := by decide +kernel
theorem dX12_readPerson_105 : decode cX12_readPerson 105 = .ok (.invokevirtual 156, 3) := by decide +kernel
theorem dX12_readPerson_108 : decode cX12_readPerson 108 = .ok (.ifCond .eq 6, 3) := by decide +kernel
theorem dX12_readPerson_111 : decode cX12_readPerson 111 = .ok (.goto (-15), 3) := by decide +kernel
theorem dX12_readPerson_114 : decode cX12_readPerson 114 = .ok (.aload_n 0, 1) := by decide +kernel
theorem dX12_readPerson_115 : decode cX12_readPerson 115 = .ok (.getfield 102, 3) := by decide +kernel
theorem dX12_readPerson_118 : decode cX12_readPerson 118 = .ok (.ifCond .ne 13, 3) := by decide +kernel
theorem dX12_readPerson_121 : decode cX12_readPerson 121 = .ok (.aload_n 0, 1) := by decide +kernel
theorem dX12_readPerson_122 : decode cX12_readPerson 122 = .ok (.getfield 24, 3) := by decide +kernel
theorem dX12_readPerson_125 : decode cX12_readPerson 125 = .ok (.iconst 3, 1) := by decide +kernel
theorem dX12_readPerson_126 : decode cX12_readPerson 126 = .ok (.dup2, 1) := by decide +kernel
theorem dX12_readPerson_127 : decode cX12_readPerson 127 = .ok (.iaload, 1) := by decide +kernel
theorem dX12_readPerson_128 : decode cX12_readPerson 128 = .ok (.iconst 1, 1) := by decide +kernel
theorem dX12_readPerson_129 : decode cX12_readPerson 129 = .ok (.iadd, 1) := by decide +kernel
theorem dX12_readPerson_130 : decode cX12_readPerson 130 = .ok (.iastore, 1) := by decide +kernel
theorem dX12_readPerson_131 : decode cX12_readPerson 131 = .ok (.return_, 1) := by decide +kernel
theorem dX12_readLaw_0 : decode cX12_readLaw 0 = .ok (.aload_n 0, 1) := by decide +kernel
theorem dX12_readLaw_1 : decode cX12_readLaw 1 = .ok (.invokevirtual 111, 3) := by decide +kernel
theorem dX12_readLaw_4 : decode cX12_readLaw 4 = .ok (.aload_n 0, 1) := by decide +kernel
theorem dX12_readLaw_5 : decode cX12_readLaw 5 = .ok (.bipush 31, 2) := by decide +kernel
theorem dX12_readLaw_7 : decode cX12_readLaw 7 = .ok (.invokevirtual 137, 3) := by decide +kernel
theorem dX12_readLaw_10 : decode cX12_readLaw 10 = .ok (.ifCond .ne 8, 3) := by decide +kernel
theorem dX12_readLaw_13 : decode cX12_readLaw 13 = .ok (.aload_n 0, 1) := by decide +kernel
theorem dX12_readLaw_14 : decode cX12_readLaw 14 = .ok (.iconst 2, 1) := by decide +kernel
theorem dX12_readLaw_15 : decode cX12_readLaw 15 = .ok (.invokevirtual 114, 3) := by decide +kernel
theorem dX12_readLaw_18 : decode cX12_readLaw 18 = .ok (.aload_n 0, 1) := by decide +kernel
theorem dX12_readLaw_19 : decode cX12_readLaw 19 = .ok (.getfield 24, 3) := by decide +kernel
theorem dX12_readLaw_22 : decode cX12_readLaw 22 = .ok (.sipush 457, 3) := by decide +kernel
theorem dX12_readLaw_25 : decode cX12_readLaw 25 = .ok (.iaload, 1) := by decide +kernel
theorem dX12_readLaw_26 : decode cX12_readLaw 26 = .ok (.istore_n 2, 1) := by decide +kernel
theorem dX12_readLaw_27 : decode cX12_readLaw 27 = .ok (.aload_n 0, 1) := by decide +kernel
theorem dX12_readLaw_28 : decode cX12_readLaw 28 = .ok (.iload_n 1, 1) := by decide +kernel
theorem dX12_readLaw_29 : decode cX12_readLaw 29 = .ok (.putfield 122, 3) := by decide +kernel
theorem dX12_readLaw_32 : decode cX12_readLaw 32 = .ok (.aload_n 0, 1) := by decide +kernel
theorem dX12_readLaw_33 : decode cX12_readLaw 33 = .ok (.iconst 0, 1) := by decide +kernel
theorem dX12_readLaw_34 : decode cX12_readLaw 34 = .ok (.invokevirtual 134, 3) := by decide +kernel
theorem dX12_readLaw_37 : decode cX12_readLaw 37 = .ok (.aload_n 0, 1) := by decide +kernel
theorem dX12_readLaw_38 : decode cX12_readLaw 38 = .ok (.getfield 102, 3) := by decide +kernel
theorem dX12_readLaw_41 : decode cX12_readLaw 41 = .ok (.ifCond .eq 4, 3) := by decide +kernel
theorem dX12_readLaw_44 : decode cX12_readLaw 44 = .ok (.return_, 1) := by decide +kernel
theorem dX12_readLaw_45 : decode cX12_readLaw 45 = .ok (.aload_n 0, 1) := by decide +kernel
theorem dX12_readLaw_46 : decode cX12_readLaw 46 = .ok (.getfield 24, 3) := by decide +kernel
theorem dX12_readLaw_49 : decode cX12_readLaw 49 = .ok (.iconst 4, 1) := by decide +kernel
theorem dX12_readLaw_50 : decode cX12_readLaw 50 = .ok (.iload_n 1, 1) := by decide +kernel
theorem dX12_readLaw_51 : decode cX12_readLaw 51 = .ok (.iadd, 1) := by decide +kernel
theorem dX12_readLaw_52 : decode cX12_readLaw 52 = .ok (.iconst 1, 1) := by decide +kernel
theorem dX12_readLaw_53 : decode cX12_readLaw 53 = .ok (.iastore, 1) := by decide +kernel
theorem dX12_readLaw_54 : decode cX12_readLaw 54 = .ok (.aload_n 0, 1) := by decide +kernel
theorem dX12_readLaw_55 : decode cX12_readLaw 55 = .ok (.getfield 24, 3) := by decide +kernel
theorem dX12_readLaw_58 : decode cX12_readLaw 58 = .ok (.bipush 6, 2) := by decide +kernel
theorem dX12_readLaw_60 : decode cX12_readLaw 60 = .ok (.iload_n 1, 1) := by decide +kernel
theorem dX12_readLaw_61 : decode cX12_readLaw 61 = .ok (.iadd, 1) := by decide +kernel
theorem dX12_readLaw_62 : decode cX12_readLaw 62 = .ok (.iload_n 2, 1) := by decide +kernel
theorem dX12_readLaw_63 : decode cX12_readLaw 63 = .ok (.iastore, 1) := by decide +kernel
theorem dX12_readLaw_64 : decode cX12_readLaw 64 = .ok (.aload_n 0, 1) := by decide +kernel
theorem dX12_readLaw_65 : decode cX12_readLaw 65 = .ok (.getfield 24, 3) := by decide +kernel
theorem dX12_readLaw_68 : decode cX12_readLaw 68 = .ok (.bipush 8, 2) := by decide +kernel
theorem dX12_readLaw_70 : decode cX12_readLaw 70 = .ok (.iload_n 1, 1) := by decide +kernel
theorem dX12_readLaw_71 : decode cX12_readLaw 71 = .ok (.iadd, 1) := by decide +kernel
theorem dX12_readLaw_72 : decode cX12_readLaw 72 = .ok (.aload_n 0, 1) := by decide +kernel
theorem dX12_readLaw_73 : decode cX12_readLaw 73 = .ok (.getfield 24, 3) := by decide +kernel
theorem dX12_readLaw_76 : decode cX12_readLaw 76 = .ok (.sipush 457, 3) := by decide +kernel
theorem dX12_readLaw_79 : decode cX12_readLaw 79 = .ok (.iaload, 1) := by decide +kernel
theorem dX12_readLaw_80 : decode cX12_readLaw 80 = .ok (.iload_n 2, 1) := by decide +kernel
theorem dX12_readLaw_81 : decode cX12_readLaw 81 = .ok (.isub, 1) := by decide +kernel
theorem dX12_readLaw_82 : decode cX12_readLaw 82 = .ok (.iastore, 1) := by decide +kernel
theorem dX12_readLaw_83 : decode cX12_readLaw 83 = .ok (.return_, 1) := by decide +kernel
theorem dX12_readCalls_0 : decode cX12_readCalls 0 = .ok (.aload_n 0, 1) := by decide +kernel
theorem dX12_readCalls_1 : decode cX12_readCalls 1 = .ok (.invokevirtual 111, 3) := by decide +kernel
theorem dX12_readCalls_4 : decode cX12_readCalls 4 = .ok (.aload_n 0, 1) := by decide +kernel
theorem dX12_readCalls_5 : decode cX12_readCalls 5 = .ok (.iconst 0, 1) := by decide +kernel
theorem dX12_readCalls_6 : decode cX12_readCalls 6 = .ok (.aload_n 0, 1) := by decide +kernel
theorem dX12_readCalls_7 : decode cX12_readCalls 7 = .ok (.getfield 24, 3) := by decide +kernel
theorem dX12_readCalls_10 : decode cX12_readCalls 10 = .ok (.iconst 1, 1) := by decide +kernel
theorem dX12_readCalls_11 : decode cX12_readCalls 11 = .ok (.iaload, 1) := by decide +kernel
theorem dX12_readCalls_12 : decode cX12_readCalls 12 = .ok (.iconst 1, 1) := by decide +kernel
theorem dX12_readCalls_13 : decode cX12_readCalls 13 = .ok (.isub, 1) := by decide +kernel
theorem dX12_readCalls_14 : decode cX12_readCalls 14 = .ok (.invokevirtual 146, 3) := by decide +kernel
theorem dX12_readCalls_17 : decode cX12_readCalls 17 = .ok (.istore_n 1, 1) := by decide +kernel
theorem dX12_readCalls_18 : decode cX12_readCalls 18 = .ok (.aload_n 0, 1) := by decide +kernel
theorem dX12_readCalls_19 : decode cX12_readCalls 19 = .ok (.bipush 16, 2) := by decide +kernel
theorem dX12_readCalls_21 : decode cX12_readCalls 21 = .ok (.invokevirtual 137, 3) := by decide +kernel
theorem dX12_readCalls_24 : decode cX12_readCalls 24 = .ok (.ifCond .ne 8, 3) := by decide +kernel
theorem dX12_readCalls_27 : decode cX12_readCalls 27 = .ok (.aload_n 0, 1) := by decide +kernel
theorem dX12_readCalls_28 : decode cX12_readCalls 28 = .ok (.iconst 2, 1) := by decide +kernel
theorem dX12_readCalls_29 : decode cX12_readCalls 29 = .ok (.invokevirtual 114, 3) := by decide +kernel
theorem dX12_readCalls_32 : decode cX12_readCalls 32 = .ok (.aload_n 0, 1) := by decide +kernel
theorem dX12_readCalls_33 : decode cX12_readCalls 33 = .ok (.iconst 0, 1) := by decide +kernel
theorem dX12_readCalls_34 : decode cX12_readCalls 34 = .ok (.bipush 99, 2) := by decide +kernel
theorem dX12_readCalls_36 : decode cX12_readCalls 36 = .ok (.invokevirtual 146, 3) := by decide +kernel
theorem dX12_readCalls_39 : decode cX12_readCalls 39 = .ok (.istore_n 2, 1) := by decide +kernel
theorem dX12_readCalls_40 : decode cX12_readCalls 40 = .ok (.aload_n 0, 1) := by decide +kernel
theorem dX12_readCalls_41 : decode cX12_readCalls 41 = .ok (.getfield 102, 3) := by decide +kernel
theorem dX12_readCalls_44 : decode cX12_readCalls 44 = .ok (.ifCond .ne 13, 3) := by decide +kernel
theorem dX12_readCalls_47 : decode cX12_readCalls 47 = .ok (.aload_n 0, 1) := by decide +kernel
theorem dX12_readCalls_48 : decode cX12_readCalls 48 = .ok (.getfield 24, 3) := by decide +kernel
theorem dX12_readCalls_51 : decode cX12_readCalls 51 = .ok (.bipush 10, 2) := by decide +kernel
theorem dX12_readCalls_53 : decode cX12_readCalls 53 = .ok (.iload_n 1, 1) := by decide +kernel
theorem dX12_readCalls_54 : decode cX12_readCalls 54 = .ok (.iadd, 1) := by decide +kernel
theorem dX12_readCalls_55 : decode cX12_readCalls 55 = .ok (.iload_n 2, 1) := by decide +kernel
theorem dX12_readCalls_56 : decode cX12_readCalls 56 = .ok (.iastore, 1) := by decide +kernel
theorem dX12_readCalls_57 : decode cX12_readCalls 57 = .ok (.return_, 1) := by decide +kernel
theorem dX12_readLine_0 : decode cX12_readLine 0 = .ok (.aload_n 0, 1) := by decide +kernel
theorem dX12_readLine_1 : decode cX12_readLine 1 = .ok (.getfield 102, 3) := by decide +kernel
theorem dX12_readLine_4 : decode cX12_readLine 4 = .ok (.ifCond .eq 4, 3) := by decide +kernel
theorem dX12_readLine_7 : decode cX12_readLine 7 = .ok (.return_, 1) := by decide +kernel
theorem dX12_readLine_8 : decode cX12_readLine 8 = .ok (.aload_n 0, 1) := by decide +kernel
theorem dX12_readLine_9 : decode cX12_readLine 9 = .ok (.getfield 84, 3) := by decide +kernel
theorem dX12_readLine_12 : decode cX12_readLine 12 = .ok (.tableswitch 111 1 15 #[76, 111, 111, 111, 111, 111, 83, 111, 111, 111, 111, 111, 90, 90, 104], 76) := by decide +kernel
theorem dX12_readLine_88 : decode cX12_readLine 88 = .ok (.aload_n 0, 1) := by decide +kernel
theorem dX12_readLine_89 : decode cX12_readLine 89 = .ok (.invokevirtual 159, 3) := by decide +kernel
theorem dX12_readLine_92 : decode cX12_readLine 92 = .ok (.goto 36, 3) := by decide +kernel
theorem dX12_readLine_95 : decode cX12_readLine 95 = .ok (.aload_n 0, 1) := by decide +kernel
theorem dX12_readLine_96 : decode cX12_readLine 96 = .ok (.invokevirtual 162, 3) := by decide +kernel
theorem dX12_readLine_99 : decode cX12_readLine 99 = .ok (.goto 29, 3) := by decide +kernel
theorem dX12_readLine_102 : decode cX12_readLine 102 = .ok (.aload_n 0, 1) := by decide +kernel
theorem dX12_readLine_103 : decode cX12_readLine 103 = .ok (.aload_n 0, 1) := by decide +kernel
theorem dX12_readLine_104 : decode cX12_readLine 104 = .ok (.getfield 84, 3) := by decide +kernel
theorem dX12_readLine_107 : decode cX12_readLine 107 = .ok (.bipush 13, 2) := by decide +kernel
theorem dX12_readLine_109 : decode cX12_readLine 109 = .ok (.isub, 1) := by decide +kernel
theorem dX12_readLine_110 : decode cX12_readLine 110 = .ok (.invokevirtual 165, 3) := by decide +kernel
theorem dX12_readLine_113 : decode cX12_readLine 113 = .ok (.goto 15, 3) := by decide +kernel
theorem dX12_readLine_116 : decode cX12_readLine 116 = .ok (.aload_n 0, 1) := by decide +kernel
theorem dX12_readLine_117 : decode cX12_readLine 117 = .ok (.invokevirtual 168, 3) := by decide +kernel
theorem dX12_readLine_120 : decode cX12_readLine 120 = .ok (.goto 8, 3) := by decide +kernel
theorem dX12_readLine_123 : decode cX12_readLine 123 = .ok (.aload_n 0, 1) := by decide +kernel
theorem dX12_readLine_124 : decode cX12_readLine 124 = .ok (.iconst 2, 1) := by decide +kernel
theorem dX12_readLine_125 : decode cX12_readLine 125 = .ok (.invokevirtual 114, 3) := by decide +kernel
theorem dX12_readLine_128 : decode cX12_readLine 128 = .ok (.return_, 1) := by decide +kernel
theorem dX12_ends_0 : decode cX12_ends 0 = .ok (.aload_n 0, 1) := by decide +kernel
theorem dX12_ends_1 : decode cX12_ends 1 = .ok (.bipush 30, 2) := by decide +kernel
theorem dX12_ends_3 : decode cX12_ends 3 = .ok (.invokevirtual 137, 3) := by decide +kernel
theorem dX12_ends_6 : decode cX12_ends 6 = .ok (.ifCond .ne 8, 3) := by decide +kernel
theorem dX12_ends_9 : decode cX12_ends 9 = .ok (.aload_n 0, 1) := by decide +kernel
theorem dX12_ends_10 : decode cX12_ends 10 = .ok (.iconst 2, 1) := by decide +kernel
theorem dX12_ends_11 : decode cX12_ends 11 = .ok (.invokevirtual 114, 3) := by decide +kernel
theorem dX12_ends_14 : decode cX12_ends 14 = .ok (.aload_n 0, 1) := by decide +kernel
theorem dX12_ends_15 : decode cX12_ends 15 = .ok (.getfield 24, 3) := by decide +kernel
theorem dX12_ends_18 : decode cX12_ends 18 = .ok (.iconst 0, 1) := by decide +kernel
theorem dX12_ends_19 : decode cX12_ends 19 = .ok (.dup2, 1) := by decide +kernel
theorem dX12_ends_20 : decode cX12_ends 20 = .ok (.iaload, 1) := by decide +kernel
theorem dX12_ends_21 : decode cX12_ends 21 = .ok (.iconst 1, 1) := by decide +kernel
theorem dX12_ends_22 : decode cX12_ends 22 = .ok (.iadd, 1) := by decide +kernel
theorem dX12_ends_23 : decode cX12_ends 23 = .ok (.iastore, 1) := by decide +kernel
theorem dX12_ends_24 : decode cX12_ends 24 = .ok (.return_, 1) := by decide +kernel
theorem dX12_house_0 : decode cX12_house 0 = .ok (.aload_n 0, 1) := by decide +kernel
theorem dX12_house_1 : decode cX12_house 1 = .ok (.iconst 0, 1) := by decide +kernel
theorem dX12_house_2 : decode cX12_house 2 = .ok (.putfield 1, 3) := by decide +kernel
theorem dX12_house_5 : decode cX12_house 5 = .ok (.iload_n 1, 1) := by decide +kernel
theorem dX12_house_6 : decode cX12_house 6 = .ok (.i2l, 1) := by decide +kernel
theorem dX12_house_7 : decode cX12_house 7 = .ok (.lconst 0, 1) := by decide +kernel
theorem dX12_house_8 : decode cX12_house 8 = .ok (.aload_n 0, 1) := by decide +kernel
theorem dX12_house_9 : decode cX12_house 9 = .ok (.getfield 56, 3) := by decide +kernel
theorem dX12_house_12 : decode cX12_house 12 = .ok (.i2l, 1) := by decide +kernel
theorem dX12_house_13 : decode cX12_house 13 = .ok (.invokestatic 118, 3) := by decide +kernel
theorem dX12_house_16 : decode cX12_house 16 = .ok (.ifCond .ne 6, 3) := by decide +kernel
theorem dX12_house_19 : decode cX12_house 19 = .ok (.bipush (-3), 2) := by decide +kernel
theorem dX12_house_21 : decode cX12_house 21 = .ok (.ireturn, 1) := by decide +kernel
theorem dX12_house_22 : decode cX12_house 22 = .ok (.aload_n 0, 1) := by decide +kernel
theorem dX12_house_23 : decode cX12_house 23 = .ok (.iload_n 1, 1) := by decide +kernel
theorem dX12_house_24 : decode cX12_house 24 = .ok (.putfield 59, 3) := by decide +kernel
theorem dX12_house_27 : decode cX12_house 27 = .ok (.aload_n 0, 1) := by decide +kernel
theorem dX12_house_28 : decode cX12_house 28 = .ok (.iconst 0, 1) := by decide +kernel
theorem dX12_house_29 : decode cX12_house 29 = .ok (.putfield 56, 3) := by decide +kernel
theorem dX12_house_32 : decode cX12_house 32 = .ok (.aload_n 0, 1) := by decide +kernel
theorem dX12_house_33 : decode cX12_house 33 = .ok (.iconst 0, 1) := by decide +kernel
theorem dX12_house_34 : decode cX12_house 34 = .ok (.putfield 77, 3) := by decide +kernel
theorem dX12_house_37 : decode cX12_house 37 = .ok (.aload_n 0, 1) := by decide +kernel
theorem dX12_house_38 : decode cX12_house 38 = .ok (.iconst 0, 1) := by decide +kernel
theorem dX12_house_39 : decode cX12_house 39 = .ok (.putfield 102, 3) := by decide +kernel
theorem dX12_house_42 : decode cX12_house 42 = .ok (.aload_n 0, 1) := by decide +kernel
theorem dX12_house_43 : decode cX12_house 43 = .ok (.getfield 24, 3) := by decide +kernel
theorem dX12_house_46 : decode cX12_house 46 = .ok (.invokestatic 52, 3) := by decide +kernel
theorem dX12_house_49 : decode cX12_house 49 = .ok (.aload_n 0, 1) := by decide +kernel
theorem dX12_house_50 : decode cX12_house 50 = .ok (.invokevirtual 111, 3) := by decide +kernel
theorem dX12_house_53 : decode cX12_house 53 = .ok (.aload_n 0, 1) := by decide +kernel
theorem dX12_house_54 : decode cX12_house 54 = .ok (.iconst 0, 1) := by decide +kernel
theorem dX12_house_55 : decode cX12_house 55 = .ok (.invokevirtual 137, 3) := by decide +kernel
theorem dX12_house_58 : decode cX12_house 58 = .ok (.ifCond .ne 8, 3) := by decide +kernel
theorem dX12_house_61 : decode cX12_house 61 = .ok (.aload_n 0, 1) := by decide +kernel
theorem dX12_house_62 : decode cX12_house 62 = .ok (.iconst 2, 1) := by decide +kernel
theorem dX12_house_63 : decode cX12_house 63 = .ok (.invokevirtual 114, 3) := by decide +kernel
theorem dX12_house_66 : decode cX12_house 66 = .ok (.aload_n 0, 1) := by decide +kernel
theorem dX12_house_67 : decode cX12_house 67 = .ok (.getfield 24, 3) := by decide +kernel
theorem dX12_house_70 : decode cX12_house 70 = .ok (.iconst 1, 1) := by decide +kernel
theorem dX12_house_71 : decode cX12_house 71 = .ok (.aload_n 0, 1) := by decide +kernel
theorem dX12_house_72 : decode cX12_house 72 = .ok (.iconst 2, 1) := by decide +kernel
theorem dX12_house_73 : decode cX12_house 73 = .ok (.bipush 12, 2) := by decide +kernel
theorem dX12_house_75 : decode cX12_house 75 = .ok (.invokevirtual 146, 3) := by decide +kernel
theorem dX12_house_78 : decode cX12_house 78 = .ok (.iastore, 1) := by decide +kernel
theorem dX12_house_79 : decode cX12_house 79 = .ok (.aload_n 0, 1) := by decide +kernel
theorem dX12_house_80 : decode cX12_house 80 = .ok (.invokevirtual 171, 3) := by decide +kernel
theorem dX12_house_83 : decode cX12_house 83 = .ok (.aload_n 0, 1) := by decide +kernel
theorem dX12_house_84 : decode cX12_house 84 = .ok (.getfield 102, 3) := by decide +kernel
theorem dX12_house_87 : decode cX12_house 87 = .ok (.ifCond .ne 23, 3) := by decide +kernel
theorem dX12_house_90 : decode cX12_house 90 = .ok (.aload_n 0, 1) := by decide +kernel
theorem dX12_house_91 : decode cX12_house 91 = .ok (.getfield 84, 3) := by decide +kernel
theorem dX12_house_94 : decode cX12_house 94 = .ok (.bipush 24, 2) := by decide +kernel
theorem dX12_house_96 : decode cX12_house 96 = .ok (.if_icmp .eq 14, 3) := by decide +kernel
theorem dX12_house_99 : decode cX12_house 99 = .ok (.aload_n 0, 1) := by decide +kernel
theorem dX12_house_100 : decode cX12_house 100 = .ok (.invokevirtual 174, 3) := by decide +kernel
theorem dX12_house_103 : decode cX12_house 103 = .ok (.aload_n 0, 1) := by decide +kernel
theorem dX12_house_104 : decode cX12_house 104 = .ok (.invokevirtual 171, 3) := by decide +kernel
theorem dX12_house_107 : decode cX12_house 107 = .ok (.goto (-24), 3) := by decide +kernel
theorem dX12_house_110 : decode cX12_house 110 = .ok (.aload_n 0, 1) := by decide +kernel
theorem dX12_house_111 : decode cX12_house 111 = .ok (.aload_n 0, 1) := by decide +kernel
theorem dX12_house_112 : decode cX12_house 112 = .ok (.getfield 102, 3) := by decide +kernel
theorem dX12_house_115 : decode cX12_house 115 = .ok (.putfield 177, 3) := by decide +kernel
theorem dX12_house_118 : decode cX12_house 118 = .ok (.aload_n 0, 1) := by decide +kernel
theorem dX12_house_119 : decode cX12_house 119 = .ok (.aload_n 0, 1) := by decide +kernel
theorem dX12_house_120 : decode cX12_house 120 = .ok (.getfield 102, 3) := by decide +kernel
theorem dX12_house_123 : decode cX12_house 123 = .ok (.ifCond .ne 7, 3) := by decide +kernel
theorem dX12_house_126 : decode cX12_house 126 = .ok (.iconst (-1), 1) := by decide +kernel
theorem dX12_house_127 : decode cX12_house 127 = .ok (.goto 7, 3) := by decide +kernel
theorem dX12_house_130 : decode cX12_house 130 = .ok (.aload_n 0, 1) := by decide +kernel
theorem dX12_house_131 : decode cX12_house 131 = .ok (.getfield 105, 3) := by decide +kernel
theorem dX12_house_134 : decode cX12_house 134 = .ok (.putfield 27, 3) := by decide +kernel
theorem dX12_house_137 : decode cX12_house 137 = .ok (.aload_n 0, 1) := by decide +kernel
theorem dX12_house_138 : decode cX12_house 138 = .ok (.getfield 102, 3) := by decide +kernel
theorem dX12_house_141 : decode cX12_house 141 = .ok (.ifCond .eq 11, 3) := by decide +kernel
theorem dX12_house_144 : decode cX12_house 144 = .ok (.bipush (-30), 2) := by decide +kernel
theorem dX12_house_146 : decode cX12_house 146 = .ok (.aload_n 0, 1) := by decide +kernel
theorem dX12_house_147 : decode cX12_house 147 = .ok (.getfield 102, 3) := by decide +kernel
theorem dX12_house_150 : decode cX12_house 150 = .ok (.isub, 1) := by decide +kernel
theorem dX12_house_151 : decode cX12_house 151 = .ok (.ireturn, 1) := by decide +kernel
theorem dX12_house_152 : decode cX12_house 152 = .ok (.iconst 0, 1) := by decide +kernel
theorem dX12_house_153 : decode cX12_house 153 = .ok (.istore_n 2, 1) := by decide +kernel
theorem dX12_house_154 : decode cX12_house 154 = .ok (.iload_n 2, 1) := by decide +kernel
theorem dX12_house_155 : decode cX12_house 155 = .ok (.sipush 1358, 3) := by decide +kernel
theorem dX12_house_158 : decode cX12_house 158 = .ok (.if_icmp .ge 21, 3) := by decide +kernel
theorem dX12_house_161 : decode cX12_house 161 = .ok (.aload_n 0, 1) := by decide +kernel
theorem dX12_house_162 : decode cX12_house 162 = .ok (.getfield 13, 3) := by decide +kernel
theorem dX12_house_165 : decode cX12_house 165 = .ok (.iload_n 2, 1) := by decide +kernel
theorem dX12_house_166 : decode cX12_house 166 = .ok (.aload_n 0, 1) := by decide +kernel
theorem dX12_house_167 : decode cX12_house 167 = .ok (.getfield 24, 3) := by decide +kernel
theorem dX12_house_170 : decode cX12_house 170 = .ok (.iload_n 2, 1) := by decide +kernel
theorem dX12_house_171 : decode cX12_house 171 = .ok (.iaload, 1) := by decide +kernel
theorem dX12_house_172 : decode cX12_house 172 = .ok (.iastore, 1) := by decide +kernel
theorem dX12_house_173 : decode cX12_house 173 = .ok (.iinc 2 1, 3) := by decide +kernel
theorem dX12_house_176 : decode cX12_house 176 = .ok (.goto (-22), 3) := by decide +kernel
theorem dX12_house_179 : decode cX12_house 179 = .ok (.aload_n 0, 1) := by decide +kernel
theorem dX12_house_180 : decode cX12_house 180 = .ok (.getfield 13, 3) := by decide +kernel
theorem dX12_house_183 : decode cX12_house 183 = .ok (.iconst 0, 1) := by decide +kernel
theorem dX12_house_184 : decode cX12_house 184 = .ok (.iaload, 1) := by decide +kernel
theorem dX12_house_185 : decode cX12_house 185 = .ok (.ireturn, 1) := by decide +kernel
theorem dX12_fault_0 : decode cX12_fault 0 = .ok (.aload_n 0, 1) := by decide +kernel
theorem dX12_fault_1 : decode cX12_fault 1 = .ok (.iconst 0, 1) := by decide +kernel
theorem dX12_fault_2 : decode cX12_fault 2 = .ok (.putfield 1, 3) := by decide +kernel
theorem dX12_fault_5 : decode cX12_fault 5 = .ok (.iload_n 1, 1) := by decide +kernel
theorem dX12_fault_6 : decode cX12_fault 6 = .ok (.ifCond .ne 10, 3) := by decide +kernel
theorem dX12_fault_9 : decode cX12_fault 9 = .ok (.aload_n 0, 1) := by decide +kernel
theorem dX12_fault_10 : decode cX12_fault 10 = .ok (.getfield 177, 3) := by decide +kernel
theorem dX12_fault_13 : decode cX12_fault 13 = .ok (.goto 16, 3) := by decide +kernel
theorem dX12_fault_16 : decode cX12_fault 16 = .ok (.iload_n 1, 1) := by decide +kernel
theorem dX12_fault_17 : decode cX12_fault 17 = .ok (.iconst 1, 1) := by decide +kernel
theorem dX12_fault_18 : decode cX12_fault 18 = .ok (.if_icmp .ne 10, 3) := by decide +kernel
theorem dX12_fault_21 : decode cX12_fault 21 = .ok (.aload_n 0, 1) := by decide +kernel
theorem dX12_fault_22 : decode cX12_fault 22 = .ok (.getfield 27, 3) := by decide +kernel
theorem dX12_fault_25 : decode cX12_fault 25 = .ok (.goto 4, 3) := by decide +kernel
theorem dX12_fault_28 : decode cX12_fault 28 = .ok (.iconst (-1), 1) := by decide +kernel
theorem dX12_fault_29 : decode cX12_fault 29 = .ok (.ireturn, 1) := by decide +kernel
theorem dX12_isLift_0 : decode cX12_isLift 0 = .ok (.lload_n 1, 1) := by decide +kernel
theorem dX12_isLift_1 : decode cX12_isLift 1 = .ok (.lconst 0, 1) := by decide +kernel
theorem dX12_isLift_2 : decode cX12_isLift 2 = .ok (.aload_n 0, 1) := by decide +kernel
theorem dX12_isLift_3 : decode cX12_isLift 3 = .ok (.getfield 13, 3) := by decide +kernel
theorem dX12_isLift_6 : decode cX12_isLift 6 = .ok (.iconst 2, 1) := by decide +kernel
theorem dX12_isLift_7 : decode cX12_isLift 7 = .ok (.iaload, 1) := by decide +kernel
theorem dX12_isLift_8 : decode cX12_isLift 8 = .ok (.iconst 1, 1) := by decide +kernel
theorem dX12_isLift_9 : decode cX12_isLift 9 = .ok (.isub, 1) := by decide +kernel
theorem dX12_isLift_10 : decode cX12_isLift 10 = .ok (.i2l, 1) := by decide +kernel
theorem dX12_isLift_11 : decode cX12_isLift 11 = .ok (.invokestatic 118, 3) := by decide +kernel
theorem dX12_isLift_14 : decode cX12_isLift 14 = .ok (.ireturn, 1) := by decide +kernel
theorem dX12_isPerson_0 : decode cX12_isPerson 0 = .ok (.lload_n 1, 1) := by decide +kernel
theorem dX12_isPerson_1 : decode cX12_isPerson 1 = .ok (.lconst 0, 1) := by decide +kernel
theorem dX12_isPerson_2 : decode cX12_isPerson 2 = .ok (.aload_n 0, 1) := by decide +kernel
theorem dX12_isPerson_3 : decode cX12_isPerson 3 = .ok (.getfield 13, 3) := by decide +kernel
theorem dX12_isPerson_6 : decode cX12_isPerson 6 = .ok (.iconst 3, 1) := by decide +kernel
theorem dX12_isPerson_7 : decode cX12_isPerson 7 = .ok (.iaload, 1) := by decide +kernel
theorem dX12_isPerson_8 : decode cX12_isPerson 8 = .ok (.iconst 1, 1) := by decide +kernel
theorem dX12_isPerson_9 : decode cX12_isPerson 9 = .ok (.isub, 1) := by decide +kernel
theorem dX12_isPerson_10 : decode cX12_isPerson 10 = .ok (.i2l, 1) := by decide +kernel
theorem dX12_isPerson_11 : decode cX12_isPerson 11 = .ok (.invokestatic 118, 3) := by decide +kernel
theorem dX12_isPerson_14 : decode cX12_isPerson 14 = .ok (.ireturn, 1) := by decide +kernel
theorem dX12_isFloor_0 : decode cX12_isFloor 0 = .ok (.lload_n 1, 1) := by decide +kernel
theorem dX12_isFloor_1 : decode cX12_isFloor 1 = .ok (.lconst 0, 1) := by decide +kernel
theorem dX12_isFloor_2 : decode cX12_isFloor 2 = .ok (.aload_n 0, 1) := by decide +kernel
theorem dX12_isFloor_3 : decode cX12_isFloor 3 = .ok (.getfield 13, 3) := by decide +kernel
theorem dX12_isFloor_6 : decode cX12_isFloor 6 = .ok (.iconst 1, 1) := by decide +kernel
theorem dX12_isFloor_7 : decode cX12_isFloor 7 = .ok (.iaload, 1) := by decide +kernel
theorem dX12_isFloor_8 : decode cX12_isFloor 8 = .ok (.iconst 1, 1) := by decide +kernel
theorem dX12_isFloor_9 : decode cX12_isFloor 9 = .ok (.isub, 1) := by decide +kernel
theorem dX12_isFloor_10 : decode cX12_isFloor 10 = .ok (.i2l, 1) := by decide +kernel
theorem dX12_isFloor_11 : decode cX12_isFloor 11 = .ok (.invokestatic 118, 3) := by decide +kernel
theorem dX12_isFloor_14 : decode cX12_isFloor 14 = .ok (.ireturn, 1) := by decide +kernel
theorem dX12_far_0 : decode cX12_far 0 = .ok (.iload_n 0, 1) := by decide +kernel
theorem dX12_far_1 : decode cX12_far 1 = .ok (.iload_n 1, 1) := by decide +kernel
theorem dX12_far_2 : decode cX12_far 2 = .ok (.if_icmp .ge 9, 3) := by decide +kernel
theorem dX12_far_5 : decode cX12_far 5 = .ok (.iload_n 1, 1) := by decide +kernel
theorem dX12_far_6 : decode cX12_far 6 = .ok (.iload_n 0, 1) := by decide +kernel
theorem dX12_far_7 : decode cX12_far 7 = .ok (.isub, 1) := by decide +kernel
theorem dX12_far_8 : decode cX12_far 8 = .ok (.goto 6, 3) := by decide +kernel
theorem dX12_far_11 : decode cX12_far 11 = .ok (.iload_n 0, 1) := by decide +kernel
theorem dX12_far_12 : decode cX12_far 12 = .ok (.iload_n 1, 1) := by decide +kernel
theorem dX12_far_13 : decode cX12_far 13 = .ok (.isub, 1) := by decide +kernel
theorem dX12_far_14 : decode cX12_far 14 = .ok (.ireturn, 1) := by decide +kernel
theorem dX12_bitsOf_0 : decode cX12_bitsOf 0 = .ok (.iconst 0, 1) := by decide +kernel
theorem dX12_bitsOf_1 : decode cX12_bitsOf 1 = .ok (.istore_n 1, 1) := by decide +kernel
theorem dX12_bitsOf_2 : decode cX12_bitsOf 2 = .ok (.iconst 0, 1) := by decide +kernel
theorem dX12_bitsOf_3 : decode cX12_bitsOf 3 = .ok (.istore_n 2, 1) := by decide +kernel
theorem dX12_bitsOf_4 : decode cX12_bitsOf 4 = .ok (.iload_n 2, 1) := by decide +kernel
theorem dX12_bitsOf_5 : decode cX12_bitsOf 5 = .ok (.bipush 12, 2) := by decide +kernel
theorem dX12_bitsOf_7 : decode cX12_bitsOf 7 = .ok (.if_icmp .ge 17, 3) := by decide +kernel
theorem dX12_bitsOf_10 : decode cX12_bitsOf 10 = .ok (.iload_n 1, 1) := by decide +kernel
theorem dX12_bitsOf_11 : decode cX12_bitsOf 11 = .ok (.iload_n 0, 1) := by decide +kernel
theorem dX12_bitsOf_12 : decode cX12_bitsOf 12 = .ok (.iload_n 2, 1) := by decide +kernel
theorem dX12_bitsOf_13 : decode cX12_bitsOf 13 = .ok (.ishr, 1) := by decide +kernel
theorem dX12_bitsOf_14 : decode cX12_bitsOf 14 = .ok (.iconst 1, 1) := by decide +kernel
theorem dX12_bitsOf_15 : decode cX12_bitsOf 15 = .ok (.iand, 1) := by decide +kernel
theorem dX12_bitsOf_16 : decode cX12_bitsOf 16 = .ok (.iadd, 1) := by decide +kernel
theorem dX12_bitsOf_17 : decode cX12_bitsOf 17 = .ok (.istore_n 1, 1) := by decide +kernel
theorem dX12_bitsOf_18 : decode cX12_bitsOf 18 = .ok (.iinc 2 1, 3) := by decide +kernel
theorem dX12_bitsOf_21 : decode cX12_bitsOf 21 = .ok (.goto (-17), 3) := by decide +kernel
theorem dX12_bitsOf_24 : decode cX12_bitsOf 24 = .ok (.iload_n 1, 1) := by decide +kernel
theorem dX12_bitsOf_25 : decode cX12_bitsOf 25 = .ok (.ireturn, 1) := by decide +kernel
theorem dX12_between_0 : decode cX12_between 0 = .ok (.iload_n 0, 1) := by decide +kernel
theorem dX12_between_1 : decode cX12_between 1 = .ok (.sipush 3000, 3) := by decide +kernel
theorem dX12_between_4 : decode cX12_between 4 = .ok (.if_icmp .ne 11, 3) := by decide +kernel
theorem dX12_between_7 : decode cX12_between 7 = .ok (.iload_n 1, 1) := by decide +kernel
theorem dX12_between_8 : decode cX12_between 8 = .ok (.i2l, 1) := by decide +kernel
theorem dX12_between_9 : decode cX12_between 9 = .ok (.iload_n 2, 1) := by decide +kernel
theorem dX12_between_10 : decode cX12_between 10 = .ok (.i2l, 1) := by decide +kernel
theorem dX12_between_11 : decode cX12_between 11 = .ok (.ladd, 1) := by decide +kernel
theorem dX12_between_12 : decode cX12_between 12 = .ok (.goto 23, 3) := by decide +kernel
theorem dX12_between_15 : decode cX12_between 15 = .ok (.iload_n 0, 1) := by decide +kernel
theorem dX12_between_16 : decode cX12_between 16 = .ok (.sipush 3001, 3) := by decide +kernel
theorem dX12_between_19 : decode cX12_between 19 = .ok (.if_icmp .ne 11, 3) := by decide +kernel
theorem dX12_between_22 : decode cX12_between 22 = .ok (.iload_n 1, 1) := by decide +kernel
theorem dX12_between_23 : decode cX12_between 23 = .ok (.i2l, 1) := by decide +kernel
theorem dX12_between_24 : decode cX12_between 24 = .ok (.iload_n 2, 1) := by decide +kernel
theorem dX12_between_25 : decode cX12_between 25 = .ok (.i2l, 1) := by decide +kernel
theorem dX12_between_26 : decode cX12_between 26 = .ok (.lsub, 1) := by decide +kernel
theorem dX12_between_27 : decode cX12_between 27 = .ok (.goto 8, 3) := by decide +kernel
theorem dX12_between_30 : decode cX12_between 30 = .ok (.iload_n 1, 1) := by decide +kernel
theorem dX12_between_31 : decode cX12_between 31 = .ok (.i2l, 1) := by decide +kernel
theorem dX12_between_32 : decode cX12_between 32 = .ok (.iload_n 2, 1) := by decide +kernel
theorem dX12_between_33 : decode cX12_between 33 = .ok (.i2l, 1) := by decide +kernel
theorem dX12_between_34 : decode cX12_between 34 = .ok (.lmul, 1) := by decide +kernel
theorem dX12_between_35 : decode cX12_between 35 = .ok (.lstore_n 3, 1) := by decide +kernel
theorem dX12_between_36 : decode cX12_between 36 = .ok (.lload_n 3, 1) := by decide +kernel
theorem dX12_between_37 : decode cX12_between 37 = .ok (.ldc2_w 180, 3) := by decide +kernel
theorem dX12_between_40 : decode cX12_between 40 = .ok (.lcmp, 1) := by decide +kernel
theorem dX12_between_41 : decode cX12_between 41 = .ok (.ifCond .le 9, 3) := by decide +kernel
theorem dX12_between_44 : decode cX12_between 44 = .ok (.ldc2_w 180, 3) := by decide +kernel
theorem dX12_between_47 : decode cX12_between 47 = .ok (.goto 18, 3) := by decide +kernel
theorem dX12_between_50 : decode cX12_between 50 = .ok (.lload_n 3, 1) := by decide +kernel
theorem dX12_between_51 : decode cX12_between 51 = .ok (.ldc2_w 182, 3) := by decide +kernel
theorem dX12_between_54 : decode cX12_between 54 = .ok (.lcmp, 1) := by decide +kernel
theorem dX12_between_55 : decode cX12_between 55 = .ok (.ifCond .ge 9, 3) := by decide +kernel
theorem dX12_between_58 : decode cX12_between 58 = .ok (.ldc2_w 182, 3) := by decide +kernel
theorem dX12_between_61 : decode cX12_between 61 = .ok (.goto 4, 3) := by decide +kernel
theorem dX12_between_64 : decode cX12_between 64 = .ok (.lload_n 3, 1) := by decide +kernel
theorem dX12_between_65 : decode cX12_between 65 = .ok (.l2i, 1) := by decide +kernel
theorem dX12_between_66 : decode cX12_between 66 = .ok (.ireturn, 1) := by decide +kernel
theorem dX12_reckons_0 : decode cX12_reckons 0 = .ok (.iconst 0, 1) := by decide +kernel
theorem dX12_reckons_1 : decode cX12_reckons 1 = .ok (.istore_n 2, 1) := by decide +kernel
theorem dX12_reckons_2 : decode cX12_reckons 2 = .ok (.iconst 0, 1) := by decide +kernel
theorem dX12_reckons_3 : decode cX12_reckons 3 = .ok (.istore_n 3, 1) := by decide +kernel
theorem dX12_reckons_4 : decode cX12_reckons 4 = .ok (.iload_n 3, 1) := by decide +kernel
theorem dX12_reckons_5 : decode cX12_reckons 5 = .ok (.aload_n 0, 1) := by decide +kernel
theorem dX12_reckons_6 : decode cX12_reckons 6 = .ok (.getfield 13, 3) := by decide +kernel
theorem dX12_reckons_9 : decode cX12_reckons 9 = .ok (.bipush 8, 2) := by decide +kernel
theorem dX12_reckons_11 : decode cX12_reckons 11 = .ok (.iload_n 1, 1) := by decide +kernel
theorem dX12_reckons_12 : decode cX12_reckons 12 = .ok (.iadd, 1) := by decide +kernel
theorem dX12_reckons_13 : decode cX12_reckons 13 = .ok (.iaload, 1) := by decide +kernel
theorem dX12_reckons_14 : decode cX12_reckons 14 = .ok (.if_icmp .ge 105, 3) := by decide +kernel
theorem dX12_reckons_17 : decode cX12_reckons 17 = .ok (.aload_n 0, 1) := by decide +kernel
theorem dX12_reckons_18 : decode cX12_reckons 18 = .ok (.getfield 13, 3) := by decide +kernel
theorem dX12_reckons_21 : decode cX12_reckons 21 = .ok (.sipush 458, 3) := by decide +kernel
theorem dX12_reckons_24 : decode cX12_reckons 24 = .ok (.aload_n 0, 1) := by decide +kernel
theorem dX12_reckons_25 : decode cX12_reckons 25 = .ok (.getfield 13, 3) := by decide +kernel
theorem dX12_reckons_28 : decode cX12_reckons 28 = .ok (.bipush 6, 2) := by decide +kernel
theorem dX12_reckons_30 : decode cX12_reckons 30 = .ok (.iload_n 1, 1) := by decide +kernel
theorem dX12_reckons_31 : decode cX12_reckons 31 = .ok (.iadd, 1) := by decide +kernel
theorem dX12_reckons_32 : decode cX12_reckons 32 = .ok (.iaload, 1) := by decide +kernel
theorem dX12_reckons_33 : decode cX12_reckons 33 = .ok (.iadd, 1) := by decide +kernel
theorem dX12_reckons_34 : decode cX12_reckons 34 = .ok (.iload_n 3, 1) := by decide +kernel
theorem dX12_reckons_35 : decode cX12_reckons 35 = .ok (.iadd, 1) := by decide +kernel
theorem dX12_reckons_36 : decode cX12_reckons 36 = .ok (.iaload, 1) := by decide +kernel
theorem dX12_reckons_37 : decode cX12_reckons 37 = .ok (.istore 4, 2) := by decide +kernel
theorem dX12_reckons_39 : decode cX12_reckons 39 = .ok (.iload 4, 2) := by decide +kernel
theorem dX12_reckons_41 : decode cX12_reckons 41 = .ok (.sipush 3000, 3) := by decide +kernel
theorem dX12_reckons_44 : decode cX12_reckons 44 = .ok (.if_icmp .ge 39, 3) := by decide +kernel
theorem dX12_reckons_47 : decode cX12_reckons 47 = .ok (.aload_n 0, 1) := by decide +kernel
theorem dX12_reckons_48 : decode cX12_reckons 48 = .ok (.getfield 30, 3) := by decide +kernel
theorem dX12_reckons_51 : decode cX12_reckons 51 = .ok (.iload_n 2, 1) := by decide +kernel
theorem dX12_reckons_52 : decode cX12_reckons 52 = .ok (.iload 4, 2) := by decide +kernel
theorem dX12_reckons_54 : decode cX12_reckons 54 = .ok (.sipush 1000, 3) := by decide +kernel
theorem dX12_reckons_57 : decode cX12_reckons 57 = .ok (.if_icmp .ge 8, 3) := by decide +kernel
theorem dX12_reckons_60 : decode cX12_reckons 60 = .ok (.iload 4, 2) := by decide +kernel
theorem dX12_reckons_62 : decode cX12_reckons 62 = .ok (.goto 14, 3) := by decide +kernel
theorem dX12_reckons_65 : decode cX12_reckons 65 = .ok (.aload_n 0, 1) := by decide +kernel
theorem dX12_reckons_66 : decode cX12_reckons 66 = .ok (.getfield 33, 3) := by decide +kernel
theorem dX12_reckons_69 : decode cX12_reckons 69 = .ok (.iload 4, 2) := by decide +kernel
theorem dX12_reckons_71 : decode cX12_reckons 71 = .ok (.sipush 1000, 3) := by decide +kernel
theorem dX12_reckons_74 : decode cX12_reckons 74 = .ok (.isub, 1) := by decide +kernel
theorem dX12_reckons_75 : decode cX12_reckons 75 = .ok (.iaload, 1) := by decide +kernel
theorem dX12_reckons_76 : decode cX12_reckons 76 = .ok (.iastore, 1) := by decide +kernel
theorem dX12_reckons_77 : decode cX12_reckons 77 = .ok (.iinc 2 1, 3) := by decide +kernel
theorem dX12_reckons_80 : decode cX12_reckons 80 = .ok (.goto 33, 3) := by decide +kernel
theorem dX12_reckons_83 : decode cX12_reckons 83 = .ok (.iinc 2 (-1), 3) := by decide +kernel
theorem dX12_reckons_86 : decode cX12_reckons 86 = .ok (.aload_n 0, 1) := by decide +kernel
theorem dX12_reckons_87 : decode cX12_reckons 87 = .ok (.getfield 30, 3) := by decide +kernel
theorem dX12_reckons_90 : decode cX12_reckons 90 = .ok (.iload_n 2, 1) := by decide +kernel
theorem dX12_reckons_91 : decode cX12_reckons 91 = .ok (.iconst 1, 1) := by decide +kernel
theorem dX12_reckons_92 : decode cX12_reckons 92 = .ok (.isub, 1) := by decide +kernel
theorem dX12_reckons_93 : decode cX12_reckons 93 = .ok (.iload 4, 2) := by decide +kernel
theorem dX12_reckons_95 : decode cX12_reckons 95 = .ok (.aload_n 0, 1) := by decide +kernel
theorem dX12_reckons_96 : decode cX12_reckons 96 = .ok (.getfield 30, 3) := by decide +kernel
theorem dX12_reckons_99 : decode cX12_reckons 99 = .ok (.iload_n 2, 1) := by decide +kernel
theorem dX12_reckons_100 : decode cX12_reckons 100 = .ok (.iconst 1, 1) := by decide +kernel
theorem dX12_reckons_101 : decode cX12_reckons 101 = .ok (.isub, 1) := by decide +kernel
theorem dX12_reckons_102 : decode cX12_reckons 102 = .ok (.iaload, 1) := by decide +kernel
theorem dX12_reckons_103 : decode cX12_reckons 103 = .ok (.aload_n 0, 1) := by decide +kernel
theorem dX12_reckons_104 : decode cX12_reckons 104 = .ok (.getfield 30, 3) := by decide +kernel
theorem dX12_reckons_107 : decode cX12_reckons 107 = .ok (.iload_n 2, 1) := by decide +kernel
theorem dX12_reckons_108 : decode cX12_reckons 108 = .ok (.iaload, 1) := by decide +kernel
theorem dX12_reckons_109 : decode cX12_reckons 109 = .ok (.invokestatic 184, 3) := by decide +kernel
theorem dX12_reckons_112 : decode cX12_reckons 112 = .ok (.iastore, 1) := by decide +kernel
theorem dX12_reckons_113 : decode cX12_reckons 113 = .ok (.iinc 3 1, 3) := by decide +kernel
theorem dX12_reckons_116 : decode cX12_reckons 116 = .ok (.goto (-112), 3) := by decide +kernel
theorem dX12_reckons_119 : decode cX12_reckons 119 = .ok (.aload_n 0, 1) := by decide +kernel
theorem dX12_reckons_120 : decode cX12_reckons 120 = .ok (.getfield 30, 3) := by decide +kernel
theorem dX12_reckons_123 : decode cX12_reckons 123 = .ok (.iconst 0, 1) := by decide +kernel
theorem dX12_reckons_124 : decode cX12_reckons 124 = .ok (.iaload, 1) := by decide +kernel
theorem dX12_reckons_125 : decode cX12_reckons 125 = .ok (.ifCond .ge 7, 3) := by decide +kernel
theorem dX12_reckons_128 : decode cX12_reckons 128 = .ok (.iconst 0, 1) := by decide +kernel
theorem dX12_reckons_129 : decode cX12_reckons 129 = .ok (.goto 27, 3) := by decide +kernel
theorem dX12_reckons_132 : decode cX12_reckons 132 = .ok (.aload_n 0, 1) := by decide +kernel
theorem dX12_reckons_133 : decode cX12_reckons 133 = .ok (.getfield 30, 3) := by decide +kernel
theorem dX12_reckons_136 : decode cX12_reckons 136 = .ok (.iconst 0, 1) := by decide +kernel
theorem dX12_reckons_137 : decode cX12_reckons 137 = .ok (.iaload, 1) := by decide +kernel
theorem dX12_reckons_138 : decode cX12_reckons 138 = .ok (.sipush 999, 3) := by decide +kernel
theorem dX12_reckons_141 : decode cX12_reckons 141 = .ok (.if_icmp .le 9, 3) := by decide +kernel
theorem dX12_reckons_144 : decode cX12_reckons 144 = .ok (.sipush 999, 3) := by decide +kernel
theorem dX12_reckons_147 : decode cX12_reckons 147 = .ok (.goto 9, 3) := by decide +kernel
theorem dX12_reckons_150 : decode cX12_reckons 150 = .ok (.aload_n 0, 1) := by decide +kernel
theorem dX12_reckons_151 : decode cX12_reckons 151 = .ok (.getfield 30, 3) := by decide +kernel
theorem dX12_reckons_154 : decode cX12_reckons 154 = .ok (.iconst 0, 1) := by decide +kernel
theorem dX12_reckons_155 : decode cX12_reckons 155 = .ok (.iaload, 1) := by decide +kernel
theorem dX12_reckons_156 : decode cX12_reckons 156 = .ok (.ireturn, 1) := by decide +kernel
theorem dX12_footOf_0 : decode cX12_footOf 0 = .ok (.iconst 0, 1) := by decide +kernel
theorem dX12_footOf_1 : decode cX12_footOf 1 = .ok (.istore 4, 2) := by decide +kernel
theorem dX12_footOf_3 : decode cX12_footOf 3 = .ok (.iload_n 2, 1) := by decide +kernel
theorem dX12_footOf_4 : decode cX12_footOf 4 = .ok (.iload_n 3, 1) := by decide +kernel
theorem dX12_footOf_5 : decode cX12_footOf 5 = .ok (.if_icmp .ge 7, 3) := by decide +kernel
theorem dX12_footOf_8 : decode cX12_footOf 8 = .ok (.iconst 1, 1) := by decide +kernel
theorem dX12_footOf_9 : decode cX12_footOf 9 = .ok (.goto 4, 3) := by decide +kernel
theorem dX12_footOf_12 : decode cX12_footOf 12 = .ok (.iconst (-1), 1) := by decide +kernel
theorem dX12_footOf_13 : decode cX12_footOf 13 = .ok (.istore 5, 2) := by decide +kernel
theorem dX12_footOf_15 : decode cX12_footOf 15 = .ok (.iload_n 2, 1) := by decide +kernel
theorem dX12_footOf_16 : decode cX12_footOf 16 = .ok (.istore 6, 2) := by decide +kernel
theorem dX12_footOf_18 : decode cX12_footOf 18 = .ok (.iload 6, 2) := by decide +kernel
theorem dX12_footOf_20 : decode cX12_footOf 20 = .ok (.iload_n 3, 1) := by decide +kernel
theorem dX12_footOf_21 : decode cX12_footOf 21 = .ok (.if_icmp .eq 101, 3) := by decide +kernel
theorem dX12_footOf_24 : decode cX12_footOf 24 = .ok (.aload_n 0, 1) := by decide +kernel
theorem dX12_footOf_25 : decode cX12_footOf 25 = .ok (.getfield 33, 3) := by decide +kernel
theorem dX12_footOf_28 : decode cX12_footOf 28 = .ok (.iconst 0, 1) := by decide +kernel
theorem dX12_footOf_29 : decode cX12_footOf 29 = .ok (.iload 6, 2) := by decide +kernel
theorem dX12_footOf_31 : decode cX12_footOf 31 = .ok (.iastore, 1) := by decide +kernel
theorem dX12_footOf_32 : decode cX12_footOf 32 = .ok (.aload_n 0, 1) := by decide +kernel
theorem dX12_footOf_33 : decode cX12_footOf 33 = .ok (.getfield 33, 3) := by decide +kernel
theorem dX12_footOf_36 : decode cX12_footOf 36 = .ok (.iconst 1, 1) := by decide +kernel
theorem dX12_footOf_37 : decode cX12_footOf 37 = .ok (.iload_n 2, 1) := by decide +kernel
theorem dX12_footOf_38 : decode cX12_footOf 38 = .ok (.iload_n 3, 1) := by decide +kernel
theorem dX12_footOf_39 : decode cX12_footOf 39 = .ok (.if_icmp .ge 7, 3) := by decide +kernel
theorem dX12_footOf_42 : decode cX12_footOf 42 = .ok (.iconst 1, 1) := by decide +kernel
theorem dX12_footOf_43 : decode cX12_footOf 43 = .ok (.goto 4, 3) := by decide +kernel
theorem dX12_footOf_46 : decode cX12_footOf 46 = .ok (.iconst 0, 1) := by decide +kernel
theorem dX12_footOf_47 : decode cX12_footOf 47 = .ok (.iastore, 1) := by decide +kernel
theorem dX12_footOf_48 : decode cX12_footOf 48 = .ok (.aload_n 0, 1) := by decide +kernel
theorem dX12_footOf_49 : decode cX12_footOf 49 = .ok (.getfield 33, 3) := by decide +kernel
theorem dX12_footOf_52 : decode cX12_footOf 52 = .ok (.iconst 2, 1) := by decide +kernel
theorem dX12_footOf_53 : decode cX12_footOf 53 = .ok (.aload_n 0, 1) := by decide +kernel
theorem dX12_footOf_54 : decode cX12_footOf 54 = .ok (.getfield 13, 3) := by decide +kernel
theorem dX12_footOf_57 : decode cX12_footOf 57 = .ok (.bipush 36, 2) := by decide +kernel
theorem dX12_footOf_59 : decode cX12_footOf 59 = .ok (.iload_n 1, 1) := by decide +kernel
theorem dX12_footOf_60 : decode cX12_footOf 60 = .ok (.iadd, 1) := by decide +kernel
theorem dX12_footOf_61 : decode cX12_footOf 61 = .ok (.iaload, 1) := by decide +kernel
theorem dX12_footOf_62 : decode cX12_footOf 62 = .ok (.iastore, 1) := by decide +kernel
theorem dX12_footOf_63 : decode cX12_footOf 63 = .ok (.aload_n 0, 1) := by decide +kernel
theorem dX12_footOf_64 : decode cX12_footOf 64 = .ok (.getfield 33, 3) := by decide +kernel
theorem dX12_footOf_67 : decode cX12_footOf 67 = .ok (.iconst 3, 1) := by decide +kernel
theorem dX12_footOf_68 : decode cX12_footOf 68 = .ok (.aload_n 0, 1) := by decide +kernel
theorem dX12_footOf_69 : decode cX12_footOf 69 = .ok (.getfield 13, 3) := by decide +kernel
theorem dX12_footOf_72 : decode cX12_footOf 72 = .ok (.bipush 44, 2) := by decide +kernel
theorem dX12_footOf_74 : decode cX12_footOf 74 = .ok (.iload_n 1, 1) := by decide +kernel
theorem dX12_footOf_75 : decode cX12_footOf 75 = .ok (.iadd, 1) := by decide +kernel
theorem dX12_footOf_76 : decode cX12_footOf 76 = .ok (.iaload, 1) := by decide +kernel
theorem dX12_footOf_77 : decode cX12_footOf 77 = .ok (.iastore, 1) := by decide +kernel
theorem dX12_footOf_78 : decode cX12_footOf 78 = .ok (.iload 4, 2) := by decide +kernel
theorem dX12_footOf_80 : decode cX12_footOf 80 = .ok (.aload_n 0, 1) := by decide +kernel
theorem dX12_footOf_81 : decode cX12_footOf 81 = .ok (.getfield 13, 3) := by decide +kernel
theorem dX12_footOf_84 : decode cX12_footOf 84 = .ok (.iconst 4, 1) := by decide +kernel
theorem dX12_footOf_85 : decode cX12_footOf 85 = .ok (.iaload, 1) := by decide +kernel
theorem dX12_footOf_86 : decode cX12_footOf 86 = .ok (.ifCond .ne 18, 3) := by decide +kernel
theorem dX12_footOf_89 : decode cX12_footOf 89 = .ok (.iload_n 2, 1) := by decide +kernel
theorem dX12_footOf_90 : decode cX12_footOf 90 = .ok (.iload_n 3, 1) := by decide +kernel
theorem dX12_footOf_91 : decode cX12_footOf 91 = .ok (.if_icmp .ge 8, 3) := by decide +kernel
theorem dX12_footOf_94 : decode cX12_footOf 94 = .ok (.bipush 10, 2) := by decide +kernel
theorem dX12_footOf_96 : decode cX12_footOf 96 = .ok (.goto 13, 3) := by decide +kernel
theorem dX12_footOf_99 : decode cX12_footOf 99 = .ok (.bipush 6, 2) := by decide +kernel
theorem dX12_footOf_101 : decode cX12_footOf 101 = .ok (.goto 8, 3) := by decide +kernel
theorem dX12_footOf_104 : decode cX12_footOf 104 = .ok (.aload_n 0, 1) := by decide +kernel
theorem dX12_footOf_105 : decode cX12_footOf 105 = .ok (.iconst 0, 1) := by decide +kernel
theorem dX12_footOf_106 : decode cX12_footOf 106 = .ok (.invokevirtual 188, 3) := by decide +kernel
theorem dX12_footOf_109 : decode cX12_footOf 109 = .ok (.iadd, 1) := by decide +kernel
theorem dX12_footOf_110 : decode cX12_footOf 110 = .ok (.istore 4, 2) := by decide +kernel
theorem dX12_footOf_112 : decode cX12_footOf 112 = .ok (.iload 6, 2) := by decide +kernel
theorem dX12_footOf_114 : decode cX12_footOf 114 = .ok (.iload 5, 2) := by decide +kernel
theorem dX12_footOf_116 : decode cX12_footOf 116 = .ok (.iadd, 1) := by decide +kernel
theorem dX12_footOf_117 : decode cX12_footOf 117 = .ok (.istore 6, 2) := by decide +kernel
theorem dX12_footOf_119 : decode cX12_footOf 119 = .ok (.goto (-101), 3) := by decide +kernel
theorem dX12_footOf_122 : decode cX12_footOf 122 = .ok (.iload 4, 2) := by decide +kernel
theorem dX12_footOf_124 : decode cX12_footOf 124 = .ok (.ireturn, 1) := by decide +kernel
theorem dX12_stopOf_0 : decode cX12_stopOf 0 = .ok (.aload_n 0, 1) := by decide +kernel
theorem dX12_stopOf_1 : decode cX12_stopOf 1 = .ok (.getfield 13, 3) := by decide +kernel
theorem dX12_stopOf_4 : decode cX12_stopOf 4 = .ok (.iconst 5, 1) := by decide +kernel
theorem dX12_stopOf_5 : decode cX12_stopOf 5 = .ok (.iaload, 1) := by decide +kernel
theorem dX12_stopOf_6 : decode cX12_stopOf 6 = .ok (.ifCond .ne 13, 3) := by decide +kernel
theorem dX12_stopOf_9 : decode cX12_stopOf 9 = .ok (.aload_n 0, 1) := by decide +kernel
theorem dX12_stopOf_10 : decode cX12_stopOf 10 = .ok (.getfield 13, 3) := by decide +kernel
theorem dX12_stopOf_13 : decode cX12_stopOf 13 = .ok (.bipush 25, 2) := by decide +kernel
theorem dX12_stopOf_15 : decode cX12_stopOf 15 = .ok (.iload_n 1, 1) := by decide +kernel
theorem dX12_stopOf_16 : decode cX12_stopOf 16 = .ok (.iadd, 1) := by decide +kernel
theorem dX12_stopOf_17 : decode cX12_stopOf 17 = .ok (.iaload, 1) := by decide +kernel
theorem dX12_stopOf_18 : decode cX12_stopOf 18 = .ok (.ireturn, 1) := by decide +kernel
theorem dX12_stopOf_19 : decode cX12_stopOf 19 = .ok (.aload_n 0, 1) := by decide +kernel
theorem dX12_stopOf_20 : decode cX12_stopOf 20 = .ok (.getfield 33, 3) := by decide +kernel
theorem dX12_stopOf_23 : decode cX12_stopOf 23 = .ok (.iconst 0, 1) := by decide +kernel
theorem dX12_stopOf_24 : decode cX12_stopOf 24 = .ok (.iload_n 2, 1) := by decide +kernel
theorem dX12_stopOf_25 : decode cX12_stopOf 25 = .ok (.iastore, 1) := by decide +kernel
theorem dX12_stopOf_26 : decode cX12_stopOf 26 = .ok (.aload_n 0, 1) := by decide +kernel
theorem dX12_stopOf_27 : decode cX12_stopOf 27 = .ok (.getfield 33, 3) := by decide +kernel
theorem dX12_stopOf_30 : decode cX12_stopOf 30 = .ok (.iconst 4, 1) := by decide +kernel
theorem dX12_stopOf_31 : decode cX12_stopOf 31 = .ok (.iload_n 3, 1) := by decide +kernel
theorem dX12_stopOf_32 : decode cX12_stopOf 32 = .ok (.iastore, 1) := by decide +kernel
theorem dX12_stopOf_33 : decode cX12_stopOf 33 = .ok (.aload_n 0, 1) := by decide +kernel
theorem dX12_stopOf_34 : decode cX12_stopOf 34 = .ok (.getfield 33, 3) := by decide +kernel
theorem dX12_stopOf_37 : decode cX12_stopOf 37 = .ok (.iconst 5, 1) := by decide +kernel
theorem dX12_stopOf_38 : decode cX12_stopOf 38 = .ok (.iload_n 1, 1) := by decide +kernel
theorem dX12_stopOf_39 : decode cX12_stopOf 39 = .ok (.iastore, 1) := by decide +kernel
theorem dX12_stopOf_40 : decode cX12_stopOf 40 = .ok (.aload_n 0, 1) := by decide +kernel
theorem dX12_stopOf_41 : decode cX12_stopOf 41 = .ok (.iconst 1, 1) := by decide +kernel
theorem dX12_stopOf_42 : decode cX12_stopOf 42 = .ok (.invokevirtual 188, 3) := by decide +kernel
theorem dX12_stopOf_45 : decode cX12_stopOf 45 = .ok (.ireturn, 1) := by decide +kernel
theorem dX12_loads_0 : decode cX12_loads 0 = .ok (.aload_n 0, 1) := by decide +kernel
theorem dX12_loads_1 : decode cX12_loads 1 = .ok (.iload_n 1, 1) := by decide +kernel
theorem dX12_loads_2 : decode cX12_loads 2 = .ok (.putfield 191, 3) := by decide +kernel
theorem dX12_loads_5 : decode cX12_loads 5 = .ok (.aload_n 0, 1) := by decide +kernel
theorem dX12_loads_6 : decode cX12_loads 6 = .ok (.aload_n 0, 1) := by decide +kernel
theorem dX12_loads_7 : decode cX12_loads 7 = .ok (.getfield 13, 3) := by decide +kernel
theorem dX12_loads_10 : decode cX12_loads 10 = .ok (.bipush 60, 2) := by decide +kernel
theorem dX12_loads_12 : decode cX12_loads 12 = .ok (.iload_n 1, 1) := by decide +kernel
theorem dX12_loads_13 : decode cX12_loads 13 = .ok (.iadd, 1) := by decide +kernel
theorem dX12_loads_14 : decode cX12_loads 14 = .ok (.iaload, 1) := by decide +kernel
theorem dX12_loads_15 : decode cX12_loads 15 = .ok (.putfield 194, 3) := by decide +kernel
theorem dX12_loads_18 : decode cX12_loads 18 = .ok (.aload_n 0, 1) := by decide +kernel
theorem dX12_loads_19 : decode cX12_loads 19 = .ok (.aload_n 0, 1) := by decide +kernel
theorem dX12_loads_20 : decode cX12_loads 20 = .ok (.getfield 13, 3) := by decide +kernel
theorem dX12_loads_23 : decode cX12_loads 23 = .ok (.bipush 63, 2) := by decide +kernel
theorem dX12_loads_25 : decode cX12_loads 25 = .ok (.iload_n 1, 1) := by decide +kernel
theorem dX12_loads_26 : decode cX12_loads 26 = .ok (.iadd, 1) := by decide +kernel
theorem dX12_loads_27 : decode cX12_loads 27 = .ok (.iaload, 1) := by decide +kernel
theorem dX12_loads_28 : decode cX12_loads 28 = .ok (.putfield 197, 3) := by decide +kernel
theorem dX12_loads_31 : decode cX12_loads 31 = .ok (.aload_n 0, 1) := by decide +kernel
theorem dX12_loads_32 : decode cX12_loads 32 = .ok (.aload_n 0, 1) := by decide +kernel
theorem dX12_loads_33 : decode cX12_loads 33 = .ok (.getfield 13, 3) := by decide +kernel
theorem dX12_loads_36 : decode cX12_loads 36 = .ok (.bipush 66, 2) := by decide +kernel
theorem dX12_loads_38 : decode cX12_loads 38 = .ok (.iload_n 1, 1) := by decide +kernel
theorem dX12_loads_39 : decode cX12_loads 39 = .ok (.iadd, 1) := by decide +kernel
theorem dX12_loads_40 : decode cX12_loads 40 = .ok (.iaload, 1) := by decide +kernel
theorem dX12_loads_41 : decode cX12_loads 41 = .ok (.putfield 200, 3) := by decide +kernel
theorem dX12_loads_44 : decode cX12_loads 44 = .ok (.aload_n 0, 1) := by decide +kernel
theorem dX12_loads_45 : decode cX12_loads 45 = .ok (.aload_n 0, 1) := by decide +kernel
theorem dX12_loads_46 : decode cX12_loads 46 = .ok (.getfield 13, 3) := by decide +kernel
theorem dX12_loads_49 : decode cX12_loads 49 = .ok (.bipush 69, 2) := by decide +kernel
theorem dX12_loads_51 : decode cX12_loads 51 = .ok (.iload_n 1, 1) := by decide +kernel
theorem dX12_loads_52 : decode cX12_loads 52 = .ok (.iadd, 1) := by decide +kernel
theorem dX12_loads_53 : decode cX12_loads 53 = .ok (.iaload, 1) := by decide +kernel
theorem dX12_loads_54 : decode cX12_loads 54 = .ok (.iconst 1, 1) := by decide +kernel
theorem dX12_loads_55 : decode cX12_loads 55 = .ok (.if_icmp .ne 7, 3) := by decide +kernel
theorem dX12_loads_58 : decode cX12_loads 58 = .ok (.iconst 1, 1) := by decide +kernel
theorem dX12_loads_59 : decode cX12_loads 59 = .ok (.goto 4, 3) := by decide +kernel
theorem dX12_loads_62 : decode cX12_loads 62 = .ok (.iconst 0, 1) := by decide +kernel
theorem dX12_loads_63 : decode cX12_loads 63 = .ok (.putfield 203, 3) := by decide +kernel
theorem dX12_loads_66 : decode cX12_loads 66 = .ok (.return_, 1) := by decide +kernel
theorem dX12_nearestLit_0 : decode cX12_nearestLit 0 = .ok (.aload_n 0, 1) := by decide +kernel
theorem dX12_nearestLit_1 : decode cX12_nearestLit 1 = .ok (.getfield 194, 3) := by decide +kernel
theorem dX12_nearestLit_4 : decode cX12_nearestLit 4 = .ok (.iload_n 1, 1) := by decide +kernel
theorem dX12_nearestLit_5 : decode cX12_nearestLit 5 = .ok (.ifCond .eq 7, 3) := by decide +kernel
theorem dX12_nearestLit_8 : decode cX12_nearestLit 8 = .ok (.iconst 1, 1) := by decide +kernel
theorem dX12_nearestLit_9 : decode cX12_nearestLit 9 = .ok (.goto 4, 3) := by decide +kernel
theorem dX12_nearestLit_12 : decode cX12_nearestLit 12 = .ok (.iconst (-1), 1) := by decide +kernel
theorem dX12_nearestLit_13 : decode cX12_nearestLit 13 = .ok (.iadd, 1) := by decide +kernel
theorem dX12_nearestLit_14 : decode cX12_nearestLit 14 = .ok (.istore_n 2, 1) := by decide +kernel
theorem dX12_nearestLit_15 : decode cX12_nearestLit 15 = .ok (.iload_n 2, 1) := by decide +kernel
theorem dX12_nearestLit_16 : decode cX12_nearestLit 16 = .ok (.i2l, 1) := by decide +kernel
theorem dX12_nearestLit_17 : decode cX12_nearestLit 17 = .ok (.lconst 0, 1) := by decide +kernel
theorem dX12_nearestLit_18 : decode cX12_nearestLit 18 = .ok (.aload_n 0, 1) := by decide +kernel
theorem dX12_nearestLit_19 : decode cX12_nearestLit 19 = .ok (.getfield 13, 3) := by decide +kernel
theorem dX12_nearestLit_22 : decode cX12_nearestLit 22 = .ok (.iconst 1, 1) := by decide +kernel
theorem dX12_nearestLit_23 : decode cX12_nearestLit 23 = .ok (.iaload, 1) := by decide +kernel
theorem dX12_nearestLit_24 : decode cX12_nearestLit 24 = .ok (.iconst 1, 1) := by decide +kernel
theorem dX12_nearestLit_25 : decode cX12_nearestLit 25 = .ok (.isub, 1) := by decide +kernel
theorem dX12_nearestLit_26 : decode cX12_nearestLit 26 = .ok (.i2l, 1) := by decide +kernel
theorem dX12_nearestLit_27 : decode cX12_nearestLit 27 = .ok (.invokestatic 118, 3) := by decide +kernel
theorem dX12_nearestLit_30 : decode cX12_nearestLit 30 = .ok (.ifCond .eq 32, 3) := by decide +kernel
theorem dX12_nearestLit_33 : decode cX12_nearestLit 33 = .ok (.aload_n 0, 1) := by decide +kernel
theorem dX12_nearestLit_34 : decode cX12_nearestLit 34 = .ok (.getfield 200, 3) := by decide +kernel
theorem dX12_nearestLit_37 : decode cX12_nearestLit 37 = .ok (.i2l, 1) := by decide +kernel
theorem dX12_nearestLit_38 : decode cX12_nearestLit 38 = .ok (.iload_n 2, 1) := by decide +kernel
theorem dX12_nearestLit_39 : decode cX12_nearestLit 39 = .ok (.invokestatic 207, 3) := by decide +kernel
theorem dX12_nearestLit_42 : decode cX12_nearestLit 42 = .ok (.ifCond .eq 5, 3) := by decide +kernel
theorem dX12_nearestLit_45 : decode cX12_nearestLit 45 = .ok (.iload_n 2, 1) := by decide +kernel
theorem dX12_nearestLit_46 : decode cX12_nearestLit 46 = .ok (.ireturn, 1) := by decide +kernel
theorem dX12_nearestLit_47 : decode cX12_nearestLit 47 = .ok (.iload_n 2, 1) := by decide +kernel
theorem dX12_nearestLit_48 : decode cX12_nearestLit 48 = .ok (.iload_n 1, 1) := by decide +kernel
theorem dX12_nearestLit_49 : decode cX12_nearestLit 49 = .ok (.ifCond .eq 7, 3) := by decide +kernel
theorem dX12_nearestLit_52 : decode cX12_nearestLit 52 = .ok (.iconst 1, 1) := by decide +kernel
theorem dX12_nearestLit_53 : decode cX12_nearestLit 53 = .ok (.goto 4, 3) := by decide +kernel
theorem dX12_nearestLit_56 : decode cX12_nearestLit 56 = .ok (.iconst (-1), 1) := by decide +kernel
theorem dX12_nearestLit_57 : decode cX12_nearestLit 57 = .ok (.iadd, 1) := by decide +kernel
theorem dX12_nearestLit_58 : decode cX12_nearestLit 58 = .ok (.istore_n 2, 1) := by decide +kernel
theorem dX12_nearestLit_59 : decode cX12_nearestLit 59 = .ok (.goto (-44), 3) := by decide +kernel
theorem dX12_nearestLit_62 : decode cX12_nearestLit 62 = .ok (.iconst (-1), 1) := by decide +kernel
theorem dX12_nearestLit_63 : decode cX12_nearestLit 63 = .ok (.ireturn, 1) := by decide +kernel
theorem dX12_nextStop_0 : decode cX12_nextStop 0 = .ok (.aload_n 0, 1) := by decide +kernel
theorem dX12_nextStop_1 : decode cX12_nextStop 1 = .ok (.aload_n 0, 1) := by decide +kernel
theorem dX12_nextStop_2 : decode cX12_nextStop 2 = .ok (.getfield 203, 3) := by decide +kernel
theorem dX12_nextStop_5 : decode cX12_nextStop 5 = .ok (.invokevirtual 211, 3) := by decide +kernel
theorem dX12_nextStop_8 : decode cX12_nextStop 8 = .ok (.istore_n 1, 1) := by decide +kernel
theorem dX12_nextStop_9 : decode cX12_nextStop 9 = .ok (.iload_n 1, 1) := by decide +kernel
theorem dX12_nextStop_10 : decode cX12_nextStop 10 = .ok (.iconst (-1), 1) := by decide +kernel
theorem dX12_nextStop_11 : decode cX12_nextStop 11 = .ok (.if_icmp .ne 22, 3) := by decide +kernel
theorem dX12_nextStop_14 : decode cX12_nextStop 14 = .ok (.aload_n 0, 1) := by decide +kernel
theorem dX12_nextStop_15 : decode cX12_nextStop 15 = .ok (.aload_n 0, 1) := by decide +kernel
theorem dX12_nextStop_16 : decode cX12_nextStop 16 = .ok (.getfield 203, 3) := by decide +kernel
theorem dX12_nextStop_19 : decode cX12_nextStop 19 = .ok (.ifCond .ne 7, 3) := by decide +kernel
theorem dX12_nextStop_22 : decode cX12_nextStop 22 = .ok (.iconst 1, 1) := by decide +kernel
theorem dX12_nextStop_23 : decode cX12_nextStop 23 = .ok (.goto 4, 3) := by decide +kernel
theorem dX12_nextStop_26 : decode cX12_nextStop 26 = .ok (.iconst 0, 1) := by decide +kernel
theorem dX12_nextStop_27 : decode cX12_nextStop 27 = .ok (.invokevirtual 211, 3) := by decide +kernel
theorem dX12_nextStop_30 : decode cX12_nextStop 30 = .ok (.goto 4, 3) := by decide +kernel
theorem dX12_nextStop_33 : decode cX12_nextStop 33 = .ok (.iload_n 1, 1) := by decide +kernel
theorem dX12_nextStop_34 : decode cX12_nextStop 34 = .ok (.ireturn, 1) := by decide +kernel
theorem dX12_goes_0 : decode cX12_goes 0 = .ok (.aload_n 0, 1) := by decide +kernel
theorem dX12_goes_1 : decode cX12_goes 1 = .ok (.invokevirtual 215, 3) := by decide +kernel
theorem dX12_goes_4 : decode cX12_goes 4 = .ok (.istore_n 1, 1) := by decide +kernel
theorem dX12_goes_5 : decode cX12_goes 5 = .ok (.iload_n 1, 1) := by decide +kernel
theorem dX12_goes_6 : decode cX12_goes 6 = .ok (.iconst (-1), 1) := by decide +kernel
theorem dX12_goes_7 : decode cX12_goes 7 = .ok (.if_icmp .ne 5, 3) := by decide +kernel
theorem dX12_goes_10 : decode cX12_goes 10 = .ok (.iconst (-1), 1) := by decide +kernel
theorem dX12_goes_11 : decode cX12_goes 11 = .ok (.ireturn, 1) := by decide +kernel
theorem dX12_goes_12 : decode cX12_goes 12 = .ok (.aload_n 0, 1) := by decide +kernel
theorem dX12_goes_13 : decode cX12_goes 13 = .ok (.iload_n 1, 1) := by decide +kernel
theorem dX12_goes_14 : decode cX12_goes 14 = .ok (.aload_n 0, 1) := by decide +kernel
theorem dX12_goes_15 : decode cX12_goes 15 = .ok (.getfield 194, 3) := by decide +kernel
theorem dX12_goes_18 : decode cX12_goes 18 = .ok (.if_icmp .le 7, 3) := by decide +kernel
theorem dX12_goes_21 : decode cX12_goes 21 = .ok (.iconst 1, 1) := by decide +kernel
theorem dX12_goes_22 : decode cX12_goes 22 = .ok (.goto 4, 3) := by decide +kernel
theorem dX12_goes_25 : decode cX12_goes 25 = .ok (.iconst 0, 1) := by decide +kernel
theorem dX12_goes_26 : decode cX12_goes 26 = .ok (.putfield 203, 3) := by decide +kernel
theorem dX12_goes_29 : decode cX12_goes 29 = .ok (.aload_n 0, 1) := by decide +kernel
theorem dX12_goes_30 : decode cX12_goes 30 = .ok (.aload_n 0, 1) := by decide +kernel
theorem dX12_goes_31 : decode cX12_goes 31 = .ok (.getfield 197, 3) := by decide +kernel
theorem dX12_goes_34 : decode cX12_goes 34 = .ok (.aload_n 0, 1) := by decide +kernel
theorem dX12_goes_35 : decode cX12_goes 35 = .ok (.getfield 13, 3) := by decide +kernel
theorem dX12_goes_38 : decode cX12_goes 38 = .ok (.bipush 22, 2) := by decide +kernel
theorem dX12_goes_40 : decode cX12_goes 40 = .ok (.aload_n 0, 1) := by decide +kernel
theorem dX12_goes_41 : decode cX12_goes 41 = .ok (.getfield 191, 3) := by decide +kernel
theorem dX12_goes_44 : decode cX12_goes 44 = .ok (.iadd, 1) := by decide +kernel
theorem dX12_goes_45 : decode cX12_goes 45 = .ok (.iaload, 1) := by decide +kernel
theorem dX12_goes_46 : decode cX12_goes 46 = .ok (.aload_n 0, 1) := by decide +kernel
theorem dX12_goes_47 : decode cX12_goes 47 = .ok (.getfield 194, 3) := by decide +kernel
theorem dX12_goes_50 : decode cX12_goes 50 = .ok (.iload_n 1, 1) := by decide +kernel
theorem dX12_goes_51 : decode cX12_goes 51 = .ok (.invokestatic 218, 3) := by decide +kernel
theorem dX12_goes_54 : decode cX12_goes 54 = .ok (.imul, 1) := by decide +kernel
theorem dX12_goes_55 : decode cX12_goes 55 = .ok (.iadd, 1) := by decide +kernel
theorem dX12_goes_56 : decode cX12_goes 56 = .ok (.putfield 221, 3) := by decide +kernel
theorem dX12_goes_59 : decode cX12_goes 59 = .ok (.aload_n 0, 1) := by decide +kernel
theorem dX12_goes_60 : decode cX12_goes 60 = .ok (.aload_n 0, 1) := by decide +kernel
theorem dX12_goes_61 : decode cX12_goes 61 = .ok (.getfield 221, 3) := by decide +kernel
theorem dX12_goes_64 : decode cX12_goes 64 = .ok (.aload_n 0, 1) := by decide +kernel
theorem dX12_goes_65 : decode cX12_goes 65 = .ok (.aload_n 0, 1) := by decide +kernel
theorem dX12_goes_66 : decode cX12_goes 66 = .ok (.getfield 191, 3) := by decide +kernel
theorem dX12_goes_69 : decode cX12_goes 69 = .ok (.iload_n 1, 1) := by decide +kernel
theorem dX12_goes_70 : decode cX12_goes 70 = .ok (.aload_n 0, 1) := by decide +kernel
theorem dX12_goes_71 : decode cX12_goes 71 = .ok (.getfield 200, 3) := by decide +kernel
theorem dX12_goes_74 : decode cX12_goes 74 = .ok (.invokestatic 224, 3) := by decide +kernel
theorem dX12_goes_77 : decode cX12_goes 77 = .ok (.invokevirtual 227, 3) := by decide +kernel
theorem dX12_goes_80 : decode cX12_goes 80 = .ok (.iadd, 1) := by decide +kernel
theorem dX12_goes_81 : decode cX12_goes 81 = .ok (.putfield 197, 3) := by decide +kernel
theorem dX12_goes_84 : decode cX12_goes 84 = .ok (.aload_n 0, 1) := by decide +kernel
theorem dX12_goes_85 : decode cX12_goes 85 = .ok (.dup, 1) := by decide +kernel
theorem dX12_goes_86 : decode cX12_goes 86 = .ok (.getfield 200, 3) := by decide +kernel
theorem dX12_goes_89 : decode cX12_goes 89 = .ok (.iconst 1, 1) := by decide +kernel
theorem dX12_goes_90 : decode cX12_goes 90 = .ok (.iload_n 1, 1) := by decide +kernel
theorem dX12_goes_91 : decode cX12_goes 91 = .ok (.ishl, 1) := by decide +kernel
theorem dX12_goes_92 : decode cX12_goes 92 = .ok (.iconst (-1), 1) := by decide +kernel
theorem dX12_goes_93 : decode cX12_goes 93 = .ok (.ixor, 1) := by decide +kernel
theorem dX12_goes_94 : decode cX12_goes 94 = .ok (.iand, 1) := by decide +kernel
theorem dX12_goes_95 : decode cX12_goes 95 = .ok (.putfield 200, 3) := by decide +kernel
theorem dX12_goes_98 : decode cX12_goes 98 = .ok (.aload_n 0, 1) := by decide +kernel
theorem dX12_goes_99 : decode cX12_goes 99 = .ok (.iload_n 1, 1) := by decide +kernel
theorem dX12_goes_100 : decode cX12_goes 100 = .ok (.putfield 194, 3) := by decide +kernel
theorem dX12_goes_103 : decode cX12_goes 103 = .ok (.iload_n 1, 1) := by decide +kernel
theorem dX12_goes_104 : decode cX12_goes 104 = .ok (.ireturn, 1) := by decide +kernel
theorem dX12_isInSet_0 : decode cX12_isInSet 0 = .ok (.iconst 0, 1) := by decide +kernel
theorem dX12_isInSet_1 : decode cX12_isInSet 1 = .ok (.istore_n 2, 1) := by decide +kernel
theorem dX12_isInSet_2 : decode cX12_isInSet 2 = .ok (.iconst 0, 1) := by decide +kernel
theorem dX12_isInSet_3 : decode cX12_isInSet 3 = .ok (.istore_n 3, 1) := by decide +kernel
theorem dX12_isInSet_4 : decode cX12_isInSet 4 = .ok (.iload_n 3, 1) := by decide +kernel
theorem dX12_isInSet_5 : decode cX12_isInSet 5 = .ok (.aload_n 0, 1) := by decide +kernel
theorem dX12_isInSet_6 : decode cX12_isInSet 6 = .ok (.getfield 13, 3) := by decide +kernel
theorem dX12_isInSet_9 : decode cX12_isInSet 9 = .ok (.iconst 3, 1) := by decide +kernel
theorem dX12_isInSet_10 : decode cX12_isInSet 10 = .ok (.iaload, 1) := by decide +kernel
theorem dX12_isInSet_11 : decode cX12_isInSet 11 = .ok (.if_icmp .ge 32, 3) := by decide +kernel
theorem dX12_isInSet_14 : decode cX12_isInSet 14 = .ok (.iload_n 2, 1) := by decide +kernel
theorem dX12_isInSet_15 : decode cX12_isInSet 15 = .ok (.aload_n 0, 1) := by decide +kernel
theorem dX12_isInSet_16 : decode cX12_isInSet 16 = .ok (.getfield 13, 3) := by decide +kernel
theorem dX12_isInSet_19 : decode cX12_isInSet 19 = .ok (.bipush 88, 2) := by decide +kernel
theorem dX12_isInSet_21 : decode cX12_isInSet 21 = .ok (.iload_n 3, 1) := by decide +kernel
theorem dX12_isInSet_22 : decode cX12_isInSet 22 = .ok (.iadd, 1) := by decide +kernel
theorem dX12_isInSet_23 : decode cX12_isInSet 23 = .ok (.iaload, 1) := by decide +kernel
theorem dX12_isInSet_24 : decode cX12_isInSet 24 = .ok (.iload_n 1, 1) := by decide +kernel
theorem dX12_isInSet_25 : decode cX12_isInSet 25 = .ok (.if_icmp .ne 9, 3) := by decide +kernel
theorem dX12_isInSet_28 : decode cX12_isInSet 28 = .ok (.iconst 1, 1) := by decide +kernel
theorem dX12_isInSet_29 : decode cX12_isInSet 29 = .ok (.iload_n 3, 1) := by decide +kernel
theorem dX12_isInSet_30 : decode cX12_isInSet 30 = .ok (.ishl, 1) := by decide +kernel
theorem dX12_isInSet_31 : decode cX12_isInSet 31 = .ok (.goto 4, 3) := by decide +kernel
theorem dX12_isInSet_34 : decode cX12_isInSet 34 = .ok (.iconst 0, 1) := by decide +kernel
theorem dX12_isInSet_35 : decode cX12_isInSet 35 = .ok (.ior, 1) := by decide +kernel
theorem dX12_isInSet_36 : decode cX12_isInSet 36 = .ok (.istore_n 2, 1) := by decide +kernel
theorem dX12_isInSet_37 : decode cX12_isInSet 37 = .ok (.iinc 3 1, 3) := by decide +kernel
theorem dX12_isInSet_40 : decode cX12_isInSet 40 = .ok (.goto (-36), 3) := by decide +kernel
theorem dX12_isInSet_43 : decode cX12_isInSet 43 = .ok (.iload_n 2, 1) := by decide +kernel
theorem dX12_isInSet_44 : decode cX12_isInSet 44 = .ok (.ireturn, 1) := by decide +kernel
theorem dX12_lift_0 : decode cX12_lift 0 = .ok (.aload_n 0, 1) := by decide +kernel
theorem dX12_lift_1 : decode cX12_lift 1 = .ok (.iconst 0, 1) := by decide +kernel
theorem dX12_lift_2 : decode cX12_lift 2 = .ok (.putfield 1, 3) := by decide +kernel
theorem dX12_lift_5 : decode cX12_lift 5 = .ok (.aload_n 0, 1) := by decide +kernel
theorem dX12_lift_6 : decode cX12_lift 6 = .ok (.iload_n 1, 1) := by decide +kernel
theorem dX12_lift_7 : decode cX12_lift 7 = .ok (.i2l, 1) := by decide +kernel
theorem dX12_lift_8 : decode cX12_lift 8 = .ok (.invokevirtual 230, 3) := by decide +kernel
