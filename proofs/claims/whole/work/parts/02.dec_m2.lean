theorem dX12_latest_2 : decode cX12_latest 2 = .ok (.putfield 1, 3) := by decide +kernel
theorem dX12_latest_5 : decode cX12_latest 5 = .ok (.aload_n 0, 1) := by decide +kernel
theorem dX12_latest_6 : decode cX12_latest 6 = .ok (.iload_n 1, 1) := by decide +kernel
theorem dX12_latest_7 : decode cX12_latest 7 = .ok (.i2l, 1) := by decide +kernel
theorem dX12_latest_8 : decode cX12_latest 8 = .ok (.invokevirtual 230, 3) := by decide +kernel
theorem dX12_latest_11 : decode cX12_latest 11 = .ok (.ifCond .eq 20, 3) := by decide +kernel
theorem dX12_latest_14 : decode cX12_latest 14 = .ok (.aload_n 0, 1) := by decide +kernel
theorem dX12_latest_15 : decode cX12_latest 15 = .ok (.iload_n 1, 1) := by decide +kernel
theorem dX12_latest_16 : decode cX12_latest 16 = .ok (.aload_n 0, 1) := by decide +kernel
theorem dX12_latest_17 : decode cX12_latest 17 = .ok (.getfield 13, 3) := by decide +kernel
theorem dX12_latest_20 : decode cX12_latest 20 = .ok (.bipush 66, 2) := by decide +kernel
theorem dX12_latest_22 : decode cX12_latest 22 = .ok (.iload_n 1, 1) := by decide +kernel
theorem dX12_latest_23 : decode cX12_latest 23 = .ok (.iadd, 1) := by decide +kernel
theorem dX12_latest_24 : decode cX12_latest 24 = .ok (.iaload, 1) := by decide +kernel
theorem dX12_latest_25 : decode cX12_latest 25 = .ok (.invokevirtual 370, 3) := by decide +kernel
theorem dX12_latest_28 : decode cX12_latest 28 = .ok (.goto 5, 3) := by decide +kernel
theorem dX12_latest_31 : decode cX12_latest 31 = .ok (.bipush (-2), 2) := by decide +kernel
theorem dX12_latest_33 : decode cX12_latest 33 = .ok (.ireturn, 1) := by decide +kernel
theorem dX12_walkers_0 : decode cX12_walkers 0 = .ok (.aload_n 0, 1) := by decide +kernel
theorem dX12_walkers_1 : decode cX12_walkers 1 = .ok (.iconst 0, 1) := by decide +kernel
theorem dX12_walkers_2 : decode cX12_walkers 2 = .ok (.putfield 1, 3) := by decide +kernel
theorem dX12_walkers_5 : decode cX12_walkers 5 = .ok (.aload_n 0, 1) := by decide +kernel
theorem dX12_walkers_6 : decode cX12_walkers 6 = .ok (.iload_n 1, 1) := by decide +kernel
theorem dX12_walkers_7 : decode cX12_walkers 7 = .ok (.i2l, 1) := by decide +kernel
theorem dX12_walkers_8 : decode cX12_walkers 8 = .ok (.invokevirtual 230, 3) := by decide +kernel
theorem dX12_walkers_11 : decode cX12_walkers 11 = .ok (.ifCond .ne 6, 3) := by decide +kernel
theorem dX12_walkers_14 : decode cX12_walkers 14 = .ok (.bipush (-2), 2) := by decide +kernel
theorem dX12_walkers_16 : decode cX12_walkers 16 = .ok (.ireturn, 1) := by decide +kernel
theorem dX12_walkers_17 : decode cX12_walkers 17 = .ok (.iconst 0, 1) := by decide +kernel
theorem dX12_walkers_18 : decode cX12_walkers 18 = .ok (.istore_n 2, 1) := by decide +kernel
theorem dX12_walkers_19 : decode cX12_walkers 19 = .ok (.iconst 0, 1) := by decide +kernel
theorem dX12_walkers_20 : decode cX12_walkers 20 = .ok (.istore_n 3, 1) := by decide +kernel
theorem dX12_walkers_21 : decode cX12_walkers 21 = .ok (.iload_n 3, 1) := by decide +kernel
theorem dX12_walkers_22 : decode cX12_walkers 22 = .ok (.aload_n 0, 1) := by decide +kernel
theorem dX12_walkers_23 : decode cX12_walkers 23 = .ok (.getfield 13, 3) := by decide +kernel
theorem dX12_walkers_26 : decode cX12_walkers 26 = .ok (.iconst 3, 1) := by decide +kernel
theorem dX12_walkers_27 : decode cX12_walkers 27 = .ok (.iaload, 1) := by decide +kernel
theorem dX12_walkers_28 : decode cX12_walkers 28 = .ok (.if_icmp .ge 57, 3) := by decide +kernel
theorem dX12_walkers_31 : decode cX12_walkers 31 = .ok (.aload_n 0, 1) := by decide +kernel
theorem dX12_walkers_32 : decode cX12_walkers 32 = .ok (.getfield 13, 3) := by decide +kernel
theorem dX12_walkers_35 : decode cX12_walkers 35 = .ok (.bipush 88, 2) := by decide +kernel
theorem dX12_walkers_37 : decode cX12_walkers 37 = .ok (.iload_n 3, 1) := by decide +kernel
theorem dX12_walkers_38 : decode cX12_walkers 38 = .ok (.iadd, 1) := by decide +kernel
theorem dX12_walkers_39 : decode cX12_walkers 39 = .ok (.iaload, 1) := by decide +kernel
theorem dX12_walkers_40 : decode cX12_walkers 40 = .ok (.iload_n 1, 1) := by decide +kernel
theorem dX12_walkers_41 : decode cX12_walkers 41 = .ok (.if_icmp .eq 6, 3) := by decide +kernel
theorem dX12_walkers_44 : decode cX12_walkers 44 = .ok (.goto 35, 3) := by decide +kernel
theorem dX12_walkers_47 : decode cX12_walkers 47 = .ok (.aload_n 0, 1) := by decide +kernel
theorem dX12_walkers_48 : decode cX12_walkers 48 = .ok (.iload_n 3, 1) := by decide +kernel
theorem dX12_walkers_49 : decode cX12_walkers 49 = .ok (.invokevirtual 361, 3) := by decide +kernel
theorem dX12_walkers_52 : decode cX12_walkers 52 = .ok (.pop, 1) := by decide +kernel
theorem dX12_walkers_53 : decode cX12_walkers 53 = .ok (.iload_n 2, 1) := by decide +kernel
theorem dX12_walkers_54 : decode cX12_walkers 54 = .ok (.aload_n 0, 1) := by decide +kernel
theorem dX12_walkers_55 : decode cX12_walkers 55 = .ok (.getfield 355, 3) := by decide +kernel
theorem dX12_walkers_58 : decode cX12_walkers 58 = .ok (.aload_n 0, 1) := by decide +kernel
theorem dX12_walkers_59 : decode cX12_walkers 59 = .ok (.getfield 13, 3) := by decide +kernel
theorem dX12_walkers_62 : decode cX12_walkers 62 = .ok (.bipush 28, 2) := by decide +kernel
theorem dX12_walkers_64 : decode cX12_walkers 64 = .ok (.iload_n 3, 1) := by decide +kernel
theorem dX12_walkers_65 : decode cX12_walkers 65 = .ok (.iadd, 1) := by decide +kernel
theorem dX12_walkers_66 : decode cX12_walkers 66 = .ok (.iaload, 1) := by decide +kernel
theorem dX12_walkers_67 : decode cX12_walkers 67 = .ok (.if_icmp .ne 7, 3) := by decide +kernel
theorem dX12_walkers_70 : decode cX12_walkers 70 = .ok (.iconst 0, 1) := by decide +kernel
theorem dX12_walkers_71 : decode cX12_walkers 71 = .ok (.goto 6, 3) := by decide +kernel
theorem dX12_walkers_74 : decode cX12_walkers 74 = .ok (.iconst 1, 1) := by decide +kernel
theorem dX12_walkers_75 : decode cX12_walkers 75 = .ok (.iload_n 3, 1) := by decide +kernel
theorem dX12_walkers_76 : decode cX12_walkers 76 = .ok (.ishl, 1) := by decide +kernel
theorem dX12_walkers_77 : decode cX12_walkers 77 = .ok (.ior, 1) := by decide +kernel
theorem dX12_walkers_78 : decode cX12_walkers 78 = .ok (.istore_n 2, 1) := by decide +kernel
theorem dX12_walkers_79 : decode cX12_walkers 79 = .ok (.iinc 3 1, 3) := by decide +kernel
theorem dX12_walkers_82 : decode cX12_walkers 82 = .ok (.goto (-61), 3) := by decide +kernel
theorem dX12_walkers_85 : decode cX12_walkers 85 = .ok (.iload_n 2, 1) := by decide +kernel
theorem dX12_walkers_86 : decode cX12_walkers 86 = .ok (.ireturn, 1) := by decide +kernel
theorem dX12_waitsFor_0 : decode cX12_waitsFor 0 = .ok (.aload_n 0, 1) := by decide +kernel
theorem dX12_waitsFor_1 : decode cX12_waitsFor 1 = .ok (.getfield 13, 3) := by decide +kernel
theorem dX12_waitsFor_4 : decode cX12_waitsFor 4 = .ok (.bipush 72, 2) := by decide +kernel
theorem dX12_waitsFor_6 : decode cX12_waitsFor 6 = .ok (.iload_n 1, 1) := by decide +kernel
theorem dX12_waitsFor_7 : decode cX12_waitsFor 7 = .ok (.iadd, 1) := by decide +kernel
theorem dX12_waitsFor_8 : decode cX12_waitsFor 8 = .ok (.iaload, 1) := by decide +kernel
theorem dX12_waitsFor_9 : decode cX12_waitsFor 9 = .ok (.aload_n 0, 1) := by decide +kernel
theorem dX12_waitsFor_10 : decode cX12_waitsFor 10 = .ok (.getfield 13, 3) := by decide +kernel
theorem dX12_waitsFor_13 : decode cX12_waitsFor 13 = .ok (.bipush 28, 2) := by decide +kernel
theorem dX12_waitsFor_15 : decode cX12_waitsFor 15 = .ok (.iload_n 1, 1) := by decide +kernel
theorem dX12_waitsFor_16 : decode cX12_waitsFor 16 = .ok (.iadd, 1) := by decide +kernel
theorem dX12_waitsFor_17 : decode cX12_waitsFor 17 = .ok (.iaload, 1) := by decide +kernel
theorem dX12_waitsFor_18 : decode cX12_waitsFor 18 = .ok (.if_icmp .ne 13, 3) := by decide +kernel
theorem dX12_waitsFor_21 : decode cX12_waitsFor 21 = .ok (.aload_n 0, 1) := by decide +kernel
theorem dX12_waitsFor_22 : decode cX12_waitsFor 22 = .ok (.getfield 13, 3) := by decide +kernel
theorem dX12_waitsFor_25 : decode cX12_waitsFor 25 = .ok (.bipush 80, 2) := by decide +kernel
theorem dX12_waitsFor_27 : decode cX12_waitsFor 27 = .ok (.iload_n 1, 1) := by decide +kernel
theorem dX12_waitsFor_28 : decode cX12_waitsFor 28 = .ok (.iadd, 1) := by decide +kernel
theorem dX12_waitsFor_29 : decode cX12_waitsFor 29 = .ok (.iaload, 1) := by decide +kernel
theorem dX12_waitsFor_30 : decode cX12_waitsFor 30 = .ok (.ireturn, 1) := by decide +kernel
theorem dX12_waitsFor_31 : decode cX12_waitsFor 31 = .ok (.aload_n 0, 1) := by decide +kernel
theorem dX12_waitsFor_32 : decode cX12_waitsFor 32 = .ok (.iload_n 2, 1) := by decide +kernel
theorem dX12_waitsFor_33 : decode cX12_waitsFor 33 = .ok (.invokevirtual 234, 3) := by decide +kernel
theorem dX12_waitsFor_36 : decode cX12_waitsFor 36 = .ok (.aload_n 0, 1) := by decide +kernel
theorem dX12_waitsFor_37 : decode cX12_waitsFor 37 = .ok (.getfield 194, 3) := by decide +kernel
theorem dX12_waitsFor_40 : decode cX12_waitsFor 40 = .ok (.aload_n 0, 1) := by decide +kernel
theorem dX12_waitsFor_41 : decode cX12_waitsFor 41 = .ok (.getfield 13, 3) := by decide +kernel
theorem dX12_waitsFor_44 : decode cX12_waitsFor 44 = .ok (.bipush 72, 2) := by decide +kernel
theorem dX12_waitsFor_46 : decode cX12_waitsFor 46 = .ok (.iload_n 1, 1) := by decide +kernel
theorem dX12_waitsFor_47 : decode cX12_waitsFor 47 = .ok (.iadd, 1) := by decide +kernel
theorem dX12_waitsFor_48 : decode cX12_waitsFor 48 = .ok (.iaload, 1) := by decide +kernel
theorem dX12_waitsFor_49 : decode cX12_waitsFor 49 = .ok (.if_icmp .eq 37, 3) := by decide +kernel
theorem dX12_waitsFor_52 : decode cX12_waitsFor 52 = .ok (.aload_n 0, 1) := by decide +kernel
theorem dX12_waitsFor_53 : decode cX12_waitsFor 53 = .ok (.dup, 1) := by decide +kernel
theorem dX12_waitsFor_54 : decode cX12_waitsFor 54 = .ok (.getfield 200, 3) := by decide +kernel
theorem dX12_waitsFor_57 : decode cX12_waitsFor 57 = .ok (.iconst 1, 1) := by decide +kernel
theorem dX12_waitsFor_58 : decode cX12_waitsFor 58 = .ok (.aload_n 0, 1) := by decide +kernel
theorem dX12_waitsFor_59 : decode cX12_waitsFor 59 = .ok (.getfield 13, 3) := by decide +kernel
theorem dX12_waitsFor_62 : decode cX12_waitsFor 62 = .ok (.bipush 72, 2) := by decide +kernel
theorem dX12_waitsFor_64 : decode cX12_waitsFor 64 = .ok (.iload_n 1, 1) := by decide +kernel
theorem dX12_waitsFor_65 : decode cX12_waitsFor 65 = .ok (.iadd, 1) := by decide +kernel
theorem dX12_waitsFor_66 : decode cX12_waitsFor 66 = .ok (.iaload, 1) := by decide +kernel
theorem dX12_waitsFor_67 : decode cX12_waitsFor 67 = .ok (.ishl, 1) := by decide +kernel
theorem dX12_waitsFor_68 : decode cX12_waitsFor 68 = .ok (.ior, 1) := by decide +kernel
theorem dX12_waitsFor_69 : decode cX12_waitsFor 69 = .ok (.putfield 200, 3) := by decide +kernel
theorem dX12_waitsFor_72 : decode cX12_waitsFor 72 = .ok (.aload_n 0, 1) := by decide +kernel
theorem dX12_waitsFor_73 : decode cX12_waitsFor 73 = .ok (.aload_n 0, 1) := by decide +kernel
theorem dX12_waitsFor_74 : decode cX12_waitsFor 74 = .ok (.getfield 13, 3) := by decide +kernel
theorem dX12_waitsFor_77 : decode cX12_waitsFor 77 = .ok (.bipush 72, 2) := by decide +kernel
theorem dX12_waitsFor_79 : decode cX12_waitsFor 79 = .ok (.iload_n 1, 1) := by decide +kernel
theorem dX12_waitsFor_80 : decode cX12_waitsFor 80 = .ok (.iadd, 1) := by decide +kernel
theorem dX12_waitsFor_81 : decode cX12_waitsFor 81 = .ok (.iaload, 1) := by decide +kernel
theorem dX12_waitsFor_82 : decode cX12_waitsFor 82 = .ok (.invokevirtual 352, 3) := by decide +kernel
theorem dX12_waitsFor_85 : decode cX12_waitsFor 85 = .ok (.pop, 1) := by decide +kernel
theorem dX12_waitsFor_86 : decode cX12_waitsFor 86 = .ok (.aload_n 0, 1) := by decide +kernel
theorem dX12_waitsFor_87 : decode cX12_waitsFor 87 = .ok (.getfield 197, 3) := by decide +kernel
theorem dX12_waitsFor_90 : decode cX12_waitsFor 90 = .ok (.aload_n 0, 1) := by decide +kernel
theorem dX12_waitsFor_91 : decode cX12_waitsFor 91 = .ok (.getfield 13, 3) := by decide +kernel
theorem dX12_waitsFor_94 : decode cX12_waitsFor 94 = .ok (.bipush 80, 2) := by decide +kernel
theorem dX12_waitsFor_96 : decode cX12_waitsFor 96 = .ok (.iload_n 1, 1) := by decide +kernel
theorem dX12_waitsFor_97 : decode cX12_waitsFor 97 = .ok (.iadd, 1) := by decide +kernel
theorem dX12_waitsFor_98 : decode cX12_waitsFor 98 = .ok (.iaload, 1) := by decide +kernel
theorem dX12_waitsFor_99 : decode cX12_waitsFor 99 = .ok (.if_icmp .ge 16, 3) := by decide +kernel
theorem dX12_waitsFor_102 : decode cX12_waitsFor 102 = .ok (.aload_n 0, 1) := by decide +kernel
theorem dX12_waitsFor_103 : decode cX12_waitsFor 103 = .ok (.aload_n 0, 1) := by decide +kernel
theorem dX12_waitsFor_104 : decode cX12_waitsFor 104 = .ok (.getfield 13, 3) := by decide +kernel
theorem dX12_waitsFor_107 : decode cX12_waitsFor 107 = .ok (.bipush 80, 2) := by decide +kernel
theorem dX12_waitsFor_109 : decode cX12_waitsFor 109 = .ok (.iload_n 1, 1) := by decide +kernel
theorem dX12_waitsFor_110 : decode cX12_waitsFor 110 = .ok (.iadd, 1) := by decide +kernel
theorem dX12_waitsFor_111 : decode cX12_waitsFor 111 = .ok (.iaload, 1) := by decide +kernel
theorem dX12_waitsFor_112 : decode cX12_waitsFor 112 = .ok (.putfield 197, 3) := by decide +kernel
theorem dX12_waitsFor_115 : decode cX12_waitsFor 115 = .ok (.aload_n 0, 1) := by decide +kernel
theorem dX12_waitsFor_116 : decode cX12_waitsFor 116 = .ok (.dup, 1) := by decide +kernel
theorem dX12_waitsFor_117 : decode cX12_waitsFor 117 = .ok (.getfield 200, 3) := by decide +kernel
theorem dX12_waitsFor_120 : decode cX12_waitsFor 120 = .ok (.iconst 1, 1) := by decide +kernel
theorem dX12_waitsFor_121 : decode cX12_waitsFor 121 = .ok (.aload_n 0, 1) := by decide +kernel
theorem dX12_waitsFor_122 : decode cX12_waitsFor 122 = .ok (.getfield 13, 3) := by decide +kernel
theorem dX12_waitsFor_125 : decode cX12_waitsFor 125 = .ok (.bipush 28, 2) := by decide +kernel
theorem dX12_waitsFor_127 : decode cX12_waitsFor 127 = .ok (.iload_n 1, 1) := by decide +kernel
theorem dX12_waitsFor_128 : decode cX12_waitsFor 128 = .ok (.iadd, 1) := by decide +kernel
theorem dX12_waitsFor_129 : decode cX12_waitsFor 129 = .ok (.iaload, 1) := by decide +kernel
theorem dX12_waitsFor_130 : decode cX12_waitsFor 130 = .ok (.ishl, 1) := by decide +kernel
theorem dX12_waitsFor_131 : decode cX12_waitsFor 131 = .ok (.ior, 1) := by decide +kernel
theorem dX12_waitsFor_132 : decode cX12_waitsFor 132 = .ok (.putfield 200, 3) := by decide +kernel
theorem dX12_waitsFor_135 : decode cX12_waitsFor 135 = .ok (.aload_n 0, 1) := by decide +kernel
theorem dX12_waitsFor_136 : decode cX12_waitsFor 136 = .ok (.aload_n 0, 1) := by decide +kernel
theorem dX12_waitsFor_137 : decode cX12_waitsFor 137 = .ok (.getfield 13, 3) := by decide +kernel
theorem dX12_waitsFor_140 : decode cX12_waitsFor 140 = .ok (.bipush 28, 2) := by decide +kernel
theorem dX12_waitsFor_142 : decode cX12_waitsFor 142 = .ok (.iload_n 1, 1) := by decide +kernel
theorem dX12_waitsFor_143 : decode cX12_waitsFor 143 = .ok (.iadd, 1) := by decide +kernel
theorem dX12_waitsFor_144 : decode cX12_waitsFor 144 = .ok (.iaload, 1) := by decide +kernel
theorem dX12_waitsFor_145 : decode cX12_waitsFor 145 = .ok (.invokevirtual 352, 3) := by decide +kernel
theorem dX12_waitsFor_148 : decode cX12_waitsFor 148 = .ok (.ireturn, 1) := by decide +kernel
theorem dX12_waits_0 : decode cX12_waits 0 = .ok (.aload_n 0, 1) := by decide +kernel
theorem dX12_waits_1 : decode cX12_waits 1 = .ok (.iconst 0, 1) := by decide +kernel
theorem dX12_waits_2 : decode cX12_waits 2 = .ok (.putfield 1, 3) := by decide +kernel
theorem dX12_waits_5 : decode cX12_waits 5 = .ok (.aload_n 0, 1) := by decide +kernel
theorem dX12_waits_6 : decode cX12_waits 6 = .ok (.iload_n 1, 1) := by decide +kernel
theorem dX12_waits_7 : decode cX12_waits 7 = .ok (.i2l, 1) := by decide +kernel
theorem dX12_waits_8 : decode cX12_waits 8 = .ok (.invokevirtual 240, 3) := by decide +kernel
theorem dX12_waits_11 : decode cX12_waits 11 = .ok (.ifCond .eq 12, 3) := by decide +kernel
theorem dX12_waits_14 : decode cX12_waits 14 = .ok (.aload_n 0, 1) := by decide +kernel
theorem dX12_waits_15 : decode cX12_waits 15 = .ok (.iload_n 2, 1) := by decide +kernel
theorem dX12_waits_16 : decode cX12_waits 16 = .ok (.i2l, 1) := by decide +kernel
theorem dX12_waits_17 : decode cX12_waits 17 = .ok (.invokevirtual 230, 3) := by decide +kernel
theorem dX12_waits_20 : decode cX12_waits 20 = .ok (.ifCond .ne 6, 3) := by decide +kernel
theorem dX12_waits_23 : decode cX12_waits 23 = .ok (.bipush (-2), 2) := by decide +kernel
theorem dX12_waits_25 : decode cX12_waits 25 = .ok (.ireturn, 1) := by decide +kernel
theorem dX12_waits_26 : decode cX12_waits 26 = .ok (.aload_n 0, 1) := by decide +kernel
theorem dX12_waits_27 : decode cX12_waits 27 = .ok (.getfield 13, 3) := by decide +kernel
theorem dX12_waits_30 : decode cX12_waits 30 = .ok (.bipush 88, 2) := by decide +kernel
theorem dX12_waits_32 : decode cX12_waits 32 = .ok (.iload_n 1, 1) := by decide +kernel
theorem dX12_waits_33 : decode cX12_waits 33 = .ok (.iadd, 1) := by decide +kernel
theorem dX12_waits_34 : decode cX12_waits 34 = .ok (.iaload, 1) := by decide +kernel
theorem dX12_waits_35 : decode cX12_waits 35 = .ok (.iconst (-1), 1) := by decide +kernel
theorem dX12_waits_36 : decode cX12_waits 36 = .ok (.if_icmp .ne 12, 3) := by decide +kernel
theorem dX12_waits_39 : decode cX12_waits 39 = .ok (.aload_n 0, 1) := by decide +kernel
theorem dX12_waits_40 : decode cX12_waits 40 = .ok (.iload_n 1, 1) := by decide +kernel
theorem dX12_waits_41 : decode cX12_waits 41 = .ok (.iload_n 2, 1) := by decide +kernel
theorem dX12_waits_42 : decode cX12_waits 42 = .ok (.invokevirtual 373, 3) := by decide +kernel
theorem dX12_waits_45 : decode cX12_waits 45 = .ok (.goto 5, 3) := by decide +kernel
theorem dX12_waits_48 : decode cX12_waits 48 = .ok (.bipush (-5), 2) := by decide +kernel
theorem dX12_waits_50 : decode cX12_waits 50 = .ok (.ireturn, 1) := by decide +kernel
theorem dX12_choice_0 : decode cX12_choice 0 = .ok (.aload_n 0, 1) := by decide +kernel
theorem dX12_choice_1 : decode cX12_choice 1 = .ok (.iconst 0, 1) := by decide +kernel
theorem dX12_choice_2 : decode cX12_choice 2 = .ok (.putfield 1, 3) := by decide +kernel
theorem dX12_choice_5 : decode cX12_choice 5 = .ok (.aload_n 0, 1) := by decide +kernel
theorem dX12_choice_6 : decode cX12_choice 6 = .ok (.iload_n 1, 1) := by decide +kernel
theorem dX12_choice_7 : decode cX12_choice 7 = .ok (.i2l, 1) := by decide +kernel
theorem dX12_choice_8 : decode cX12_choice 8 = .ok (.invokevirtual 240, 3) := by decide +kernel
theorem dX12_choice_11 : decode cX12_choice 11 = .ok (.ifCond .ne 6, 3) := by decide +kernel
theorem dX12_choice_14 : decode cX12_choice 14 = .ok (.bipush (-2), 2) := by decide +kernel
theorem dX12_choice_16 : decode cX12_choice 16 = .ok (.ireturn, 1) := by decide +kernel
theorem dX12_choice_17 : decode cX12_choice 17 = .ok (.aload_n 0, 1) := by decide +kernel
theorem dX12_choice_18 : decode cX12_choice 18 = .ok (.getfield 13, 3) := by decide +kernel
theorem dX12_choice_21 : decode cX12_choice 21 = .ok (.bipush 88, 2) := by decide +kernel
theorem dX12_choice_23 : decode cX12_choice 23 = .ok (.iload_n 1, 1) := by decide +kernel
theorem dX12_choice_24 : decode cX12_choice 24 = .ok (.iadd, 1) := by decide +kernel
theorem dX12_choice_25 : decode cX12_choice 25 = .ok (.iaload, 1) := by decide +kernel
theorem dX12_choice_26 : decode cX12_choice 26 = .ok (.iconst (-1), 1) := by decide +kernel
theorem dX12_choice_27 : decode cX12_choice 27 = .ok (.if_icmp .eq 6, 3) := by decide +kernel
theorem dX12_choice_30 : decode cX12_choice 30 = .ok (.bipush (-5), 2) := by decide +kernel
theorem dX12_choice_32 : decode cX12_choice 32 = .ok (.ireturn, 1) := by decide +kernel
theorem dX12_choice_33 : decode cX12_choice 33 = .ok (.iconst (-1), 1) := by decide +kernel
theorem dX12_choice_34 : decode cX12_choice 34 = .ok (.istore_n 2, 1) := by decide +kernel
theorem dX12_choice_35 : decode cX12_choice 35 = .ok (.aload_n 0, 1) := by decide +kernel
theorem dX12_choice_36 : decode cX12_choice 36 = .ok (.iload_n 1, 1) := by decide +kernel
theorem dX12_choice_37 : decode cX12_choice 37 = .ok (.invokevirtual 361, 3) := by decide +kernel
theorem dX12_choice_40 : decode cX12_choice 40 = .ok (.istore_n 3, 1) := by decide +kernel
theorem dX12_choice_41 : decode cX12_choice 41 = .ok (.iconst 0, 1) := by decide +kernel
theorem dX12_choice_42 : decode cX12_choice 42 = .ok (.istore 4, 2) := by decide +kernel
theorem dX12_choice_44 : decode cX12_choice 44 = .ok (.iload 4, 2) := by decide +kernel
theorem dX12_choice_46 : decode cX12_choice 46 = .ok (.aload_n 0, 1) := by decide +kernel
theorem dX12_choice_47 : decode cX12_choice 47 = .ok (.getfield 13, 3) := by decide +kernel
theorem dX12_choice_50 : decode cX12_choice 50 = .ok (.iconst 2, 1) := by decide +kernel
theorem dX12_choice_51 : decode cX12_choice 51 = .ok (.iaload, 1) := by decide +kernel
theorem dX12_choice_52 : decode cX12_choice 52 = .ok (.if_icmp .ge 33, 3) := by decide +kernel
theorem dX12_choice_55 : decode cX12_choice 55 = .ok (.aload_n 0, 1) := by decide +kernel
theorem dX12_choice_56 : decode cX12_choice 56 = .ok (.iload_n 1, 1) := by decide +kernel
theorem dX12_choice_57 : decode cX12_choice 57 = .ok (.iload 4, 2) := by decide +kernel
theorem dX12_choice_59 : decode cX12_choice 59 = .ok (.invokevirtual 373, 3) := by decide +kernel
theorem dX12_choice_62 : decode cX12_choice 62 = .ok (.istore 5, 2) := by decide +kernel
theorem dX12_choice_64 : decode cX12_choice 64 = .ok (.iload 5, 2) := by decide +kernel
theorem dX12_choice_66 : decode cX12_choice 66 = .ok (.iload_n 3, 1) := by decide +kernel
theorem dX12_choice_67 : decode cX12_choice 67 = .ok (.if_icmp .lt 6, 3) := by decide +kernel
theorem dX12_choice_70 : decode cX12_choice 70 = .ok (.goto 9, 3) := by decide +kernel
theorem dX12_choice_73 : decode cX12_choice 73 = .ok (.iload 4, 2) := by decide +kernel
theorem dX12_choice_75 : decode cX12_choice 75 = .ok (.istore_n 2, 1) := by decide +kernel
theorem dX12_choice_76 : decode cX12_choice 76 = .ok (.iload 5, 2) := by decide +kernel
theorem dX12_choice_78 : decode cX12_choice 78 = .ok (.istore_n 3, 1) := by decide +kernel
theorem dX12_choice_79 : decode cX12_choice 79 = .ok (.iinc 4 1, 3) := by decide +kernel
theorem dX12_choice_82 : decode cX12_choice 82 = .ok (.goto (-38), 3) := by decide +kernel
theorem dX12_choice_85 : decode cX12_choice 85 = .ok (.iload_n 2, 1) := by decide +kernel
theorem dX12_choice_86 : decode cX12_choice 86 = .ok (.ireturn, 1) := by decide +kernel
theorem dX12_valueBy_0 : decode cX12_valueBy 0 = .ok (.iload_n 3, 1) := by decide +kernel
theorem dX12_valueBy_1 : decode cX12_valueBy 1 = .ok (.ifCond .eq 13, 3) := by decide +kernel
theorem dX12_valueBy_4 : decode cX12_valueBy 4 = .ok (.aload_n 0, 1) := by decide +kernel
theorem dX12_valueBy_5 : decode cX12_valueBy 5 = .ok (.iload_n 1, 1) := by decide +kernel
theorem dX12_valueBy_6 : decode cX12_valueBy 6 = .ok (.iload_n 2, 1) := by decide +kernel
theorem dX12_valueBy_7 : decode cX12_valueBy 7 = .ok (.invokevirtual 370, 3) := by decide +kernel
theorem dX12_valueBy_10 : decode cX12_valueBy 10 = .ok (.i2l, 1) := by decide +kernel
theorem dX12_valueBy_11 : decode cX12_valueBy 11 = .ok (.goto 9, 3) := by decide +kernel
theorem dX12_valueBy_14 : decode cX12_valueBy 14 = .ok (.aload_n 0, 1) := by decide +kernel
theorem dX12_valueBy_15 : decode cX12_valueBy 15 = .ok (.iload_n 1, 1) := by decide +kernel
theorem dX12_valueBy_16 : decode cX12_valueBy 16 = .ok (.iload_n 2, 1) := by decide +kernel
theorem dX12_valueBy_17 : decode cX12_valueBy 17 = .ok (.invokevirtual 364, 3) := by decide +kernel
theorem dX12_valueBy_20 : decode cX12_valueBy 20 = .ok (.lreturn, 1) := by decide +kernel
theorem dX12_keptBy_0 : decode cX12_keptBy 0 = .ok (.aload_n 0, 1) := by decide +kernel
theorem dX12_keptBy_1 : decode cX12_keptBy 1 = .ok (.getfield 13, 3) := by decide +kernel
theorem dX12_keptBy_4 : decode cX12_keptBy 4 = .ok (.bipush 66, 2) := by decide +kernel
theorem dX12_keptBy_6 : decode cX12_keptBy 6 = .ok (.iload_n 1, 1) := by decide +kernel
theorem dX12_keptBy_7 : decode cX12_keptBy 7 = .ok (.iadd, 1) := by decide +kernel
theorem dX12_keptBy_8 : decode cX12_keptBy 8 = .ok (.iaload, 1) := by decide +kernel
theorem dX12_keptBy_9 : decode cX12_keptBy 9 = .ok (.istore_n 3, 1) := by decide +kernel
theorem dX12_keptBy_10 : decode cX12_keptBy 10 = .ok (.iconst 0, 1) := by decide +kernel
theorem dX12_keptBy_11 : decode cX12_keptBy 11 = .ok (.istore 4, 2) := by decide +kernel
theorem dX12_keptBy_13 : decode cX12_keptBy 13 = .ok (.ldc2_w 376, 3) := by decide +kernel
theorem dX12_keptBy_16 : decode cX12_keptBy 16 = .ok (.lstore 5, 2) := by decide +kernel
theorem dX12_keptBy_18 : decode cX12_keptBy 18 = .ok (.iconst 0, 1) := by decide +kernel
theorem dX12_keptBy_19 : decode cX12_keptBy 19 = .ok (.istore 7, 2) := by decide +kernel
theorem dX12_keptBy_21 : decode cX12_keptBy 21 = .ok (.iload 7, 2) := by decide +kernel
theorem dX12_keptBy_23 : decode cX12_keptBy 23 = .ok (.iload_n 3, 1) := by decide +kernel
theorem dX12_keptBy_24 : decode cX12_keptBy 24 = .ok (.if_icmp .gt 71, 3) := by decide +kernel
theorem dX12_keptBy_27 : decode cX12_keptBy 27 = .ok (.iload 7, 2) := by decide +kernel
theorem dX12_keptBy_29 : decode cX12_keptBy 29 = .ok (.iload_n 3, 1) := by decide +kernel
theorem dX12_keptBy_30 : decode cX12_keptBy 30 = .ok (.iconst (-1), 1) := by decide +kernel
theorem dX12_keptBy_31 : decode cX12_keptBy 31 = .ok (.ixor, 1) := by decide +kernel
theorem dX12_keptBy_32 : decode cX12_keptBy 32 = .ok (.iand, 1) := by decide +kernel
theorem dX12_keptBy_33 : decode cX12_keptBy 33 = .ok (.ifCond .eq 6, 3) := by decide +kernel
theorem dX12_keptBy_36 : decode cX12_keptBy 36 = .ok (.goto 53, 3) := by decide +kernel
theorem dX12_keptBy_39 : decode cX12_keptBy 39 = .ok (.aload_n 0, 1) := by decide +kernel
theorem dX12_keptBy_40 : decode cX12_keptBy 40 = .ok (.iload_n 1, 1) := by decide +kernel
theorem dX12_keptBy_41 : decode cX12_keptBy 41 = .ok (.iload 7, 2) := by decide +kernel
theorem dX12_keptBy_43 : decode cX12_keptBy 43 = .ok (.iload_n 2, 1) := by decide +kernel
theorem dX12_keptBy_44 : decode cX12_keptBy 44 = .ok (.invokevirtual 378, 3) := by decide +kernel
theorem dX12_keptBy_47 : decode cX12_keptBy 47 = .ok (.lstore 8, 2) := by decide +kernel
theorem dX12_keptBy_49 : decode cX12_keptBy 49 = .ok (.lload 8, 2) := by decide +kernel
theorem dX12_keptBy_51 : decode cX12_keptBy 51 = .ok (.lload 5, 2) := by decide +kernel
theorem dX12_keptBy_53 : decode cX12_keptBy 53 = .ok (.lcmp, 1) := by decide +kernel
theorem dX12_keptBy_54 : decode cX12_keptBy 54 = .ok (.ifCond .gt 35, 3) := by decide +kernel
theorem dX12_keptBy_57 : decode cX12_keptBy 57 = .ok (.lload 8, 2) := by decide +kernel
theorem dX12_keptBy_59 : decode cX12_keptBy 59 = .ok (.lload 5, 2) := by decide +kernel
theorem dX12_keptBy_61 : decode cX12_keptBy 61 = .ok (.lcmp, 1) := by decide +kernel
theorem dX12_keptBy_62 : decode cX12_keptBy 62 = .ok (.ifCond .ne 19, 3) := by decide +kernel
theorem dX12_keptBy_65 : decode cX12_keptBy 65 = .ok (.iload 7, 2) := by decide +kernel
theorem dX12_keptBy_67 : decode cX12_keptBy 67 = .ok (.invokestatic 224, 3) := by decide +kernel
theorem dX12_keptBy_70 : decode cX12_keptBy 70 = .ok (.iload 4, 2) := by decide +kernel
theorem dX12_keptBy_72 : decode cX12_keptBy 72 = .ok (.invokestatic 224, 3) := by decide +kernel
theorem dX12_keptBy_75 : decode cX12_keptBy 75 = .ok (.if_icmp .lt 6, 3) := by decide +kernel
theorem dX12_keptBy_78 : decode cX12_keptBy 78 = .ok (.goto 11, 3) := by decide +kernel
theorem dX12_keptBy_81 : decode cX12_keptBy 81 = .ok (.iload 7, 2) := by decide +kernel
theorem dX12_keptBy_83 : decode cX12_keptBy 83 = .ok (.istore 4, 2) := by decide +kernel
theorem dX12_keptBy_85 : decode cX12_keptBy 85 = .ok (.lload 8, 2) := by decide +kernel
theorem dX12_keptBy_87 : decode cX12_keptBy 87 = .ok (.lstore 5, 2) := by decide +kernel
theorem dX12_keptBy_89 : decode cX12_keptBy 89 = .ok (.iinc 7 1, 3) := by decide +kernel
theorem dX12_keptBy_92 : decode cX12_keptBy 92 = .ok (.goto (-71), 3) := by decide +kernel
theorem dX12_keptBy_95 : decode cX12_keptBy 95 = .ok (.iload 4, 2) := by decide +kernel
theorem dX12_keptBy_97 : decode cX12_keptBy 97 = .ok (.ireturn, 1) := by decide +kernel
theorem dX12_least_0 : decode cX12_least 0 = .ok (.aload_n 0, 1) := by decide +kernel
theorem dX12_least_1 : decode cX12_least 1 = .ok (.iconst 0, 1) := by decide +kernel
theorem dX12_least_2 : decode cX12_least 2 = .ok (.putfield 1, 3) := by decide +kernel
theorem dX12_least_5 : decode cX12_least 5 = .ok (.aload_n 0, 1) := by decide +kernel
theorem dX12_least_6 : decode cX12_least 6 = .ok (.iload_n 1, 1) := by decide +kernel
theorem dX12_least_7 : decode cX12_least 7 = .ok (.i2l, 1) := by decide +kernel
theorem dX12_least_8 : decode cX12_least 8 = .ok (.invokevirtual 230, 3) := by decide +kernel
theorem dX12_least_11 : decode cX12_least 11 = .ok (.ifCond .eq 13, 3) := by decide +kernel
theorem dX12_least_14 : decode cX12_least 14 = .ok (.iload_n 2, 1) := by decide +kernel
theorem dX12_least_15 : decode cX12_least 15 = .ok (.i2l, 1) := by decide +kernel
theorem dX12_least_16 : decode cX12_least 16 = .ok (.lconst 0, 1) := by decide +kernel
theorem dX12_least_17 : decode cX12_least 17 = .ok (.lconst 1, 1) := by decide +kernel
theorem dX12_least_18 : decode cX12_least 18 = .ok (.invokestatic 118, 3) := by decide +kernel
theorem dX12_least_21 : decode cX12_least 21 = .ok (.ifCond .ne 7, 3) := by decide +kernel
theorem dX12_least_24 : decode cX12_least 24 = .ok (.ldc2_w 368, 3) := by decide +kernel
theorem dX12_least_27 : decode cX12_least 27 = .ok (.lreturn, 1) := by decide +kernel
theorem dX12_least_28 : decode cX12_least 28 = .ok (.aload_n 0, 1) := by decide +kernel
theorem dX12_least_29 : decode cX12_least 29 = .ok (.iload_n 1, 1) := by decide +kernel
theorem dX12_least_30 : decode cX12_least 30 = .ok (.iconst 0, 1) := by decide +kernel
theorem dX12_least_31 : decode cX12_least 31 = .ok (.invokevirtual 382, 3) := by decide +kernel
theorem dX12_least_34 : decode cX12_least 34 = .ok (.istore_n 3, 1) := by decide +kernel
theorem dX12_least_35 : decode cX12_least 35 = .ok (.iload_n 2, 1) := by decide +kernel
theorem dX12_least_36 : decode cX12_least 36 = .ok (.ifCond .ne 12, 3) := by decide +kernel
theorem dX12_least_39 : decode cX12_least 39 = .ok (.aload_n 0, 1) := by decide +kernel
theorem dX12_least_40 : decode cX12_least 40 = .ok (.iload_n 1, 1) := by decide +kernel
theorem dX12_least_41 : decode cX12_least 41 = .ok (.iload_n 3, 1) := by decide +kernel
theorem dX12_least_42 : decode cX12_least 42 = .ok (.invokevirtual 364, 3) := by decide +kernel
theorem dX12_least_45 : decode cX12_least 45 = .ok (.goto 5, 3) := by decide +kernel
theorem dX12_least_48 : decode cX12_least 48 = .ok (.iload_n 3, 1) := by decide +kernel
theorem dX12_least_49 : decode cX12_least 49 = .ok (.i2l, 1) := by decide +kernel
theorem dX12_least_50 : decode cX12_least 50 = .ok (.lreturn, 1) := by decide +kernel
theorem dX12_fairest_0 : decode cX12_fairest 0 = .ok (.aload_n 0, 1) := by decide +kernel
theorem dX12_fairest_1 : decode cX12_fairest 1 = .ok (.iconst 0, 1) := by decide +kernel
theorem dX12_fairest_2 : decode cX12_fairest 2 = .ok (.putfield 1, 3) := by decide +kernel
theorem dX12_fairest_5 : decode cX12_fairest 5 = .ok (.aload_n 0, 1) := by decide +kernel
theorem dX12_fairest_6 : decode cX12_fairest 6 = .ok (.iload_n 1, 1) := by decide +kernel
theorem dX12_fairest_7 : decode cX12_fairest 7 = .ok (.i2l, 1) := by decide +kernel
theorem dX12_fairest_8 : decode cX12_fairest 8 = .ok (.invokevirtual 230, 3) := by decide +kernel
theorem dX12_fairest_11 : decode cX12_fairest 11 = .ok (.ifCond .eq 13, 3) := by decide +kernel
theorem dX12_fairest_14 : decode cX12_fairest 14 = .ok (.iload_n 2, 1) := by decide +kernel
theorem dX12_fairest_15 : decode cX12_fairest 15 = .ok (.i2l, 1) := by decide +kernel
theorem dX12_fairest_16 : decode cX12_fairest 16 = .ok (.lconst 0, 1) := by decide +kernel
theorem dX12_fairest_17 : decode cX12_fairest 17 = .ok (.lconst 1, 1) := by decide +kernel
theorem dX12_fairest_18 : decode cX12_fairest 18 = .ok (.invokestatic 118, 3) := by decide +kernel
theorem dX12_fairest_21 : decode cX12_fairest 21 = .ok (.ifCond .ne 6, 3) := by decide +kernel
theorem dX12_fairest_24 : decode cX12_fairest 24 = .ok (.bipush (-2), 2) := by decide +kernel
theorem dX12_fairest_26 : decode cX12_fairest 26 = .ok (.ireturn, 1) := by decide +kernel
theorem dX12_fairest_27 : decode cX12_fairest 27 = .ok (.aload_n 0, 1) := by decide +kernel
theorem dX12_fairest_28 : decode cX12_fairest 28 = .ok (.iload_n 1, 1) := by decide +kernel
theorem dX12_fairest_29 : decode cX12_fairest 29 = .ok (.iconst 1, 1) := by decide +kernel
theorem dX12_fairest_30 : decode cX12_fairest 30 = .ok (.invokevirtual 382, 3) := by decide +kernel
theorem dX12_fairest_33 : decode cX12_fairest 33 = .ok (.istore_n 3, 1) := by decide +kernel
theorem dX12_fairest_34 : decode cX12_fairest 34 = .ok (.iload_n 2, 1) := by decide +kernel
theorem dX12_fairest_35 : decode cX12_fairest 35 = .ok (.ifCond .ne 12, 3) := by decide +kernel
theorem dX12_fairest_38 : decode cX12_fairest 38 = .ok (.aload_n 0, 1) := by decide +kernel
theorem dX12_fairest_39 : decode cX12_fairest 39 = .ok (.iload_n 1, 1) := by decide +kernel
theorem dX12_fairest_40 : decode cX12_fairest 40 = .ok (.iload_n 3, 1) := by decide +kernel
theorem dX12_fairest_41 : decode cX12_fairest 41 = .ok (.invokevirtual 370, 3) := by decide +kernel
theorem dX12_fairest_44 : decode cX12_fairest 44 = .ok (.goto 4, 3) := by decide +kernel
theorem dX12_fairest_47 : decode cX12_fairest 47 = .ok (.iload_n 3, 1) := by decide +kernel
theorem dX12_fairest_48 : decode cX12_fairest 48 = .ok (.ireturn, 1) := by decide +kernel
theorem dX12_costs_0 : decode cX12_costs 0 = .ok (.aload_n 0, 1) := by decide +kernel
theorem dX12_costs_1 : decode cX12_costs 1 = .ok (.iconst 0, 1) := by decide +kernel
theorem dX12_costs_2 : decode cX12_costs 2 = .ok (.putfield 1, 3) := by decide +kernel
theorem dX12_costs_5 : decode cX12_costs 5 = .ok (.aload_n 0, 1) := by decide +kernel
theorem dX12_costs_6 : decode cX12_costs 6 = .ok (.iload_n 1, 1) := by decide +kernel
theorem dX12_costs_7 : decode cX12_costs 7 = .ok (.i2l, 1) := by decide +kernel
theorem dX12_costs_8 : decode cX12_costs 8 = .ok (.invokevirtual 230, 3) := by decide +kernel
theorem dX12_costs_11 : decode cX12_costs 11 = .ok (.ifCond .eq 29, 3) := by decide +kernel
theorem dX12_costs_14 : decode cX12_costs 14 = .ok (.aload_n 0, 1) := by decide +kernel
theorem dX12_costs_15 : decode cX12_costs 15 = .ok (.iload_n 2, 1) := by decide +kernel
theorem dX12_costs_16 : decode cX12_costs 16 = .ok (.i2l, 1) := by decide +kernel
theorem dX12_costs_17 : decode cX12_costs 17 = .ok (.invokevirtual 243, 3) := by decide +kernel
theorem dX12_costs_20 : decode cX12_costs 20 = .ok (.ifCond .eq 20, 3) := by decide +kernel
theorem dX12_costs_23 : decode cX12_costs 23 = .ok (.aload_n 0, 1) := by decide +kernel
theorem dX12_costs_24 : decode cX12_costs 24 = .ok (.getfield 13, 3) := by decide +kernel
theorem dX12_costs_27 : decode cX12_costs 27 = .ok (.bipush 66, 2) := by decide +kernel
theorem dX12_costs_29 : decode cX12_costs 29 = .ok (.iload_n 1, 1) := by decide +kernel
theorem dX12_costs_30 : decode cX12_costs 30 = .ok (.iadd, 1) := by decide +kernel
theorem dX12_costs_31 : decode cX12_costs 31 = .ok (.iaload, 1) := by decide +kernel
theorem dX12_costs_32 : decode cX12_costs 32 = .ok (.i2l, 1) := by decide +kernel
theorem dX12_costs_33 : decode cX12_costs 33 = .ok (.iload_n 2, 1) := by decide +kernel
theorem dX12_costs_34 : decode cX12_costs 34 = .ok (.invokestatic 207, 3) := by decide +kernel
theorem dX12_costs_37 : decode cX12_costs 37 = .ok (.ifCond .ne 7, 3) := by decide +kernel
theorem dX12_costs_40 : decode cX12_costs 40 = .ok (.ldc2_w 386, 3) := by decide +kernel
theorem dX12_costs_43 : decode cX12_costs 43 = .ok (.lreturn, 1) := by decide +kernel
theorem dX12_costs_44 : decode cX12_costs 44 = .ok (.aload_n 0, 1) := by decide +kernel
theorem dX12_costs_45 : decode cX12_costs 45 = .ok (.iload_n 1, 1) := by decide +kernel
theorem dX12_costs_46 : decode cX12_costs 46 = .ok (.aload_n 0, 1) := by decide +kernel
theorem dX12_costs_47 : decode cX12_costs 47 = .ok (.getfield 13, 3) := by decide +kernel
theorem dX12_costs_50 : decode cX12_costs 50 = .ok (.bipush 66, 2) := by decide +kernel
theorem dX12_costs_52 : decode cX12_costs 52 = .ok (.iload_n 1, 1) := by decide +kernel
theorem dX12_costs_53 : decode cX12_costs 53 = .ok (.iadd, 1) := by decide +kernel
theorem dX12_costs_54 : decode cX12_costs 54 = .ok (.iaload, 1) := by decide +kernel
theorem dX12_costs_55 : decode cX12_costs 55 = .ok (.invokevirtual 364, 3) := by decide +kernel
theorem dX12_costs_58 : decode cX12_costs 58 = .ok (.aload_n 0, 1) := by decide +kernel
theorem dX12_costs_59 : decode cX12_costs 59 = .ok (.iload_n 1, 1) := by decide +kernel
theorem dX12_costs_60 : decode cX12_costs 60 = .ok (.aload_n 0, 1) := by decide +kernel
theorem dX12_costs_61 : decode cX12_costs 61 = .ok (.getfield 13, 3) := by decide +kernel
theorem dX12_costs_64 : decode cX12_costs 64 = .ok (.bipush 66, 2) := by decide +kernel
theorem dX12_costs_66 : decode cX12_costs 66 = .ok (.iload_n 1, 1) := by decide +kernel
theorem dX12_costs_67 : decode cX12_costs 67 = .ok (.iadd, 1) := by decide +kernel
theorem dX12_costs_68 : decode cX12_costs 68 = .ok (.iaload, 1) := by decide +kernel
theorem dX12_costs_69 : decode cX12_costs 69 = .ok (.iconst 1, 1) := by decide +kernel
theorem dX12_costs_70 : decode cX12_costs 70 = .ok (.iload_n 2, 1) := by decide +kernel
theorem dX12_costs_71 : decode cX12_costs 71 = .ok (.ishl, 1) := by decide +kernel
theorem dX12_costs_72 : decode cX12_costs 72 = .ok (.iconst (-1), 1) := by decide +kernel
theorem dX12_costs_73 : decode cX12_costs 73 = .ok (.ixor, 1) := by decide +kernel
theorem dX12_costs_74 : decode cX12_costs 74 = .ok (.iand, 1) := by decide +kernel
theorem dX12_costs_75 : decode cX12_costs 75 = .ok (.invokevirtual 364, 3) := by decide +kernel
theorem dX12_costs_78 : decode cX12_costs 78 = .ok (.lsub, 1) := by decide +kernel
theorem dX12_costs_79 : decode cX12_costs 79 = .ok (.lreturn, 1) := by decide +kernel
theorem dX12_changeBy_0 : decode cX12_changeBy 0 = .ok (.aload_n 0, 1) := by decide +kernel
theorem dX12_changeBy_1 : decode cX12_changeBy 1 = .ok (.iload_n 1, 1) := by decide +kernel
theorem dX12_changeBy_2 : decode cX12_changeBy 2 = .ok (.aload_n 0, 1) := by decide +kernel
theorem dX12_changeBy_3 : decode cX12_changeBy 3 = .ok (.getfield 13, 3) := by decide +kernel
theorem dX12_changeBy_6 : decode cX12_changeBy 6 = .ok (.bipush 66, 2) := by decide +kernel
theorem dX12_changeBy_8 : decode cX12_changeBy 8 = .ok (.iload_n 1, 1) := by decide +kernel
theorem dX12_changeBy_9 : decode cX12_changeBy 9 = .ok (.iadd, 1) := by decide +kernel
theorem dX12_changeBy_10 : decode cX12_changeBy 10 = .ok (.iaload, 1) := by decide +kernel
theorem dX12_changeBy_11 : decode cX12_changeBy 11 = .ok (.invokevirtual 364, 3) := by decide +kernel
theorem dX12_changeBy_14 : decode cX12_changeBy 14 = .ok (.lstore_n 3, 1) := by decide +kernel
theorem dX12_changeBy_15 : decode cX12_changeBy 15 = .ok (.iconst (-1), 1) := by decide +kernel
theorem dX12_changeBy_16 : decode cX12_changeBy 16 = .ok (.istore 5, 2) := by decide +kernel
theorem dX12_changeBy_18 : decode cX12_changeBy 18 = .ok (.iconst 0, 1) := by decide +kernel
theorem dX12_changeBy_19 : decode cX12_changeBy 19 = .ok (.istore 6, 2) := by decide +kernel
theorem dX12_changeBy_21 : decode cX12_changeBy 21 = .ok (.iload 6, 2) := by decide +kernel
theorem dX12_changeBy_23 : decode cX12_changeBy 23 = .ok (.aload_n 0, 1) := by decide +kernel
theorem dX12_changeBy_24 : decode cX12_changeBy 24 = .ok (.getfield 13, 3) := by decide +kernel
theorem dX12_changeBy_27 : decode cX12_changeBy 27 = .ok (.iconst 1, 1) := by decide +kernel
theorem dX12_changeBy_28 : decode cX12_changeBy 28 = .ok (.iaload, 1) := by decide +kernel
theorem dX12_changeBy_29 : decode cX12_changeBy 29 = .ok (.if_icmp .ge 83, 3) := by decide +kernel
theorem dX12_changeBy_32 : decode cX12_changeBy 32 = .ok (.aload_n 0, 1) := by decide +kernel
theorem dX12_changeBy_33 : decode cX12_changeBy 33 = .ok (.getfield 13, 3) := by decide +kernel
theorem dX12_changeBy_36 : decode cX12_changeBy 36 = .ok (.bipush 66, 2) := by decide +kernel
theorem dX12_changeBy_38 : decode cX12_changeBy 38 = .ok (.iload_n 1, 1) := by decide +kernel
theorem dX12_changeBy_39 : decode cX12_changeBy 39 = .ok (.iadd, 1) := by decide +kernel
theorem dX12_changeBy_40 : decode cX12_changeBy 40 = .ok (.iaload, 1) := by decide +kernel
theorem dX12_changeBy_41 : decode cX12_changeBy 41 = .ok (.i2l, 1) := by decide +kernel
theorem dX12_changeBy_42 : decode cX12_changeBy 42 = .ok (.iload 6, 2) := by decide +kernel
theorem dX12_changeBy_44 : decode cX12_changeBy 44 = .ok (.invokestatic 207, 3) := by decide +kernel
theorem dX12_changeBy_47 : decode cX12_changeBy 47 = .ok (.iload_n 2, 1) := by decide +kernel
theorem dX12_changeBy_48 : decode cX12_changeBy 48 = .ok (.if_icmp .ne 58, 3) := by decide +kernel
theorem dX12_changeBy_51 : decode cX12_changeBy 51 = .ok (.iload 6, 2) := by decide +kernel
theorem dX12_changeBy_53 : decode cX12_changeBy 53 = .ok (.aload_n 0, 1) := by decide +kernel
theorem dX12_changeBy_54 : decode cX12_changeBy 54 = .ok (.getfield 13, 3) := by decide +kernel
theorem dX12_changeBy_57 : decode cX12_changeBy 57 = .ok (.bipush 60, 2) := by decide +kernel
theorem dX12_changeBy_59 : decode cX12_changeBy 59 = .ok (.iload_n 1, 1) := by decide +kernel
theorem dX12_changeBy_60 : decode cX12_changeBy 60 = .ok (.iadd, 1) := by decide +kernel
theorem dX12_changeBy_61 : decode cX12_changeBy 61 = .ok (.iaload, 1) := by decide +kernel
theorem dX12_changeBy_62 : decode cX12_changeBy 62 = .ok (.if_icmp .ne 6, 3) := by decide +kernel
theorem dX12_changeBy_65 : decode cX12_changeBy 65 = .ok (.goto 41, 3) := by decide +kernel
theorem dX12_changeBy_68 : decode cX12_changeBy 68 = .ok (.aload_n 0, 1) := by decide +kernel
theorem dX12_changeBy_69 : decode cX12_changeBy 69 = .ok (.iload_n 1, 1) := by decide +kernel
theorem dX12_changeBy_70 : decode cX12_changeBy 70 = .ok (.aload_n 0, 1) := by decide +kernel
theorem dX12_changeBy_71 : decode cX12_changeBy 71 = .ok (.getfield 13, 3) := by decide +kernel
theorem dX12_changeBy_74 : decode cX12_changeBy 74 = .ok (.bipush 66, 2) := by decide +kernel
theorem dX12_changeBy_76 : decode cX12_changeBy 76 = .ok (.iload_n 1, 1) := by decide +kernel
theorem dX12_changeBy_77 : decode cX12_changeBy 77 = .ok (.iadd, 1) := by decide +kernel
theorem dX12_changeBy_78 : decode cX12_changeBy 78 = .ok (.iaload, 1) := by decide +kernel
theorem dX12_changeBy_79 : decode cX12_changeBy 79 = .ok (.iconst 1, 1) := by decide +kernel
theorem dX12_changeBy_80 : decode cX12_changeBy 80 = .ok (.iload 6, 2) := by decide +kernel
theorem dX12_changeBy_82 : decode cX12_changeBy 82 = .ok (.ishl, 1) := by decide +kernel
theorem dX12_changeBy_83 : decode cX12_changeBy 83 = .ok (.ixor, 1) := by decide +kernel
theorem dX12_changeBy_84 : decode cX12_changeBy 84 = .ok (.invokevirtual 364, 3) := by decide +kernel
theorem dX12_changeBy_87 : decode cX12_changeBy 87 = .ok (.lstore 7, 2) := by decide +kernel
theorem dX12_changeBy_89 : decode cX12_changeBy 89 = .ok (.lload 7, 2) := by decide +kernel
theorem dX12_changeBy_91 : decode cX12_changeBy 91 = .ok (.lload_n 3, 1) := by decide +kernel
theorem dX12_changeBy_92 : decode cX12_changeBy 92 = .ok (.lcmp, 1) := by decide +kernel
theorem dX12_changeBy_93 : decode cX12_changeBy 93 = .ok (.ifCond .lt 6, 3) := by decide +kernel
theorem dX12_changeBy_96 : decode cX12_changeBy 96 = .ok (.goto 10, 3) := by decide +kernel
theorem dX12_changeBy_99 : decode cX12_changeBy 99 = .ok (.iload 6, 2) := by decide +kernel
theorem dX12_changeBy_101 : decode cX12_changeBy 101 = .ok (.istore 5, 2) := by decide +kernel
theorem dX12_changeBy_103 : decode cX12_changeBy 103 = .ok (.lload 7, 2) := by decide +kernel
theorem dX12_changeBy_105 : decode cX12_changeBy 105 = .ok (.lstore_n 3, 1) := by decide +kernel
theorem dX12_changeBy_106 : decode cX12_changeBy 106 = .ok (.iinc 6 1, 3) := by decide +kernel
theorem dX12_changeBy_109 : decode cX12_changeBy 109 = .ok (.goto (-88), 3) := by decide +kernel
theorem dX12_changeBy_112 : decode cX12_changeBy 112 = .ok (.iload 5, 2) := by decide +kernel
theorem dX12_changeBy_114 : decode cX12_changeBy 114 = .ok (.ireturn, 1) := by decide +kernel
theorem dX12_worstLight_0 : decode cX12_worstLight 0 = .ok (.aload_n 0, 1) := by decide +kernel
theorem dX12_worstLight_1 : decode cX12_worstLight 1 = .ok (.iconst 0, 1) := by decide +kernel
theorem dX12_worstLight_2 : decode cX12_worstLight 2 = .ok (.putfield 1, 3) := by decide +kernel
theorem dX12_worstLight_5 : decode cX12_worstLight 5 = .ok (.aload_n 0, 1) := by decide +kernel
theorem dX12_worstLight_6 : decode cX12_worstLight 6 = .ok (.iload_n 1, 1) := by decide +kernel
theorem dX12_worstLight_7 : decode cX12_worstLight 7 = .ok (.i2l, 1) := by decide +kernel
theorem dX12_worstLight_8 : decode cX12_worstLight 8 = .ok (.invokevirtual 230, 3) := by decide +kernel
theorem dX12_worstLight_11 : decode cX12_worstLight 11 = .ok (.ifCond .eq 12, 3) := by decide +kernel
theorem dX12_worstLight_14 : decode cX12_worstLight 14 = .ok (.aload_n 0, 1) := by decide +kernel
theorem dX12_worstLight_15 : decode cX12_worstLight 15 = .ok (.iload_n 1, 1) := by decide +kernel
theorem dX12_worstLight_16 : decode cX12_worstLight 16 = .ok (.iconst 1, 1) := by decide +kernel
theorem dX12_worstLight_17 : decode cX12_worstLight 17 = .ok (.invokevirtual 388, 3) := by decide +kernel
theorem dX12_worstLight_20 : decode cX12_worstLight 20 = .ok (.goto 5, 3) := by decide +kernel
theorem dX12_worstLight_23 : decode cX12_worstLight 23 = .ok (.bipush (-2), 2) := by decide +kernel
theorem dX12_worstLight_25 : decode cX12_worstLight 25 = .ok (.ireturn, 1) := by decide +kernel
theorem dX12_bestLight_0 : decode cX12_bestLight 0 = .ok (.aload_n 0, 1) := by decide +kernel
theorem dX12_bestLight_1 : decode cX12_bestLight 1 = .ok (.iconst 0, 1) := by decide +kernel
theorem dX12_bestLight_2 : decode cX12_bestLight 2 = .ok (.putfield 1, 3) := by decide +kernel
theorem dX12_bestLight_5 : decode cX12_bestLight 5 = .ok (.aload_n 0, 1) := by decide +kernel
theorem dX12_bestLight_6 : decode cX12_bestLight 6 = .ok (.iload_n 1, 1) := by decide +kernel
theorem dX12_bestLight_7 : decode cX12_bestLight 7 = .ok (.i2l, 1) := by decide +kernel
theorem dX12_bestLight_8 : decode cX12_bestLight 8 = .ok (.invokevirtual 230, 3) := by decide +kernel
theorem dX12_bestLight_11 : decode cX12_bestLight 11 = .ok (.ifCond .eq 12, 3) := by decide +kernel
theorem dX12_bestLight_14 : decode cX12_bestLight 14 = .ok (.aload_n 0, 1) := by decide +kernel
theorem dX12_bestLight_15 : decode cX12_bestLight 15 = .ok (.iload_n 1, 1) := by decide +kernel
theorem dX12_bestLight_16 : decode cX12_bestLight 16 = .ok (.iconst 0, 1) := by decide +kernel
theorem dX12_bestLight_17 : decode cX12_bestLight 17 = .ok (.invokevirtual 388, 3) := by decide +kernel
theorem dX12_bestLight_20 : decode cX12_bestLight 20 = .ok (.goto 5, 3) := by decide +kernel
theorem dX12_bestLight_23 : decode cX12_bestLight 23 = .ok (.bipush (-2), 2) := by decide +kernel
theorem dX12_bestLight_25 : decode cX12_bestLight 25 = .ok (.ireturn, 1) := by decide +kernel
theorem dX12_common_0 : decode cX12_common 0 = .ok (.lload_n 2, 1) := by decide +kernel
theorem dX12_common_1 : decode cX12_common 1 = .ok (.lconst 0, 1) := by decide +kernel
theorem dX12_common_2 : decode cX12_common 2 = .ok (.lcmp, 1) := by decide +kernel
theorem dX12_common_3 : decode cX12_common 3 = .ok (.ifCond .ne 18, 3) := by decide +kernel
theorem dX12_common_6 : decode cX12_common 6 = .ok (.lload_n 0, 1) := by decide +kernel
theorem dX12_common_7 : decode cX12_common 7 = .ok (.lconst 0, 1) := by decide +kernel
theorem dX12_common_8 : decode cX12_common 8 = .ok (.lcmp, 1) := by decide +kernel
theorem dX12_common_9 : decode cX12_common 9 = .ok (.ifCond .ge 8, 3) := by decide +kernel
theorem dX12_common_12 : decode cX12_common 12 = .ok (.lload_n 0, 1) := by decide +kernel
theorem dX12_common_13 : decode cX12_common 13 = .ok (.lneg, 1) := by decide +kernel
theorem dX12_common_14 : decode cX12_common 14 = .ok (.goto 14, 3) := by decide +kernel
theorem dX12_common_17 : decode cX12_common 17 = .ok (.lload_n 0, 1) := by decide +kernel
theorem dX12_common_18 : decode cX12_common 18 = .ok (.goto 10, 3) := by decide +kernel
theorem dX12_common_21 : decode cX12_common 21 = .ok (.lload_n 2, 1) := by decide +kernel
theorem dX12_common_22 : decode cX12_common 22 = .ok (.lload_n 0, 1) := by decide +kernel
theorem dX12_common_23 : decode cX12_common 23 = .ok (.lload_n 2, 1) := by decide +kernel
theorem dX12_common_24 : decode cX12_common 24 = .ok (.lrem, 1) := by decide +kernel
theorem dX12_common_25 : decode cX12_common 25 = .ok (.invokestatic 391, 3) := by decide +kernel
theorem dX12_common_28 : decode cX12_common 28 = .ok (.lreturn, 1) := by decide +kernel
theorem dX12_boy_0 : decode cX12_boy 0 = .ok (.aload_n 0, 1) := by decide +kernel
theorem dX12_boy_1 : decode cX12_boy 1 = .ok (.iconst 0, 1) := by decide +kernel
theorem dX12_boy_2 : decode cX12_boy 2 = .ok (.putfield 1, 3) := by decide +kernel
theorem dX12_boy_5 : decode cX12_boy 5 = .ok (.aload_n 0, 1) := by decide +kernel
theorem dX12_boy_6 : decode cX12_boy 6 = .ok (.iload_n 1, 1) := by decide +kernel
theorem dX12_boy_7 : decode cX12_boy 7 = .ok (.i2l, 1) := by decide +kernel
theorem dX12_boy_8 : decode cX12_boy 8 = .ok (.invokevirtual 230, 3) := by decide +kernel
theorem dX12_boy_11 : decode cX12_boy 11 = .ok (.ifCond .eq 25, 3) := by decide +kernel
theorem dX12_boy_14 : decode cX12_boy 14 = .ok (.iload_n 3, 1) := by decide +kernel
theorem dX12_boy_15 : decode cX12_boy 15 = .ok (.i2l, 1) := by decide +kernel
theorem dX12_boy_16 : decode cX12_boy 16 = .ok (.lconst 0, 1) := by decide +kernel
theorem dX12_boy_17 : decode cX12_boy 17 = .ok (.lconst 1, 1) := by decide +kernel
theorem dX12_boy_18 : decode cX12_boy 18 = .ok (.invokestatic 118, 3) := by decide +kernel
theorem dX12_boy_21 : decode cX12_boy 21 = .ok (.ifCond .eq 15, 3) := by decide +kernel
theorem dX12_boy_24 : decode cX12_boy 24 = .ok (.iload_n 2, 1) := by decide +kernel
theorem dX12_boy_25 : decode cX12_boy 25 = .ok (.i2l, 1) := by decide +kernel
theorem dX12_boy_26 : decode cX12_boy 26 = .ok (.lconst 0, 1) := by decide +kernel
theorem dX12_boy_27 : decode cX12_boy 27 = .ok (.ldc2_w 249, 3) := by decide +kernel
theorem dX12_boy_30 : decode cX12_boy 30 = .ok (.invokestatic 118, 3) := by decide +kernel
theorem dX12_boy_33 : decode cX12_boy 33 = .ok (.ifCond .ne 7, 3) := by decide +kernel
theorem dX12_boy_36 : decode cX12_boy 36 = .ok (.ldc2_w 386, 3) := by decide +kernel
theorem dX12_boy_39 : decode cX12_boy 39 = .ok (.lreturn, 1) := by decide +kernel
theorem dX12_boy_40 : decode cX12_boy 40 = .ok (.iconst 1, 1) := by decide +kernel
theorem dX12_boy_41 : decode cX12_boy 41 = .ok (.aload_n 0, 1) := by decide +kernel
theorem dX12_boy_42 : decode cX12_boy 42 = .ok (.getfield 13, 3) := by decide +kernel
theorem dX12_boy_45 : decode cX12_boy 45 = .ok (.iconst 1, 1) := by decide +kernel
theorem dX12_boy_46 : decode cX12_boy 46 = .ok (.iaload, 1) := by decide +kernel
theorem dX12_boy_47 : decode cX12_boy 47 = .ok (.ishl, 1) := by decide +kernel
theorem dX12_boy_48 : decode cX12_boy 48 = .ok (.iconst 1, 1) := by decide +kernel
theorem dX12_boy_49 : decode cX12_boy 49 = .ok (.isub, 1) := by decide +kernel
theorem dX12_boy_50 : decode cX12_boy 50 = .ok (.aload_n 0, 1) := by decide +kernel
theorem dX12_boy_51 : decode cX12_boy 51 = .ok (.getfield 13, 3) := by decide +kernel
theorem dX12_boy_54 : decode cX12_boy 54 = .ok (.bipush 66, 2) := by decide +kernel
theorem dX12_boy_56 : decode cX12_boy 56 = .ok (.iload_n 1, 1) := by decide +kernel
theorem dX12_boy_57 : decode cX12_boy 57 = .ok (.iadd, 1) := by decide +kernel
theorem dX12_boy_58 : decode cX12_boy 58 = .ok (.iaload, 1) := by decide +kernel
theorem dX12_boy_59 : decode cX12_boy 59 = .ok (.iconst (-1), 1) := by decide +kernel
theorem dX12_boy_60 : decode cX12_boy 60 = .ok (.ixor, 1) := by decide +kernel
theorem dX12_boy_61 : decode cX12_boy 61 = .ok (.iand, 1) := by decide +kernel
theorem dX12_boy_62 : decode cX12_boy 62 = .ok (.iconst 1, 1) := by decide +kernel
theorem dX12_boy_63 : decode cX12_boy 63 = .ok (.aload_n 0, 1) := by decide +kernel
theorem dX12_boy_64 : decode cX12_boy 64 = .ok (.getfield 13, 3) := by decide +kernel
theorem dX12_boy_67 : decode cX12_boy 67 = .ok (.bipush 60, 2) := by decide +kernel
theorem dX12_boy_69 : decode cX12_boy 69 = .ok (.iload_n 1, 1) := by decide +kernel
theorem dX12_boy_70 : decode cX12_boy 70 = .ok (.iadd, 1) := by decide +kernel
theorem dX12_boy_71 : decode cX12_boy 71 = .ok (.iaload, 1) := by decide +kernel
theorem dX12_boy_72 : decode cX12_boy 72 = .ok (.ishl, 1) := by decide +kernel
theorem dX12_boy_73 : decode cX12_boy 73 = .ok (.iconst (-1), 1) := by decide +kernel
theorem dX12_boy_74 : decode cX12_boy 74 = .ok (.ixor, 1) := by decide +kernel
theorem dX12_boy_75 : decode cX12_boy 75 = .ok (.iand, 1) := by decide +kernel
theorem dX12_boy_76 : decode cX12_boy 76 = .ok (.istore 4, 2) := by decide +kernel
theorem dX12_boy_78 : decode cX12_boy 78 = .ok (.iload_n 2, 1) := by decide +kernel
theorem dX12_boy_79 : decode cX12_boy 79 = .ok (.iload 4, 2) := by decide +kernel
theorem dX12_boy_81 : decode cX12_boy 81 = .ok (.invokestatic 224, 3) := by decide +kernel
theorem dX12_boy_84 : decode cX12_boy 84 = .ok (.if_icmp .le 7, 3) := by decide +kernel
theorem dX12_boy_87 : decode cX12_boy 87 = .ok (.ldc2_w 386, 3) := by decide +kernel
theorem dX12_boy_90 : decode cX12_boy 90 = .ok (.lreturn, 1) := by decide +kernel
theorem dX12_boy_91 : decode cX12_boy 91 = .ok (.aload_n 0, 1) := by decide +kernel
theorem dX12_boy_92 : decode cX12_boy 92 = .ok (.iload_n 1, 1) := by decide +kernel
theorem dX12_boy_93 : decode cX12_boy 93 = .ok (.aload_n 0, 1) := by decide +kernel
theorem dX12_boy_94 : decode cX12_boy 94 = .ok (.getfield 13, 3) := by decide +kernel
theorem dX12_boy_97 : decode cX12_boy 97 = .ok (.bipush 66, 2) := by decide +kernel
theorem dX12_boy_99 : decode cX12_boy 99 = .ok (.iload_n 1, 1) := by decide +kernel
theorem dX12_boy_100 : decode cX12_boy 100 = .ok (.iadd, 1) := by decide +kernel
theorem dX12_boy_101 : decode cX12_boy 101 = .ok (.iaload, 1) := by decide +kernel
theorem dX12_boy_102 : decode cX12_boy 102 = .ok (.invokevirtual 364, 3) := by decide +kernel
theorem dX12_boy_105 : decode cX12_boy 105 = .ok (.lstore 5, 2) := by decide +kernel
theorem dX12_boy_107 : decode cX12_boy 107 = .ok (.lconst 0, 1) := by decide +kernel
theorem dX12_boy_108 : decode cX12_boy 108 = .ok (.lstore 7, 2) := by decide +kernel
theorem dX12_boy_110 : decode cX12_boy 110 = .ok (.lconst 0, 1) := by decide +kernel
theorem dX12_boy_111 : decode cX12_boy 111 = .ok (.lstore 9, 2) := by decide +kernel
theorem dX12_boy_113 : decode cX12_boy 113 = .ok (.iconst 0, 1) := by decide +kernel
theorem dX12_boy_114 : decode cX12_boy 114 = .ok (.istore 11, 2) := by decide +kernel
theorem dX12_boy_116 : decode cX12_boy 116 = .ok (.iload 11, 2) := by decide +kernel
theorem dX12_boy_118 : decode cX12_boy 118 = .ok (.iload 4, 2) := by decide +kernel
theorem dX12_boy_120 : decode cX12_boy 120 = .ok (.if_icmp .gt 62, 3) := by decide +kernel
theorem dX12_boy_123 : decode cX12_boy 123 = .ok (.iload 11, 2) := by decide +kernel
theorem dX12_boy_125 : decode cX12_boy 125 = .ok (.iload 4, 2) := by decide +kernel
theorem dX12_boy_127 : decode cX12_boy 127 = .ok (.iconst (-1), 1) := by decide +kernel
theorem dX12_boy_128 : decode cX12_boy 128 = .ok (.ixor, 1) := by decide +kernel
theorem dX12_boy_129 : decode cX12_boy 129 = .ok (.iand, 1) := by decide +kernel
theorem dX12_boy_130 : decode cX12_boy 130 = .ok (.ifCond .ne 46, 3) := by decide +kernel
theorem dX12_boy_133 : decode cX12_boy 133 = .ok (.iload 11, 2) := by decide +kernel
theorem dX12_boy_135 : decode cX12_boy 135 = .ok (.invokestatic 224, 3) := by decide +kernel
theorem dX12_boy_138 : decode cX12_boy 138 = .ok (.iload_n 2, 1) := by decide +kernel
theorem dX12_boy_139 : decode cX12_boy 139 = .ok (.if_icmp .eq 6, 3) := by decide +kernel
theorem dX12_boy_142 : decode cX12_boy 142 = .ok (.goto 34, 3) := by decide +kernel
theorem dX12_boy_145 : decode cX12_boy 145 = .ok (.lload 7, 2) := by decide +kernel
theorem dX12_boy_147 : decode cX12_boy 147 = .ok (.aload_n 0, 1) := by decide +kernel
theorem dX12_boy_148 : decode cX12_boy 148 = .ok (.iload_n 1, 1) := by decide +kernel
theorem dX12_boy_149 : decode cX12_boy 149 = .ok (.aload_n 0, 1) := by decide +kernel
theorem dX12_boy_150 : decode cX12_boy 150 = .ok (.getfield 13, 3) := by decide +kernel
theorem dX12_boy_153 : decode cX12_boy 153 = .ok (.bipush 66, 2) := by decide +kernel
theorem dX12_boy_155 : decode cX12_boy 155 = .ok (.iload_n 1, 1) := by decide +kernel
theorem dX12_boy_156 : decode cX12_boy 156 = .ok (.iadd, 1) := by decide +kernel
theorem dX12_boy_157 : decode cX12_boy 157 = .ok (.iaload, 1) := by decide +kernel
theorem dX12_boy_158 : decode cX12_boy 158 = .ok (.iload 11, 2) := by decide +kernel
theorem dX12_boy_160 : decode cX12_boy 160 = .ok (.ior, 1) := by decide +kernel
theorem dX12_boy_161 : decode cX12_boy 161 = .ok (.invokevirtual 364, 3) := by decide +kernel
theorem dX12_boy_164 : decode cX12_boy 164 = .ok (.lload 5, 2) := by decide +kernel
theorem dX12_boy_166 : decode cX12_boy 166 = .ok (.lsub, 1) := by decide +kernel
theorem dX12_boy_167 : decode cX12_boy 167 = .ok (.ladd, 1) := by decide +kernel
theorem dX12_boy_168 : decode cX12_boy 168 = .ok (.lstore 7, 2) := by decide +kernel
theorem dX12_boy_170 : decode cX12_boy 170 = .ok (.lload 9, 2) := by decide +kernel
theorem dX12_boy_172 : decode cX12_boy 172 = .ok (.lconst 1, 1) := by decide +kernel
theorem dX12_boy_173 : decode cX12_boy 173 = .ok (.ladd, 1) := by decide +kernel
theorem dX12_boy_174 : decode cX12_boy 174 = .ok (.lstore 9, 2) := by decide +kernel
theorem dX12_boy_176 : decode cX12_boy 176 = .ok (.iinc 11 1, 3) := by decide +kernel
theorem dX12_boy_179 : decode cX12_boy 179 = .ok (.goto (-63), 3) := by decide +kernel
theorem dX12_boy_182 : decode cX12_boy 182 = .ok (.lload 7, 2) := by decide +kernel
theorem dX12_boy_184 : decode cX12_boy 184 = .ok (.lload 9, 2) := by decide +kernel
theorem dX12_boy_186 : decode cX12_boy 186 = .ok (.invokestatic 391, 3) := by decide +kernel
theorem dX12_boy_189 : decode cX12_boy 189 = .ok (.lstore 11, 2) := by decide +kernel
theorem dX12_boy_191 : decode cX12_boy 191 = .ok (.iload_n 3, 1) := by decide +kernel
theorem dX12_boy_192 : decode cX12_boy 192 = .ok (.ifCond .ne 11, 3) := by decide +kernel
theorem dX12_boy_195 : decode cX12_boy 195 = .ok (.lload 7, 2) := by decide +kernel
theorem dX12_boy_197 : decode cX12_boy 197 = .ok (.lload 11, 2) := by decide +kernel
theorem dX12_boy_199 : decode cX12_boy 199 = .ok (.ldiv, 1) := by decide +kernel
theorem dX12_boy_200 : decode cX12_boy 200 = .ok (.goto 8, 3) := by decide +kernel
theorem dX12_boy_203 : decode cX12_boy 203 = .ok (.lload 9, 2) := by decide +kernel
theorem dX12_boy_205 : decode cX12_boy 205 = .ok (.lload 11, 2) := by decide +kernel
theorem dX12_boy_207 : decode cX12_boy 207 = .ok (.ldiv, 1) := by decide +kernel
theorem dX12_boy_208 : decode cX12_boy 208 = .ok (.lreturn, 1) := by decide +kernel
theorem dX12_isParted_0 : decode cX12_isParted 0 = .ok (.aload_n 0, 1) := by decide +kernel
theorem dX12_isParted_1 : decode cX12_isParted 1 = .ok (.getfield 13, 3) := by decide +kernel
theorem dX12_isParted_4 : decode cX12_isParted 4 = .ok (.bipush 72, 2) := by decide +kernel
theorem dX12_isParted_6 : decode cX12_isParted 6 = .ok (.iload_n 1, 1) := by decide +kernel
theorem dX12_isParted_7 : decode cX12_isParted 7 = .ok (.iadd, 1) := by decide +kernel
theorem dX12_isParted_8 : decode cX12_isParted 8 = .ok (.iaload, 1) := by decide +kernel
theorem dX12_isParted_9 : decode cX12_isParted 9 = .ok (.aload_n 0, 1) := by decide +kernel
theorem dX12_isParted_10 : decode cX12_isParted 10 = .ok (.getfield 13, 3) := by decide +kernel
theorem dX12_isParted_13 : decode cX12_isParted 13 = .ok (.bipush 60, 2) := by decide +kernel
theorem dX12_isParted_15 : decode cX12_isParted 15 = .ok (.iload_n 2, 1) := by decide +kernel
theorem dX12_isParted_16 : decode cX12_isParted 16 = .ok (.iadd, 1) := by decide +kernel
theorem dX12_isParted_17 : decode cX12_isParted 17 = .ok (.iaload, 1) := by decide +kernel
theorem dX12_isParted_18 : decode cX12_isParted 18 = .ok (.if_icmp .ne 67, 3) := by decide +kernel
theorem dX12_isParted_21 : decode cX12_isParted 21 = .ok (.aload_n 0, 1) := by decide +kernel
theorem dX12_isParted_22 : decode cX12_isParted 22 = .ok (.getfield 13, 3) := by decide +kernel
theorem dX12_isParted_25 : decode cX12_isParted 25 = .ok (.bipush 28, 2) := by decide +kernel
theorem dX12_isParted_27 : decode cX12_isParted 27 = .ok (.iload_n 1, 1) := by decide +kernel
theorem dX12_isParted_28 : decode cX12_isParted 28 = .ok (.iadd, 1) := by decide +kernel
theorem dX12_isParted_29 : decode cX12_isParted 29 = .ok (.iaload, 1) := by decide +kernel
theorem dX12_isParted_30 : decode cX12_isParted 30 = .ok (.aload_n 0, 1) := by decide +kernel
theorem dX12_isParted_31 : decode cX12_isParted 31 = .ok (.getfield 13, 3) := by decide +kernel
theorem dX12_isParted_34 : decode cX12_isParted 34 = .ok (.bipush 60, 2) := by decide +kernel
theorem dX12_isParted_36 : decode cX12_isParted 36 = .ok (.iload_n 2, 1) := by decide +kernel
theorem dX12_isParted_37 : decode cX12_isParted 37 = .ok (.iadd, 1) := by decide +kernel
theorem dX12_isParted_38 : decode cX12_isParted 38 = .ok (.iaload, 1) := by decide +kernel
theorem dX12_isParted_39 : decode cX12_isParted 39 = .ok (.if_icmp .eq 46, 3) := by decide +kernel
theorem dX12_isParted_42 : decode cX12_isParted 42 = .ok (.aload_n 0, 1) := by decide +kernel
theorem dX12_isParted_43 : decode cX12_isParted 43 = .ok (.getfield 13, 3) := by decide +kernel
theorem dX12_isParted_46 : decode cX12_isParted 46 = .ok (.bipush 88, 2) := by decide +kernel
theorem dX12_isParted_48 : decode cX12_isParted 48 = .ok (.iload_n 1, 1) := by decide +kernel
theorem dX12_isParted_49 : decode cX12_isParted 49 = .ok (.iadd, 1) := by decide +kernel
theorem dX12_isParted_50 : decode cX12_isParted 50 = .ok (.iaload, 1) := by decide +kernel
theorem dX12_isParted_51 : decode cX12_isParted 51 = .ok (.iconst (-1), 1) := by decide +kernel
theorem dX12_isParted_52 : decode cX12_isParted 52 = .ok (.if_icmp .eq 29, 3) := by decide +kernel
theorem dX12_isParted_55 : decode cX12_isParted 55 = .ok (.aload_n 0, 1) := by decide +kernel
theorem dX12_isParted_56 : decode cX12_isParted 56 = .ok (.getfield 13, 3) := by decide +kernel
theorem dX12_isParted_59 : decode cX12_isParted 59 = .ok (.bipush 88, 2) := by decide +kernel
theorem dX12_isParted_61 : decode cX12_isParted 61 = .ok (.iload_n 1, 1) := by decide +kernel
theorem dX12_isParted_62 : decode cX12_isParted 62 = .ok (.iadd, 1) := by decide +kernel
theorem dX12_isParted_63 : decode cX12_isParted 63 = .ok (.iaload, 1) := by decide +kernel
theorem dX12_isParted_64 : decode cX12_isParted 64 = .ok (.iload_n 2, 1) := by decide +kernel
theorem dX12_isParted_65 : decode cX12_isParted 65 = .ok (.if_icmp .eq 16, 3) := by decide +kernel
theorem dX12_isParted_68 : decode cX12_isParted 68 = .ok (.aload_n 0, 1) := by decide +kernel
theorem dX12_isParted_69 : decode cX12_isParted 69 = .ok (.getfield 13, 3) := by decide +kernel
theorem dX12_isParted_72 : decode cX12_isParted 72 = .ok (.bipush 88, 2) := by decide +kernel
theorem dX12_isParted_74 : decode cX12_isParted 74 = .ok (.iload_n 1, 1) := by decide +kernel
theorem dX12_isParted_75 : decode cX12_isParted 75 = .ok (.iadd, 1) := by decide +kernel
theorem dX12_isParted_76 : decode cX12_isParted 76 = .ok (.iaload, 1) := by decide +kernel
theorem dX12_isParted_77 : decode cX12_isParted 77 = .ok (.iload_n 3, 1) := by decide +kernel
theorem dX12_isParted_78 : decode cX12_isParted 78 = .ok (.if_icmp .ne 7, 3) := by decide +kernel
theorem dX12_isParted_81 : decode cX12_isParted 81 = .ok (.iconst 1, 1) := by decide +kernel
theorem dX12_isParted_82 : decode cX12_isParted 82 = .ok (.goto 4, 3) := by decide +kernel
theorem dX12_isParted_85 : decode cX12_isParted 85 = .ok (.iconst 0, 1) := by decide +kernel
theorem dX12_isParted_86 : decode cX12_isParted 86 = .ok (.ireturn, 1) := by decide +kernel
theorem dX12_takesTo_0 : decode cX12_takesTo 0 = .ok (.lconst 0, 1) := by decide +kernel
theorem dX12_takesTo_1 : decode cX12_takesTo 1 = .ok (.lstore 5, 2) := by decide +kernel
theorem dX12_takesTo_3 : decode cX12_takesTo 3 = .ok (.aload_n 0, 1) := by decide +kernel
theorem dX12_takesTo_4 : decode cX12_takesTo 4 = .ok (.iload_n 1, 1) := by decide +kernel
theorem dX12_takesTo_5 : decode cX12_takesTo 5 = .ok (.invokevirtual 234, 3) := by decide +kernel
theorem dX12_takesTo_8 : decode cX12_takesTo 8 = .ok (.aload_n 0, 1) := by decide +kernel
theorem dX12_takesTo_9 : decode cX12_takesTo 9 = .ok (.iload 4, 2) := by decide +kernel
theorem dX12_takesTo_11 : decode cX12_takesTo 11 = .ok (.putfield 200, 3) := by decide +kernel
theorem dX12_takesTo_14 : decode cX12_takesTo 14 = .ok (.iconst 0, 1) := by decide +kernel
theorem dX12_takesTo_15 : decode cX12_takesTo 15 = .ok (.istore 7, 2) := by decide +kernel
theorem dX12_takesTo_17 : decode cX12_takesTo 17 = .ok (.iload 7, 2) := by decide +kernel
theorem dX12_takesTo_19 : decode cX12_takesTo 19 = .ok (.aload_n 0, 1) := by decide +kernel
theorem dX12_takesTo_20 : decode cX12_takesTo 20 = .ok (.getfield 13, 3) := by decide +kernel
theorem dX12_takesTo_23 : decode cX12_takesTo 23 = .ok (.iconst 3, 1) := by decide +kernel
theorem dX12_takesTo_24 : decode cX12_takesTo 24 = .ok (.iaload, 1) := by decide +kernel
theorem dX12_takesTo_25 : decode cX12_takesTo 25 = .ok (.if_icmp .ge 70, 3) := by decide +kernel
theorem dX12_takesTo_28 : decode cX12_takesTo 28 = .ok (.aload_n 0, 1) := by decide +kernel
theorem dX12_takesTo_29 : decode cX12_takesTo 29 = .ok (.iload 7, 2) := by decide +kernel
theorem dX12_takesTo_31 : decode cX12_takesTo 31 = .ok (.iload_n 2, 1) := by decide +kernel
theorem dX12_takesTo_32 : decode cX12_takesTo 32 = .ok (.iload_n 3, 1) := by decide +kernel
theorem dX12_takesTo_33 : decode cX12_takesTo 33 = .ok (.invokevirtual 395, 3) := by decide +kernel
theorem dX12_takesTo_36 : decode cX12_takesTo 36 = .ok (.ifCond .eq 53, 3) := by decide +kernel
theorem dX12_takesTo_39 : decode cX12_takesTo 39 = .ok (.iload 4, 2) := by decide +kernel
theorem dX12_takesTo_41 : decode cX12_takesTo 41 = .ok (.i2l, 1) := by decide +kernel
theorem dX12_takesTo_42 : decode cX12_takesTo 42 = .ok (.aload_n 0, 1) := by decide +kernel
theorem dX12_takesTo_43 : decode cX12_takesTo 43 = .ok (.getfield 13, 3) := by decide +kernel
theorem dX12_takesTo_46 : decode cX12_takesTo 46 = .ok (.bipush 28, 2) := by decide +kernel
theorem dX12_takesTo_48 : decode cX12_takesTo 48 = .ok (.iload 7, 2) := by decide +kernel
theorem dX12_takesTo_50 : decode cX12_takesTo 50 = .ok (.iadd, 1) := by decide +kernel
theorem dX12_takesTo_51 : decode cX12_takesTo 51 = .ok (.iaload, 1) := by decide +kernel
theorem dX12_takesTo_52 : decode cX12_takesTo 52 = .ok (.invokestatic 207, 3) := by decide +kernel
theorem dX12_takesTo_55 : decode cX12_takesTo 55 = .ok (.ifCond .eq 34, 3) := by decide +kernel
theorem dX12_takesTo_58 : decode cX12_takesTo 58 = .ok (.aload_n 0, 1) := by decide +kernel
theorem dX12_takesTo_59 : decode cX12_takesTo 59 = .ok (.getfield 197, 3) := by decide +kernel
theorem dX12_takesTo_62 : decode cX12_takesTo 62 = .ok (.aload_n 0, 1) := by decide +kernel
theorem dX12_takesTo_63 : decode cX12_takesTo 63 = .ok (.getfield 13, 3) := by decide +kernel
theorem dX12_takesTo_66 : decode cX12_takesTo 66 = .ok (.bipush 80, 2) := by decide +kernel
theorem dX12_takesTo_68 : decode cX12_takesTo 68 = .ok (.iload 7, 2) := by decide +kernel
theorem dX12_takesTo_70 : decode cX12_takesTo 70 = .ok (.iadd, 1) := by decide +kernel
theorem dX12_takesTo_71 : decode cX12_takesTo 71 = .ok (.iaload, 1) := by decide +kernel
theorem dX12_takesTo_72 : decode cX12_takesTo 72 = .ok (.if_icmp .ge 17, 3) := by decide +kernel
theorem dX12_takesTo_75 : decode cX12_takesTo 75 = .ok (.aload_n 0, 1) := by decide +kernel
theorem dX12_takesTo_76 : decode cX12_takesTo 76 = .ok (.aload_n 0, 1) := by decide +kernel
theorem dX12_takesTo_77 : decode cX12_takesTo 77 = .ok (.getfield 13, 3) := by decide +kernel
theorem dX12_takesTo_80 : decode cX12_takesTo 80 = .ok (.bipush 80, 2) := by decide +kernel
theorem dX12_takesTo_82 : decode cX12_takesTo 82 = .ok (.iload 7, 2) := by decide +kernel
theorem dX12_takesTo_84 : decode cX12_takesTo 84 = .ok (.iadd, 1) := by decide +kernel
theorem dX12_takesTo_85 : decode cX12_takesTo 85 = .ok (.iaload, 1) := by decide +kernel
theorem dX12_takesTo_86 : decode cX12_takesTo 86 = .ok (.putfield 197, 3) := by decide +kernel
theorem dX12_takesTo_89 : decode cX12_takesTo 89 = .ok (.iinc 7 1, 3) := by decide +kernel
theorem dX12_takesTo_92 : decode cX12_takesTo 92 = .ok (.goto (-75), 3) := by decide +kernel
theorem dX12_takesTo_95 : decode cX12_takesTo 95 = .ok (.aload_n 0, 1) := by decide +kernel
theorem dX12_takesTo_96 : decode cX12_takesTo 96 = .ok (.getfield 200, 3) := by decide +kernel
theorem dX12_takesTo_99 : decode cX12_takesTo 99 = .ok (.ifCond .eq 80, 3) := by decide +kernel
theorem dX12_takesTo_102 : decode cX12_takesTo 102 = .ok (.aload_n 0, 1) := by decide +kernel
theorem dX12_takesTo_103 : decode cX12_takesTo 103 = .ok (.invokevirtual 251, 3) := by decide +kernel
theorem dX12_takesTo_106 : decode cX12_takesTo 106 = .ok (.istore 7, 2) := by decide +kernel
theorem dX12_takesTo_108 : decode cX12_takesTo 108 = .ok (.iconst 0, 1) := by decide +kernel
theorem dX12_takesTo_109 : decode cX12_takesTo 109 = .ok (.istore 8, 2) := by decide +kernel
theorem dX12_takesTo_111 : decode cX12_takesTo 111 = .ok (.iload 8, 2) := by decide +kernel
theorem dX12_takesTo_113 : decode cX12_takesTo 113 = .ok (.aload_n 0, 1) := by decide +kernel
theorem dX12_takesTo_114 : decode cX12_takesTo 114 = .ok (.getfield 13, 3) := by decide +kernel
theorem dX12_takesTo_117 : decode cX12_takesTo 117 = .ok (.iconst 3, 1) := by decide +kernel
theorem dX12_takesTo_118 : decode cX12_takesTo 118 = .ok (.iaload, 1) := by decide +kernel
theorem dX12_takesTo_119 : decode cX12_takesTo 119 = .ok (.if_icmp .ge 57, 3) := by decide +kernel
theorem dX12_takesTo_122 : decode cX12_takesTo 122 = .ok (.aload_n 0, 1) := by decide +kernel
theorem dX12_takesTo_123 : decode cX12_takesTo 123 = .ok (.iload 8, 2) := by decide +kernel
theorem dX12_takesTo_125 : decode cX12_takesTo 125 = .ok (.iload_n 2, 1) := by decide +kernel
theorem dX12_takesTo_126 : decode cX12_takesTo 126 = .ok (.iload_n 3, 1) := by decide +kernel
theorem dX12_takesTo_127 : decode cX12_takesTo 127 = .ok (.invokevirtual 395, 3) := by decide +kernel
theorem dX12_takesTo_130 : decode cX12_takesTo 130 = .ok (.ifCond .eq 40, 3) := by decide +kernel
theorem dX12_takesTo_133 : decode cX12_takesTo 133 = .ok (.aload_n 0, 1) := by decide +kernel
theorem dX12_takesTo_134 : decode cX12_takesTo 134 = .ok (.getfield 13, 3) := by decide +kernel
theorem dX12_takesTo_137 : decode cX12_takesTo 137 = .ok (.bipush 28, 2) := by decide +kernel
theorem dX12_takesTo_139 : decode cX12_takesTo 139 = .ok (.iload 8, 2) := by decide +kernel
theorem dX12_takesTo_141 : decode cX12_takesTo 141 = .ok (.iadd, 1) := by decide +kernel
theorem dX12_takesTo_142 : decode cX12_takesTo 142 = .ok (.iaload, 1) := by decide +kernel
theorem dX12_takesTo_143 : decode cX12_takesTo 143 = .ok (.iload 7, 2) := by decide +kernel
theorem dX12_takesTo_145 : decode cX12_takesTo 145 = .ok (.if_icmp .ne 25, 3) := by decide +kernel
theorem dX12_takesTo_148 : decode cX12_takesTo 148 = .ok (.lload 5, 2) := by decide +kernel
theorem dX12_takesTo_150 : decode cX12_takesTo 150 = .ok (.aload_n 0, 1) := by decide +kernel
theorem dX12_takesTo_151 : decode cX12_takesTo 151 = .ok (.getfield 221, 3) := by decide +kernel
theorem dX12_takesTo_154 : decode cX12_takesTo 154 = .ok (.i2l, 1) := by decide +kernel
theorem dX12_takesTo_155 : decode cX12_takesTo 155 = .ok (.aload_n 0, 1) := by decide +kernel
theorem dX12_takesTo_156 : decode cX12_takesTo 156 = .ok (.getfield 13, 3) := by decide +kernel
theorem dX12_takesTo_159 : decode cX12_takesTo 159 = .ok (.bipush 52, 2) := by decide +kernel
theorem dX12_takesTo_161 : decode cX12_takesTo 161 = .ok (.iload 8, 2) := by decide +kernel
theorem dX12_takesTo_163 : decode cX12_takesTo 163 = .ok (.iadd, 1) := by decide +kernel
theorem dX12_takesTo_164 : decode cX12_takesTo 164 = .ok (.iaload, 1) := by decide +kernel
theorem dX12_takesTo_165 : decode cX12_takesTo 165 = .ok (.i2l, 1) := by decide +kernel
theorem dX12_takesTo_166 : decode cX12_takesTo 166 = .ok (.lmul, 1) := by decide +kernel
theorem dX12_takesTo_167 : decode cX12_takesTo 167 = .ok (.ladd, 1) := by decide +kernel
theorem dX12_takesTo_168 : decode cX12_takesTo 168 = .ok (.lstore 5, 2) := by decide +kernel
theorem dX12_takesTo_170 : decode cX12_takesTo 170 = .ok (.iinc 8 1, 3) := by decide +kernel
theorem dX12_takesTo_173 : decode cX12_takesTo 173 = .ok (.goto (-62), 3) := by decide +kernel
theorem dX12_takesTo_176 : decode cX12_takesTo 176 = .ok (.goto (-81), 3) := by decide +kernel
theorem dX12_takesTo_179 : decode cX12_takesTo 179 = .ok (.lload 5, 2) := by decide +kernel
theorem dX12_takesTo_181 : decode cX12_takesTo 181 = .ok (.lreturn, 1) := by decide +kernel
theorem dX12_partsBy_0 : decode cX12_partsBy 0 = .ok (.iconst 0, 1) := by decide +kernel
theorem dX12_partsBy_1 : decode cX12_partsBy 1 = .ok (.istore_n 3, 1) := by decide +kernel
theorem dX12_partsBy_2 : decode cX12_partsBy 2 = .ok (.ldc2_w 376, 3) := by decide +kernel
theorem dX12_partsBy_5 : decode cX12_partsBy 5 = .ok (.lstore 4, 2) := by decide +kernel
theorem dX12_partsBy_7 : decode cX12_partsBy 7 = .ok (.iconst 0, 1) := by decide +kernel
theorem dX12_partsBy_8 : decode cX12_partsBy 8 = .ok (.istore 6, 2) := by decide +kernel
theorem dX12_partsBy_10 : decode cX12_partsBy 10 = .ok (.iload 6, 2) := by decide +kernel
theorem dX12_partsBy_12 : decode cX12_partsBy 12 = .ok (.aload_n 0, 1) := by decide +kernel
theorem dX12_partsBy_13 : decode cX12_partsBy 13 = .ok (.getfield 13, 3) := by decide +kernel
theorem dX12_partsBy_16 : decode cX12_partsBy 16 = .ok (.iconst 3, 1) := by decide +kernel
theorem dX12_partsBy_17 : decode cX12_partsBy 17 = .ok (.iaload, 1) := by decide +kernel
theorem dX12_partsBy_18 : decode cX12_partsBy 18 = .ok (.if_icmp .ge 35, 3) := by decide +kernel
theorem dX12_partsBy_21 : decode cX12_partsBy 21 = .ok (.aload_n 0, 1) := by decide +kernel
theorem dX12_partsBy_22 : decode cX12_partsBy 22 = .ok (.iload 6, 2) := by decide +kernel
theorem dX12_partsBy_24 : decode cX12_partsBy 24 = .ok (.iload_n 1, 1) := by decide +kernel
theorem dX12_partsBy_25 : decode cX12_partsBy 25 = .ok (.iload_n 2, 1) := by decide +kernel
theorem dX12_partsBy_26 : decode cX12_partsBy 26 = .ok (.invokevirtual 395, 3) := by decide +kernel
theorem dX12_partsBy_29 : decode cX12_partsBy 29 = .ok (.ifCond .eq 18, 3) := by decide +kernel
theorem dX12_partsBy_32 : decode cX12_partsBy 32 = .ok (.iload_n 3, 1) := by decide +kernel
theorem dX12_partsBy_33 : decode cX12_partsBy 33 = .ok (.iconst 1, 1) := by decide +kernel
theorem dX12_partsBy_34 : decode cX12_partsBy 34 = .ok (.aload_n 0, 1) := by decide +kernel
theorem dX12_partsBy_35 : decode cX12_partsBy 35 = .ok (.getfield 13, 3) := by decide +kernel
theorem dX12_partsBy_38 : decode cX12_partsBy 38 = .ok (.bipush 28, 2) := by decide +kernel
theorem dX12_partsBy_40 : decode cX12_partsBy 40 = .ok (.iload 6, 2) := by decide +kernel
theorem dX12_partsBy_42 : decode cX12_partsBy 42 = .ok (.iadd, 1) := by decide +kernel
theorem dX12_partsBy_43 : decode cX12_partsBy 43 = .ok (.iaload, 1) := by decide +kernel
theorem dX12_partsBy_44 : decode cX12_partsBy 44 = .ok (.ishl, 1) := by decide +kernel
theorem dX12_partsBy_45 : decode cX12_partsBy 45 = .ok (.ior, 1) := by decide +kernel
theorem dX12_partsBy_46 : decode cX12_partsBy 46 = .ok (.istore_n 3, 1) := by decide +kernel
theorem dX12_partsBy_47 : decode cX12_partsBy 47 = .ok (.iinc 6 1, 3) := by decide +kernel
theorem dX12_partsBy_50 : decode cX12_partsBy 50 = .ok (.goto (-40), 3) := by decide +kernel
theorem dX12_partsBy_53 : decode cX12_partsBy 53 = .ok (.iconst 0, 1) := by decide +kernel
theorem dX12_partsBy_54 : decode cX12_partsBy 54 = .ok (.istore 6, 2) := by decide +kernel
theorem dX12_partsBy_56 : decode cX12_partsBy 56 = .ok (.iload 6, 2) := by decide +kernel
theorem dX12_partsBy_58 : decode cX12_partsBy 58 = .ok (.iload_n 3, 1) := by decide +kernel
theorem dX12_partsBy_59 : decode cX12_partsBy 59 = .ok (.if_icmp .gt 67, 3) := by decide +kernel
theorem dX12_partsBy_62 : decode cX12_partsBy 62 = .ok (.iload 6, 2) := by decide +kernel
theorem dX12_partsBy_64 : decode cX12_partsBy 64 = .ok (.iload_n 3, 1) := by decide +kernel
theorem dX12_partsBy_65 : decode cX12_partsBy 65 = .ok (.iconst (-1), 1) := by decide +kernel
theorem dX12_partsBy_66 : decode cX12_partsBy 66 = .ok (.ixor, 1) := by decide +kernel
theorem dX12_partsBy_67 : decode cX12_partsBy 67 = .ok (.iand, 1) := by decide +kernel
theorem dX12_partsBy_68 : decode cX12_partsBy 68 = .ok (.ifCond .eq 6, 3) := by decide +kernel
theorem dX12_partsBy_71 : decode cX12_partsBy 71 = .ok (.goto 49, 3) := by decide +kernel
theorem dX12_partsBy_74 : decode cX12_partsBy 74 = .ok (.aload_n 0, 1) := by decide +kernel
theorem dX12_partsBy_75 : decode cX12_partsBy 75 = .ok (.iload_n 1, 1) := by decide +kernel
theorem dX12_partsBy_76 : decode cX12_partsBy 76 = .ok (.iload_n 1, 1) := by decide +kernel
theorem dX12_partsBy_77 : decode cX12_partsBy 77 = .ok (.iload_n 2, 1) := by decide +kernel
theorem dX12_partsBy_78 : decode cX12_partsBy 78 = .ok (.iload 6, 2) := by decide +kernel
theorem dX12_partsBy_80 : decode cX12_partsBy 80 = .ok (.invokevirtual 399, 3) := by decide +kernel
theorem dX12_partsBy_83 : decode cX12_partsBy 83 = .ok (.aload_n 0, 1) := by decide +kernel
theorem dX12_partsBy_84 : decode cX12_partsBy 84 = .ok (.iload_n 2, 1) := by decide +kernel
theorem dX12_partsBy_85 : decode cX12_partsBy 85 = .ok (.iload_n 1, 1) := by decide +kernel
theorem dX12_partsBy_86 : decode cX12_partsBy 86 = .ok (.iload_n 2, 1) := by decide +kernel
theorem dX12_partsBy_87 : decode cX12_partsBy 87 = .ok (.iload_n 3, 1) := by decide +kernel
theorem dX12_partsBy_88 : decode cX12_partsBy 88 = .ok (.iload 6, 2) := by decide +kernel
theorem dX12_partsBy_90 : decode cX12_partsBy 90 = .ok (.iconst (-1), 1) := by decide +kernel
theorem dX12_partsBy_91 : decode cX12_partsBy 91 = .ok (.ixor, 1) := by decide +kernel
theorem dX12_partsBy_92 : decode cX12_partsBy 92 = .ok (.iand, 1) := by decide +kernel
theorem dX12_partsBy_93 : decode cX12_partsBy 93 = .ok (.invokevirtual 399, 3) := by decide +kernel
theorem dX12_partsBy_96 : decode cX12_partsBy 96 = .ok (.ladd, 1) := by decide +kernel
theorem dX12_partsBy_97 : decode cX12_partsBy 97 = .ok (.lstore 7, 2) := by decide +kernel
theorem dX12_partsBy_99 : decode cX12_partsBy 99 = .ok (.lload 7, 2) := by decide +kernel
theorem dX12_partsBy_101 : decode cX12_partsBy 101 = .ok (.lload 4, 2) := by decide +kernel
theorem dX12_partsBy_103 : decode cX12_partsBy 103 = .ok (.lcmp, 1) := by decide +kernel
theorem dX12_partsBy_104 : decode cX12_partsBy 104 = .ok (.ifCond .lt 6, 3) := by decide +kernel
theorem dX12_partsBy_107 : decode cX12_partsBy 107 = .ok (.goto 13, 3) := by decide +kernel
theorem dX12_partsBy_110 : decode cX12_partsBy 110 = .ok (.lload 7, 2) := by decide +kernel
theorem dX12_partsBy_112 : decode cX12_partsBy 112 = .ok (.lstore 4, 2) := by decide +kernel
theorem dX12_partsBy_114 : decode cX12_partsBy 114 = .ok (.aload_n 0, 1) := by decide +kernel
theorem dX12_partsBy_115 : decode cX12_partsBy 115 = .ok (.iload 6, 2) := by decide +kernel
theorem dX12_partsBy_117 : decode cX12_partsBy 117 = .ok (.putfield 403, 3) := by decide +kernel
theorem dX12_partsBy_120 : decode cX12_partsBy 120 = .ok (.iinc 6 1, 3) := by decide +kernel
theorem dX12_partsBy_123 : decode cX12_partsBy 123 = .ok (.goto (-67), 3) := by decide +kernel
theorem dX12_partsBy_126 : decode cX12_partsBy 126 = .ok (.lload 4, 2) := by decide +kernel
theorem dX12_partsBy_128 : decode cX12_partsBy 128 = .ok (.lreturn, 1) := by decide +kernel
theorem dX12_parting_0 : decode cX12_parting 0 = .ok (.aload_n 0, 1) := by decide +kernel
theorem dX12_parting_1 : decode cX12_parting 1 = .ok (.iconst 0, 1) := by decide +kernel
theorem dX12_parting_2 : decode cX12_parting 2 = .ok (.putfield 1, 3) := by decide +kernel
theorem dX12_parting_5 : decode cX12_parting 5 = .ok (.aload_n 0, 1) := by decide +kernel
theorem dX12_parting_6 : decode cX12_parting 6 = .ok (.iload_n 1, 1) := by decide +kernel
theorem dX12_parting_7 : decode cX12_parting 7 = .ok (.i2l, 1) := by decide +kernel
theorem dX12_parting_8 : decode cX12_parting 8 = .ok (.invokevirtual 230, 3) := by decide +kernel
theorem dX12_parting_11 : decode cX12_parting 11 = .ok (.ifCond .eq 27, 3) := by decide +kernel
theorem dX12_parting_14 : decode cX12_parting 14 = .ok (.aload_n 0, 1) := by decide +kernel
theorem dX12_parting_15 : decode cX12_parting 15 = .ok (.iload_n 2, 1) := by decide +kernel
theorem dX12_parting_16 : decode cX12_parting 16 = .ok (.i2l, 1) := by decide +kernel
theorem dX12_parting_17 : decode cX12_parting 17 = .ok (.invokevirtual 230, 3) := by decide +kernel
theorem dX12_parting_20 : decode cX12_parting 20 = .ok (.ifCond .eq 18, 3) := by decide +kernel
theorem dX12_parting_23 : decode cX12_parting 23 = .ok (.iload_n 1, 1) := by decide +kernel
theorem dX12_parting_24 : decode cX12_parting 24 = .ok (.iload_n 2, 1) := by decide +kernel
theorem dX12_parting_25 : decode cX12_parting 25 = .ok (.if_icmp .eq 13, 3) := by decide +kernel
theorem dX12_parting_28 : decode cX12_parting 28 = .ok (.iload_n 3, 1) := by decide +kernel
theorem dX12_parting_29 : decode cX12_parting 29 = .ok (.i2l, 1) := by decide +kernel
theorem dX12_parting_30 : decode cX12_parting 30 = .ok (.lconst 0, 1) := by decide +kernel
theorem dX12_parting_31 : decode cX12_parting 31 = .ok (.lconst 1, 1) := by decide +kernel
theorem dX12_parting_32 : decode cX12_parting 32 = .ok (.invokestatic 118, 3) := by decide +kernel
theorem dX12_parting_35 : decode cX12_parting 35 = .ok (.ifCond .ne 7, 3) := by decide +kernel
theorem dX12_parting_38 : decode cX12_parting 38 = .ok (.ldc2_w 368, 3) := by decide +kernel
theorem dX12_parting_41 : decode cX12_parting 41 = .ok (.lreturn, 1) := by decide +kernel
theorem dX12_parting_42 : decode cX12_parting 42 = .ok (.aload_n 0, 1) := by decide +kernel
theorem dX12_parting_43 : decode cX12_parting 43 = .ok (.getfield 13, 3) := by decide +kernel
theorem dX12_parting_46 : decode cX12_parting 46 = .ok (.bipush 60, 2) := by decide +kernel
theorem dX12_parting_48 : decode cX12_parting 48 = .ok (.iload_n 1, 1) := by decide +kernel
theorem dX12_parting_49 : decode cX12_parting 49 = .ok (.iadd, 1) := by decide +kernel
theorem dX12_parting_50 : decode cX12_parting 50 = .ok (.iaload, 1) := by decide +kernel
theorem dX12_parting_51 : decode cX12_parting 51 = .ok (.aload_n 0, 1) := by decide +kernel
theorem dX12_parting_52 : decode cX12_parting 52 = .ok (.getfield 13, 3) := by decide +kernel
theorem dX12_parting_55 : decode cX12_parting 55 = .ok (.bipush 60, 2) := by decide +kernel
theorem dX12_parting_57 : decode cX12_parting 57 = .ok (.iload_n 2, 1) := by decide +kernel
theorem dX12_parting_58 : decode cX12_parting 58 = .ok (.iadd, 1) := by decide +kernel
theorem dX12_parting_59 : decode cX12_parting 59 = .ok (.iaload, 1) := by decide +kernel
theorem dX12_parting_60 : decode cX12_parting 60 = .ok (.if_icmp .eq 7, 3) := by decide +kernel
theorem dX12_parting_63 : decode cX12_parting 63 = .ok (.ldc2_w 406, 3) := by decide +kernel
theorem dX12_parting_66 : decode cX12_parting 66 = .ok (.lreturn, 1) := by decide +kernel
theorem dX12_parting_67 : decode cX12_parting 67 = .ok (.aload_n 0, 1) := by decide +kernel
theorem dX12_parting_68 : decode cX12_parting 68 = .ok (.iload_n 1, 1) := by decide +kernel
theorem dX12_parting_69 : decode cX12_parting 69 = .ok (.iload_n 2, 1) := by decide +kernel
theorem dX12_parting_70 : decode cX12_parting 70 = .ok (.invokevirtual 408, 3) := by decide +kernel
theorem dX12_parting_73 : decode cX12_parting 73 = .ok (.lstore 4, 2) := by decide +kernel
theorem dX12_parting_75 : decode cX12_parting 75 = .ok (.iload_n 3, 1) := by decide +kernel
theorem dX12_parting_76 : decode cX12_parting 76 = .ok (.ifCond .ne 8, 3) := by decide +kernel
theorem dX12_parting_79 : decode cX12_parting 79 = .ok (.lload 4, 2) := by decide +kernel
theorem dX12_parting_81 : decode cX12_parting 81 = .ok (.goto 8, 3) := by decide +kernel
theorem dX12_parting_84 : decode cX12_parting 84 = .ok (.aload_n 0, 1) := by decide +kernel
theorem dX12_parting_85 : decode cX12_parting 85 = .ok (.getfield 403, 3) := by decide +kernel
theorem dX12_parting_88 : decode cX12_parting 88 = .ok (.i2l, 1) := by decide +kernel
theorem dX12_parting_89 : decode cX12_parting 89 = .ok (.lreturn, 1) := by decide +kernel
theorem dX12_awayFrom_0 : decode cX12_awayFrom 0 = .ok (.iconst 0, 1) := by decide +kernel
theorem dX12_awayFrom_1 : decode cX12_awayFrom 1 = .ok (.istore_n 2, 1) := by decide +kernel
theorem dX12_awayFrom_2 : decode cX12_awayFrom 2 = .ok (.iconst 0, 1) := by decide +kernel
theorem dX12_awayFrom_3 : decode cX12_awayFrom 3 = .ok (.istore_n 3, 1) := by decide +kernel
theorem dX12_awayFrom_4 : decode cX12_awayFrom 4 = .ok (.iload_n 3, 1) := by decide +kernel
theorem dX12_awayFrom_5 : decode cX12_awayFrom 5 = .ok (.aload_n 0, 1) := by decide +kernel
theorem dX12_awayFrom_6 : decode cX12_awayFrom 6 = .ok (.getfield 13, 3) := by decide +kernel
theorem dX12_awayFrom_9 : decode cX12_awayFrom 9 = .ok (.iconst 1, 1) := by decide +kernel
theorem dX12_awayFrom_10 : decode cX12_awayFrom 10 = .ok (.iaload, 1) := by decide +kernel
theorem dX12_awayFrom_11 : decode cX12_awayFrom 11 = .ok (.if_icmp .ge 27, 3) := by decide +kernel
theorem dX12_awayFrom_14 : decode cX12_awayFrom 14 = .ok (.iload_n 2, 1) := by decide +kernel
theorem dX12_awayFrom_15 : decode cX12_awayFrom 15 = .ok (.iload_n 1, 1) := by decide +kernel
theorem dX12_awayFrom_16 : decode cX12_awayFrom 16 = .ok (.iload_n 3, 1) := by decide +kernel
theorem dX12_awayFrom_17 : decode cX12_awayFrom 17 = .ok (.invokestatic 218, 3) := by decide +kernel
theorem dX12_awayFrom_20 : decode cX12_awayFrom 20 = .ok (.aload_n 0, 1) := by decide +kernel
theorem dX12_awayFrom_21 : decode cX12_awayFrom 21 = .ok (.getfield 13, 3) := by decide +kernel
theorem dX12_awayFrom_24 : decode cX12_awayFrom 24 = .ok (.bipush 10, 2) := by decide +kernel
theorem dX12_awayFrom_26 : decode cX12_awayFrom 26 = .ok (.iload_n 3, 1) := by decide +kernel
theorem dX12_awayFrom_27 : decode cX12_awayFrom 27 = .ok (.iadd, 1) := by decide +kernel
theorem dX12_awayFrom_28 : decode cX12_awayFrom 28 = .ok (.iaload, 1) := by decide +kernel
theorem dX12_awayFrom_29 : decode cX12_awayFrom 29 = .ok (.imul, 1) := by decide +kernel
theorem dX12_awayFrom_30 : decode cX12_awayFrom 30 = .ok (.iadd, 1) := by decide +kernel
theorem dX12_awayFrom_31 : decode cX12_awayFrom 31 = .ok (.istore_n 2, 1) := by decide +kernel
theorem dX12_awayFrom_32 : decode cX12_awayFrom 32 = .ok (.iinc 3 1, 3) := by decide +kernel
theorem dX12_awayFrom_35 : decode cX12_awayFrom 35 = .ok (.goto (-31), 3) := by decide +kernel
theorem dX12_awayFrom_38 : decode cX12_awayFrom 38 = .ok (.iload_n 2, 1) := by decide +kernel
theorem dX12_awayFrom_39 : decode cX12_awayFrom 39 = .ok (.ireturn, 1) := by decide +kernel
theorem dX12_rest_0 : decode cX12_rest 0 = .ok (.aload_n 0, 1) := by decide +kernel
theorem dX12_rest_1 : decode cX12_rest 1 = .ok (.iconst 0, 1) := by decide +kernel
theorem dX12_rest_2 : decode cX12_rest 2 = .ok (.putfield 1, 3) := by decide +kernel
theorem dX12_rest_5 : decode cX12_rest 5 = .ok (.iconst 0, 1) := by decide +kernel
theorem dX12_rest_6 : decode cX12_rest 6 = .ok (.istore_n 1, 1) := by decide +kernel
theorem dX12_rest_7 : decode cX12_rest 7 = .ok (.iconst 1, 1) := by decide +kernel
theorem dX12_rest_8 : decode cX12_rest 8 = .ok (.istore_n 2, 1) := by decide +kernel
theorem dX12_rest_9 : decode cX12_rest 9 = .ok (.iload_n 2, 1) := by decide +kernel
theorem dX12_rest_10 : decode cX12_rest 10 = .ok (.aload_n 0, 1) := by decide +kernel
theorem dX12_rest_11 : decode cX12_rest 11 = .ok (.getfield 13, 3) := by decide +kernel
theorem dX12_rest_14 : decode cX12_rest 14 = .ok (.iconst 1, 1) := by decide +kernel
theorem dX12_rest_15 : decode cX12_rest 15 = .ok (.iaload, 1) := by decide +kernel
theorem dX12_rest_16 : decode cX12_rest 16 = .ok (.if_icmp .ge 24, 3) := by decide +kernel
theorem dX12_rest_19 : decode cX12_rest 19 = .ok (.aload_n 0, 1) := by decide +kernel
theorem dX12_rest_20 : decode cX12_rest 20 = .ok (.iload_n 2, 1) := by decide +kernel
theorem dX12_rest_21 : decode cX12_rest 21 = .ok (.invokevirtual 411, 3) := by decide +kernel
theorem dX12_rest_24 : decode cX12_rest 24 = .ok (.aload_n 0, 1) := by decide +kernel
theorem dX12_rest_25 : decode cX12_rest 25 = .ok (.iload_n 1, 1) := by decide +kernel
theorem dX12_rest_26 : decode cX12_rest 26 = .ok (.invokevirtual 411, 3) := by decide +kernel
theorem dX12_rest_29 : decode cX12_rest 29 = .ok (.if_icmp .ge 5, 3) := by decide +kernel
theorem dX12_rest_32 : decode cX12_rest 32 = .ok (.iload_n 2, 1) := by decide +kernel
theorem dX12_rest_33 : decode cX12_rest 33 = .ok (.istore_n 1, 1) := by decide +kernel
theorem dX12_rest_34 : decode cX12_rest 34 = .ok (.iinc 2 1, 3) := by decide +kernel
theorem dX12_rest_37 : decode cX12_rest 37 = .ok (.goto (-28), 3) := by decide +kernel
theorem dX12_rest_40 : decode cX12_rest 40 = .ok (.iload_n 1, 1) := by decide +kernel
theorem dX12_rest_41 : decode cX12_rest 41 = .ok (.ireturn, 1) := by decide +kernel
theorem dX12_away_0 : decode cX12_away 0 = .ok (.aload_n 0, 1) := by decide +kernel
theorem dX12_away_1 : decode cX12_away 1 = .ok (.iconst 0, 1) := by decide +kernel
theorem dX12_away_2 : decode cX12_away 2 = .ok (.putfield 1, 3) := by decide +kernel
theorem dX12_away_5 : decode cX12_away 5 = .ok (.aload_n 0, 1) := by decide +kernel
theorem dX12_away_6 : decode cX12_away 6 = .ok (.iload_n 1, 1) := by decide +kernel
theorem dX12_away_7 : decode cX12_away 7 = .ok (.i2l, 1) := by decide +kernel
theorem dX12_away_8 : decode cX12_away 8 = .ok (.invokevirtual 243, 3) := by decide +kernel
theorem dX12_away_11 : decode cX12_away 11 = .ok (.ifCond .eq 11, 3) := by decide +kernel
theorem dX12_away_14 : decode cX12_away 14 = .ok (.aload_n 0, 1) := by decide +kernel
theorem dX12_away_15 : decode cX12_away 15 = .ok (.iload_n 1, 1) := by decide +kernel
theorem dX12_away_16 : decode cX12_away 16 = .ok (.invokevirtual 411, 3) := by decide +kernel
theorem dX12_away_19 : decode cX12_away 19 = .ok (.goto 5, 3) := by decide +kernel
theorem dX12_away_22 : decode cX12_away 22 = .ok (.bipush (-2), 2) := by decide +kernel
theorem dX12_away_24 : decode cX12_away 24 = .ok (.ireturn, 1) := by decide +kernel
theorem dX12_nearest_0 : decode cX12_nearest 0 = .ok (.aload_n 0, 1) := by decide +kernel
theorem dX12_nearest_1 : decode cX12_nearest 1 = .ok (.iconst 0, 1) := by decide +kernel
theorem dX12_nearest_2 : decode cX12_nearest 2 = .ok (.putfield 1, 3) := by decide +kernel
theorem dX12_nearest_5 : decode cX12_nearest 5 = .ok (.aload_n 0, 1) := by decide +kernel
theorem dX12_nearest_6 : decode cX12_nearest 6 = .ok (.iload_n 1, 1) := by decide +kernel
theorem dX12_nearest_7 : decode cX12_nearest 7 = .ok (.i2l, 1) := by decide +kernel
theorem dX12_nearest_8 : decode cX12_nearest 8 = .ok (.invokevirtual 243, 3) := by decide +kernel
theorem dX12_nearest_11 : decode cX12_nearest 11 = .ok (.ifCond .ne 6, 3) := by decide +kernel
theorem dX12_nearest_14 : decode cX12_nearest 14 = .ok (.bipush (-2), 2) := by decide +kernel
theorem dX12_nearest_16 : decode cX12_nearest 16 = .ok (.ireturn, 1) := by decide +kernel
theorem dX12_nearest_17 : decode cX12_nearest 17 = .ok (.iconst (-1), 1) := by decide +kernel
theorem dX12_nearest_18 : decode cX12_nearest 18 = .ok (.istore_n 2, 1) := by decide +kernel
theorem dX12_nearest_19 : decode cX12_nearest 19 = .ok (.iconst 0, 1) := by decide +kernel
theorem dX12_nearest_20 : decode cX12_nearest 20 = .ok (.istore_n 3, 1) := by decide +kernel
theorem dX12_nearest_21 : decode cX12_nearest 21 = .ok (.iload_n 3, 1) := by decide +kernel
theorem dX12_nearest_22 : decode cX12_nearest 22 = .ok (.aload_n 0, 1) := by decide +kernel
theorem dX12_nearest_23 : decode cX12_nearest 23 = .ok (.getfield 13, 3) := by decide +kernel
theorem dX12_nearest_26 : decode cX12_nearest 26 = .ok (.iconst 2, 1) := by decide +kernel
theorem dX12_nearest_27 : decode cX12_nearest 27 = .ok (.iaload, 1) := by decide +kernel
theorem dX12_nearest_28 : decode cX12_nearest 28 = .ok (.if_icmp .ge 45, 3) := by decide +kernel
theorem dX12_nearest_31 : decode cX12_nearest 31 = .ok (.iload_n 2, 1) := by decide +kernel
theorem dX12_nearest_32 : decode cX12_nearest 32 = .ok (.iconst (-1), 1) := by decide +kernel
theorem dX12_nearest_33 : decode cX12_nearest 33 = .ok (.if_icmp .eq 32, 3) := by decide +kernel
theorem dX12_nearest_36 : decode cX12_nearest 36 = .ok (.aload_n 0, 1) := by decide +kernel
theorem dX12_nearest_37 : decode cX12_nearest 37 = .ok (.getfield 13, 3) := by decide +kernel
theorem dX12_nearest_40 : decode cX12_nearest 40 = .ok (.bipush 60, 2) := by decide +kernel
theorem dX12_nearest_42 : decode cX12_nearest 42 = .ok (.iload_n 3, 1) := by decide +kernel
theorem dX12_nearest_43 : decode cX12_nearest 43 = .ok (.iadd, 1) := by decide +kernel
theorem dX12_nearest_44 : decode cX12_nearest 44 = .ok (.iaload, 1) := by decide +kernel
theorem dX12_nearest_45 : decode cX12_nearest 45 = .ok (.iload_n 1, 1) := by decide +kernel
theorem dX12_nearest_46 : decode cX12_nearest 46 = .ok (.invokestatic 218, 3) := by decide +kernel
theorem dX12_nearest_49 : decode cX12_nearest 49 = .ok (.aload_n 0, 1) := by decide +kernel
theorem dX12_nearest_50 : decode cX12_nearest 50 = .ok (.getfield 13, 3) := by decide +kernel
theorem dX12_nearest_53 : decode cX12_nearest 53 = .ok (.bipush 60, 2) := by decide +kernel
theorem dX12_nearest_55 : decode cX12_nearest 55 = .ok (.iload_n 2, 1) := by decide +kernel
theorem dX12_nearest_56 : decode cX12_nearest 56 = .ok (.iadd, 1) := by decide +kernel
theorem dX12_nearest_57 : decode cX12_nearest 57 = .ok (.iaload, 1) := by decide +kernel
theorem dX12_nearest_58 : decode cX12_nearest 58 = .ok (.iload_n 1, 1) := by decide +kernel
theorem dX12_nearest_59 : decode cX12_nearest 59 = .ok (.invokestatic 218, 3) := by decide +kernel
theorem dX12_nearest_62 : decode cX12_nearest 62 = .ok (.if_icmp .ge 5, 3) := by decide +kernel
theorem dX12_nearest_65 : decode cX12_nearest 65 = .ok (.iload_n 3, 1) := by decide +kernel
theorem dX12_nearest_66 : decode cX12_nearest 66 = .ok (.istore_n 2, 1) := by decide +kernel
theorem dX12_nearest_67 : decode cX12_nearest 67 = .ok (.iinc 3 1, 3) := by decide +kernel
theorem dX12_nearest_70 : decode cX12_nearest 70 = .ok (.goto (-49), 3) := by decide +kernel
theorem dX12_nearest_73 : decode cX12_nearest 73 = .ok (.iload_n 2, 1) := by decide +kernel
theorem dX12_nearest_74 : decode cX12_nearest 74 = .ok (.ireturn, 1) := by decide +kernel
theorem dX12_noSeen_0 : decode cX12_noSeen 0 = .ok (.iload_n 1, 1) := by decide +kernel
theorem dX12_noSeen_1 : decode cX12_noSeen 1 = .ok (.i2l, 1) := by decide +kernel
theorem dX12_noSeen_2 : decode cX12_noSeen 2 = .ok (.lconst 0, 1) := by decide +kernel
theorem dX12_noSeen_3 : decode cX12_noSeen 3 = .ok (.ldc2_w 323, 3) := by decide +kernel
theorem dX12_noSeen_6 : decode cX12_noSeen 6 = .ok (.invokestatic 118, 3) := by decide +kernel
theorem dX12_noSeen_9 : decode cX12_noSeen 9 = .ok (.ifCond .eq 12, 3) := by decide +kernel
theorem dX12_noSeen_12 : decode cX12_noSeen 12 = .ok (.aload_n 0, 1) := by decide +kernel
theorem dX12_noSeen_13 : decode cX12_noSeen 13 = .ok (.iload_n 2, 1) := by decide +kernel
theorem dX12_noSeen_14 : decode cX12_noSeen 14 = .ok (.i2l, 1) := by decide +kernel
theorem dX12_noSeen_15 : decode cX12_noSeen 15 = .ok (.invokevirtual 230, 3) := by decide +kernel
theorem dX12_noSeen_18 : decode cX12_noSeen 18 = .ok (.ifCond .ne 6, 3) := by decide +kernel
theorem dX12_noSeen_21 : decode cX12_noSeen 21 = .ok (.bipush (-2), 2) := by decide +kernel
theorem dX12_noSeen_23 : decode cX12_noSeen 23 = .ok (.ireturn, 1) := by decide +kernel
theorem dX12_noSeen_24 : decode cX12_noSeen 24 = .ok (.aload_n 0, 1) := by decide +kernel
theorem dX12_noSeen_25 : decode cX12_noSeen 25 = .ok (.iload_n 1, 1) := by decide +kernel
theorem dX12_noSeen_26 : decode cX12_noSeen 26 = .ok (.invokevirtual 325, 3) := by decide +kernel
theorem dX12_noSeen_29 : decode cX12_noSeen 29 = .ok (.istore_n 3, 1) := by decide +kernel
theorem dX12_noSeen_30 : decode cX12_noSeen 30 = .ok (.iload_n 3, 1) := by decide +kernel
theorem dX12_noSeen_31 : decode cX12_noSeen 31 = .ok (.ifCond .eq 5, 3) := by decide +kernel
theorem dX12_noSeen_34 : decode cX12_noSeen 34 = .ok (.iload_n 3, 1) := by decide +kernel
theorem dX12_noSeen_35 : decode cX12_noSeen 35 = .ok (.ireturn, 1) := by decide +kernel
theorem dX12_noSeen_36 : decode cX12_noSeen 36 = .ok (.aload_n 0, 1) := by decide +kernel
theorem dX12_noSeen_37 : decode cX12_noSeen 37 = .ok (.getfield 45, 3) := by decide +kernel
theorem dX12_noSeen_40 : decode cX12_noSeen 40 = .ok (.iload_n 1, 1) := by decide +kernel
theorem dX12_noSeen_41 : decode cX12_noSeen 41 = .ok (.iaload, 1) := by decide +kernel
theorem dX12_noSeen_42 : decode cX12_noSeen 42 = .ok (.istore 4, 2) := by decide +kernel
theorem dX12_noSeen_44 : decode cX12_noSeen 44 = .ok (.iload 4, 2) := by decide +kernel
theorem dX12_noSeen_46 : decode cX12_noSeen 46 = .ok (.iconst 2, 1) := by decide +kernel
theorem dX12_noSeen_47 : decode cX12_noSeen 47 = .ok (.irem, 1) := by decide +kernel
theorem dX12_noSeen_48 : decode cX12_noSeen 48 = .ok (.iconst 1, 1) := by decide +kernel
theorem dX12_noSeen_49 : decode cX12_noSeen 49 = .ok (.if_icmp .eq 18, 3) := by decide +kernel
theorem dX12_noSeen_52 : decode cX12_noSeen 52 = .ok (.iload 4, 2) := by decide +kernel
theorem dX12_noSeen_54 : decode cX12_noSeen 54 = .ok (.i2l, 1) := by decide +kernel
theorem dX12_noSeen_55 : decode cX12_noSeen 55 = .ok (.ldc2_w 414, 3) := by decide +kernel
theorem dX12_noSeen_58 : decode cX12_noSeen 58 = .ok (.ldc2_w 416, 3) := by decide +kernel
theorem dX12_noSeen_61 : decode cX12_noSeen 61 = .ok (.invokestatic 118, 3) := by decide +kernel
theorem dX12_noSeen_64 : decode cX12_noSeen 64 = .ok (.ifCond .ne 6, 3) := by decide +kernel
theorem dX12_noSeen_67 : decode cX12_noSeen 67 = .ok (.bipush (-4), 2) := by decide +kernel
theorem dX12_noSeen_69 : decode cX12_noSeen 69 = .ok (.ireturn, 1) := by decide +kernel
theorem dX12_noSeen_70 : decode cX12_noSeen 70 = .ok (.iconst 0, 1) := by decide +kernel
theorem dX12_noSeen_71 : decode cX12_noSeen 71 = .ok (.istore 5, 2) := by decide +kernel
theorem dX12_noSeen_73 : decode cX12_noSeen 73 = .ok (.iload 5, 2) := by decide +kernel
theorem dX12_noSeen_75 : decode cX12_noSeen 75 = .ok (.iload 4, 2) := by decide +kernel
theorem dX12_noSeen_77 : decode cX12_noSeen 77 = .ok (.if_icmp .ge 58, 3) := by decide +kernel
theorem dX12_noSeen_80 : decode cX12_noSeen 80 = .ok (.iload 5, 2) := by decide +kernel
theorem dX12_noSeen_82 : decode cX12_noSeen 82 = .ok (.iconst 2, 1) := by decide +kernel
theorem dX12_noSeen_83 : decode cX12_noSeen 83 = .ok (.irem, 1) := by decide +kernel
theorem dX12_noSeen_84 : decode cX12_noSeen 84 = .ok (.ifCond .ne 25, 3) := by decide +kernel
theorem dX12_noSeen_87 : decode cX12_noSeen 87 = .ok (.aload_n 0, 1) := by decide +kernel
theorem dX12_noSeen_88 : decode cX12_noSeen 88 = .ok (.aload_n 0, 1) := by decide +kernel
theorem dX12_noSeen_89 : decode cX12_noSeen 89 = .ok (.getfield 48, 3) := by decide +kernel
theorem dX12_noSeen_92 : decode cX12_noSeen 92 = .ok (.bipush 40, 2) := by decide +kernel
theorem dX12_noSeen_94 : decode cX12_noSeen 94 = .ok (.iload_n 1, 1) := by decide +kernel
theorem dX12_noSeen_95 : decode cX12_noSeen 95 = .ok (.imul, 1) := by decide +kernel
theorem dX12_noSeen_96 : decode cX12_noSeen 96 = .ok (.iload 5, 2) := by decide +kernel
theorem dX12_noSeen_98 : decode cX12_noSeen 98 = .ok (.iadd, 1) := by decide +kernel
theorem dX12_noSeen_99 : decode cX12_noSeen 99 = .ok (.laload, 1) := by decide +kernel
theorem dX12_noSeen_100 : decode cX12_noSeen 100 = .ok (.invokevirtual 243, 3) := by decide +kernel
theorem dX12_noSeen_103 : decode cX12_noSeen 103 = .ok (.ifCond .ne 26, 3) := by decide +kernel
theorem dX12_noSeen_106 : decode cX12_noSeen 106 = .ok (.goto 20, 3) := by decide +kernel
theorem dX12_noSeen_109 : decode cX12_noSeen 109 = .ok (.aload_n 0, 1) := by decide +kernel
theorem dX12_noSeen_110 : decode cX12_noSeen 110 = .ok (.getfield 48, 3) := by decide +kernel
theorem dX12_noSeen_113 : decode cX12_noSeen 113 = .ok (.bipush 40, 2) := by decide +kernel
theorem dX12_noSeen_115 : decode cX12_noSeen 115 = .ok (.iload_n 1, 1) := by decide +kernel
theorem dX12_noSeen_116 : decode cX12_noSeen 116 = .ok (.imul, 1) := by decide +kernel
theorem dX12_noSeen_117 : decode cX12_noSeen 117 = .ok (.iload 5, 2) := by decide +kernel
theorem dX12_noSeen_119 : decode cX12_noSeen 119 = .ok (.iadd, 1) := by decide +kernel
theorem dX12_noSeen_120 : decode cX12_noSeen 120 = .ok (.laload, 1) := by decide +kernel
theorem dX12_noSeen_121 : decode cX12_noSeen 121 = .ok (.lconst 0, 1) := by decide +kernel
theorem dX12_noSeen_122 : decode cX12_noSeen 122 = .ok (.lcmp, 1) := by decide +kernel
theorem dX12_noSeen_123 : decode cX12_noSeen 123 = .ok (.ifCond .ge 6, 3) := by decide +kernel
theorem dX12_noSeen_126 : decode cX12_noSeen 126 = .ok (.bipush (-3), 2) := by decide +kernel
theorem dX12_noSeen_128 : decode cX12_noSeen 128 = .ok (.ireturn, 1) := by decide +kernel
theorem dX12_noSeen_129 : decode cX12_noSeen 129 = .ok (.iinc 5 1, 3) := by decide +kernel
theorem dX12_noSeen_132 : decode cX12_noSeen 132 = .ok (.goto (-59), 3) := by decide +kernel
theorem dX12_noSeen_135 : decode cX12_noSeen 135 = .ok (.iconst 0, 1) := by decide +kernel
theorem dX12_noSeen_136 : decode cX12_noSeen 136 = .ok (.ireturn, 1) := by decide +kernel
theorem dX12_fits_0 : decode cX12_fits 0 = .ok (.aload_n 0, 1) := by decide +kernel
theorem dX12_fits_1 : decode cX12_fits 1 = .ok (.iload_n 2, 1) := by decide +kernel
theorem dX12_fits_2 : decode cX12_fits 2 = .ok (.invokevirtual 234, 3) := by decide +kernel
theorem dX12_fits_5 : decode cX12_fits 5 = .ok (.aload_n 0, 1) := by decide +kernel
theorem dX12_fits_6 : decode cX12_fits 6 = .ok (.iload_n 3, 1) := by decide +kernel
theorem dX12_fits_7 : decode cX12_fits 7 = .ok (.putfield 200, 3) := by decide +kernel
theorem dX12_fits_10 : decode cX12_fits 10 = .ok (.iconst 0, 1) := by decide +kernel
theorem dX12_fits_11 : decode cX12_fits 11 = .ok (.istore 5, 2) := by decide +kernel
theorem dX12_fits_13 : decode cX12_fits 13 = .ok (.iload 5, 2) := by decide +kernel
theorem dX12_fits_15 : decode cX12_fits 15 = .ok (.iload 4, 2) := by decide +kernel
theorem dX12_fits_17 : decode cX12_fits 17 = .ok (.if_icmp .ge 55, 3) := by decide +kernel
theorem dX12_fits_20 : decode cX12_fits 20 = .ok (.aload_n 0, 1) := by decide +kernel
theorem dX12_fits_21 : decode cX12_fits 21 = .ok (.invokevirtual 251, 3) := by decide +kernel
theorem dX12_fits_24 : decode cX12_fits 24 = .ok (.i2l, 1) := by decide +kernel
theorem dX12_fits_25 : decode cX12_fits 25 = .ok (.aload_n 0, 1) := by decide +kernel
theorem dX12_fits_26 : decode cX12_fits 26 = .ok (.getfield 48, 3) := by decide +kernel
theorem dX12_fits_29 : decode cX12_fits 29 = .ok (.bipush 40, 2) := by decide +kernel
theorem dX12_fits_31 : decode cX12_fits 31 = .ok (.iload_n 1, 1) := by decide +kernel
theorem dX12_fits_32 : decode cX12_fits 32 = .ok (.imul, 1) := by decide +kernel
theorem dX12_fits_33 : decode cX12_fits 33 = .ok (.iload 5, 2) := by decide +kernel
theorem dX12_fits_35 : decode cX12_fits 35 = .ok (.iadd, 1) := by decide +kernel
theorem dX12_fits_36 : decode cX12_fits 36 = .ok (.laload, 1) := by decide +kernel
theorem dX12_fits_37 : decode cX12_fits 37 = .ok (.lcmp, 1) := by decide +kernel
theorem dX12_fits_38 : decode cX12_fits 38 = .ok (.ifCond .ne 26, 3) := by decide +kernel
theorem dX12_fits_41 : decode cX12_fits 41 = .ok (.aload_n 0, 1) := by decide +kernel
theorem dX12_fits_42 : decode cX12_fits 42 = .ok (.getfield 221, 3) := by decide +kernel
theorem dX12_fits_45 : decode cX12_fits 45 = .ok (.i2l, 1) := by decide +kernel
theorem dX12_fits_46 : decode cX12_fits 46 = .ok (.aload_n 0, 1) := by decide +kernel
theorem dX12_fits_47 : decode cX12_fits 47 = .ok (.getfield 48, 3) := by decide +kernel
theorem dX12_fits_50 : decode cX12_fits 50 = .ok (.bipush 40, 2) := by decide +kernel
theorem dX12_fits_52 : decode cX12_fits 52 = .ok (.iload_n 1, 1) := by decide +kernel
theorem dX12_fits_53 : decode cX12_fits 53 = .ok (.imul, 1) := by decide +kernel
theorem dX12_fits_54 : decode cX12_fits 54 = .ok (.iload 5, 2) := by decide +kernel
theorem dX12_fits_56 : decode cX12_fits 56 = .ok (.iadd, 1) := by decide +kernel
theorem dX12_fits_57 : decode cX12_fits 57 = .ok (.iconst 1, 1) := by decide +kernel
theorem dX12_fits_58 : decode cX12_fits 58 = .ok (.iadd, 1) := by decide +kernel
theorem dX12_fits_59 : decode cX12_fits 59 = .ok (.laload, 1) := by decide +kernel
theorem dX12_fits_60 : decode cX12_fits 60 = .ok (.lcmp, 1) := by decide +kernel
theorem dX12_fits_61 : decode cX12_fits 61 = .ok (.ifCond .eq 5, 3) := by decide +kernel
theorem dX12_fits_64 : decode cX12_fits 64 = .ok (.iconst 0, 1) := by decide +kernel
theorem dX12_fits_65 : decode cX12_fits 65 = .ok (.ireturn, 1) := by decide +kernel
theorem dX12_fits_66 : decode cX12_fits 66 = .ok (.iinc 5 2, 3) := by decide +kernel
theorem dX12_fits_69 : decode cX12_fits 69 = .ok (.goto (-56), 3) := by decide +kernel
theorem dX12_fits_72 : decode cX12_fits 72 = .ok (.iconst 1, 1) := by decide +kernel
theorem dX12_fits_73 : decode cX12_fits 73 = .ok (.ireturn, 1) := by decide +kernel
theorem dX12_laysFits_0 : decode cX12_laysFits 0 = .ok (.aload_n 0, 1) := by decide +kernel
theorem dX12_laysFits_1 : decode cX12_laysFits 1 = .ok (.iconst 0, 1) := by decide +kernel
theorem dX12_laysFits_2 : decode cX12_laysFits 2 = .ok (.putfield 418, 3) := by decide +kernel
theorem dX12_laysFits_5 : decode cX12_laysFits 5 = .ok (.aload_n 0, 1) := by decide +kernel
theorem dX12_laysFits_6 : decode cX12_laysFits 6 = .ok (.iconst 1, 1) := by decide +kernel
theorem dX12_laysFits_7 : decode cX12_laysFits 7 = .ok (.aload_n 0, 1) := by decide +kernel
theorem dX12_laysFits_8 : decode cX12_laysFits 8 = .ok (.getfield 13, 3) := by decide +kernel
theorem dX12_laysFits_11 : decode cX12_laysFits 11 = .ok (.iconst 1, 1) := by decide +kernel
theorem dX12_laysFits_12 : decode cX12_laysFits 12 = .ok (.iaload, 1) := by decide +kernel
theorem dX12_laysFits_13 : decode cX12_laysFits 13 = .ok (.ishl, 1) := by decide +kernel
theorem dX12_laysFits_14 : decode cX12_laysFits 14 = .ok (.iconst 1, 1) := by decide +kernel
theorem dX12_laysFits_15 : decode cX12_laysFits 15 = .ok (.isub, 1) := by decide +kernel
theorem dX12_laysFits_16 : decode cX12_laysFits 16 = .ok (.putfield 421, 3) := by decide +kernel
theorem dX12_laysFits_19 : decode cX12_laysFits 19 = .ok (.iconst 0, 1) := by decide +kernel
theorem dX12_laysFits_20 : decode cX12_laysFits 20 = .ok (.istore 4, 2) := by decide +kernel
theorem dX12_laysFits_22 : decode cX12_laysFits 22 = .ok (.iload 4, 2) := by decide +kernel
theorem dX12_laysFits_24 : decode cX12_laysFits 24 = .ok (.bipush 12, 2) := by decide +kernel
theorem dX12_laysFits_26 : decode cX12_laysFits 26 = .ok (.if_icmp .ge 17, 3) := by decide +kernel
theorem dX12_laysFits_29 : decode cX12_laysFits 29 = .ok (.aload_n 0, 1) := by decide +kernel
theorem dX12_laysFits_30 : decode cX12_laysFits 30 = .ok (.getfield 39, 3) := by decide +kernel
theorem dX12_laysFits_33 : decode cX12_laysFits 33 = .ok (.iload 4, 2) := by decide +kernel
theorem dX12_laysFits_35 : decode cX12_laysFits 35 = .ok (.iconst 0, 1) := by decide +kernel
theorem dX12_laysFits_36 : decode cX12_laysFits 36 = .ok (.iastore, 1) := by decide +kernel
theorem dX12_laysFits_37 : decode cX12_laysFits 37 = .ok (.iinc 4 1, 3) := by decide +kernel
theorem dX12_laysFits_40 : decode cX12_laysFits 40 = .ok (.goto (-18), 3) := by decide +kernel
theorem dX12_laysFits_43 : decode cX12_laysFits 43 = .ok (.iconst 0, 1) := by decide +kernel
theorem dX12_laysFits_44 : decode cX12_laysFits 44 = .ok (.istore 4, 2) := by decide +kernel
theorem dX12_laysFits_46 : decode cX12_laysFits 46 = .ok (.iload 4, 2) := by decide +kernel
theorem dX12_laysFits_48 : decode cX12_laysFits 48 = .ok (.iconst 1, 1) := by decide +kernel
theorem dX12_laysFits_49 : decode cX12_laysFits 49 = .ok (.aload_n 0, 1) := by decide +kernel
theorem dX12_laysFits_50 : decode cX12_laysFits 50 = .ok (.getfield 13, 3) := by decide +kernel
theorem dX12_laysFits_53 : decode cX12_laysFits 53 = .ok (.iconst 1, 1) := by decide +kernel
theorem dX12_laysFits_54 : decode cX12_laysFits 54 = .ok (.iaload, 1) := by decide +kernel
theorem dX12_laysFits_55 : decode cX12_laysFits 55 = .ok (.ishl, 1) := by decide +kernel
theorem dX12_laysFits_56 : decode cX12_laysFits 56 = .ok (.if_icmp .ge 109, 3) := by decide +kernel
theorem dX12_laysFits_59 : decode cX12_laysFits 59 = .ok (.iload 4, 2) := by decide +kernel
theorem dX12_laysFits_61 : decode cX12_laysFits 61 = .ok (.i2l, 1) := by decide +kernel
theorem dX12_laysFits_62 : decode cX12_laysFits 62 = .ok (.aload_n 0, 1) := by decide +kernel
theorem dX12_laysFits_63 : decode cX12_laysFits 63 = .ok (.getfield 13, 3) := by decide +kernel
theorem dX12_laysFits_66 : decode cX12_laysFits 66 = .ok (.bipush 60, 2) := by decide +kernel
theorem dX12_laysFits_68 : decode cX12_laysFits 68 = .ok (.iload_n 2, 1) := by decide +kernel
theorem dX12_laysFits_69 : decode cX12_laysFits 69 = .ok (.iadd, 1) := by decide +kernel
theorem dX12_laysFits_70 : decode cX12_laysFits 70 = .ok (.iaload, 1) := by decide +kernel
theorem dX12_laysFits_71 : decode cX12_laysFits 71 = .ok (.invokestatic 207, 3) := by decide +kernel
theorem dX12_laysFits_74 : decode cX12_laysFits 74 = .ok (.ifCond .ne 85, 3) := by decide +kernel
theorem dX12_laysFits_77 : decode cX12_laysFits 77 = .ok (.aload_n 0, 1) := by decide +kernel
theorem dX12_laysFits_78 : decode cX12_laysFits 78 = .ok (.iload_n 1, 1) := by decide +kernel
theorem dX12_laysFits_79 : decode cX12_laysFits 79 = .ok (.iload_n 2, 1) := by decide +kernel
theorem dX12_laysFits_80 : decode cX12_laysFits 80 = .ok (.iload 4, 2) := by decide +kernel
theorem dX12_laysFits_82 : decode cX12_laysFits 82 = .ok (.iload_n 3, 1) := by decide +kernel
theorem dX12_laysFits_83 : decode cX12_laysFits 83 = .ok (.invokevirtual 424, 3) := by decide +kernel
theorem dX12_laysFits_86 : decode cX12_laysFits 86 = .ok (.ifCond .ne 6, 3) := by decide +kernel
theorem dX12_laysFits_89 : decode cX12_laysFits 89 = .ok (.goto 70, 3) := by decide +kernel
theorem dX12_laysFits_92 : decode cX12_laysFits 92 = .ok (.aload_n 0, 1) := by decide +kernel
theorem dX12_laysFits_93 : decode cX12_laysFits 93 = .ok (.dup, 1) := by decide +kernel
theorem dX12_laysFits_94 : decode cX12_laysFits 94 = .ok (.getfield 418, 3) := by decide +kernel
theorem dX12_laysFits_97 : decode cX12_laysFits 97 = .ok (.iconst 1, 1) := by decide +kernel
theorem dX12_laysFits_98 : decode cX12_laysFits 98 = .ok (.iadd, 1) := by decide +kernel
theorem dX12_laysFits_99 : decode cX12_laysFits 99 = .ok (.putfield 418, 3) := by decide +kernel
theorem dX12_laysFits_102 : decode cX12_laysFits 102 = .ok (.aload_n 0, 1) := by decide +kernel
theorem dX12_laysFits_103 : decode cX12_laysFits 103 = .ok (.dup, 1) := by decide +kernel
theorem dX12_laysFits_104 : decode cX12_laysFits 104 = .ok (.getfield 421, 3) := by decide +kernel
theorem dX12_laysFits_107 : decode cX12_laysFits 107 = .ok (.iload 4, 2) := by decide +kernel
theorem dX12_laysFits_109 : decode cX12_laysFits 109 = .ok (.iand, 1) := by decide +kernel
theorem dX12_laysFits_110 : decode cX12_laysFits 110 = .ok (.putfield 421, 3) := by decide +kernel
theorem dX12_laysFits_113 : decode cX12_laysFits 113 = .ok (.iconst 0, 1) := by decide +kernel
theorem dX12_laysFits_114 : decode cX12_laysFits 114 = .ok (.istore 5, 2) := by decide +kernel
theorem dX12_laysFits_116 : decode cX12_laysFits 116 = .ok (.iload 5, 2) := by decide +kernel
theorem dX12_laysFits_118 : decode cX12_laysFits 118 = .ok (.aload_n 0, 1) := by decide +kernel
theorem dX12_laysFits_119 : decode cX12_laysFits 119 = .ok (.getfield 13, 3) := by decide +kernel
theorem dX12_laysFits_122 : decode cX12_laysFits 122 = .ok (.iconst 1, 1) := by decide +kernel
theorem dX12_laysFits_123 : decode cX12_laysFits 123 = .ok (.iaload, 1) := by decide +kernel
theorem dX12_laysFits_124 : decode cX12_laysFits 124 = .ok (.if_icmp .ge 35, 3) := by decide +kernel
theorem dX12_laysFits_127 : decode cX12_laysFits 127 = .ok (.aload_n 0, 1) := by decide +kernel
theorem dX12_laysFits_128 : decode cX12_laysFits 128 = .ok (.getfield 39, 3) := by decide +kernel
theorem dX12_laysFits_131 : decode cX12_laysFits 131 = .ok (.iload 5, 2) := by decide +kernel
theorem dX12_laysFits_133 : decode cX12_laysFits 133 = .ok (.dup2, 1) := by decide +kernel
theorem dX12_laysFits_134 : decode cX12_laysFits 134 = .ok (.iaload, 1) := by decide +kernel
theorem dX12_laysFits_135 : decode cX12_laysFits 135 = .ok (.iload 4, 2) := by decide +kernel
theorem dX12_laysFits_137 : decode cX12_laysFits 137 = .ok (.i2l, 1) := by decide +kernel
theorem dX12_laysFits_138 : decode cX12_laysFits 138 = .ok (.iload 5, 2) := by decide +kernel
theorem dX12_laysFits_140 : decode cX12_laysFits 140 = .ok (.invokestatic 207, 3) := by decide +kernel
theorem dX12_laysFits_143 : decode cX12_laysFits 143 = .ok (.ifCond .eq 7, 3) := by decide +kernel
theorem dX12_laysFits_146 : decode cX12_laysFits 146 = .ok (.iconst 1, 1) := by decide +kernel
theorem dX12_laysFits_147 : decode cX12_laysFits 147 = .ok (.goto 4, 3) := by decide +kernel
theorem dX12_laysFits_150 : decode cX12_laysFits 150 = .ok (.iconst 0, 1) := by decide +kernel
theorem dX12_laysFits_151 : decode cX12_laysFits 151 = .ok (.iadd, 1) := by decide +kernel
theorem dX12_laysFits_152 : decode cX12_laysFits 152 = .ok (.iastore, 1) := by decide +kernel
theorem dX12_laysFits_153 : decode cX12_laysFits 153 = .ok (.iinc 5 1, 3) := by decide +kernel
theorem dX12_laysFits_156 : decode cX12_laysFits 156 = .ok (.goto (-40), 3) := by decide +kernel
theorem dX12_laysFits_159 : decode cX12_laysFits 159 = .ok (.iinc 4 1, 3) := by decide +kernel
theorem dX12_laysFits_162 : decode cX12_laysFits 162 = .ok (.goto (-116), 3) := by decide +kernel
theorem dX12_laysFits_165 : decode cX12_laysFits 165 = .ok (.return_, 1) := by decide +kernel
theorem dX12_seen_0 : decode cX12_seen 0 = .ok (.aload_n 0, 1) := by decide +kernel
theorem dX12_seen_1 : decode cX12_seen 1 = .ok (.iconst 0, 1) := by decide +kernel
theorem dX12_seen_2 : decode cX12_seen 2 = .ok (.putfield 1, 3) := by decide +kernel
theorem dX12_seen_5 : decode cX12_seen 5 = .ok (.aload_n 0, 1) := by decide +kernel
theorem dX12_seen_6 : decode cX12_seen 6 = .ok (.iload_n 1, 1) := by decide +kernel
theorem dX12_seen_7 : decode cX12_seen 7 = .ok (.iload_n 2, 1) := by decide +kernel
theorem dX12_seen_8 : decode cX12_seen 8 = .ok (.invokevirtual 428, 3) := by decide +kernel
theorem dX12_seen_11 : decode cX12_seen 11 = .ok (.istore_n 3, 1) := by decide +kernel
theorem dX12_seen_12 : decode cX12_seen 12 = .ok (.iload_n 3, 1) := by decide +kernel
theorem dX12_seen_13 : decode cX12_seen 13 = .ok (.ifCond .eq 5, 3) := by decide +kernel
theorem dX12_seen_16 : decode cX12_seen 16 = .ok (.iload_n 3, 1) := by decide +kernel
theorem dX12_seen_17 : decode cX12_seen 17 = .ok (.ireturn, 1) := by decide +kernel
theorem dX12_seen_18 : decode cX12_seen 18 = .ok (.aload_n 0, 1) := by decide +kernel
theorem dX12_seen_19 : decode cX12_seen 19 = .ok (.iload_n 1, 1) := by decide +kernel
theorem dX12_seen_20 : decode cX12_seen 20 = .ok (.iload_n 2, 1) := by decide +kernel
theorem dX12_seen_21 : decode cX12_seen 21 = .ok (.aload_n 0, 1) := by decide +kernel
theorem dX12_seen_22 : decode cX12_seen 22 = .ok (.getfield 45, 3) := by decide +kernel
theorem dX12_seen_25 : decode cX12_seen 25 = .ok (.iload_n 1, 1) := by decide +kernel
theorem dX12_seen_26 : decode cX12_seen 26 = .ok (.iaload, 1) := by decide +kernel
theorem dX12_seen_27 : decode cX12_seen 27 = .ok (.invokevirtual 431, 3) := by decide +kernel
theorem dX12_seen_30 : decode cX12_seen 30 = .ok (.aload_n 0, 1) := by decide +kernel
theorem dX12_seen_31 : decode cX12_seen 31 = .ok (.getfield 418, 3) := by decide +kernel
theorem dX12_seen_34 : decode cX12_seen 34 = .ok (.ireturn, 1) := by decide +kernel
theorem dX12_sure_0 : decode cX12_sure 0 = .ok (.aload_n 0, 1) := by decide +kernel
theorem dX12_sure_1 : decode cX12_sure 1 = .ok (.iconst 0, 1) := by decide +kernel
theorem dX12_sure_2 : decode cX12_sure 2 = .ok (.putfield 1, 3) := by decide +kernel
theorem dX12_sure_5 : decode cX12_sure 5 = .ok (.aload_n 0, 1) := by decide +kernel
theorem dX12_sure_6 : decode cX12_sure 6 = .ok (.iload_n 1, 1) := by decide +kernel
theorem dX12_sure_7 : decode cX12_sure 7 = .ok (.iload_n 2, 1) := by decide +kernel
theorem dX12_sure_8 : decode cX12_sure 8 = .ok (.invokevirtual 428, 3) := by decide +kernel
theorem dX12_sure_11 : decode cX12_sure 11 = .ok (.istore_n 3, 1) := by decide +kernel
theorem dX12_sure_12 : decode cX12_sure 12 = .ok (.iload_n 3, 1) := by decide +kernel
theorem dX12_sure_13 : decode cX12_sure 13 = .ok (.ifCond .eq 5, 3) := by decide +kernel
theorem dX12_sure_16 : decode cX12_sure 16 = .ok (.iload_n 3, 1) := by decide +kernel
theorem dX12_sure_17 : decode cX12_sure 17 = .ok (.ireturn, 1) := by decide +kernel
theorem dX12_sure_18 : decode cX12_sure 18 = .ok (.aload_n 0, 1) := by decide +kernel
theorem dX12_sure_19 : decode cX12_sure 19 = .ok (.iload_n 1, 1) := by decide +kernel
theorem dX12_sure_20 : decode cX12_sure 20 = .ok (.iload_n 2, 1) := by decide +kernel
theorem dX12_sure_21 : decode cX12_sure 21 = .ok (.aload_n 0, 1) := by decide +kernel
theorem dX12_sure_22 : decode cX12_sure 22 = .ok (.getfield 45, 3) := by decide +kernel
theorem dX12_sure_25 : decode cX12_sure 25 = .ok (.iload_n 1, 1) := by decide +kernel
theorem dX12_sure_26 : decode cX12_sure 26 = .ok (.iaload, 1) := by decide +kernel
theorem dX12_sure_27 : decode cX12_sure 27 = .ok (.invokevirtual 431, 3) := by decide +kernel
theorem dX12_sure_30 : decode cX12_sure 30 = .ok (.aload_n 0, 1) := by decide +kernel
theorem dX12_sure_31 : decode cX12_sure 31 = .ok (.getfield 418, 3) := by decide +kernel
theorem dX12_sure_34 : decode cX12_sure 34 = .ok (.ifCond .ne 7, 3) := by decide +kernel
theorem dX12_sure_37 : decode cX12_sure 37 = .ok (.iconst 0, 1) := by decide +kernel
theorem dX12_sure_38 : decode cX12_sure 38 = .ok (.goto 7, 3) := by decide +kernel
theorem dX12_sure_41 : decode cX12_sure 41 = .ok (.aload_n 0, 1) := by decide +kernel
theorem dX12_sure_42 : decode cX12_sure 42 = .ok (.getfield 421, 3) := by decide +kernel
theorem dX12_sure_45 : decode cX12_sure 45 = .ok (.ireturn, 1) := by decide +kernel
theorem dX12_look_0 : decode cX12_look 0 = .ok (.aload_n 0, 1) := by decide +kernel
theorem dX12_look_1 : decode cX12_look 1 = .ok (.iconst 0, 1) := by decide +kernel
theorem dX12_look_2 : decode cX12_look 2 = .ok (.putfield 1, 3) := by decide +kernel
theorem dX12_look_5 : decode cX12_look 5 = .ok (.aload_n 0, 1) := by decide +kernel
theorem dX12_look_6 : decode cX12_look 6 = .ok (.iload_n 1, 1) := by decide +kernel
theorem dX12_look_7 : decode cX12_look 7 = .ok (.iload_n 2, 1) := by decide +kernel
theorem dX12_look_8 : decode cX12_look 8 = .ok (.invokevirtual 428, 3) := by decide +kernel
theorem dX12_look_11 : decode cX12_look 11 = .ok (.istore_n 3, 1) := by decide +kernel
theorem dX12_look_12 : decode cX12_look 12 = .ok (.iload_n 3, 1) := by decide +kernel
theorem dX12_look_13 : decode cX12_look 13 = .ok (.ifCond .eq 5, 3) := by decide +kernel
theorem dX12_look_16 : decode cX12_look 16 = .ok (.iload_n 3, 1) := by decide +kernel
theorem dX12_look_17 : decode cX12_look 17 = .ok (.ireturn, 1) := by decide +kernel
theorem dX12_look_18 : decode cX12_look 18 = .ok (.aload_n 0, 1) := by decide +kernel
theorem dX12_look_19 : decode cX12_look 19 = .ok (.iload_n 1, 1) := by decide +kernel
theorem dX12_look_20 : decode cX12_look 20 = .ok (.iload_n 2, 1) := by decide +kernel
theorem dX12_look_21 : decode cX12_look 21 = .ok (.aload_n 0, 1) := by decide +kernel
theorem dX12_look_22 : decode cX12_look 22 = .ok (.getfield 45, 3) := by decide +kernel
theorem dX12_look_25 : decode cX12_look 25 = .ok (.iload_n 1, 1) := by decide +kernel
theorem dX12_look_26 : decode cX12_look 26 = .ok (.iaload, 1) := by decide +kernel
theorem dX12_look_27 : decode cX12_look 27 = .ok (.invokevirtual 431, 3) := by decide +kernel
theorem dX12_look_30 : decode cX12_look 30 = .ok (.iconst (-1), 1) := by decide +kernel
theorem dX12_look_31 : decode cX12_look 31 = .ok (.istore 4, 2) := by decide +kernel
theorem dX12_look_33 : decode cX12_look 33 = .ok (.iconst (-1), 1) := by decide +kernel
theorem dX12_look_34 : decode cX12_look 34 = .ok (.istore 5, 2) := by decide +kernel
theorem dX12_look_36 : decode cX12_look 36 = .ok (.iconst 0, 1) := by decide +kernel
theorem dX12_look_37 : decode cX12_look 37 = .ok (.istore 6, 2) := by decide +kernel
theorem dX12_look_39 : decode cX12_look 39 = .ok (.iload 6, 2) := by decide +kernel
theorem dX12_look_41 : decode cX12_look 41 = .ok (.aload_n 0, 1) := by decide +kernel
theorem dX12_look_42 : decode cX12_look 42 = .ok (.getfield 13, 3) := by decide +kernel
theorem dX12_look_45 : decode cX12_look 45 = .ok (.iconst 1, 1) := by decide +kernel
theorem dX12_look_46 : decode cX12_look 46 = .ok (.iaload, 1) := by decide +kernel
theorem dX12_look_47 : decode cX12_look 47 = .ok (.if_icmp .ge 94, 3) := by decide +kernel
theorem dX12_look_50 : decode cX12_look 50 = .ok (.aload_n 0, 1) := by decide +kernel
theorem dX12_look_51 : decode cX12_look 51 = .ok (.getfield 418, 3) := by decide +kernel
theorem dX12_look_54 : decode cX12_look 54 = .ok (.ifCond .le 87, 3) := by decide +kernel
theorem dX12_look_57 : decode cX12_look 57 = .ok (.aload_n 0, 1) := by decide +kernel
theorem dX12_look_58 : decode cX12_look 58 = .ok (.getfield 39, 3) := by decide +kernel
theorem dX12_look_61 : decode cX12_look 61 = .ok (.iload 6, 2) := by decide +kernel
theorem dX12_look_63 : decode cX12_look 63 = .ok (.iaload, 1) := by decide +kernel
theorem dX12_look_64 : decode cX12_look 64 = .ok (.aload_n 0, 1) := by decide +kernel
theorem dX12_look_65 : decode cX12_look 65 = .ok (.getfield 418, 3) := by decide +kernel
theorem dX12_look_68 : decode cX12_look 68 = .ok (.aload_n 0, 1) := by decide +kernel
theorem dX12_look_69 : decode cX12_look 69 = .ok (.getfield 39, 3) := by decide +kernel
theorem dX12_look_72 : decode cX12_look 72 = .ok (.iload 6, 2) := by decide +kernel
theorem dX12_look_74 : decode cX12_look 74 = .ok (.iaload, 1) := by decide +kernel
theorem dX12_look_75 : decode cX12_look 75 = .ok (.isub, 1) := by decide +kernel
theorem dX12_look_76 : decode cX12_look 76 = .ok (.if_icmp .ge 13, 3) := by decide +kernel
theorem dX12_look_79 : decode cX12_look 79 = .ok (.aload_n 0, 1) := by decide +kernel
theorem dX12_look_80 : decode cX12_look 80 = .ok (.getfield 39, 3) := by decide +kernel
theorem dX12_look_83 : decode cX12_look 83 = .ok (.iload 6, 2) := by decide +kernel
theorem dX12_look_85 : decode cX12_look 85 = .ok (.iaload, 1) := by decide +kernel
theorem dX12_look_86 : decode cX12_look 86 = .ok (.goto 15, 3) := by decide +kernel
theorem dX12_look_89 : decode cX12_look 89 = .ok (.aload_n 0, 1) := by decide +kernel
theorem dX12_look_90 : decode cX12_look 90 = .ok (.getfield 418, 3) := by decide +kernel
theorem dX12_look_93 : decode cX12_look 93 = .ok (.aload_n 0, 1) := by decide +kernel
theorem dX12_look_94 : decode cX12_look 94 = .ok (.getfield 39, 3) := by decide +kernel
theorem dX12_look_97 : decode cX12_look 97 = .ok (.iload 6, 2) := by decide +kernel
theorem dX12_look_99 : decode cX12_look 99 = .ok (.iaload, 1) := by decide +kernel
theorem dX12_look_100 : decode cX12_look 100 = .ok (.isub, 1) := by decide +kernel
theorem dX12_look_101 : decode cX12_look 101 = .ok (.istore 7, 2) := by decide +kernel
theorem dX12_look_103 : decode cX12_look 103 = .ok (.iload 6, 2) := by decide +kernel
theorem dX12_look_105 : decode cX12_look 105 = .ok (.aload_n 0, 1) := by decide +kernel
theorem dX12_look_106 : decode cX12_look 106 = .ok (.getfield 13, 3) := by decide +kernel
theorem dX12_look_109 : decode cX12_look 109 = .ok (.bipush 60, 2) := by decide +kernel
theorem dX12_look_111 : decode cX12_look 111 = .ok (.iload_n 2, 1) := by decide +kernel
theorem dX12_look_112 : decode cX12_look 112 = .ok (.iadd, 1) := by decide +kernel
theorem dX12_look_113 : decode cX12_look 113 = .ok (.iaload, 1) := by decide +kernel
theorem dX12_look_114 : decode cX12_look 114 = .ok (.if_icmp .eq 21, 3) := by decide +kernel
theorem dX12_look_117 : decode cX12_look 117 = .ok (.iload 7, 2) := by decide +kernel
theorem dX12_look_119 : decode cX12_look 119 = .ok (.iload 5, 2) := by decide +kernel
theorem dX12_look_121 : decode cX12_look 121 = .ok (.if_icmp .gt 6, 3) := by decide +kernel
theorem dX12_look_124 : decode cX12_look 124 = .ok (.goto 11, 3) := by decide +kernel
theorem dX12_look_127 : decode cX12_look 127 = .ok (.iload 6, 2) := by decide +kernel
theorem dX12_look_129 : decode cX12_look 129 = .ok (.istore 4, 2) := by decide +kernel
theorem dX12_look_131 : decode cX12_look 131 = .ok (.iload 7, 2) := by decide +kernel
theorem dX12_look_133 : decode cX12_look 133 = .ok (.istore 5, 2) := by decide +kernel
theorem dX12_look_135 : decode cX12_look 135 = .ok (.iinc 6 1, 3) := by decide +kernel
theorem dX12_look_138 : decode cX12_look 138 = .ok (.goto (-99), 3) := by decide +kernel
theorem dX12_look_141 : decode cX12_look 141 = .ok (.iload 4, 2) := by decide +kernel
theorem dX12_look_143 : decode cX12_look 143 = .ok (.ireturn, 1) := by decide +kernel
theorem dX12_odd_0 : decode cX12_odd 0 = .ok (.aload_n 0, 1) := by decide +kernel
theorem dX12_odd_1 : decode cX12_odd 1 = .ok (.iconst 0, 1) := by decide +kernel
theorem dX12_odd_2 : decode cX12_odd 2 = .ok (.putfield 1, 3) := by decide +kernel
theorem dX12_odd_5 : decode cX12_odd 5 = .ok (.aload_n 0, 1) := by decide +kernel
theorem dX12_odd_6 : decode cX12_odd 6 = .ok (.iload_n 1, 1) := by decide +kernel
theorem dX12_odd_7 : decode cX12_odd 7 = .ok (.iload_n 2, 1) := by decide +kernel
theorem dX12_odd_8 : decode cX12_odd 8 = .ok (.invokevirtual 428, 3) := by decide +kernel
theorem dX12_odd_11 : decode cX12_odd 11 = .ok (.istore_n 3, 1) := by decide +kernel
theorem dX12_odd_12 : decode cX12_odd 12 = .ok (.iload_n 3, 1) := by decide +kernel
theorem dX12_odd_13 : decode cX12_odd 13 = .ok (.ifCond .eq 5, 3) := by decide +kernel
theorem dX12_odd_16 : decode cX12_odd 16 = .ok (.iload_n 3, 1) := by decide +kernel
theorem dX12_odd_17 : decode cX12_odd 17 = .ok (.ireturn, 1) := by decide +kernel
theorem dX12_odd_18 : decode cX12_odd 18 = .ok (.iconst 2, 1) := by decide +kernel
theorem dX12_odd_19 : decode cX12_odd 19 = .ok (.istore 4, 2) := by decide +kernel
theorem dX12_odd_21 : decode cX12_odd 21 = .ok (.iload 4, 2) := by decide +kernel
theorem dX12_odd_23 : decode cX12_odd 23 = .ok (.aload_n 0, 1) := by decide +kernel
theorem dX12_odd_24 : decode cX12_odd 24 = .ok (.getfield 45, 3) := by decide +kernel
theorem dX12_odd_27 : decode cX12_odd 27 = .ok (.iload_n 1, 1) := by decide +kernel
theorem dX12_odd_28 : decode cX12_odd 28 = .ok (.iaload, 1) := by decide +kernel
theorem dX12_odd_29 : decode cX12_odd 29 = .ok (.if_icmp .gt 31, 3) := by decide +kernel
theorem dX12_odd_32 : decode cX12_odd 32 = .ok (.aload_n 0, 1) := by decide +kernel
theorem dX12_odd_33 : decode cX12_odd 33 = .ok (.iload_n 1, 1) := by decide +kernel
theorem dX12_odd_34 : decode cX12_odd 34 = .ok (.iload_n 2, 1) := by decide +kernel
theorem dX12_odd_35 : decode cX12_odd 35 = .ok (.iload 4, 2) := by decide +kernel
theorem dX12_odd_37 : decode cX12_odd 37 = .ok (.invokevirtual 431, 3) := by decide +kernel
theorem dX12_odd_40 : decode cX12_odd 40 = .ok (.aload_n 0, 1) := by decide +kernel
theorem dX12_odd_41 : decode cX12_odd 41 = .ok (.getfield 418, 3) := by decide +kernel
theorem dX12_odd_44 : decode cX12_odd 44 = .ok (.ifCond .ne 10, 3) := by decide +kernel
theorem dX12_odd_47 : decode cX12_odd 47 = .ok (.iload 4, 2) := by decide +kernel
theorem dX12_odd_49 : decode cX12_odd 49 = .ok (.iconst 2, 1) := by decide +kernel
theorem dX12_odd_50 : decode cX12_odd 50 = .ok (.idiv, 1) := by decide +kernel
theorem dX12_odd_51 : decode cX12_odd 51 = .ok (.iconst 1, 1) := by decide +kernel
theorem dX12_odd_52 : decode cX12_odd 52 = .ok (.isub, 1) := by decide +kernel
theorem dX12_odd_53 : decode cX12_odd 53 = .ok (.ireturn, 1) := by decide +kernel
theorem dX12_odd_54 : decode cX12_odd 54 = .ok (.iinc 4 2, 3) := by decide +kernel
theorem dX12_odd_57 : decode cX12_odd 57 = .ok (.goto (-36), 3) := by decide +kernel
theorem dX12_odd_60 : decode cX12_odd 60 = .ok (.iconst (-1), 1) := by decide +kernel
theorem dX12_odd_61 : decode cX12_odd 61 = .ok (.ireturn, 1) := by decide +kernel
theorem dX12_cut_0 : decode cX12_cut 0 = .ok (.iload_n 2, 1) := by decide +kernel
theorem dX12_cut_1 : decode cX12_cut 1 = .ok (.ifCond .ne 10, 3) := by decide +kernel
theorem dX12_cut_4 : decode cX12_cut 4 = .ok (.lload_n 0, 1) := by decide +kernel
theorem dX12_cut_5 : decode cX12_cut 5 = .ok (.l2i, 1) := by decide +kernel
theorem dX12_cut_6 : decode cX12_cut 6 = .ok (.i2b, 1) := by decide +kernel
theorem dX12_cut_7 : decode cX12_cut 7 = .ok (.i2l, 1) := by decide +kernel
theorem dX12_cut_8 : decode cX12_cut 8 = .ok (.goto 27, 3) := by decide +kernel
theorem dX12_cut_11 : decode cX12_cut 11 = .ok (.iload_n 2, 1) := by decide +kernel
theorem dX12_cut_12 : decode cX12_cut 12 = .ok (.iconst 1, 1) := by decide +kernel
theorem dX12_cut_13 : decode cX12_cut 13 = .ok (.if_icmp .ne 10, 3) := by decide +kernel
theorem dX12_cut_16 : decode cX12_cut 16 = .ok (.lload_n 0, 1) := by decide +kernel
theorem dX12_cut_17 : decode cX12_cut 17 = .ok (.l2i, 1) := by decide +kernel
theorem dX12_cut_18 : decode cX12_cut 18 = .ok (.i2s, 1) := by decide +kernel
theorem dX12_cut_19 : decode cX12_cut 19 = .ok (.i2l, 1) := by decide +kernel
theorem dX12_cut_20 : decode cX12_cut 20 = .ok (.goto 15, 3) := by decide +kernel
theorem dX12_cut_23 : decode cX12_cut 23 = .ok (.iload_n 2, 1) := by decide +kernel
theorem dX12_cut_24 : decode cX12_cut 24 = .ok (.iconst 2, 1) := by decide +kernel
theorem dX12_cut_25 : decode cX12_cut 25 = .ok (.if_icmp .ne 9, 3) := by decide +kernel
theorem dX12_cut_28 : decode cX12_cut 28 = .ok (.lload_n 0, 1) := by decide +kernel
theorem dX12_cut_29 : decode cX12_cut 29 = .ok (.l2i, 1) := by decide +kernel
theorem dX12_cut_30 : decode cX12_cut 30 = .ok (.i2l, 1) := by decide +kernel
theorem dX12_cut_31 : decode cX12_cut 31 = .ok (.goto 4, 3) := by decide +kernel
theorem dX12_cut_34 : decode cX12_cut 34 = .ok (.lload_n 0, 1) := by decide +kernel
theorem dX12_cut_35 : decode cX12_cut 35 = .ok (.lreturn, 1) := by decide +kernel
theorem dX12_numbers_0 : decode cX12_numbers 0 = .ok (.aload_n 0, 1) := by decide +kernel
theorem dX12_numbers_1 : decode cX12_numbers 1 = .ok (.iconst 0, 1) := by decide +kernel
theorem dX12_numbers_2 : decode cX12_numbers 2 = .ok (.putfield 1, 3) := by decide +kernel
theorem dX12_numbers_5 : decode cX12_numbers 5 = .ok (.iload_n 1, 1) := by decide +kernel
theorem dX12_numbers_6 : decode cX12_numbers 6 = .ok (.i2l, 1) := by decide +kernel
theorem dX12_numbers_7 : decode cX12_numbers 7 = .ok (.lconst 0, 1) := by decide +kernel
theorem dX12_numbers_8 : decode cX12_numbers 8 = .ok (.ldc2_w 323, 3) := by decide +kernel
theorem dX12_numbers_11 : decode cX12_numbers 11 = .ok (.invokestatic 118, 3) := by decide +kernel
theorem dX12_numbers_14 : decode cX12_numbers 14 = .ok (.ifCond .eq 15, 3) := by decide +kernel
theorem dX12_numbers_17 : decode cX12_numbers 17 = .ok (.iload_n 2, 1) := by decide +kernel
theorem dX12_numbers_18 : decode cX12_numbers 18 = .ok (.i2l, 1) := by decide +kernel
theorem dX12_numbers_19 : decode cX12_numbers 19 = .ok (.lconst 0, 1) := by decide +kernel
theorem dX12_numbers_20 : decode cX12_numbers 20 = .ok (.ldc2_w 323, 3) := by decide +kernel
theorem dX12_numbers_23 : decode cX12_numbers 23 = .ok (.invokestatic 118, 3) := by decide +kernel
theorem dX12_numbers_26 : decode cX12_numbers 26 = .ok (.ifCond .ne 6, 3) := by decide +kernel
theorem dX12_numbers_29 : decode cX12_numbers 29 = .ok (.bipush (-2), 2) := by decide +kernel
theorem dX12_numbers_31 : decode cX12_numbers 31 = .ok (.ireturn, 1) := by decide +kernel
theorem dX12_numbers_32 : decode cX12_numbers 32 = .ok (.iload_n 3, 1) := by decide +kernel
theorem dX12_numbers_33 : decode cX12_numbers 33 = .ok (.i2l, 1) := by decide +kernel
theorem dX12_numbers_34 : decode cX12_numbers 34 = .ok (.lconst 0, 1) := by decide +kernel
theorem dX12_numbers_35 : decode cX12_numbers 35 = .ok (.ldc2_w 347, 3) := by decide +kernel
theorem dX12_numbers_38 : decode cX12_numbers 38 = .ok (.invokestatic 118, 3) := by decide +kernel
theorem dX12_numbers_41 : decode cX12_numbers 41 = .ok (.ifCond .ne 6, 3) := by decide +kernel
theorem dX12_numbers_44 : decode cX12_numbers 44 = .ok (.bipush (-3), 2) := by decide +kernel
theorem dX12_numbers_46 : decode cX12_numbers 46 = .ok (.ireturn, 1) := by decide +kernel
theorem dX12_numbers_47 : decode cX12_numbers 47 = .ok (.aload_n 0, 1) := by decide +kernel
theorem dX12_numbers_48 : decode cX12_numbers 48 = .ok (.getfield 42, 3) := by decide +kernel
theorem dX12_numbers_51 : decode cX12_numbers 51 = .ok (.iload_n 1, 1) := by decide +kernel
theorem dX12_numbers_52 : decode cX12_numbers 52 = .ok (.iload_n 2, 1) := by decide +kernel
theorem dX12_numbers_53 : decode cX12_numbers 53 = .ok (.iastore, 1) := by decide +kernel
theorem dX12_numbers_54 : decode cX12_numbers 54 = .ok (.aload_n 0, 1) := by decide +kernel
theorem dX12_numbers_55 : decode cX12_numbers 55 = .ok (.getfield 45, 3) := by decide +kernel
theorem dX12_numbers_58 : decode cX12_numbers 58 = .ok (.iload_n 1, 1) := by decide +kernel
theorem dX12_numbers_59 : decode cX12_numbers 59 = .ok (.iload_n 3, 1) := by decide +kernel
theorem dX12_numbers_60 : decode cX12_numbers 60 = .ok (.iastore, 1) := by decide +kernel
theorem dX12_numbers_61 : decode cX12_numbers 61 = .ok (.iconst 0, 1) := by decide +kernel
theorem dX12_numbers_62 : decode cX12_numbers 62 = .ok (.istore 4, 2) := by decide +kernel
theorem dX12_numbers_64 : decode cX12_numbers 64 = .ok (.iload 4, 2) := by decide +kernel
theorem dX12_numbers_66 : decode cX12_numbers 66 = .ok (.iload_n 3, 1) := by decide +kernel
theorem dX12_numbers_67 : decode cX12_numbers 67 = .ok (.if_icmp .ge 22, 3) := by decide +kernel
theorem dX12_numbers_70 : decode cX12_numbers 70 = .ok (.aload_n 0, 1) := by decide +kernel
theorem dX12_numbers_71 : decode cX12_numbers 71 = .ok (.getfield 48, 3) := by decide +kernel
theorem dX12_numbers_74 : decode cX12_numbers 74 = .ok (.bipush 40, 2) := by decide +kernel
theorem dX12_numbers_76 : decode cX12_numbers 76 = .ok (.iload_n 1, 1) := by decide +kernel
theorem dX12_numbers_77 : decode cX12_numbers 77 = .ok (.imul, 1) := by decide +kernel
theorem dX12_numbers_78 : decode cX12_numbers 78 = .ok (.iload 4, 2) := by decide +kernel
theorem dX12_numbers_80 : decode cX12_numbers 80 = .ok (.iadd, 1) := by decide +kernel
theorem dX12_numbers_81 : decode cX12_numbers 81 = .ok (.lconst 0, 1) := by decide +kernel
theorem dX12_numbers_82 : decode cX12_numbers 82 = .ok (.lastore, 1) := by decide +kernel
theorem dX12_numbers_83 : decode cX12_numbers 83 = .ok (.iinc 4 1, 3) := by decide +kernel
theorem dX12_numbers_86 : decode cX12_numbers 86 = .ok (.goto (-22), 3) := by decide +kernel
theorem dX12_numbers_89 : decode cX12_numbers 89 = .ok (.iconst 0, 1) := by decide +kernel
theorem dX12_numbers_90 : decode cX12_numbers 90 = .ok (.ireturn, 1) := by decide +kernel
theorem dX12_write_0 : decode cX12_write 0 = .ok (.aload_n 0, 1) := by decide +kernel
theorem dX12_write_1 : decode cX12_write 1 = .ok (.iconst 0, 1) := by decide +kernel
theorem dX12_write_2 : decode cX12_write 2 = .ok (.putfield 1, 3) := by decide +kernel
theorem dX12_write_5 : decode cX12_write 5 = .ok (.aload_n 0, 1) := by decide +kernel
theorem dX12_write_6 : decode cX12_write 6 = .ok (.iload_n 1, 1) := by decide +kernel
theorem dX12_write_7 : decode cX12_write 7 = .ok (.invokevirtual 325, 3) := by decide +kernel
theorem dX12_write_10 : decode cX12_write 10 = .ok (.istore 5, 2) := by decide +kernel
theorem dX12_write_12 : decode cX12_write 12 = .ok (.iload 5, 2) := by decide +kernel
theorem dX12_write_14 : decode cX12_write 14 = .ok (.ifCond .eq 7, 3) := by decide +kernel
theorem dX12_write_17 : decode cX12_write 17 = .ok (.iload 5, 2) := by decide +kernel
theorem dX12_write_19 : decode cX12_write 19 = .ok (.i2l, 1) := by decide +kernel
theorem dX12_write_20 : decode cX12_write 20 = .ok (.lreturn, 1) := by decide +kernel
theorem dX12_write_21 : decode cX12_write 21 = .ok (.iload_n 2, 1) := by decide +kernel
theorem dX12_write_22 : decode cX12_write 22 = .ok (.i2l, 1) := by decide +kernel
theorem dX12_write_23 : decode cX12_write 23 = .ok (.lconst 0, 1) := by decide +kernel
theorem dX12_write_24 : decode cX12_write 24 = .ok (.aload_n 0, 1) := by decide +kernel
theorem dX12_write_25 : decode cX12_write 25 = .ok (.getfield 45, 3) := by decide +kernel
theorem dX12_write_28 : decode cX12_write 28 = .ok (.iload_n 1, 1) := by decide +kernel
theorem dX12_write_29 : decode cX12_write 29 = .ok (.iaload, 1) := by decide +kernel
theorem dX12_write_30 : decode cX12_write 30 = .ok (.iconst 1, 1) := by decide +kernel
theorem dX12_write_31 : decode cX12_write 31 = .ok (.isub, 1) := by decide +kernel
theorem dX12_write_32 : decode cX12_write 32 = .ok (.i2l, 1) := by decide +kernel
theorem dX12_write_33 : decode cX12_write 33 = .ok (.invokestatic 118, 3) := by decide +kernel
theorem dX12_write_36 : decode cX12_write 36 = .ok (.ifCond .ne 7, 3) := by decide +kernel
theorem dX12_write_39 : decode cX12_write 39 = .ok (.ldc2_w 435, 3) := by decide +kernel
theorem dX12_write_42 : decode cX12_write 42 = .ok (.lreturn, 1) := by decide +kernel
theorem dX12_write_43 : decode cX12_write 43 = .ok (.aload_n 0, 1) := by decide +kernel
theorem dX12_write_44 : decode cX12_write 44 = .ok (.getfield 48, 3) := by decide +kernel
theorem dX12_write_47 : decode cX12_write 47 = .ok (.bipush 40, 2) := by decide +kernel
theorem dX12_write_49 : decode cX12_write 49 = .ok (.iload_n 1, 1) := by decide +kernel
theorem dX12_write_50 : decode cX12_write 50 = .ok (.imul, 1) := by decide +kernel
theorem dX12_write_51 : decode cX12_write 51 = .ok (.iload_n 2, 1) := by decide +kernel
theorem dX12_write_52 : decode cX12_write 52 = .ok (.iadd, 1) := by decide +kernel
theorem dX12_write_53 : decode cX12_write 53 = .ok (.lload_n 3, 1) := by decide +kernel
theorem dX12_write_54 : decode cX12_write 54 = .ok (.aload_n 0, 1) := by decide +kernel
theorem dX12_write_55 : decode cX12_write 55 = .ok (.getfield 42, 3) := by decide +kernel
theorem dX12_write_58 : decode cX12_write 58 = .ok (.iload_n 1, 1) := by decide +kernel
theorem dX12_write_59 : decode cX12_write 59 = .ok (.iaload, 1) := by decide +kernel
theorem dX12_write_60 : decode cX12_write 60 = .ok (.invokestatic 437, 3) := by decide +kernel
theorem dX12_write_63 : decode cX12_write 63 = .ok (.lastore, 1) := by decide +kernel
theorem dX12_write_64 : decode cX12_write 64 = .ok (.aload_n 0, 1) := by decide +kernel
theorem dX12_write_65 : decode cX12_write 65 = .ok (.getfield 48, 3) := by decide +kernel
theorem dX12_write_68 : decode cX12_write 68 = .ok (.bipush 40, 2) := by decide +kernel
theorem dX12_write_70 : decode cX12_write 70 = .ok (.iload_n 1, 1) := by decide +kernel
theorem dX12_write_71 : decode cX12_write 71 = .ok (.imul, 1) := by decide +kernel
theorem dX12_write_72 : decode cX12_write 72 = .ok (.iload_n 2, 1) := by decide +kernel
theorem dX12_write_73 : decode cX12_write 73 = .ok (.iadd, 1) := by decide +kernel
theorem dX12_write_74 : decode cX12_write 74 = .ok (.laload, 1) := by decide +kernel
theorem dX12_write_75 : decode cX12_write 75 = .ok (.lreturn, 1) := by decide +kernel
theorem dX12_lists_0 : decode cX12_lists 0 = .ok (.aload_n 0, 1) := by decide +kernel
theorem dX12_lists_1 : decode cX12_lists 1 = .ok (.iconst 0, 1) := by decide +kernel
theorem dX12_lists_2 : decode cX12_lists 2 = .ok (.putfield 1, 3) := by decide +kernel
theorem dX12_lists_5 : decode cX12_lists 5 = .ok (.iload_n 1, 1) := by decide +kernel
theorem dX12_lists_6 : decode cX12_lists 6 = .ok (.i2l, 1) := by decide +kernel
theorem dX12_lists_7 : decode cX12_lists 7 = .ok (.lconst 0, 1) := by decide +kernel
theorem dX12_lists_8 : decode cX12_lists 8 = .ok (.ldc2_w 323, 3) := by decide +kernel
theorem dX12_lists_11 : decode cX12_lists 11 = .ok (.invokestatic 118, 3) := by decide +kernel
theorem dX12_lists_14 : decode cX12_lists 14 = .ok (.ifCond .eq 12, 3) := by decide +kernel
theorem dX12_lists_17 : decode cX12_lists 17 = .ok (.aload_n 0, 1) := by decide +kernel
theorem dX12_lists_18 : decode cX12_lists 18 = .ok (.iload_n 2, 1) := by decide +kernel
theorem dX12_lists_19 : decode cX12_lists 19 = .ok (.i2l, 1) := by decide +kernel
theorem dX12_lists_20 : decode cX12_lists 20 = .ok (.invokevirtual 230, 3) := by decide +kernel
theorem dX12_lists_23 : decode cX12_lists 23 = .ok (.ifCond .ne 6, 3) := by decide +kernel
theorem dX12_lists_26 : decode cX12_lists 26 = .ok (.bipush (-2), 2) := by decide +kernel
theorem dX12_lists_28 : decode cX12_lists 28 = .ok (.ireturn, 1) := by decide +kernel
theorem dX12_lists_29 : decode cX12_lists 29 = .ok (.aload_n 0, 1) := by decide +kernel
theorem dX12_lists_30 : decode cX12_lists 30 = .ok (.iload_n 1, 1) := by decide +kernel
theorem dX12_lists_31 : decode cX12_lists 31 = .ok (.invokevirtual 325, 3) := by decide +kernel
theorem dX12_lists_34 : decode cX12_lists 34 = .ok (.istore_n 3, 1) := by decide +kernel
theorem dX12_lists_35 : decode cX12_lists 35 = .ok (.iload_n 3, 1) := by decide +kernel
theorem dX12_lists_36 : decode cX12_lists 36 = .ok (.ifCond .eq 5, 3) := by decide +kernel
theorem dX12_lists_39 : decode cX12_lists 39 = .ok (.iload_n 3, 1) := by decide +kernel
theorem dX12_lists_40 : decode cX12_lists 40 = .ok (.ireturn, 1) := by decide +kernel
theorem dX12_lists_41 : decode cX12_lists 41 = .ok (.aload_n 0, 1) := by decide +kernel
theorem dX12_lists_42 : decode cX12_lists 42 = .ok (.iload_n 2, 1) := by decide +kernel
theorem dX12_lists_43 : decode cX12_lists 43 = .ok (.invokevirtual 234, 3) := by decide +kernel
theorem dX12_lists_46 : decode cX12_lists 46 = .ok (.iconst 0, 1) := by decide +kernel
theorem dX12_lists_47 : decode cX12_lists 47 = .ok (.istore 4, 2) := by decide +kernel
theorem dX12_lists_49 : decode cX12_lists 49 = .ok (.aload_n 0, 1) := by decide +kernel
theorem dX12_lists_50 : decode cX12_lists 50 = .ok (.getfield 200, 3) := by decide +kernel
theorem dX12_lists_53 : decode cX12_lists 53 = .ok (.ifCond .eq 84, 3) := by decide +kernel
theorem dX12_lists_56 : decode cX12_lists 56 = .ok (.iload 4, 2) := by decide +kernel
theorem dX12_lists_58 : decode cX12_lists 58 = .ok (.aload_n 0, 1) := by decide +kernel
theorem dX12_lists_59 : decode cX12_lists 59 = .ok (.getfield 45, 3) := by decide +kernel
theorem dX12_lists_62 : decode cX12_lists 62 = .ok (.iload_n 1, 1) := by decide +kernel
theorem dX12_lists_63 : decode cX12_lists 63 = .ok (.iaload, 1) := by decide +kernel
theorem dX12_lists_64 : decode cX12_lists 64 = .ok (.if_icmp .ge 73, 3) := by decide +kernel
theorem dX12_lists_67 : decode cX12_lists 67 = .ok (.aload_n 0, 1) := by decide +kernel
theorem dX12_lists_68 : decode cX12_lists 68 = .ok (.invokevirtual 251, 3) := by decide +kernel
theorem dX12_lists_71 : decode cX12_lists 71 = .ok (.istore 5, 2) := by decide +kernel
theorem dX12_lists_73 : decode cX12_lists 73 = .ok (.aload_n 0, 1) := by decide +kernel
theorem dX12_lists_74 : decode cX12_lists 74 = .ok (.getfield 48, 3) := by decide +kernel
theorem dX12_lists_77 : decode cX12_lists 77 = .ok (.bipush 40, 2) := by decide +kernel
theorem dX12_lists_79 : decode cX12_lists 79 = .ok (.iload_n 1, 1) := by decide +kernel
theorem dX12_lists_80 : decode cX12_lists 80 = .ok (.imul, 1) := by decide +kernel
theorem dX12_lists_81 : decode cX12_lists 81 = .ok (.iload 4, 2) := by decide +kernel
theorem dX12_lists_83 : decode cX12_lists 83 = .ok (.iadd, 1) := by decide +kernel
theorem dX12_lists_84 : decode cX12_lists 84 = .ok (.iload 5, 2) := by decide +kernel
theorem dX12_lists_86 : decode cX12_lists 86 = .ok (.i2l, 1) := by decide +kernel
theorem dX12_lists_87 : decode cX12_lists 87 = .ok (.lastore, 1) := by decide +kernel
theorem dX12_lists_88 : decode cX12_lists 88 = .ok (.iinc 4 1, 3) := by decide +kernel
theorem dX12_lists_91 : decode cX12_lists 91 = .ok (.iload 4, 2) := by decide +kernel
theorem dX12_lists_93 : decode cX12_lists 93 = .ok (.aload_n 0, 1) := by decide +kernel
theorem dX12_lists_94 : decode cX12_lists 94 = .ok (.getfield 45, 3) := by decide +kernel
theorem dX12_lists_97 : decode cX12_lists 97 = .ok (.iload_n 1, 1) := by decide +kernel
theorem dX12_lists_98 : decode cX12_lists 98 = .ok (.iaload, 1) := by decide +kernel
theorem dX12_lists_99 : decode cX12_lists 99 = .ok (.if_icmp .ne 6, 3) := by decide +kernel
theorem dX12_lists_102 : decode cX12_lists 102 = .ok (.goto 35, 3) := by decide +kernel
theorem dX12_lists_105 : decode cX12_lists 105 = .ok (.aload_n 0, 1) := by decide +kernel
theorem dX12_lists_106 : decode cX12_lists 106 = .ok (.getfield 48, 3) := by decide +kernel
theorem dX12_lists_109 : decode cX12_lists 109 = .ok (.bipush 40, 2) := by decide +kernel
theorem dX12_lists_111 : decode cX12_lists 111 = .ok (.iload_n 1, 1) := by decide +kernel
theorem dX12_lists_112 : decode cX12_lists 112 = .ok (.imul, 1) := by decide +kernel
theorem dX12_lists_113 : decode cX12_lists 113 = .ok (.iload 4, 2) := by decide +kernel
theorem dX12_lists_115 : decode cX12_lists 115 = .ok (.iadd, 1) := by decide +kernel
theorem dX12_lists_116 : decode cX12_lists 116 = .ok (.aload_n 0, 1) := by decide +kernel
theorem dX12_lists_117 : decode cX12_lists 117 = .ok (.getfield 221, 3) := by decide +kernel
theorem dX12_lists_120 : decode cX12_lists 120 = .ok (.i2l, 1) := by decide +kernel
theorem dX12_lists_121 : decode cX12_lists 121 = .ok (.aload_n 0, 1) := by decide +kernel
theorem dX12_lists_122 : decode cX12_lists 122 = .ok (.getfield 42, 3) := by decide +kernel
theorem dX12_lists_125 : decode cX12_lists 125 = .ok (.iload_n 1, 1) := by decide +kernel
theorem dX12_lists_126 : decode cX12_lists 126 = .ok (.iaload, 1) := by decide +kernel
theorem dX12_lists_127 : decode cX12_lists 127 = .ok (.invokestatic 437, 3) := by decide +kernel
theorem dX12_lists_130 : decode cX12_lists 130 = .ok (.lastore, 1) := by decide +kernel
theorem dX12_lists_131 : decode cX12_lists 131 = .ok (.iinc 4 1, 3) := by decide +kernel
theorem dX12_lists_134 : decode cX12_lists 134 = .ok (.goto (-85), 3) := by decide +kernel
theorem dX12_lists_137 : decode cX12_lists 137 = .ok (.iload 4, 2) := by decide +kernel
theorem dX12_lists_139 : decode cX12_lists 139 = .ok (.ireturn, 1) := by decide +kernel
theorem dX12_image_0 : decode cX12_image 0 = .ok (.aload_n 0, 1) := by decide +kernel
theorem dX12_image_1 : decode cX12_image 1 = .ok (.iconst 0, 1) := by decide +kernel
theorem dX12_image_2 : decode cX12_image 2 = .ok (.putfield 1, 3) := by decide +kernel
theorem dX12_image_5 : decode cX12_image 5 = .ok (.iload_n 1, 1) := by decide +kernel
theorem dX12_image_6 : decode cX12_image 6 = .ok (.i2l, 1) := by decide +kernel
theorem dX12_image_7 : decode cX12_image 7 = .ok (.lconst 0, 1) := by decide +kernel
theorem dX12_image_8 : decode cX12_image 8 = .ok (.lconst 1, 1) := by decide +kernel
theorem dX12_image_9 : decode cX12_image 9 = .ok (.invokestatic 118, 3) := by decide +kernel
theorem dX12_image_12 : decode cX12_image 12 = .ok (.ifCond .ne 6, 3) := by decide +kernel
theorem dX12_image_15 : decode cX12_image 15 = .ok (.bipush (-2), 2) := by decide +kernel
theorem dX12_image_17 : decode cX12_image 17 = .ok (.ireturn, 1) := by decide +kernel
theorem dX12_image_18 : decode cX12_image 18 = .ok (.iconst 0, 1) := by decide +kernel
theorem dX12_image_19 : decode cX12_image 19 = .ok (.istore_n 2, 1) := by decide +kernel
theorem dX12_image_20 : decode cX12_image 20 = .ok (.iload_n 2, 1) := by decide +kernel
theorem dX12_image_21 : decode cX12_image 21 = .ok (.sipush 1358, 3) := by decide +kernel
theorem dX12_image_24 : decode cX12_image 24 = .ok (.if_icmp .ge 29, 3) := by decide +kernel
theorem dX12_image_27 : decode cX12_image 27 = .ok (.aload_n 0, 1) := by decide +kernel
theorem dX12_image_28 : decode cX12_image 28 = .ok (.getfield 13, 3) := by decide +kernel
theorem dX12_image_31 : decode cX12_image 31 = .ok (.sipush 1358, 3) := by decide +kernel
theorem dX12_image_34 : decode cX12_image 34 = .ok (.iload_n 1, 1) := by decide +kernel
theorem dX12_image_35 : decode cX12_image 35 = .ok (.iconst 1, 1) := by decide +kernel
theorem dX12_image_36 : decode cX12_image 36 = .ok (.iadd, 1) := by decide +kernel
theorem dX12_image_37 : decode cX12_image 37 = .ok (.imul, 1) := by decide +kernel
theorem dX12_image_38 : decode cX12_image 38 = .ok (.iload_n 2, 1) := by decide +kernel
theorem dX12_image_39 : decode cX12_image 39 = .ok (.iadd, 1) := by decide +kernel
theorem dX12_image_40 : decode cX12_image 40 = .ok (.aload_n 0, 1) := by decide +kernel
theorem dX12_image_41 : decode cX12_image 41 = .ok (.getfield 13, 3) := by decide +kernel
theorem dX12_image_44 : decode cX12_image 44 = .ok (.iload_n 2, 1) := by decide +kernel
theorem dX12_image_45 : decode cX12_image 45 = .ok (.iaload, 1) := by decide +kernel
theorem dX12_image_46 : decode cX12_image 46 = .ok (.iastore, 1) := by decide +kernel
theorem dX12_image_47 : decode cX12_image 47 = .ok (.iinc 2 1, 3) := by decide +kernel
theorem dX12_image_50 : decode cX12_image 50 = .ok (.goto (-30), 3) := by decide +kernel
theorem dX12_image_53 : decode cX12_image 53 = .ok (.aload_n 0, 1) := by decide +kernel
theorem dX12_image_54 : decode cX12_image 54 = .ok (.getfield 17, 3) := by decide +kernel
theorem dX12_image_57 : decode cX12_image 57 = .ok (.iload_n 1, 1) := by decide +kernel
theorem dX12_image_58 : decode cX12_image 58 = .ok (.iconst 1, 1) := by decide +kernel
theorem dX12_image_59 : decode cX12_image 59 = .ok (.bastore, 1) := by decide +kernel
theorem dX12_image_60 : decode cX12_image 60 = .ok (.iconst 0, 1) := by decide +kernel
theorem dX12_image_61 : decode cX12_image 61 = .ok (.ireturn, 1) := by decide +kernel
theorem dX12_restore_0 : decode cX12_restore 0 = .ok (.aload_n 0, 1) := by decide +kernel
theorem dX12_restore_1 : decode cX12_restore 1 = .ok (.iconst 0, 1) := by decide +kernel
theorem dX12_restore_2 : decode cX12_restore 2 = .ok (.putfield 1, 3) := by decide +kernel
theorem dX12_restore_5 : decode cX12_restore 5 = .ok (.iload_n 1, 1) := by decide +kernel
theorem dX12_restore_6 : decode cX12_restore 6 = .ok (.i2l, 1) := by decide +kernel
theorem dX12_restore_7 : decode cX12_restore 7 = .ok (.lconst 0, 1) := by decide +kernel
theorem dX12_restore_8 : decode cX12_restore 8 = .ok (.lconst 1, 1) := by decide +kernel
theorem dX12_restore_9 : decode cX12_restore 9 = .ok (.invokestatic 118, 3) := by decide +kernel
theorem dX12_restore_12 : decode cX12_restore 12 = .ok (.ifCond .ne 6, 3) := by decide +kernel
theorem dX12_restore_15 : decode cX12_restore 15 = .ok (.bipush (-2), 2) := by decide +kernel
theorem dX12_restore_17 : decode cX12_restore 17 = .ok (.ireturn, 1) := by decide +kernel
theorem dX12_restore_18 : decode cX12_restore 18 = .ok (.aload_n 0, 1) := by decide +kernel
theorem dX12_restore_19 : decode cX12_restore 19 = .ok (.getfield 17, 3) := by decide +kernel
theorem dX12_restore_22 : decode cX12_restore 22 = .ok (.iload_n 1, 1) := by decide +kernel
theorem dX12_restore_23 : decode cX12_restore 23 = .ok (.baload, 1) := by decide +kernel
theorem dX12_restore_24 : decode cX12_restore 24 = .ok (.ifCond .ne 6, 3) := by decide +kernel
theorem dX12_restore_27 : decode cX12_restore 27 = .ok (.bipush (-5), 2) := by decide +kernel
theorem dX12_restore_29 : decode cX12_restore 29 = .ok (.ireturn, 1) := by decide +kernel
theorem dX12_restore_30 : decode cX12_restore 30 = .ok (.iconst 0, 1) := by decide +kernel
theorem dX12_restore_31 : decode cX12_restore 31 = .ok (.istore_n 2, 1) := by decide +kernel
theorem dX12_restore_32 : decode cX12_restore 32 = .ok (.iload_n 2, 1) := by decide +kernel
theorem dX12_restore_33 : decode cX12_restore 33 = .ok (.sipush 1358, 3) := by decide +kernel
theorem dX12_restore_36 : decode cX12_restore 36 = .ok (.if_icmp .ge 29, 3) := by decide +kernel
theorem dX12_restore_39 : decode cX12_restore 39 = .ok (.aload_n 0, 1) := by decide +kernel
theorem dX12_restore_40 : decode cX12_restore 40 = .ok (.getfield 13, 3) := by decide +kernel
theorem dX12_restore_43 : decode cX12_restore 43 = .ok (.iload_n 2, 1) := by decide +kernel
theorem dX12_restore_44 : decode cX12_restore 44 = .ok (.aload_n 0, 1) := by decide +kernel
theorem dX12_restore_45 : decode cX12_restore 45 = .ok (.getfield 13, 3) := by decide +kernel
theorem dX12_restore_48 : decode cX12_restore 48 = .ok (.sipush 1358, 3) := by decide +kernel
theorem dX12_restore_51 : decode cX12_restore 51 = .ok (.iload_n 1, 1) := by decide +kernel
theorem dX12_restore_52 : decode cX12_restore 52 = .ok (.iconst 1, 1) := by decide +kernel
theorem dX12_restore_53 : decode cX12_restore 53 = .ok (.iadd, 1) := by decide +kernel
theorem dX12_restore_54 : decode cX12_restore 54 = .ok (.imul, 1) := by decide +kernel
theorem dX12_restore_55 : decode cX12_restore 55 = .ok (.iload_n 2, 1) := by decide +kernel
theorem dX12_restore_56 : decode cX12_restore 56 = .ok (.iadd, 1) := by decide +kernel
theorem dX12_restore_57 : decode cX12_restore 57 = .ok (.iaload, 1) := by decide +kernel
theorem dX12_restore_58 : decode cX12_restore 58 = .ok (.iastore, 1) := by decide +kernel
theorem dX12_restore_59 : decode cX12_restore 59 = .ok (.iinc 2 1, 3) := by decide +kernel
theorem dX12_restore_62 : decode cX12_restore 62 = .ok (.goto (-30), 3) := by decide +kernel
theorem dX12_restore_65 : decode cX12_restore 65 = .ok (.aload_n 0, 1) := by decide +kernel
theorem dX12_restore_66 : decode cX12_restore 66 = .ok (.getfield 13, 3) := by decide +kernel
theorem dX12_restore_69 : decode cX12_restore 69 = .ok (.bipush 96, 2) := by decide +kernel
theorem dX12_restore_71 : decode cX12_restore 71 = .ok (.iconst 0, 1) := by decide +kernel
theorem dX12_restore_72 : decode cX12_restore 72 = .ok (.iastore, 1) := by decide +kernel
theorem dX12_restore_73 : decode cX12_restore 73 = .ok (.iconst 0, 1) := by decide +kernel
theorem dX12_restore_74 : decode cX12_restore 74 = .ok (.ireturn, 1) := by decide +kernel
theorem dX12_inLifts_0 : decode cX12_inLifts 0 = .ok (.iconst 0, 1) := by decide +kernel
theorem dX12_inLifts_1 : decode cX12_inLifts 1 = .ok (.istore_n 1, 1) := by decide +kernel
theorem dX12_inLifts_2 : decode cX12_inLifts 2 = .ok (.iconst 0, 1) := by decide +kernel
theorem dX12_inLifts_3 : decode cX12_inLifts 3 = .ok (.istore_n 2, 1) := by decide +kernel
theorem dX12_inLifts_4 : decode cX12_inLifts 4 = .ok (.iload_n 2, 1) := by decide +kernel
theorem dX12_inLifts_5 : decode cX12_inLifts 5 = .ok (.aload_n 0, 1) := by decide +kernel
theorem dX12_inLifts_6 : decode cX12_inLifts 6 = .ok (.getfield 13, 3) := by decide +kernel
theorem dX12_inLifts_9 : decode cX12_inLifts 9 = .ok (.iconst 3, 1) := by decide +kernel
theorem dX12_inLifts_10 : decode cX12_inLifts 10 = .ok (.iaload, 1) := by decide +kernel
theorem dX12_inLifts_11 : decode cX12_inLifts 11 = .ok (.if_icmp .ge 30, 3) := by decide +kernel
theorem dX12_inLifts_14 : decode cX12_inLifts 14 = .ok (.iload_n 1, 1) := by decide +kernel
theorem dX12_inLifts_15 : decode cX12_inLifts 15 = .ok (.aload_n 0, 1) := by decide +kernel
theorem dX12_inLifts_16 : decode cX12_inLifts 16 = .ok (.getfield 13, 3) := by decide +kernel
theorem dX12_inLifts_19 : decode cX12_inLifts 19 = .ok (.bipush 88, 2) := by decide +kernel
theorem dX12_inLifts_21 : decode cX12_inLifts 21 = .ok (.iload_n 2, 1) := by decide +kernel
theorem dX12_inLifts_22 : decode cX12_inLifts 22 = .ok (.iadd, 1) := by decide +kernel
theorem dX12_inLifts_23 : decode cX12_inLifts 23 = .ok (.iaload, 1) := by decide +kernel
theorem dX12_inLifts_24 : decode cX12_inLifts 24 = .ok (.iconst (-1), 1) := by decide +kernel
theorem dX12_inLifts_25 : decode cX12_inLifts 25 = .ok (.if_icmp .ne 7, 3) := by decide +kernel
theorem dX12_inLifts_28 : decode cX12_inLifts 28 = .ok (.iconst 0, 1) := by decide +kernel
theorem dX12_inLifts_29 : decode cX12_inLifts 29 = .ok (.goto 4, 3) := by decide +kernel
theorem dX12_inLifts_32 : decode cX12_inLifts 32 = .ok (.iconst 1, 1) := by decide +kernel
theorem dX12_inLifts_33 : decode cX12_inLifts 33 = .ok (.iadd, 1) := by decide +kernel
theorem dX12_inLifts_34 : decode cX12_inLifts 34 = .ok (.istore_n 1, 1) := by decide +kernel
theorem dX12_inLifts_35 : decode cX12_inLifts 35 = .ok (.iinc 2 1, 3) := by decide +kernel
theorem dX12_inLifts_38 : decode cX12_inLifts 38 = .ok (.goto (-34), 3) := by decide +kernel
theorem dX12_inLifts_41 : decode cX12_inLifts 41 = .ok (.iload_n 1, 1) := by decide +kernel
theorem dX12_inLifts_42 : decode cX12_inLifts 42 = .ok (.ireturn, 1) := by decide +kernel
theorem dX12_count_0 : decode cX12_count 0 = .ok (.aload_n 0, 1) := by decide +kernel
theorem dX12_count_1 : decode cX12_count 1 = .ok (.iconst 0, 1) := by decide +kernel
theorem dX12_count_2 : decode cX12_count 2 = .ok (.putfield 1, 3) := by decide +kernel
theorem dX12_count_5 : decode cX12_count 5 = .ok (.iload_n 1, 1) := by decide +kernel
theorem dX12_count_6 : decode cX12_count 6 = .ok (.tableswitch 109 0 8 #[50, 57, 64, 71, 76, 84, 89, 97, 102], 50) := by decide +kernel
theorem dX12_count_56 : decode cX12_count 56 = .ok (.aload_n 0, 1) := by decide +kernel
theorem dX12_count_57 : decode cX12_count 57 = .ok (.getfield 13, 3) := by decide +kernel
theorem dX12_count_60 : decode cX12_count 60 = .ok (.iconst 1, 1) := by decide +kernel
theorem dX12_count_61 : decode cX12_count 61 = .ok (.iaload, 1) := by decide +kernel
theorem dX12_count_62 : decode cX12_count 62 = .ok (.ireturn, 1) := by decide +kernel
theorem dX12_count_63 : decode cX12_count 63 = .ok (.aload_n 0, 1) := by decide +kernel
theorem dX12_count_64 : decode cX12_count 64 = .ok (.getfield 13, 3) := by decide +kernel
theorem dX12_count_67 : decode cX12_count 67 = .ok (.iconst 2, 1) := by decide +kernel
theorem dX12_count_68 : decode cX12_count 68 = .ok (.iaload, 1) := by decide +kernel
theorem dX12_count_69 : decode cX12_count 69 = .ok (.ireturn, 1) := by decide +kernel
theorem dX12_count_70 : decode cX12_count 70 = .ok (.aload_n 0, 1) := by decide +kernel
theorem dX12_count_71 : decode cX12_count 71 = .ok (.getfield 13, 3) := by decide +kernel
theorem dX12_count_74 : decode cX12_count 74 = .ok (.iconst 3, 1) := by decide +kernel
theorem dX12_count_75 : decode cX12_count 75 = .ok (.iaload, 1) := by decide +kernel
theorem dX12_count_76 : decode cX12_count 76 = .ok (.ireturn, 1) := by decide +kernel
theorem dX12_count_77 : decode cX12_count 77 = .ok (.aload_n 0, 1) := by decide +kernel
theorem dX12_count_78 : decode cX12_count 78 = .ok (.invokevirtual 441, 3) := by decide +kernel
theorem dX12_count_81 : decode cX12_count 81 = .ok (.ireturn, 1) := by decide +kernel
theorem dX12_count_82 : decode cX12_count 82 = .ok (.aload_n 0, 1) := by decide +kernel
theorem dX12_count_83 : decode cX12_count 83 = .ok (.invokevirtual 331, 3) := by decide +kernel
theorem dX12_count_86 : decode cX12_count 86 = .ok (.invokestatic 224, 3) := by decide +kernel
theorem dX12_count_89 : decode cX12_count 89 = .ok (.ireturn, 1) := by decide +kernel
theorem dX12_count_90 : decode cX12_count 90 = .ok (.aload_n 0, 1) := by decide +kernel
theorem dX12_count_91 : decode cX12_count 91 = .ok (.invokevirtual 334, 3) := by decide +kernel
theorem dX12_count_94 : decode cX12_count 94 = .ok (.ireturn, 1) := by decide +kernel
theorem dX12_count_95 : decode cX12_count 95 = .ok (.aload_n 0, 1) := by decide +kernel
theorem dX12_count_96 : decode cX12_count 96 = .ok (.getfield 13, 3) := by decide +kernel
theorem dX12_count_99 : decode cX12_count 99 = .ok (.bipush 96, 2) := by decide +kernel
theorem dX12_count_101 : decode cX12_count 101 = .ok (.iaload, 1) := by decide +kernel
theorem dX12_count_102 : decode cX12_count 102 = .ok (.ireturn, 1) := by decide +kernel
theorem dX12_count_103 : decode cX12_count 103 = .ok (.aload_n 0, 1) := by decide +kernel
theorem dX12_count_104 : decode cX12_count 104 = .ok (.getfield 56, 3) := by decide +kernel
theorem dX12_count_107 : decode cX12_count 107 = .ok (.ireturn, 1) := by decide +kernel
theorem dX12_count_108 : decode cX12_count 108 = .ok (.aload_n 0, 1) := by decide +kernel
theorem dX12_count_109 : decode cX12_count 109 = .ok (.getfield 13, 3) := by decide +kernel
theorem dX12_count_112 : decode cX12_count 112 = .ok (.iconst 0, 1) := by decide +kernel
theorem dX12_count_113 : decode cX12_count 113 = .ok (.iaload, 1) := by decide +kernel
theorem dX12_count_114 : decode cX12_count 114 = .ok (.ireturn, 1) := by decide +kernel
theorem dX12_count_115 : decode cX12_count 115 = .ok (.iconst (-1), 1) := by decide +kernel
theorem dX12_count_116 : decode cX12_count 116 = .ok (.ireturn, 1) := by decide +kernel
