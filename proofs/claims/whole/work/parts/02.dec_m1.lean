theorem dX12_lift_11 : decode cX12_lift 11 = .ok (.ifCond .ne 6, 3) := by decide +kernel
theorem dX12_lift_14 : decode cX12_lift 14 = .ok (.bipush (-8), 2) := by decide +kernel
theorem dX12_lift_16 : decode cX12_lift 16 = .ok (.ireturn, 1) := by decide +kernel
theorem dX12_lift_17 : decode cX12_lift 17 = .ok (.aload_n 0, 1) := by decide +kernel
theorem dX12_lift_18 : decode cX12_lift 18 = .ok (.iload_n 1, 1) := by decide +kernel
theorem dX12_lift_19 : decode cX12_lift 19 = .ok (.invokevirtual 234, 3) := by decide +kernel
theorem dX12_lift_22 : decode cX12_lift 22 = .ok (.iload_n 2, 1) := by decide +kernel
theorem dX12_lift_23 : decode cX12_lift 23 = .ok (.tableswitch 90 0 6 #[41, 46, 51, 56, 69, 75, 85], 41) := by decide +kernel
theorem dX12_lift_64 : decode cX12_lift 64 = .ok (.aload_n 0, 1) := by decide +kernel
theorem dX12_lift_65 : decode cX12_lift 65 = .ok (.getfield 194, 3) := by decide +kernel
theorem dX12_lift_68 : decode cX12_lift 68 = .ok (.ireturn, 1) := by decide +kernel
theorem dX12_lift_69 : decode cX12_lift 69 = .ok (.aload_n 0, 1) := by decide +kernel
theorem dX12_lift_70 : decode cX12_lift 70 = .ok (.getfield 197, 3) := by decide +kernel
theorem dX12_lift_73 : decode cX12_lift 73 = .ok (.ireturn, 1) := by decide +kernel
theorem dX12_lift_74 : decode cX12_lift 74 = .ok (.aload_n 0, 1) := by decide +kernel
theorem dX12_lift_75 : decode cX12_lift 75 = .ok (.getfield 200, 3) := by decide +kernel
theorem dX12_lift_78 : decode cX12_lift 78 = .ok (.ireturn, 1) := by decide +kernel
theorem dX12_lift_79 : decode cX12_lift 79 = .ok (.aload_n 0, 1) := by decide +kernel
theorem dX12_lift_80 : decode cX12_lift 80 = .ok (.getfield 203, 3) := by decide +kernel
theorem dX12_lift_83 : decode cX12_lift 83 = .ok (.ifCond .eq 7, 3) := by decide +kernel
theorem dX12_lift_86 : decode cX12_lift 86 = .ok (.iconst 1, 1) := by decide +kernel
theorem dX12_lift_87 : decode cX12_lift 87 = .ok (.goto 4, 3) := by decide +kernel
theorem dX12_lift_90 : decode cX12_lift 90 = .ok (.iconst 0, 1) := by decide +kernel
theorem dX12_lift_91 : decode cX12_lift 91 = .ok (.ireturn, 1) := by decide +kernel
theorem dX12_lift_92 : decode cX12_lift 92 = .ok (.aload_n 0, 1) := by decide +kernel
theorem dX12_lift_93 : decode cX12_lift 93 = .ok (.iload_n 1, 1) := by decide +kernel
theorem dX12_lift_94 : decode cX12_lift 94 = .ok (.invokevirtual 237, 3) := by decide +kernel
theorem dX12_lift_97 : decode cX12_lift 97 = .ok (.ireturn, 1) := by decide +kernel
theorem dX12_lift_98 : decode cX12_lift 98 = .ok (.aload_n 0, 1) := by decide +kernel
theorem dX12_lift_99 : decode cX12_lift 99 = .ok (.getfield 13, 3) := by decide +kernel
theorem dX12_lift_102 : decode cX12_lift 102 = .ok (.bipush 22, 2) := by decide +kernel
theorem dX12_lift_104 : decode cX12_lift 104 = .ok (.iload_n 1, 1) := by decide +kernel
theorem dX12_lift_105 : decode cX12_lift 105 = .ok (.iadd, 1) := by decide +kernel
theorem dX12_lift_106 : decode cX12_lift 106 = .ok (.iaload, 1) := by decide +kernel
theorem dX12_lift_107 : decode cX12_lift 107 = .ok (.ireturn, 1) := by decide +kernel
theorem dX12_lift_108 : decode cX12_lift 108 = .ok (.aload_n 0, 1) := by decide +kernel
theorem dX12_lift_109 : decode cX12_lift 109 = .ok (.invokevirtual 215, 3) := by decide +kernel
theorem dX12_lift_112 : decode cX12_lift 112 = .ok (.ireturn, 1) := by decide +kernel
theorem dX12_lift_113 : decode cX12_lift 113 = .ok (.bipush (-8), 2) := by decide +kernel
theorem dX12_lift_115 : decode cX12_lift 115 = .ok (.ireturn, 1) := by decide +kernel
theorem dX12_person_0 : decode cX12_person 0 = .ok (.aload_n 0, 1) := by decide +kernel
theorem dX12_person_1 : decode cX12_person 1 = .ok (.iconst 0, 1) := by decide +kernel
theorem dX12_person_2 : decode cX12_person 2 = .ok (.putfield 1, 3) := by decide +kernel
theorem dX12_person_5 : decode cX12_person 5 = .ok (.aload_n 0, 1) := by decide +kernel
theorem dX12_person_6 : decode cX12_person 6 = .ok (.iload_n 1, 1) := by decide +kernel
theorem dX12_person_7 : decode cX12_person 7 = .ok (.i2l, 1) := by decide +kernel
theorem dX12_person_8 : decode cX12_person 8 = .ok (.invokevirtual 240, 3) := by decide +kernel
theorem dX12_person_11 : decode cX12_person 11 = .ok (.ifCond .ne 6, 3) := by decide +kernel
theorem dX12_person_14 : decode cX12_person 14 = .ok (.bipush (-8), 2) := by decide +kernel
theorem dX12_person_16 : decode cX12_person 16 = .ok (.ireturn, 1) := by decide +kernel
theorem dX12_person_17 : decode cX12_person 17 = .ok (.iload_n 2, 1) := by decide +kernel
theorem dX12_person_18 : decode cX12_person 18 = .ok (.tableswitch 112 0 6 #[42, 52, 62, 72, 82, 92, 102], 42) := by decide +kernel
theorem dX12_person_60 : decode cX12_person 60 = .ok (.aload_n 0, 1) := by decide +kernel
theorem dX12_person_61 : decode cX12_person 61 = .ok (.getfield 13, 3) := by decide +kernel
theorem dX12_person_64 : decode cX12_person 64 = .ok (.bipush 72, 2) := by decide +kernel
theorem dX12_person_66 : decode cX12_person 66 = .ok (.iload_n 1, 1) := by decide +kernel
theorem dX12_person_67 : decode cX12_person 67 = .ok (.iadd, 1) := by decide +kernel
theorem dX12_person_68 : decode cX12_person 68 = .ok (.iaload, 1) := by decide +kernel
theorem dX12_person_69 : decode cX12_person 69 = .ok (.ireturn, 1) := by decide +kernel
theorem dX12_person_70 : decode cX12_person 70 = .ok (.aload_n 0, 1) := by decide +kernel
theorem dX12_person_71 : decode cX12_person 71 = .ok (.getfield 13, 3) := by decide +kernel
theorem dX12_person_74 : decode cX12_person 74 = .ok (.bipush 80, 2) := by decide +kernel
theorem dX12_person_76 : decode cX12_person 76 = .ok (.iload_n 1, 1) := by decide +kernel
theorem dX12_person_77 : decode cX12_person 77 = .ok (.iadd, 1) := by decide +kernel
theorem dX12_person_78 : decode cX12_person 78 = .ok (.iaload, 1) := by decide +kernel
theorem dX12_person_79 : decode cX12_person 79 = .ok (.ireturn, 1) := by decide +kernel
theorem dX12_person_80 : decode cX12_person 80 = .ok (.aload_n 0, 1) := by decide +kernel
theorem dX12_person_81 : decode cX12_person 81 = .ok (.getfield 13, 3) := by decide +kernel
theorem dX12_person_84 : decode cX12_person 84 = .ok (.bipush 88, 2) := by decide +kernel
theorem dX12_person_86 : decode cX12_person 86 = .ok (.iload_n 1, 1) := by decide +kernel
theorem dX12_person_87 : decode cX12_person 87 = .ok (.iadd, 1) := by decide +kernel
theorem dX12_person_88 : decode cX12_person 88 = .ok (.iaload, 1) := by decide +kernel
theorem dX12_person_89 : decode cX12_person 89 = .ok (.ireturn, 1) := by decide +kernel
theorem dX12_person_90 : decode cX12_person 90 = .ok (.aload_n 0, 1) := by decide +kernel
theorem dX12_person_91 : decode cX12_person 91 = .ok (.getfield 13, 3) := by decide +kernel
theorem dX12_person_94 : decode cX12_person 94 = .ok (.bipush 28, 2) := by decide +kernel
theorem dX12_person_96 : decode cX12_person 96 = .ok (.iload_n 1, 1) := by decide +kernel
theorem dX12_person_97 : decode cX12_person 97 = .ok (.iadd, 1) := by decide +kernel
theorem dX12_person_98 : decode cX12_person 98 = .ok (.iaload, 1) := by decide +kernel
theorem dX12_person_99 : decode cX12_person 99 = .ok (.ireturn, 1) := by decide +kernel
theorem dX12_person_100 : decode cX12_person 100 = .ok (.aload_n 0, 1) := by decide +kernel
theorem dX12_person_101 : decode cX12_person 101 = .ok (.getfield 13, 3) := by decide +kernel
theorem dX12_person_104 : decode cX12_person 104 = .ok (.bipush 36, 2) := by decide +kernel
theorem dX12_person_106 : decode cX12_person 106 = .ok (.iload_n 1, 1) := by decide +kernel
theorem dX12_person_107 : decode cX12_person 107 = .ok (.iadd, 1) := by decide +kernel
theorem dX12_person_108 : decode cX12_person 108 = .ok (.iaload, 1) := by decide +kernel
theorem dX12_person_109 : decode cX12_person 109 = .ok (.ireturn, 1) := by decide +kernel
theorem dX12_person_110 : decode cX12_person 110 = .ok (.aload_n 0, 1) := by decide +kernel
theorem dX12_person_111 : decode cX12_person 111 = .ok (.getfield 13, 3) := by decide +kernel
theorem dX12_person_114 : decode cX12_person 114 = .ok (.bipush 44, 2) := by decide +kernel
theorem dX12_person_116 : decode cX12_person 116 = .ok (.iload_n 1, 1) := by decide +kernel
theorem dX12_person_117 : decode cX12_person 117 = .ok (.iadd, 1) := by decide +kernel
theorem dX12_person_118 : decode cX12_person 118 = .ok (.iaload, 1) := by decide +kernel
theorem dX12_person_119 : decode cX12_person 119 = .ok (.ireturn, 1) := by decide +kernel
theorem dX12_person_120 : decode cX12_person 120 = .ok (.aload_n 0, 1) := by decide +kernel
theorem dX12_person_121 : decode cX12_person 121 = .ok (.getfield 13, 3) := by decide +kernel
theorem dX12_person_124 : decode cX12_person 124 = .ok (.bipush 52, 2) := by decide +kernel
theorem dX12_person_126 : decode cX12_person 126 = .ok (.iload_n 1, 1) := by decide +kernel
theorem dX12_person_127 : decode cX12_person 127 = .ok (.iadd, 1) := by decide +kernel
theorem dX12_person_128 : decode cX12_person 128 = .ok (.iaload, 1) := by decide +kernel
theorem dX12_person_129 : decode cX12_person 129 = .ok (.ireturn, 1) := by decide +kernel
theorem dX12_person_130 : decode cX12_person 130 = .ok (.bipush (-8), 2) := by decide +kernel
theorem dX12_person_132 : decode cX12_person 132 = .ok (.ireturn, 1) := by decide +kernel
theorem dX12_foot_0 : decode cX12_foot 0 = .ok (.aload_n 0, 1) := by decide +kernel
theorem dX12_foot_1 : decode cX12_foot 1 = .ok (.iconst 0, 1) := by decide +kernel
theorem dX12_foot_2 : decode cX12_foot 2 = .ok (.putfield 1, 3) := by decide +kernel
theorem dX12_foot_5 : decode cX12_foot 5 = .ok (.aload_n 0, 1) := by decide +kernel
theorem dX12_foot_6 : decode cX12_foot 6 = .ok (.iload_n 1, 1) := by decide +kernel
theorem dX12_foot_7 : decode cX12_foot 7 = .ok (.i2l, 1) := by decide +kernel
theorem dX12_foot_8 : decode cX12_foot 8 = .ok (.invokevirtual 240, 3) := by decide +kernel
theorem dX12_foot_11 : decode cX12_foot 11 = .ok (.ifCond .eq 31, 3) := by decide +kernel
theorem dX12_foot_14 : decode cX12_foot 14 = .ok (.aload_n 0, 1) := by decide +kernel
theorem dX12_foot_15 : decode cX12_foot 15 = .ok (.iload_n 2, 1) := by decide +kernel
theorem dX12_foot_16 : decode cX12_foot 16 = .ok (.i2l, 1) := by decide +kernel
theorem dX12_foot_17 : decode cX12_foot 17 = .ok (.invokevirtual 243, 3) := by decide +kernel
theorem dX12_foot_20 : decode cX12_foot 20 = .ok (.ifCond .eq 22, 3) := by decide +kernel
theorem dX12_foot_23 : decode cX12_foot 23 = .ok (.aload_n 0, 1) := by decide +kernel
theorem dX12_foot_24 : decode cX12_foot 24 = .ok (.iload_n 3, 1) := by decide +kernel
theorem dX12_foot_25 : decode cX12_foot 25 = .ok (.i2l, 1) := by decide +kernel
theorem dX12_foot_26 : decode cX12_foot 26 = .ok (.invokevirtual 243, 3) := by decide +kernel
theorem dX12_foot_29 : decode cX12_foot 29 = .ok (.ifCond .eq 13, 3) := by decide +kernel
theorem dX12_foot_32 : decode cX12_foot 32 = .ok (.aload_n 0, 1) := by decide +kernel
theorem dX12_foot_33 : decode cX12_foot 33 = .ok (.iload_n 1, 1) := by decide +kernel
theorem dX12_foot_34 : decode cX12_foot 34 = .ok (.iload_n 2, 1) := by decide +kernel
theorem dX12_foot_35 : decode cX12_foot 35 = .ok (.iload_n 3, 1) := by decide +kernel
theorem dX12_foot_36 : decode cX12_foot 36 = .ok (.invokevirtual 246, 3) := by decide +kernel
theorem dX12_foot_39 : decode cX12_foot 39 = .ok (.goto 5, 3) := by decide +kernel
theorem dX12_foot_42 : decode cX12_foot 42 = .ok (.bipush (-2), 2) := by decide +kernel
theorem dX12_foot_44 : decode cX12_foot 44 = .ok (.ireturn, 1) := by decide +kernel
theorem dX12_stop_0 : decode cX12_stop 0 = .ok (.aload_n 0, 1) := by decide +kernel
theorem dX12_stop_1 : decode cX12_stop 1 = .ok (.iconst 0, 1) := by decide +kernel
theorem dX12_stop_2 : decode cX12_stop 2 = .ok (.putfield 1, 3) := by decide +kernel
theorem dX12_stop_5 : decode cX12_stop 5 = .ok (.aload_n 0, 1) := by decide +kernel
theorem dX12_stop_6 : decode cX12_stop 6 = .ok (.iload_n 1, 1) := by decide +kernel
theorem dX12_stop_7 : decode cX12_stop 7 = .ok (.i2l, 1) := by decide +kernel
theorem dX12_stop_8 : decode cX12_stop 8 = .ok (.invokevirtual 230, 3) := by decide +kernel
theorem dX12_stop_11 : decode cX12_stop 11 = .ok (.ifCond .eq 12, 3) := by decide +kernel
theorem dX12_stop_14 : decode cX12_stop 14 = .ok (.aload_n 0, 1) := by decide +kernel
theorem dX12_stop_15 : decode cX12_stop 15 = .ok (.iload_n 2, 1) := by decide +kernel
theorem dX12_stop_16 : decode cX12_stop 16 = .ok (.i2l, 1) := by decide +kernel
theorem dX12_stop_17 : decode cX12_stop 17 = .ok (.invokevirtual 243, 3) := by decide +kernel
theorem dX12_stop_20 : decode cX12_stop 20 = .ok (.ifCond .ne 6, 3) := by decide +kernel
theorem dX12_stop_23 : decode cX12_stop 23 = .ok (.bipush (-2), 2) := by decide +kernel
theorem dX12_stop_25 : decode cX12_stop 25 = .ok (.ireturn, 1) := by decide +kernel
theorem dX12_stop_26 : decode cX12_stop 26 = .ok (.iload_n 3, 1) := by decide +kernel
theorem dX12_stop_27 : decode cX12_stop 27 = .ok (.i2l, 1) := by decide +kernel
theorem dX12_stop_28 : decode cX12_stop 28 = .ok (.lconst 1, 1) := by decide +kernel
theorem dX12_stop_29 : decode cX12_stop 29 = .ok (.ldc2_w 249, 3) := by decide +kernel
theorem dX12_stop_32 : decode cX12_stop 32 = .ok (.invokestatic 118, 3) := by decide +kernel
theorem dX12_stop_35 : decode cX12_stop 35 = .ok (.ifCond .eq 13, 3) := by decide +kernel
theorem dX12_stop_38 : decode cX12_stop 38 = .ok (.aload_n 0, 1) := by decide +kernel
theorem dX12_stop_39 : decode cX12_stop 39 = .ok (.iload_n 1, 1) := by decide +kernel
theorem dX12_stop_40 : decode cX12_stop 40 = .ok (.iload_n 2, 1) := by decide +kernel
theorem dX12_stop_41 : decode cX12_stop 41 = .ok (.iload_n 3, 1) := by decide +kernel
theorem dX12_stop_42 : decode cX12_stop 42 = .ok (.invokevirtual 227, 3) := by decide +kernel
theorem dX12_stop_45 : decode cX12_stop 45 = .ok (.goto 5, 3) := by decide +kernel
theorem dX12_stop_48 : decode cX12_stop 48 = .ok (.bipush (-3), 2) := by decide +kernel
theorem dX12_stop_50 : decode cX12_stop 50 = .ok (.ireturn, 1) := by decide +kernel
theorem dX12_calls_0 : decode cX12_calls 0 = .ok (.aload_n 0, 1) := by decide +kernel
theorem dX12_calls_1 : decode cX12_calls 1 = .ok (.iconst 0, 1) := by decide +kernel
theorem dX12_calls_2 : decode cX12_calls 2 = .ok (.putfield 1, 3) := by decide +kernel
theorem dX12_calls_5 : decode cX12_calls 5 = .ok (.aload_n 0, 1) := by decide +kernel
theorem dX12_calls_6 : decode cX12_calls 6 = .ok (.iload_n 1, 1) := by decide +kernel
theorem dX12_calls_7 : decode cX12_calls 7 = .ok (.i2l, 1) := by decide +kernel
theorem dX12_calls_8 : decode cX12_calls 8 = .ok (.invokevirtual 243, 3) := by decide +kernel
theorem dX12_calls_11 : decode cX12_calls 11 = .ok (.ifCond .eq 15, 3) := by decide +kernel
theorem dX12_calls_14 : decode cX12_calls 14 = .ok (.aload_n 0, 1) := by decide +kernel
theorem dX12_calls_15 : decode cX12_calls 15 = .ok (.getfield 13, 3) := by decide +kernel
theorem dX12_calls_18 : decode cX12_calls 18 = .ok (.bipush 10, 2) := by decide +kernel
theorem dX12_calls_20 : decode cX12_calls 20 = .ok (.iload_n 1, 1) := by decide +kernel
theorem dX12_calls_21 : decode cX12_calls 21 = .ok (.iadd, 1) := by decide +kernel
theorem dX12_calls_22 : decode cX12_calls 22 = .ok (.iaload, 1) := by decide +kernel
theorem dX12_calls_23 : decode cX12_calls 23 = .ok (.goto 5, 3) := by decide +kernel
theorem dX12_calls_26 : decode cX12_calls 26 = .ok (.bipush (-2), 2) := by decide +kernel
theorem dX12_calls_28 : decode cX12_calls 28 = .ok (.ireturn, 1) := by decide +kernel
theorem dX12_keeps_0 : decode cX12_keeps 0 = .ok (.iconst 0, 1) := by decide +kernel
theorem dX12_keeps_1 : decode cX12_keeps 1 = .ok (.istore_n 1, 1) := by decide +kernel
theorem dX12_keeps_2 : decode cX12_keeps 2 = .ok (.iload_n 1, 1) := by decide +kernel
theorem dX12_keeps_3 : decode cX12_keeps 3 = .ok (.bipush 36, 2) := by decide +kernel
theorem dX12_keeps_5 : decode cX12_keeps 5 = .ok (.if_icmp .ge 24, 3) := by decide +kernel
theorem dX12_keeps_8 : decode cX12_keeps 8 = .ok (.aload_n 0, 1) := by decide +kernel
theorem dX12_keeps_9 : decode cX12_keeps 9 = .ok (.getfield 36, 3) := by decide +kernel
theorem dX12_keeps_12 : decode cX12_keeps 12 = .ok (.iload_n 1, 1) := by decide +kernel
theorem dX12_keeps_13 : decode cX12_keeps 13 = .ok (.aload_n 0, 1) := by decide +kernel
theorem dX12_keeps_14 : decode cX12_keeps 14 = .ok (.getfield 13, 3) := by decide +kernel
theorem dX12_keeps_17 : decode cX12_keeps 17 = .ok (.bipush 60, 2) := by decide +kernel
theorem dX12_keeps_19 : decode cX12_keeps 19 = .ok (.iload_n 1, 1) := by decide +kernel
theorem dX12_keeps_20 : decode cX12_keeps 20 = .ok (.iadd, 1) := by decide +kernel
theorem dX12_keeps_21 : decode cX12_keeps 21 = .ok (.iaload, 1) := by decide +kernel
theorem dX12_keeps_22 : decode cX12_keeps 22 = .ok (.iastore, 1) := by decide +kernel
theorem dX12_keeps_23 : decode cX12_keeps 23 = .ok (.iinc 1 1, 3) := by decide +kernel
theorem dX12_keeps_26 : decode cX12_keeps 26 = .ok (.goto (-24), 3) := by decide +kernel
theorem dX12_keeps_29 : decode cX12_keeps 29 = .ok (.return_, 1) := by decide +kernel
theorem dX12_isAgain_0 : decode cX12_isAgain 0 = .ok (.iconst 0, 1) := by decide +kernel
theorem dX12_isAgain_1 : decode cX12_isAgain 1 = .ok (.istore_n 1, 1) := by decide +kernel
theorem dX12_isAgain_2 : decode cX12_isAgain 2 = .ok (.iload_n 1, 1) := by decide +kernel
theorem dX12_isAgain_3 : decode cX12_isAgain 3 = .ok (.bipush 36, 2) := by decide +kernel
theorem dX12_isAgain_5 : decode cX12_isAgain 5 = .ok (.if_icmp .ge 24, 3) := by decide +kernel
theorem dX12_isAgain_8 : decode cX12_isAgain 8 = .ok (.aload_n 0, 1) := by decide +kernel
theorem dX12_isAgain_9 : decode cX12_isAgain 9 = .ok (.getfield 13, 3) := by decide +kernel
theorem dX12_isAgain_12 : decode cX12_isAgain 12 = .ok (.bipush 60, 2) := by decide +kernel
theorem dX12_isAgain_14 : decode cX12_isAgain 14 = .ok (.iload_n 1, 1) := by decide +kernel
theorem dX12_isAgain_15 : decode cX12_isAgain 15 = .ok (.iadd, 1) := by decide +kernel
theorem dX12_isAgain_16 : decode cX12_isAgain 16 = .ok (.aload_n 0, 1) := by decide +kernel
theorem dX12_isAgain_17 : decode cX12_isAgain 17 = .ok (.getfield 36, 3) := by decide +kernel
theorem dX12_isAgain_20 : decode cX12_isAgain 20 = .ok (.iload_n 1, 1) := by decide +kernel
theorem dX12_isAgain_21 : decode cX12_isAgain 21 = .ok (.iaload, 1) := by decide +kernel
theorem dX12_isAgain_22 : decode cX12_isAgain 22 = .ok (.iastore, 1) := by decide +kernel
theorem dX12_isAgain_23 : decode cX12_isAgain 23 = .ok (.iinc 1 1, 3) := by decide +kernel
theorem dX12_isAgain_26 : decode cX12_isAgain 26 = .ok (.goto (-24), 3) := by decide +kernel
theorem dX12_isAgain_29 : decode cX12_isAgain 29 = .ok (.return_, 1) := by decide +kernel
theorem dX12_notes_0 : decode cX12_notes 0 = .ok (.aload_n 0, 1) := by decide +kernel
theorem dX12_notes_1 : decode cX12_notes 1 = .ok (.getfield 13, 3) := by decide +kernel
theorem dX12_notes_4 : decode cX12_notes 4 = .ok (.bipush 96, 2) := by decide +kernel
theorem dX12_notes_6 : decode cX12_notes 6 = .ok (.iaload, 1) := by decide +kernel
theorem dX12_notes_7 : decode cX12_notes 7 = .ok (.bipush 10, 2) := by decide +kernel
theorem dX12_notes_9 : decode cX12_notes 9 = .ok (.if_icmp .ne 48, 3) := by decide +kernel
theorem dX12_notes_12 : decode cX12_notes 12 = .ok (.iconst 0, 1) := by decide +kernel
theorem dX12_notes_13 : decode cX12_notes 13 = .ok (.istore_n 1, 1) := by decide +kernel
theorem dX12_notes_14 : decode cX12_notes 14 = .ok (.iload_n 1, 1) := by decide +kernel
theorem dX12_notes_15 : decode cX12_notes 15 = .ok (.sipush 324, 3) := by decide +kernel
theorem dX12_notes_18 : decode cX12_notes 18 = .ok (.if_icmp .ge 28, 3) := by decide +kernel
theorem dX12_notes_21 : decode cX12_notes 21 = .ok (.aload_n 0, 1) := by decide +kernel
theorem dX12_notes_22 : decode cX12_notes 22 = .ok (.getfield 13, 3) := by decide +kernel
theorem dX12_notes_25 : decode cX12_notes 25 = .ok (.bipush 97, 2) := by decide +kernel
theorem dX12_notes_27 : decode cX12_notes 27 = .ok (.iload_n 1, 1) := by decide +kernel
theorem dX12_notes_28 : decode cX12_notes 28 = .ok (.iadd, 1) := by decide +kernel
theorem dX12_notes_29 : decode cX12_notes 29 = .ok (.aload_n 0, 1) := by decide +kernel
theorem dX12_notes_30 : decode cX12_notes 30 = .ok (.getfield 13, 3) := by decide +kernel
theorem dX12_notes_33 : decode cX12_notes 33 = .ok (.sipush 133, 3) := by decide +kernel
theorem dX12_notes_36 : decode cX12_notes 36 = .ok (.iload_n 1, 1) := by decide +kernel
theorem dX12_notes_37 : decode cX12_notes 37 = .ok (.iadd, 1) := by decide +kernel
theorem dX12_notes_38 : decode cX12_notes 38 = .ok (.iaload, 1) := by decide +kernel
theorem dX12_notes_39 : decode cX12_notes 39 = .ok (.iastore, 1) := by decide +kernel
theorem dX12_notes_40 : decode cX12_notes 40 = .ok (.iinc 1 1, 3) := by decide +kernel
theorem dX12_notes_43 : decode cX12_notes 43 = .ok (.goto (-29), 3) := by decide +kernel
theorem dX12_notes_46 : decode cX12_notes 46 = .ok (.aload_n 0, 1) := by decide +kernel
theorem dX12_notes_47 : decode cX12_notes 47 = .ok (.getfield 13, 3) := by decide +kernel
theorem dX12_notes_50 : decode cX12_notes 50 = .ok (.bipush 96, 2) := by decide +kernel
theorem dX12_notes_52 : decode cX12_notes 52 = .ok (.dup2, 1) := by decide +kernel
theorem dX12_notes_53 : decode cX12_notes 53 = .ok (.iaload, 1) := by decide +kernel
theorem dX12_notes_54 : decode cX12_notes 54 = .ok (.iconst 1, 1) := by decide +kernel
theorem dX12_notes_55 : decode cX12_notes 55 = .ok (.isub, 1) := by decide +kernel
theorem dX12_notes_56 : decode cX12_notes 56 = .ok (.iastore, 1) := by decide +kernel
theorem dX12_notes_57 : decode cX12_notes 57 = .ok (.iconst 0, 1) := by decide +kernel
theorem dX12_notes_58 : decode cX12_notes 58 = .ok (.istore_n 1, 1) := by decide +kernel
theorem dX12_notes_59 : decode cX12_notes 59 = .ok (.iload_n 1, 1) := by decide +kernel
theorem dX12_notes_60 : decode cX12_notes 60 = .ok (.bipush 36, 2) := by decide +kernel
theorem dX12_notes_62 : decode cX12_notes 62 = .ok (.if_icmp .ge 35, 3) := by decide +kernel
theorem dX12_notes_65 : decode cX12_notes 65 = .ok (.aload_n 0, 1) := by decide +kernel
theorem dX12_notes_66 : decode cX12_notes 66 = .ok (.getfield 13, 3) := by decide +kernel
theorem dX12_notes_69 : decode cX12_notes 69 = .ok (.bipush 97, 2) := by decide +kernel
theorem dX12_notes_71 : decode cX12_notes 71 = .ok (.bipush 36, 2) := by decide +kernel
theorem dX12_notes_73 : decode cX12_notes 73 = .ok (.aload_n 0, 1) := by decide +kernel
theorem dX12_notes_74 : decode cX12_notes 74 = .ok (.getfield 13, 3) := by decide +kernel
theorem dX12_notes_77 : decode cX12_notes 77 = .ok (.bipush 96, 2) := by decide +kernel
theorem dX12_notes_79 : decode cX12_notes 79 = .ok (.iaload, 1) := by decide +kernel
theorem dX12_notes_80 : decode cX12_notes 80 = .ok (.imul, 1) := by decide +kernel
theorem dX12_notes_81 : decode cX12_notes 81 = .ok (.iadd, 1) := by decide +kernel
theorem dX12_notes_82 : decode cX12_notes 82 = .ok (.iload_n 1, 1) := by decide +kernel
theorem dX12_notes_83 : decode cX12_notes 83 = .ok (.iadd, 1) := by decide +kernel
theorem dX12_notes_84 : decode cX12_notes 84 = .ok (.aload_n 0, 1) := by decide +kernel
theorem dX12_notes_85 : decode cX12_notes 85 = .ok (.getfield 36, 3) := by decide +kernel
theorem dX12_notes_88 : decode cX12_notes 88 = .ok (.iload_n 1, 1) := by decide +kernel
theorem dX12_notes_89 : decode cX12_notes 89 = .ok (.iaload, 1) := by decide +kernel
theorem dX12_notes_90 : decode cX12_notes 90 = .ok (.iastore, 1) := by decide +kernel
theorem dX12_notes_91 : decode cX12_notes 91 = .ok (.iinc 1 1, 3) := by decide +kernel
theorem dX12_notes_94 : decode cX12_notes 94 = .ok (.goto (-35), 3) := by decide +kernel
theorem dX12_notes_97 : decode cX12_notes 97 = .ok (.aload_n 0, 1) := by decide +kernel
theorem dX12_notes_98 : decode cX12_notes 98 = .ok (.getfield 13, 3) := by decide +kernel
theorem dX12_notes_101 : decode cX12_notes 101 = .ok (.bipush 96, 2) := by decide +kernel
theorem dX12_notes_103 : decode cX12_notes 103 = .ok (.dup2, 1) := by decide +kernel
theorem dX12_notes_104 : decode cX12_notes 104 = .ok (.iaload, 1) := by decide +kernel
theorem dX12_notes_105 : decode cX12_notes 105 = .ok (.iconst 1, 1) := by decide +kernel
theorem dX12_notes_106 : decode cX12_notes 106 = .ok (.iadd, 1) := by decide +kernel
theorem dX12_notes_107 : decode cX12_notes 107 = .ok (.iastore, 1) := by decide +kernel
theorem dX12_notes_108 : decode cX12_notes 108 = .ok (.return_, 1) := by decide +kernel
theorem dX12_whyPress_0 : decode cX12_whyPress 0 = .ok (.aload_n 0, 1) := by decide +kernel
theorem dX12_whyPress_1 : decode cX12_whyPress 1 = .ok (.lload_n 1, 1) := by decide +kernel
theorem dX12_whyPress_2 : decode cX12_whyPress 2 = .ok (.invokevirtual 230, 3) := by decide +kernel
theorem dX12_whyPress_5 : decode cX12_whyPress 5 = .ok (.ifCond .eq 11, 3) := by decide +kernel
theorem dX12_whyPress_8 : decode cX12_whyPress 8 = .ok (.aload_n 0, 1) := by decide +kernel
theorem dX12_whyPress_9 : decode cX12_whyPress 9 = .ok (.lload_n 3, 1) := by decide +kernel
theorem dX12_whyPress_10 : decode cX12_whyPress 10 = .ok (.invokevirtual 243, 3) := by decide +kernel
theorem dX12_whyPress_13 : decode cX12_whyPress 13 = .ok (.ifCond .ne 5, 3) := by decide +kernel
theorem dX12_whyPress_16 : decode cX12_whyPress 16 = .ok (.iconst 1, 1) := by decide +kernel
theorem dX12_whyPress_17 : decode cX12_whyPress 17 = .ok (.ireturn, 1) := by decide +kernel
theorem dX12_whyPress_18 : decode cX12_whyPress 18 = .ok (.iload 5, 2) := by decide +kernel
theorem dX12_whyPress_20 : decode cX12_whyPress 20 = .ok (.ifCond .eq 28, 3) := by decide +kernel
theorem dX12_whyPress_23 : decode cX12_whyPress 23 = .ok (.aload_n 0, 1) := by decide +kernel
theorem dX12_whyPress_24 : decode cX12_whyPress 24 = .ok (.getfield 13, 3) := by decide +kernel
theorem dX12_whyPress_27 : decode cX12_whyPress 27 = .ok (.bipush 66, 2) := by decide +kernel
theorem dX12_whyPress_29 : decode cX12_whyPress 29 = .ok (.lload_n 1, 1) := by decide +kernel
theorem dX12_whyPress_30 : decode cX12_whyPress 30 = .ok (.l2i, 1) := by decide +kernel
theorem dX12_whyPress_31 : decode cX12_whyPress 31 = .ok (.iadd, 1) := by decide +kernel
theorem dX12_whyPress_32 : decode cX12_whyPress 32 = .ok (.iaload, 1) := by decide +kernel
theorem dX12_whyPress_33 : decode cX12_whyPress 33 = .ok (.i2l, 1) := by decide +kernel
theorem dX12_whyPress_34 : decode cX12_whyPress 34 = .ok (.lload_n 3, 1) := by decide +kernel
theorem dX12_whyPress_35 : decode cX12_whyPress 35 = .ok (.l2i, 1) := by decide +kernel
theorem dX12_whyPress_36 : decode cX12_whyPress 36 = .ok (.invokestatic 207, 3) := by decide +kernel
theorem dX12_whyPress_39 : decode cX12_whyPress 39 = .ok (.ifCond .eq 7, 3) := by decide +kernel
theorem dX12_whyPress_42 : decode cX12_whyPress 42 = .ok (.iconst 0, 1) := by decide +kernel
theorem dX12_whyPress_43 : decode cX12_whyPress 43 = .ok (.goto 4, 3) := by decide +kernel
theorem dX12_whyPress_46 : decode cX12_whyPress 46 = .ok (.iconst 2, 1) := by decide +kernel
theorem dX12_whyPress_47 : decode cX12_whyPress 47 = .ok (.ireturn, 1) := by decide +kernel
theorem dX12_whyPress_48 : decode cX12_whyPress 48 = .ok (.aload_n 0, 1) := by decide +kernel
theorem dX12_whyPress_49 : decode cX12_whyPress 49 = .ok (.getfield 13, 3) := by decide +kernel
theorem dX12_whyPress_52 : decode cX12_whyPress 52 = .ok (.bipush 66, 2) := by decide +kernel
theorem dX12_whyPress_54 : decode cX12_whyPress 54 = .ok (.lload_n 1, 1) := by decide +kernel
theorem dX12_whyPress_55 : decode cX12_whyPress 55 = .ok (.l2i, 1) := by decide +kernel
theorem dX12_whyPress_56 : decode cX12_whyPress 56 = .ok (.iadd, 1) := by decide +kernel
theorem dX12_whyPress_57 : decode cX12_whyPress 57 = .ok (.iaload, 1) := by decide +kernel
theorem dX12_whyPress_58 : decode cX12_whyPress 58 = .ok (.i2l, 1) := by decide +kernel
theorem dX12_whyPress_59 : decode cX12_whyPress 59 = .ok (.lload_n 3, 1) := by decide +kernel
theorem dX12_whyPress_60 : decode cX12_whyPress 60 = .ok (.l2i, 1) := by decide +kernel
theorem dX12_whyPress_61 : decode cX12_whyPress 61 = .ok (.invokestatic 207, 3) := by decide +kernel
theorem dX12_whyPress_64 : decode cX12_whyPress 64 = .ok (.ifCond .ne 19, 3) := by decide +kernel
theorem dX12_whyPress_67 : decode cX12_whyPress 67 = .ok (.aload_n 0, 1) := by decide +kernel
theorem dX12_whyPress_68 : decode cX12_whyPress 68 = .ok (.getfield 13, 3) := by decide +kernel
theorem dX12_whyPress_71 : decode cX12_whyPress 71 = .ok (.bipush 60, 2) := by decide +kernel
theorem dX12_whyPress_73 : decode cX12_whyPress 73 = .ok (.lload_n 1, 1) := by decide +kernel
theorem dX12_whyPress_74 : decode cX12_whyPress 74 = .ok (.l2i, 1) := by decide +kernel
theorem dX12_whyPress_75 : decode cX12_whyPress 75 = .ok (.iadd, 1) := by decide +kernel
theorem dX12_whyPress_76 : decode cX12_whyPress 76 = .ok (.iaload, 1) := by decide +kernel
theorem dX12_whyPress_77 : decode cX12_whyPress 77 = .ok (.i2l, 1) := by decide +kernel
theorem dX12_whyPress_78 : decode cX12_whyPress 78 = .ok (.lload_n 3, 1) := by decide +kernel
theorem dX12_whyPress_79 : decode cX12_whyPress 79 = .ok (.lcmp, 1) := by decide +kernel
theorem dX12_whyPress_80 : decode cX12_whyPress 80 = .ok (.ifCond .ne 7, 3) := by decide +kernel
theorem dX12_whyPress_83 : decode cX12_whyPress 83 = .ok (.iconst 2, 1) := by decide +kernel
theorem dX12_whyPress_84 : decode cX12_whyPress 84 = .ok (.goto 4, 3) := by decide +kernel
theorem dX12_whyPress_87 : decode cX12_whyPress 87 = .ok (.iconst 0, 1) := by decide +kernel
theorem dX12_whyPress_88 : decode cX12_whyPress 88 = .ok (.ireturn, 1) := by decide +kernel
theorem dX12_whyRide_0 : decode cX12_whyRide 0 = .ok (.aload_n 0, 1) := by decide +kernel
theorem dX12_whyRide_1 : decode cX12_whyRide 1 = .ok (.lload_n 1, 1) := by decide +kernel
theorem dX12_whyRide_2 : decode cX12_whyRide 2 = .ok (.invokevirtual 230, 3) := by decide +kernel
theorem dX12_whyRide_5 : decode cX12_whyRide 5 = .ok (.ifCond .ne 7, 3) := by decide +kernel
theorem dX12_whyRide_8 : decode cX12_whyRide 8 = .ok (.iconst 1, 1) := by decide +kernel
theorem dX12_whyRide_9 : decode cX12_whyRide 9 = .ok (.goto 21, 3) := by decide +kernel
theorem dX12_whyRide_12 : decode cX12_whyRide 12 = .ok (.aload_n 0, 1) := by decide +kernel
theorem dX12_whyRide_13 : decode cX12_whyRide 13 = .ok (.getfield 13, 3) := by decide +kernel
theorem dX12_whyRide_16 : decode cX12_whyRide 16 = .ok (.bipush 66, 2) := by decide +kernel
theorem dX12_whyRide_18 : decode cX12_whyRide 18 = .ok (.lload_n 1, 1) := by decide +kernel
theorem dX12_whyRide_19 : decode cX12_whyRide 19 = .ok (.l2i, 1) := by decide +kernel
theorem dX12_whyRide_20 : decode cX12_whyRide 20 = .ok (.iadd, 1) := by decide +kernel
theorem dX12_whyRide_21 : decode cX12_whyRide 21 = .ok (.iaload, 1) := by decide +kernel
theorem dX12_whyRide_22 : decode cX12_whyRide 22 = .ok (.ifCond .ne 7, 3) := by decide +kernel
theorem dX12_whyRide_25 : decode cX12_whyRide 25 = .ok (.iconst 2, 1) := by decide +kernel
theorem dX12_whyRide_26 : decode cX12_whyRide 26 = .ok (.goto 4, 3) := by decide +kernel
theorem dX12_whyRide_29 : decode cX12_whyRide 29 = .ok (.iconst 0, 1) := by decide +kernel
theorem dX12_whyRide_30 : decode cX12_whyRide 30 = .ok (.ireturn, 1) := by decide +kernel
theorem dX12_whyOut_0 : decode cX12_whyOut 0 = .ok (.aload_n 0, 1) := by decide +kernel
theorem dX12_whyOut_1 : decode cX12_whyOut 1 = .ok (.lload_n 1, 1) := by decide +kernel
theorem dX12_whyOut_2 : decode cX12_whyOut 2 = .ok (.invokevirtual 240, 3) := by decide +kernel
theorem dX12_whyOut_5 : decode cX12_whyOut 5 = .ok (.ifCond .ne 7, 3) := by decide +kernel
theorem dX12_whyOut_8 : decode cX12_whyOut 8 = .ok (.iconst 1, 1) := by decide +kernel
theorem dX12_whyOut_9 : decode cX12_whyOut 9 = .ok (.goto 22, 3) := by decide +kernel
theorem dX12_whyOut_12 : decode cX12_whyOut 12 = .ok (.aload_n 0, 1) := by decide +kernel
theorem dX12_whyOut_13 : decode cX12_whyOut 13 = .ok (.getfield 13, 3) := by decide +kernel
theorem dX12_whyOut_16 : decode cX12_whyOut 16 = .ok (.bipush 88, 2) := by decide +kernel
theorem dX12_whyOut_18 : decode cX12_whyOut 18 = .ok (.lload_n 1, 1) := by decide +kernel
theorem dX12_whyOut_19 : decode cX12_whyOut 19 = .ok (.l2i, 1) := by decide +kernel
theorem dX12_whyOut_20 : decode cX12_whyOut 20 = .ok (.iadd, 1) := by decide +kernel
theorem dX12_whyOut_21 : decode cX12_whyOut 21 = .ok (.iaload, 1) := by decide +kernel
theorem dX12_whyOut_22 : decode cX12_whyOut 22 = .ok (.iconst (-1), 1) := by decide +kernel
theorem dX12_whyOut_23 : decode cX12_whyOut 23 = .ok (.if_icmp .ne 7, 3) := by decide +kernel
theorem dX12_whyOut_26 : decode cX12_whyOut 26 = .ok (.iconst 2, 1) := by decide +kernel
theorem dX12_whyOut_27 : decode cX12_whyOut 27 = .ok (.goto 4, 3) := by decide +kernel
theorem dX12_whyOut_30 : decode cX12_whyOut 30 = .ok (.iconst 0, 1) := by decide +kernel
theorem dX12_whyOut_31 : decode cX12_whyOut 31 = .ok (.ireturn, 1) := by decide +kernel
theorem dX12_whyIn_0 : decode cX12_whyIn 0 = .ok (.aload_n 0, 1) := by decide +kernel
theorem dX12_whyIn_1 : decode cX12_whyIn 1 = .ok (.lload_n 1, 1) := by decide +kernel
theorem dX12_whyIn_2 : decode cX12_whyIn 2 = .ok (.invokevirtual 240, 3) := by decide +kernel
theorem dX12_whyIn_5 : decode cX12_whyIn 5 = .ok (.ifCond .eq 11, 3) := by decide +kernel
theorem dX12_whyIn_8 : decode cX12_whyIn 8 = .ok (.aload_n 0, 1) := by decide +kernel
theorem dX12_whyIn_9 : decode cX12_whyIn 9 = .ok (.lload_n 3, 1) := by decide +kernel
theorem dX12_whyIn_10 : decode cX12_whyIn 10 = .ok (.invokevirtual 230, 3) := by decide +kernel
theorem dX12_whyIn_13 : decode cX12_whyIn 13 = .ok (.ifCond .ne 5, 3) := by decide +kernel
theorem dX12_whyIn_16 : decode cX12_whyIn 16 = .ok (.iconst 1, 1) := by decide +kernel
theorem dX12_whyIn_17 : decode cX12_whyIn 17 = .ok (.ireturn, 1) := by decide +kernel
theorem dX12_whyIn_18 : decode cX12_whyIn 18 = .ok (.aload_n 0, 1) := by decide +kernel
theorem dX12_whyIn_19 : decode cX12_whyIn 19 = .ok (.getfield 13, 3) := by decide +kernel
theorem dX12_whyIn_22 : decode cX12_whyIn 22 = .ok (.bipush 88, 2) := by decide +kernel
theorem dX12_whyIn_24 : decode cX12_whyIn 24 = .ok (.lload_n 1, 1) := by decide +kernel
theorem dX12_whyIn_25 : decode cX12_whyIn 25 = .ok (.l2i, 1) := by decide +kernel
theorem dX12_whyIn_26 : decode cX12_whyIn 26 = .ok (.iadd, 1) := by decide +kernel
theorem dX12_whyIn_27 : decode cX12_whyIn 27 = .ok (.iaload, 1) := by decide +kernel
theorem dX12_whyIn_28 : decode cX12_whyIn 28 = .ok (.iconst (-1), 1) := by decide +kernel
theorem dX12_whyIn_29 : decode cX12_whyIn 29 = .ok (.if_icmp .eq 7, 3) := by decide +kernel
theorem dX12_whyIn_32 : decode cX12_whyIn 32 = .ok (.iconst 2, 1) := by decide +kernel
theorem dX12_whyIn_33 : decode cX12_whyIn 33 = .ok (.goto 31, 3) := by decide +kernel
theorem dX12_whyIn_36 : decode cX12_whyIn 36 = .ok (.aload_n 0, 1) := by decide +kernel
theorem dX12_whyIn_37 : decode cX12_whyIn 37 = .ok (.getfield 13, 3) := by decide +kernel
theorem dX12_whyIn_40 : decode cX12_whyIn 40 = .ok (.bipush 60, 2) := by decide +kernel
theorem dX12_whyIn_42 : decode cX12_whyIn 42 = .ok (.lload_n 3, 1) := by decide +kernel
theorem dX12_whyIn_43 : decode cX12_whyIn 43 = .ok (.l2i, 1) := by decide +kernel
theorem dX12_whyIn_44 : decode cX12_whyIn 44 = .ok (.iadd, 1) := by decide +kernel
theorem dX12_whyIn_45 : decode cX12_whyIn 45 = .ok (.iaload, 1) := by decide +kernel
theorem dX12_whyIn_46 : decode cX12_whyIn 46 = .ok (.aload_n 0, 1) := by decide +kernel
theorem dX12_whyIn_47 : decode cX12_whyIn 47 = .ok (.getfield 13, 3) := by decide +kernel
theorem dX12_whyIn_50 : decode cX12_whyIn 50 = .ok (.bipush 72, 2) := by decide +kernel
theorem dX12_whyIn_52 : decode cX12_whyIn 52 = .ok (.lload_n 1, 1) := by decide +kernel
theorem dX12_whyIn_53 : decode cX12_whyIn 53 = .ok (.l2i, 1) := by decide +kernel
theorem dX12_whyIn_54 : decode cX12_whyIn 54 = .ok (.iadd, 1) := by decide +kernel
theorem dX12_whyIn_55 : decode cX12_whyIn 55 = .ok (.iaload, 1) := by decide +kernel
theorem dX12_whyIn_56 : decode cX12_whyIn 56 = .ok (.if_icmp .ne 7, 3) := by decide +kernel
theorem dX12_whyIn_59 : decode cX12_whyIn 59 = .ok (.iconst 0, 1) := by decide +kernel
theorem dX12_whyIn_60 : decode cX12_whyIn 60 = .ok (.goto 4, 3) := by decide +kernel
theorem dX12_whyIn_63 : decode cX12_whyIn 63 = .ok (.iconst 3, 1) := by decide +kernel
theorem dX12_whyIn_64 : decode cX12_whyIn 64 = .ok (.ireturn, 1) := by decide +kernel
theorem dX12_whyWalk_0 : decode cX12_whyWalk 0 = .ok (.aload_n 0, 1) := by decide +kernel
theorem dX12_whyWalk_1 : decode cX12_whyWalk 1 = .ok (.lload_n 1, 1) := by decide +kernel
theorem dX12_whyWalk_2 : decode cX12_whyWalk 2 = .ok (.invokevirtual 240, 3) := by decide +kernel
theorem dX12_whyWalk_5 : decode cX12_whyWalk 5 = .ok (.ifCond .eq 11, 3) := by decide +kernel
theorem dX12_whyWalk_8 : decode cX12_whyWalk 8 = .ok (.aload_n 0, 1) := by decide +kernel
theorem dX12_whyWalk_9 : decode cX12_whyWalk 9 = .ok (.lload_n 3, 1) := by decide +kernel
theorem dX12_whyWalk_10 : decode cX12_whyWalk 10 = .ok (.invokevirtual 243, 3) := by decide +kernel
theorem dX12_whyWalk_13 : decode cX12_whyWalk 13 = .ok (.ifCond .ne 5, 3) := by decide +kernel
theorem dX12_whyWalk_16 : decode cX12_whyWalk 16 = .ok (.iconst 1, 1) := by decide +kernel
theorem dX12_whyWalk_17 : decode cX12_whyWalk 17 = .ok (.ireturn, 1) := by decide +kernel
theorem dX12_whyWalk_18 : decode cX12_whyWalk 18 = .ok (.aload_n 0, 1) := by decide +kernel
theorem dX12_whyWalk_19 : decode cX12_whyWalk 19 = .ok (.getfield 13, 3) := by decide +kernel
theorem dX12_whyWalk_22 : decode cX12_whyWalk 22 = .ok (.bipush 88, 2) := by decide +kernel
theorem dX12_whyWalk_24 : decode cX12_whyWalk 24 = .ok (.lload_n 1, 1) := by decide +kernel
theorem dX12_whyWalk_25 : decode cX12_whyWalk 25 = .ok (.l2i, 1) := by decide +kernel
theorem dX12_whyWalk_26 : decode cX12_whyWalk 26 = .ok (.iadd, 1) := by decide +kernel
theorem dX12_whyWalk_27 : decode cX12_whyWalk 27 = .ok (.iaload, 1) := by decide +kernel
theorem dX12_whyWalk_28 : decode cX12_whyWalk 28 = .ok (.iconst (-1), 1) := by decide +kernel
theorem dX12_whyWalk_29 : decode cX12_whyWalk 29 = .ok (.if_icmp .ne 19, 3) := by decide +kernel
theorem dX12_whyWalk_32 : decode cX12_whyWalk 32 = .ok (.aload_n 0, 1) := by decide +kernel
theorem dX12_whyWalk_33 : decode cX12_whyWalk 33 = .ok (.getfield 13, 3) := by decide +kernel
theorem dX12_whyWalk_36 : decode cX12_whyWalk 36 = .ok (.bipush 72, 2) := by decide +kernel
theorem dX12_whyWalk_38 : decode cX12_whyWalk 38 = .ok (.lload_n 1, 1) := by decide +kernel
theorem dX12_whyWalk_39 : decode cX12_whyWalk 39 = .ok (.l2i, 1) := by decide +kernel
theorem dX12_whyWalk_40 : decode cX12_whyWalk 40 = .ok (.iadd, 1) := by decide +kernel
theorem dX12_whyWalk_41 : decode cX12_whyWalk 41 = .ok (.iaload, 1) := by decide +kernel
theorem dX12_whyWalk_42 : decode cX12_whyWalk 42 = .ok (.i2l, 1) := by decide +kernel
theorem dX12_whyWalk_43 : decode cX12_whyWalk 43 = .ok (.lload_n 3, 1) := by decide +kernel
theorem dX12_whyWalk_44 : decode cX12_whyWalk 44 = .ok (.lcmp, 1) := by decide +kernel
theorem dX12_whyWalk_45 : decode cX12_whyWalk 45 = .ok (.ifCond .ne 7, 3) := by decide +kernel
theorem dX12_whyWalk_48 : decode cX12_whyWalk 48 = .ok (.iconst 2, 1) := by decide +kernel
theorem dX12_whyWalk_49 : decode cX12_whyWalk 49 = .ok (.goto 4, 3) := by decide +kernel
theorem dX12_whyWalk_52 : decode cX12_whyWalk 52 = .ok (.iconst 0, 1) := by decide +kernel
theorem dX12_whyWalk_53 : decode cX12_whyWalk 53 = .ok (.ireturn, 1) := by decide +kernel
theorem dX12_ridesOne_0 : decode cX12_ridesOne 0 = .ok (.aload_n 0, 1) := by decide +kernel
theorem dX12_ridesOne_1 : decode cX12_ridesOne 1 = .ok (.iload_n 1, 1) := by decide +kernel
theorem dX12_ridesOne_2 : decode cX12_ridesOne 2 = .ok (.invokevirtual 234, 3) := by decide +kernel
theorem dX12_ridesOne_5 : decode cX12_ridesOne 5 = .ok (.aload_n 0, 1) := by decide +kernel
theorem dX12_ridesOne_6 : decode cX12_ridesOne 6 = .ok (.invokevirtual 251, 3) := by decide +kernel
theorem dX12_ridesOne_9 : decode cX12_ridesOne 9 = .ok (.pop, 1) := by decide +kernel
theorem dX12_ridesOne_10 : decode cX12_ridesOne 10 = .ok (.aload_n 0, 1) := by decide +kernel
theorem dX12_ridesOne_11 : decode cX12_ridesOne 11 = .ok (.getfield 13, 3) := by decide +kernel
theorem dX12_ridesOne_14 : decode cX12_ridesOne 14 = .ok (.bipush 60, 2) := by decide +kernel
theorem dX12_ridesOne_16 : decode cX12_ridesOne 16 = .ok (.iload_n 1, 1) := by decide +kernel
theorem dX12_ridesOne_17 : decode cX12_ridesOne 17 = .ok (.iadd, 1) := by decide +kernel
theorem dX12_ridesOne_18 : decode cX12_ridesOne 18 = .ok (.aload_n 0, 1) := by decide +kernel
theorem dX12_ridesOne_19 : decode cX12_ridesOne 19 = .ok (.getfield 194, 3) := by decide +kernel
theorem dX12_ridesOne_22 : decode cX12_ridesOne 22 = .ok (.iastore, 1) := by decide +kernel
theorem dX12_ridesOne_23 : decode cX12_ridesOne 23 = .ok (.aload_n 0, 1) := by decide +kernel
theorem dX12_ridesOne_24 : decode cX12_ridesOne 24 = .ok (.getfield 13, 3) := by decide +kernel
theorem dX12_ridesOne_27 : decode cX12_ridesOne 27 = .ok (.bipush 63, 2) := by decide +kernel
theorem dX12_ridesOne_29 : decode cX12_ridesOne 29 = .ok (.iload_n 1, 1) := by decide +kernel
theorem dX12_ridesOne_30 : decode cX12_ridesOne 30 = .ok (.iadd, 1) := by decide +kernel
theorem dX12_ridesOne_31 : decode cX12_ridesOne 31 = .ok (.aload_n 0, 1) := by decide +kernel
theorem dX12_ridesOne_32 : decode cX12_ridesOne 32 = .ok (.getfield 197, 3) := by decide +kernel
theorem dX12_ridesOne_35 : decode cX12_ridesOne 35 = .ok (.iastore, 1) := by decide +kernel
theorem dX12_ridesOne_36 : decode cX12_ridesOne 36 = .ok (.aload_n 0, 1) := by decide +kernel
theorem dX12_ridesOne_37 : decode cX12_ridesOne 37 = .ok (.getfield 13, 3) := by decide +kernel
theorem dX12_ridesOne_40 : decode cX12_ridesOne 40 = .ok (.bipush 66, 2) := by decide +kernel
theorem dX12_ridesOne_42 : decode cX12_ridesOne 42 = .ok (.iload_n 1, 1) := by decide +kernel
theorem dX12_ridesOne_43 : decode cX12_ridesOne 43 = .ok (.iadd, 1) := by decide +kernel
theorem dX12_ridesOne_44 : decode cX12_ridesOne 44 = .ok (.aload_n 0, 1) := by decide +kernel
theorem dX12_ridesOne_45 : decode cX12_ridesOne 45 = .ok (.getfield 200, 3) := by decide +kernel
theorem dX12_ridesOne_48 : decode cX12_ridesOne 48 = .ok (.iastore, 1) := by decide +kernel
theorem dX12_ridesOne_49 : decode cX12_ridesOne 49 = .ok (.aload_n 0, 1) := by decide +kernel
theorem dX12_ridesOne_50 : decode cX12_ridesOne 50 = .ok (.getfield 13, 3) := by decide +kernel
theorem dX12_ridesOne_53 : decode cX12_ridesOne 53 = .ok (.bipush 69, 2) := by decide +kernel
theorem dX12_ridesOne_55 : decode cX12_ridesOne 55 = .ok (.iload_n 1, 1) := by decide +kernel
theorem dX12_ridesOne_56 : decode cX12_ridesOne 56 = .ok (.iadd, 1) := by decide +kernel
theorem dX12_ridesOne_57 : decode cX12_ridesOne 57 = .ok (.aload_n 0, 1) := by decide +kernel
theorem dX12_ridesOne_58 : decode cX12_ridesOne 58 = .ok (.getfield 203, 3) := by decide +kernel
theorem dX12_ridesOne_61 : decode cX12_ridesOne 61 = .ok (.ifCond .eq 7, 3) := by decide +kernel
theorem dX12_ridesOne_64 : decode cX12_ridesOne 64 = .ok (.iconst 1, 1) := by decide +kernel
theorem dX12_ridesOne_65 : decode cX12_ridesOne 65 = .ok (.goto 4, 3) := by decide +kernel
theorem dX12_ridesOne_68 : decode cX12_ridesOne 68 = .ok (.iconst 0, 1) := by decide +kernel
theorem dX12_ridesOne_69 : decode cX12_ridesOne 69 = .ok (.iastore, 1) := by decide +kernel
theorem dX12_ridesOne_70 : decode cX12_ridesOne 70 = .ok (.iconst 0, 1) := by decide +kernel
theorem dX12_ridesOne_71 : decode cX12_ridesOne 71 = .ok (.istore_n 2, 1) := by decide +kernel
theorem dX12_ridesOne_72 : decode cX12_ridesOne 72 = .ok (.iload_n 2, 1) := by decide +kernel
theorem dX12_ridesOne_73 : decode cX12_ridesOne 73 = .ok (.aload_n 0, 1) := by decide +kernel
theorem dX12_ridesOne_74 : decode cX12_ridesOne 74 = .ok (.getfield 13, 3) := by decide +kernel
theorem dX12_ridesOne_77 : decode cX12_ridesOne 77 = .ok (.iconst 3, 1) := by decide +kernel
theorem dX12_ridesOne_78 : decode cX12_ridesOne 78 = .ok (.iaload, 1) := by decide +kernel
theorem dX12_ridesOne_79 : decode cX12_ridesOne 79 = .ok (.if_icmp .ge 51, 3) := by decide +kernel
theorem dX12_ridesOne_82 : decode cX12_ridesOne 82 = .ok (.aload_n 0, 1) := by decide +kernel
theorem dX12_ridesOne_83 : decode cX12_ridesOne 83 = .ok (.getfield 13, 3) := by decide +kernel
theorem dX12_ridesOne_86 : decode cX12_ridesOne 86 = .ok (.bipush 88, 2) := by decide +kernel
theorem dX12_ridesOne_88 : decode cX12_ridesOne 88 = .ok (.iload_n 2, 1) := by decide +kernel
theorem dX12_ridesOne_89 : decode cX12_ridesOne 89 = .ok (.iadd, 1) := by decide +kernel
theorem dX12_ridesOne_90 : decode cX12_ridesOne 90 = .ok (.iaload, 1) := by decide +kernel
theorem dX12_ridesOne_91 : decode cX12_ridesOne 91 = .ok (.iload_n 1, 1) := by decide +kernel
theorem dX12_ridesOne_92 : decode cX12_ridesOne 92 = .ok (.if_icmp .eq 6, 3) := by decide +kernel
theorem dX12_ridesOne_95 : decode cX12_ridesOne 95 = .ok (.goto 29, 3) := by decide +kernel
theorem dX12_ridesOne_98 : decode cX12_ridesOne 98 = .ok (.aload_n 0, 1) := by decide +kernel
theorem dX12_ridesOne_99 : decode cX12_ridesOne 99 = .ok (.getfield 13, 3) := by decide +kernel
theorem dX12_ridesOne_102 : decode cX12_ridesOne 102 = .ok (.bipush 72, 2) := by decide +kernel
theorem dX12_ridesOne_104 : decode cX12_ridesOne 104 = .ok (.iload_n 2, 1) := by decide +kernel
theorem dX12_ridesOne_105 : decode cX12_ridesOne 105 = .ok (.iadd, 1) := by decide +kernel
theorem dX12_ridesOne_106 : decode cX12_ridesOne 106 = .ok (.aload_n 0, 1) := by decide +kernel
theorem dX12_ridesOne_107 : decode cX12_ridesOne 107 = .ok (.getfield 194, 3) := by decide +kernel
theorem dX12_ridesOne_110 : decode cX12_ridesOne 110 = .ok (.iastore, 1) := by decide +kernel
theorem dX12_ridesOne_111 : decode cX12_ridesOne 111 = .ok (.aload_n 0, 1) := by decide +kernel
theorem dX12_ridesOne_112 : decode cX12_ridesOne 112 = .ok (.getfield 13, 3) := by decide +kernel
theorem dX12_ridesOne_115 : decode cX12_ridesOne 115 = .ok (.bipush 80, 2) := by decide +kernel
theorem dX12_ridesOne_117 : decode cX12_ridesOne 117 = .ok (.iload_n 2, 1) := by decide +kernel
theorem dX12_ridesOne_118 : decode cX12_ridesOne 118 = .ok (.iadd, 1) := by decide +kernel
theorem dX12_ridesOne_119 : decode cX12_ridesOne 119 = .ok (.aload_n 0, 1) := by decide +kernel
theorem dX12_ridesOne_120 : decode cX12_ridesOne 120 = .ok (.getfield 221, 3) := by decide +kernel
theorem dX12_ridesOne_123 : decode cX12_ridesOne 123 = .ok (.iastore, 1) := by decide +kernel
theorem dX12_ridesOne_124 : decode cX12_ridesOne 124 = .ok (.iinc 2 1, 3) := by decide +kernel
theorem dX12_ridesOne_127 : decode cX12_ridesOne 127 = .ok (.goto (-55), 3) := by decide +kernel
theorem dX12_ridesOne_130 : decode cX12_ridesOne 130 = .ok (.return_, 1) := by decide +kernel
theorem dX12_getsIn_0 : decode cX12_getsIn 0 = .ok (.aload_n 0, 1) := by decide +kernel
theorem dX12_getsIn_1 : decode cX12_getsIn 1 = .ok (.getfield 13, 3) := by decide +kernel
theorem dX12_getsIn_4 : decode cX12_getsIn 4 = .ok (.bipush 88, 2) := by decide +kernel
theorem dX12_getsIn_6 : decode cX12_getsIn 6 = .ok (.iload_n 1, 1) := by decide +kernel
theorem dX12_getsIn_7 : decode cX12_getsIn 7 = .ok (.iadd, 1) := by decide +kernel
theorem dX12_getsIn_8 : decode cX12_getsIn 8 = .ok (.iload_n 2, 1) := by decide +kernel
theorem dX12_getsIn_9 : decode cX12_getsIn 9 = .ok (.iastore, 1) := by decide +kernel
theorem dX12_getsIn_10 : decode cX12_getsIn 10 = .ok (.aload_n 0, 1) := by decide +kernel
theorem dX12_getsIn_11 : decode cX12_getsIn 11 = .ok (.getfield 13, 3) := by decide +kernel
theorem dX12_getsIn_14 : decode cX12_getsIn 14 = .ok (.bipush 63, 2) := by decide +kernel
theorem dX12_getsIn_16 : decode cX12_getsIn 16 = .ok (.iload_n 2, 1) := by decide +kernel
theorem dX12_getsIn_17 : decode cX12_getsIn 17 = .ok (.iadd, 1) := by decide +kernel
theorem dX12_getsIn_18 : decode cX12_getsIn 18 = .ok (.iaload, 1) := by decide +kernel
theorem dX12_getsIn_19 : decode cX12_getsIn 19 = .ok (.aload_n 0, 1) := by decide +kernel
theorem dX12_getsIn_20 : decode cX12_getsIn 20 = .ok (.getfield 13, 3) := by decide +kernel
theorem dX12_getsIn_23 : decode cX12_getsIn 23 = .ok (.bipush 80, 2) := by decide +kernel
theorem dX12_getsIn_25 : decode cX12_getsIn 25 = .ok (.iload_n 1, 1) := by decide +kernel
theorem dX12_getsIn_26 : decode cX12_getsIn 26 = .ok (.iadd, 1) := by decide +kernel
theorem dX12_getsIn_27 : decode cX12_getsIn 27 = .ok (.iaload, 1) := by decide +kernel
theorem dX12_getsIn_28 : decode cX12_getsIn 28 = .ok (.if_icmp .ge 21, 3) := by decide +kernel
theorem dX12_getsIn_31 : decode cX12_getsIn 31 = .ok (.aload_n 0, 1) := by decide +kernel
theorem dX12_getsIn_32 : decode cX12_getsIn 32 = .ok (.getfield 13, 3) := by decide +kernel
theorem dX12_getsIn_35 : decode cX12_getsIn 35 = .ok (.bipush 63, 2) := by decide +kernel
theorem dX12_getsIn_37 : decode cX12_getsIn 37 = .ok (.iload_n 2, 1) := by decide +kernel
theorem dX12_getsIn_38 : decode cX12_getsIn 38 = .ok (.iadd, 1) := by decide +kernel
theorem dX12_getsIn_39 : decode cX12_getsIn 39 = .ok (.aload_n 0, 1) := by decide +kernel
theorem dX12_getsIn_40 : decode cX12_getsIn 40 = .ok (.getfield 13, 3) := by decide +kernel
theorem dX12_getsIn_43 : decode cX12_getsIn 43 = .ok (.bipush 80, 2) := by decide +kernel
theorem dX12_getsIn_45 : decode cX12_getsIn 45 = .ok (.iload_n 1, 1) := by decide +kernel
theorem dX12_getsIn_46 : decode cX12_getsIn 46 = .ok (.iadd, 1) := by decide +kernel
theorem dX12_getsIn_47 : decode cX12_getsIn 47 = .ok (.iaload, 1) := by decide +kernel
theorem dX12_getsIn_48 : decode cX12_getsIn 48 = .ok (.iastore, 1) := by decide +kernel
theorem dX12_getsIn_49 : decode cX12_getsIn 49 = .ok (.return_, 1) := by decide +kernel
theorem dX12_walksOne_0 : decode cX12_walksOne 0 = .ok (.aload_n 0, 1) := by decide +kernel
theorem dX12_walksOne_1 : decode cX12_walksOne 1 = .ok (.getfield 13, 3) := by decide +kernel
theorem dX12_walksOne_4 : decode cX12_walksOne 4 = .ok (.bipush 80, 2) := by decide +kernel
theorem dX12_walksOne_6 : decode cX12_walksOne 6 = .ok (.iload_n 1, 1) := by decide +kernel
theorem dX12_walksOne_7 : decode cX12_walksOne 7 = .ok (.iadd, 1) := by decide +kernel
theorem dX12_walksOne_8 : decode cX12_walksOne 8 = .ok (.dup2, 1) := by decide +kernel
theorem dX12_walksOne_9 : decode cX12_walksOne 9 = .ok (.iaload, 1) := by decide +kernel
theorem dX12_walksOne_10 : decode cX12_walksOne 10 = .ok (.aload_n 0, 1) := by decide +kernel
theorem dX12_walksOne_11 : decode cX12_walksOne 11 = .ok (.iload_n 1, 1) := by decide +kernel
theorem dX12_walksOne_12 : decode cX12_walksOne 12 = .ok (.aload_n 0, 1) := by decide +kernel
theorem dX12_walksOne_13 : decode cX12_walksOne 13 = .ok (.getfield 13, 3) := by decide +kernel
theorem dX12_walksOne_16 : decode cX12_walksOne 16 = .ok (.bipush 72, 2) := by decide +kernel
theorem dX12_walksOne_18 : decode cX12_walksOne 18 = .ok (.iload_n 1, 1) := by decide +kernel
theorem dX12_walksOne_19 : decode cX12_walksOne 19 = .ok (.iadd, 1) := by decide +kernel
theorem dX12_walksOne_20 : decode cX12_walksOne 20 = .ok (.iaload, 1) := by decide +kernel
theorem dX12_walksOne_21 : decode cX12_walksOne 21 = .ok (.iload_n 2, 1) := by decide +kernel
theorem dX12_walksOne_22 : decode cX12_walksOne 22 = .ok (.invokevirtual 246, 3) := by decide +kernel
theorem dX12_walksOne_25 : decode cX12_walksOne 25 = .ok (.iadd, 1) := by decide +kernel
theorem dX12_walksOne_26 : decode cX12_walksOne 26 = .ok (.iastore, 1) := by decide +kernel
theorem dX12_walksOne_27 : decode cX12_walksOne 27 = .ok (.aload_n 0, 1) := by decide +kernel
theorem dX12_walksOne_28 : decode cX12_walksOne 28 = .ok (.getfield 13, 3) := by decide +kernel
theorem dX12_walksOne_31 : decode cX12_walksOne 31 = .ok (.bipush 72, 2) := by decide +kernel
theorem dX12_walksOne_33 : decode cX12_walksOne 33 = .ok (.iload_n 1, 1) := by decide +kernel
theorem dX12_walksOne_34 : decode cX12_walksOne 34 = .ok (.iadd, 1) := by decide +kernel
theorem dX12_walksOne_35 : decode cX12_walksOne 35 = .ok (.iload_n 2, 1) := by decide +kernel
theorem dX12_walksOne_36 : decode cX12_walksOne 36 = .ok (.iastore, 1) := by decide +kernel
theorem dX12_walksOne_37 : decode cX12_walksOne 37 = .ok (.return_, 1) := by decide +kernel
theorem dX12_press_0 : decode cX12_press 0 = .ok (.aload_n 0, 1) := by decide +kernel
theorem dX12_press_1 : decode cX12_press 1 = .ok (.iconst 0, 1) := by decide +kernel
theorem dX12_press_2 : decode cX12_press 2 = .ok (.putfield 1, 3) := by decide +kernel
theorem dX12_press_5 : decode cX12_press 5 = .ok (.aload_n 0, 1) := by decide +kernel
theorem dX12_press_6 : decode cX12_press 6 = .ok (.iload_n 1, 1) := by decide +kernel
theorem dX12_press_7 : decode cX12_press 7 = .ok (.i2l, 1) := by decide +kernel
theorem dX12_press_8 : decode cX12_press 8 = .ok (.iload_n 2, 1) := by decide +kernel
theorem dX12_press_9 : decode cX12_press 9 = .ok (.i2l, 1) := by decide +kernel
theorem dX12_press_10 : decode cX12_press 10 = .ok (.iconst 0, 1) := by decide +kernel
theorem dX12_press_11 : decode cX12_press 11 = .ok (.invokevirtual 254, 3) := by decide +kernel
theorem dX12_press_14 : decode cX12_press 14 = .ok (.istore_n 3, 1) := by decide +kernel
theorem dX12_press_15 : decode cX12_press 15 = .ok (.iload_n 3, 1) := by decide +kernel
theorem dX12_press_16 : decode cX12_press 16 = .ok (.ifCond .eq 8, 3) := by decide +kernel
theorem dX12_press_19 : decode cX12_press 19 = .ok (.bipush (-10), 2) := by decide +kernel
theorem dX12_press_21 : decode cX12_press 21 = .ok (.iload_n 3, 1) := by decide +kernel
theorem dX12_press_22 : decode cX12_press 22 = .ok (.isub, 1) := by decide +kernel
theorem dX12_press_23 : decode cX12_press 23 = .ok (.ireturn, 1) := by decide +kernel
theorem dX12_press_24 : decode cX12_press 24 = .ok (.aload_n 0, 1) := by decide +kernel
theorem dX12_press_25 : decode cX12_press 25 = .ok (.invokevirtual 258, 3) := by decide +kernel
theorem dX12_press_28 : decode cX12_press 28 = .ok (.aload_n 0, 1) := by decide +kernel
theorem dX12_press_29 : decode cX12_press 29 = .ok (.getfield 13, 3) := by decide +kernel
theorem dX12_press_32 : decode cX12_press 32 = .ok (.bipush 66, 2) := by decide +kernel
theorem dX12_press_34 : decode cX12_press 34 = .ok (.iload_n 1, 1) := by decide +kernel
theorem dX12_press_35 : decode cX12_press 35 = .ok (.iadd, 1) := by decide +kernel
theorem dX12_press_36 : decode cX12_press 36 = .ok (.dup2, 1) := by decide +kernel
theorem dX12_press_37 : decode cX12_press 37 = .ok (.iaload, 1) := by decide +kernel
theorem dX12_press_38 : decode cX12_press 38 = .ok (.iconst 1, 1) := by decide +kernel
theorem dX12_press_39 : decode cX12_press 39 = .ok (.iload_n 2, 1) := by decide +kernel
theorem dX12_press_40 : decode cX12_press 40 = .ok (.ishl, 1) := by decide +kernel
theorem dX12_press_41 : decode cX12_press 41 = .ok (.ior, 1) := by decide +kernel
theorem dX12_press_42 : decode cX12_press 42 = .ok (.iastore, 1) := by decide +kernel
theorem dX12_press_43 : decode cX12_press 43 = .ok (.aload_n 0, 1) := by decide +kernel
theorem dX12_press_44 : decode cX12_press 44 = .ok (.invokevirtual 261, 3) := by decide +kernel
theorem dX12_press_47 : decode cX12_press 47 = .ok (.aload_n 0, 1) := by decide +kernel
theorem dX12_press_48 : decode cX12_press 48 = .ok (.getfield 13, 3) := by decide +kernel
theorem dX12_press_51 : decode cX12_press 51 = .ok (.bipush 66, 2) := by decide +kernel
theorem dX12_press_53 : decode cX12_press 53 = .ok (.iload_n 1, 1) := by decide +kernel
theorem dX12_press_54 : decode cX12_press 54 = .ok (.iadd, 1) := by decide +kernel
theorem dX12_press_55 : decode cX12_press 55 = .ok (.iaload, 1) := by decide +kernel
theorem dX12_press_56 : decode cX12_press 56 = .ok (.invokestatic 224, 3) := by decide +kernel
theorem dX12_press_59 : decode cX12_press 59 = .ok (.ireturn, 1) := by decide +kernel
theorem dX12_pressOff_0 : decode cX12_pressOff 0 = .ok (.aload_n 0, 1) := by decide +kernel
theorem dX12_pressOff_1 : decode cX12_pressOff 1 = .ok (.iconst 0, 1) := by decide +kernel
theorem dX12_pressOff_2 : decode cX12_pressOff 2 = .ok (.putfield 1, 3) := by decide +kernel
theorem dX12_pressOff_5 : decode cX12_pressOff 5 = .ok (.aload_n 0, 1) := by decide +kernel
theorem dX12_pressOff_6 : decode cX12_pressOff 6 = .ok (.iload_n 1, 1) := by decide +kernel
theorem dX12_pressOff_7 : decode cX12_pressOff 7 = .ok (.i2l, 1) := by decide +kernel
theorem dX12_pressOff_8 : decode cX12_pressOff 8 = .ok (.iload_n 2, 1) := by decide +kernel
theorem dX12_pressOff_9 : decode cX12_pressOff 9 = .ok (.i2l, 1) := by decide +kernel
theorem dX12_pressOff_10 : decode cX12_pressOff 10 = .ok (.iconst 1, 1) := by decide +kernel
theorem dX12_pressOff_11 : decode cX12_pressOff 11 = .ok (.invokevirtual 254, 3) := by decide +kernel
theorem dX12_pressOff_14 : decode cX12_pressOff 14 = .ok (.istore_n 3, 1) := by decide +kernel
theorem dX12_pressOff_15 : decode cX12_pressOff 15 = .ok (.iload_n 3, 1) := by decide +kernel
theorem dX12_pressOff_16 : decode cX12_pressOff 16 = .ok (.ifCond .eq 8, 3) := by decide +kernel
theorem dX12_pressOff_19 : decode cX12_pressOff 19 = .ok (.bipush (-10), 2) := by decide +kernel
theorem dX12_pressOff_21 : decode cX12_pressOff 21 = .ok (.iload_n 3, 1) := by decide +kernel
theorem dX12_pressOff_22 : decode cX12_pressOff 22 = .ok (.isub, 1) := by decide +kernel
theorem dX12_pressOff_23 : decode cX12_pressOff 23 = .ok (.ireturn, 1) := by decide +kernel
theorem dX12_pressOff_24 : decode cX12_pressOff 24 = .ok (.aload_n 0, 1) := by decide +kernel
theorem dX12_pressOff_25 : decode cX12_pressOff 25 = .ok (.invokevirtual 258, 3) := by decide +kernel
theorem dX12_pressOff_28 : decode cX12_pressOff 28 = .ok (.aload_n 0, 1) := by decide +kernel
theorem dX12_pressOff_29 : decode cX12_pressOff 29 = .ok (.getfield 13, 3) := by decide +kernel
theorem dX12_pressOff_32 : decode cX12_pressOff 32 = .ok (.bipush 66, 2) := by decide +kernel
theorem dX12_pressOff_34 : decode cX12_pressOff 34 = .ok (.iload_n 1, 1) := by decide +kernel
theorem dX12_pressOff_35 : decode cX12_pressOff 35 = .ok (.iadd, 1) := by decide +kernel
theorem dX12_pressOff_36 : decode cX12_pressOff 36 = .ok (.dup2, 1) := by decide +kernel
theorem dX12_pressOff_37 : decode cX12_pressOff 37 = .ok (.iaload, 1) := by decide +kernel
theorem dX12_pressOff_38 : decode cX12_pressOff 38 = .ok (.iconst 1, 1) := by decide +kernel
theorem dX12_pressOff_39 : decode cX12_pressOff 39 = .ok (.iload_n 2, 1) := by decide +kernel
theorem dX12_pressOff_40 : decode cX12_pressOff 40 = .ok (.ishl, 1) := by decide +kernel
theorem dX12_pressOff_41 : decode cX12_pressOff 41 = .ok (.iconst (-1), 1) := by decide +kernel
theorem dX12_pressOff_42 : decode cX12_pressOff 42 = .ok (.ixor, 1) := by decide +kernel
theorem dX12_pressOff_43 : decode cX12_pressOff 43 = .ok (.iand, 1) := by decide +kernel
theorem dX12_pressOff_44 : decode cX12_pressOff 44 = .ok (.iastore, 1) := by decide +kernel
theorem dX12_pressOff_45 : decode cX12_pressOff 45 = .ok (.aload_n 0, 1) := by decide +kernel
theorem dX12_pressOff_46 : decode cX12_pressOff 46 = .ok (.invokevirtual 261, 3) := by decide +kernel
theorem dX12_pressOff_49 : decode cX12_pressOff 49 = .ok (.aload_n 0, 1) := by decide +kernel
theorem dX12_pressOff_50 : decode cX12_pressOff 50 = .ok (.getfield 13, 3) := by decide +kernel
theorem dX12_pressOff_53 : decode cX12_pressOff 53 = .ok (.bipush 66, 2) := by decide +kernel
theorem dX12_pressOff_55 : decode cX12_pressOff 55 = .ok (.iload_n 1, 1) := by decide +kernel
theorem dX12_pressOff_56 : decode cX12_pressOff 56 = .ok (.iadd, 1) := by decide +kernel
theorem dX12_pressOff_57 : decode cX12_pressOff 57 = .ok (.iaload, 1) := by decide +kernel
theorem dX12_pressOff_58 : decode cX12_pressOff 58 = .ok (.invokestatic 224, 3) := by decide +kernel
theorem dX12_pressOff_61 : decode cX12_pressOff 61 = .ok (.ireturn, 1) := by decide +kernel
theorem dX12_rides_0 : decode cX12_rides 0 = .ok (.aload_n 0, 1) := by decide +kernel
theorem dX12_rides_1 : decode cX12_rides 1 = .ok (.iconst 0, 1) := by decide +kernel
theorem dX12_rides_2 : decode cX12_rides 2 = .ok (.putfield 1, 3) := by decide +kernel
theorem dX12_rides_5 : decode cX12_rides 5 = .ok (.aload_n 0, 1) := by decide +kernel
theorem dX12_rides_6 : decode cX12_rides 6 = .ok (.iload_n 1, 1) := by decide +kernel
theorem dX12_rides_7 : decode cX12_rides 7 = .ok (.i2l, 1) := by decide +kernel
theorem dX12_rides_8 : decode cX12_rides 8 = .ok (.invokevirtual 264, 3) := by decide +kernel
theorem dX12_rides_11 : decode cX12_rides 11 = .ok (.istore_n 2, 1) := by decide +kernel
theorem dX12_rides_12 : decode cX12_rides 12 = .ok (.iload_n 2, 1) := by decide +kernel
theorem dX12_rides_13 : decode cX12_rides 13 = .ok (.ifCond .eq 8, 3) := by decide +kernel
theorem dX12_rides_16 : decode cX12_rides 16 = .ok (.bipush (-10), 2) := by decide +kernel
theorem dX12_rides_18 : decode cX12_rides 18 = .ok (.iload_n 2, 1) := by decide +kernel
theorem dX12_rides_19 : decode cX12_rides 19 = .ok (.isub, 1) := by decide +kernel
theorem dX12_rides_20 : decode cX12_rides 20 = .ok (.ireturn, 1) := by decide +kernel
theorem dX12_rides_21 : decode cX12_rides 21 = .ok (.aload_n 0, 1) := by decide +kernel
theorem dX12_rides_22 : decode cX12_rides 22 = .ok (.invokevirtual 258, 3) := by decide +kernel
theorem dX12_rides_25 : decode cX12_rides 25 = .ok (.aload_n 0, 1) := by decide +kernel
theorem dX12_rides_26 : decode cX12_rides 26 = .ok (.iload_n 1, 1) := by decide +kernel
theorem dX12_rides_27 : decode cX12_rides 27 = .ok (.invokevirtual 268, 3) := by decide +kernel
theorem dX12_rides_30 : decode cX12_rides 30 = .ok (.aload_n 0, 1) := by decide +kernel
theorem dX12_rides_31 : decode cX12_rides 31 = .ok (.invokevirtual 261, 3) := by decide +kernel
theorem dX12_rides_34 : decode cX12_rides 34 = .ok (.aload_n 0, 1) := by decide +kernel
theorem dX12_rides_35 : decode cX12_rides 35 = .ok (.getfield 194, 3) := by decide +kernel
theorem dX12_rides_38 : decode cX12_rides 38 = .ok (.ireturn, 1) := by decide +kernel
theorem dX12_out_0 : decode cX12_out 0 = .ok (.aload_n 0, 1) := by decide +kernel
theorem dX12_out_1 : decode cX12_out 1 = .ok (.iconst 0, 1) := by decide +kernel
theorem dX12_out_2 : decode cX12_out 2 = .ok (.putfield 1, 3) := by decide +kernel
theorem dX12_out_5 : decode cX12_out 5 = .ok (.aload_n 0, 1) := by decide +kernel
theorem dX12_out_6 : decode cX12_out 6 = .ok (.iload_n 1, 1) := by decide +kernel
theorem dX12_out_7 : decode cX12_out 7 = .ok (.i2l, 1) := by decide +kernel
theorem dX12_out_8 : decode cX12_out 8 = .ok (.invokevirtual 271, 3) := by decide +kernel
theorem dX12_out_11 : decode cX12_out 11 = .ok (.istore_n 2, 1) := by decide +kernel
theorem dX12_out_12 : decode cX12_out 12 = .ok (.iload_n 2, 1) := by decide +kernel
theorem dX12_out_13 : decode cX12_out 13 = .ok (.ifCond .eq 8, 3) := by decide +kernel
theorem dX12_out_16 : decode cX12_out 16 = .ok (.bipush (-10), 2) := by decide +kernel
theorem dX12_out_18 : decode cX12_out 18 = .ok (.iload_n 2, 1) := by decide +kernel
theorem dX12_out_19 : decode cX12_out 19 = .ok (.isub, 1) := by decide +kernel
theorem dX12_out_20 : decode cX12_out 20 = .ok (.ireturn, 1) := by decide +kernel
theorem dX12_out_21 : decode cX12_out 21 = .ok (.aload_n 0, 1) := by decide +kernel
theorem dX12_out_22 : decode cX12_out 22 = .ok (.invokevirtual 258, 3) := by decide +kernel
theorem dX12_out_25 : decode cX12_out 25 = .ok (.aload_n 0, 1) := by decide +kernel
theorem dX12_out_26 : decode cX12_out 26 = .ok (.getfield 13, 3) := by decide +kernel
theorem dX12_out_29 : decode cX12_out 29 = .ok (.bipush 88, 2) := by decide +kernel
theorem dX12_out_31 : decode cX12_out 31 = .ok (.iload_n 1, 1) := by decide +kernel
theorem dX12_out_32 : decode cX12_out 32 = .ok (.iadd, 1) := by decide +kernel
theorem dX12_out_33 : decode cX12_out 33 = .ok (.iconst (-1), 1) := by decide +kernel
theorem dX12_out_34 : decode cX12_out 34 = .ok (.iastore, 1) := by decide +kernel
theorem dX12_out_35 : decode cX12_out 35 = .ok (.aload_n 0, 1) := by decide +kernel
theorem dX12_out_36 : decode cX12_out 36 = .ok (.invokevirtual 261, 3) := by decide +kernel
theorem dX12_out_39 : decode cX12_out 39 = .ok (.aload_n 0, 1) := by decide +kernel
theorem dX12_out_40 : decode cX12_out 40 = .ok (.getfield 13, 3) := by decide +kernel
theorem dX12_out_43 : decode cX12_out 43 = .ok (.bipush 72, 2) := by decide +kernel
theorem dX12_out_45 : decode cX12_out 45 = .ok (.iload_n 1, 1) := by decide +kernel
theorem dX12_out_46 : decode cX12_out 46 = .ok (.iadd, 1) := by decide +kernel
theorem dX12_out_47 : decode cX12_out 47 = .ok (.iaload, 1) := by decide +kernel
theorem dX12_out_48 : decode cX12_out 48 = .ok (.ireturn, 1) := by decide +kernel
theorem dX12_in_0 : decode cX12_in 0 = .ok (.aload_n 0, 1) := by decide +kernel
theorem dX12_in_1 : decode cX12_in 1 = .ok (.iconst 0, 1) := by decide +kernel
theorem dX12_in_2 : decode cX12_in 2 = .ok (.putfield 1, 3) := by decide +kernel
theorem dX12_in_5 : decode cX12_in 5 = .ok (.aload_n 0, 1) := by decide +kernel
theorem dX12_in_6 : decode cX12_in 6 = .ok (.iload_n 1, 1) := by decide +kernel
theorem dX12_in_7 : decode cX12_in 7 = .ok (.i2l, 1) := by decide +kernel
theorem dX12_in_8 : decode cX12_in 8 = .ok (.iload_n 2, 1) := by decide +kernel
theorem dX12_in_9 : decode cX12_in 9 = .ok (.i2l, 1) := by decide +kernel
theorem dX12_in_10 : decode cX12_in 10 = .ok (.invokevirtual 274, 3) := by decide +kernel
theorem dX12_in_13 : decode cX12_in 13 = .ok (.istore_n 3, 1) := by decide +kernel
theorem dX12_in_14 : decode cX12_in 14 = .ok (.iload_n 3, 1) := by decide +kernel
theorem dX12_in_15 : decode cX12_in 15 = .ok (.ifCond .eq 8, 3) := by decide +kernel
theorem dX12_in_18 : decode cX12_in 18 = .ok (.bipush (-10), 2) := by decide +kernel
theorem dX12_in_20 : decode cX12_in 20 = .ok (.iload_n 3, 1) := by decide +kernel
theorem dX12_in_21 : decode cX12_in 21 = .ok (.isub, 1) := by decide +kernel
theorem dX12_in_22 : decode cX12_in 22 = .ok (.ireturn, 1) := by decide +kernel
theorem dX12_in_23 : decode cX12_in 23 = .ok (.aload_n 0, 1) := by decide +kernel
theorem dX12_in_24 : decode cX12_in 24 = .ok (.invokevirtual 258, 3) := by decide +kernel
theorem dX12_in_27 : decode cX12_in 27 = .ok (.aload_n 0, 1) := by decide +kernel
theorem dX12_in_28 : decode cX12_in 28 = .ok (.iload_n 1, 1) := by decide +kernel
theorem dX12_in_29 : decode cX12_in 29 = .ok (.iload_n 2, 1) := by decide +kernel
theorem dX12_in_30 : decode cX12_in 30 = .ok (.invokevirtual 278, 3) := by decide +kernel
theorem dX12_in_33 : decode cX12_in 33 = .ok (.aload_n 0, 1) := by decide +kernel
theorem dX12_in_34 : decode cX12_in 34 = .ok (.invokevirtual 261, 3) := by decide +kernel
theorem dX12_in_37 : decode cX12_in 37 = .ok (.aload_n 0, 1) := by decide +kernel
theorem dX12_in_38 : decode cX12_in 38 = .ok (.getfield 13, 3) := by decide +kernel
theorem dX12_in_41 : decode cX12_in 41 = .ok (.bipush 63, 2) := by decide +kernel
theorem dX12_in_43 : decode cX12_in 43 = .ok (.iload_n 2, 1) := by decide +kernel
theorem dX12_in_44 : decode cX12_in 44 = .ok (.iadd, 1) := by decide +kernel
theorem dX12_in_45 : decode cX12_in 45 = .ok (.iaload, 1) := by decide +kernel
theorem dX12_in_46 : decode cX12_in 46 = .ok (.ireturn, 1) := by decide +kernel
theorem dX12_walks_0 : decode cX12_walks 0 = .ok (.aload_n 0, 1) := by decide +kernel
theorem dX12_walks_1 : decode cX12_walks 1 = .ok (.iconst 0, 1) := by decide +kernel
theorem dX12_walks_2 : decode cX12_walks 2 = .ok (.putfield 1, 3) := by decide +kernel
theorem dX12_walks_5 : decode cX12_walks 5 = .ok (.aload_n 0, 1) := by decide +kernel
theorem dX12_walks_6 : decode cX12_walks 6 = .ok (.iload_n 1, 1) := by decide +kernel
theorem dX12_walks_7 : decode cX12_walks 7 = .ok (.i2l, 1) := by decide +kernel
theorem dX12_walks_8 : decode cX12_walks 8 = .ok (.iload_n 2, 1) := by decide +kernel
theorem dX12_walks_9 : decode cX12_walks 9 = .ok (.i2l, 1) := by decide +kernel
theorem dX12_walks_10 : decode cX12_walks 10 = .ok (.invokevirtual 282, 3) := by decide +kernel
theorem dX12_walks_13 : decode cX12_walks 13 = .ok (.istore_n 3, 1) := by decide +kernel
theorem dX12_walks_14 : decode cX12_walks 14 = .ok (.iload_n 3, 1) := by decide +kernel
theorem dX12_walks_15 : decode cX12_walks 15 = .ok (.ifCond .eq 8, 3) := by decide +kernel
theorem dX12_walks_18 : decode cX12_walks 18 = .ok (.bipush (-10), 2) := by decide +kernel
theorem dX12_walks_20 : decode cX12_walks 20 = .ok (.iload_n 3, 1) := by decide +kernel
theorem dX12_walks_21 : decode cX12_walks 21 = .ok (.isub, 1) := by decide +kernel
theorem dX12_walks_22 : decode cX12_walks 22 = .ok (.ireturn, 1) := by decide +kernel
theorem dX12_walks_23 : decode cX12_walks 23 = .ok (.aload_n 0, 1) := by decide +kernel
theorem dX12_walks_24 : decode cX12_walks 24 = .ok (.invokevirtual 258, 3) := by decide +kernel
theorem dX12_walks_27 : decode cX12_walks 27 = .ok (.aload_n 0, 1) := by decide +kernel
theorem dX12_walks_28 : decode cX12_walks 28 = .ok (.iload_n 1, 1) := by decide +kernel
theorem dX12_walks_29 : decode cX12_walks 29 = .ok (.iload_n 2, 1) := by decide +kernel
theorem dX12_walks_30 : decode cX12_walks 30 = .ok (.invokevirtual 285, 3) := by decide +kernel
theorem dX12_walks_33 : decode cX12_walks 33 = .ok (.aload_n 0, 1) := by decide +kernel
theorem dX12_walks_34 : decode cX12_walks 34 = .ok (.invokevirtual 261, 3) := by decide +kernel
theorem dX12_walks_37 : decode cX12_walks 37 = .ok (.aload_n 0, 1) := by decide +kernel
theorem dX12_walks_38 : decode cX12_walks 38 = .ok (.getfield 13, 3) := by decide +kernel
theorem dX12_walks_41 : decode cX12_walks 41 = .ok (.bipush 80, 2) := by decide +kernel
theorem dX12_walks_43 : decode cX12_walks 43 = .ok (.iload_n 1, 1) := by decide +kernel
theorem dX12_walks_44 : decode cX12_walks 44 = .ok (.iadd, 1) := by decide +kernel
theorem dX12_walks_45 : decode cX12_walks 45 = .ok (.iaload, 1) := by decide +kernel
theorem dX12_walks_46 : decode cX12_walks 46 = .ok (.ireturn, 1) := by decide +kernel
theorem dX12_undo_0 : decode cX12_undo 0 = .ok (.aload_n 0, 1) := by decide +kernel
theorem dX12_undo_1 : decode cX12_undo 1 = .ok (.iconst 0, 1) := by decide +kernel
theorem dX12_undo_2 : decode cX12_undo 2 = .ok (.putfield 1, 3) := by decide +kernel
theorem dX12_undo_5 : decode cX12_undo 5 = .ok (.iload_n 1, 1) := by decide +kernel
theorem dX12_undo_6 : decode cX12_undo 6 = .ok (.i2l, 1) := by decide +kernel
theorem dX12_undo_7 : decode cX12_undo 7 = .ok (.lconst 1, 1) := by decide +kernel
theorem dX12_undo_8 : decode cX12_undo 8 = .ok (.ldc2_w 288, 3) := by decide +kernel
theorem dX12_undo_11 : decode cX12_undo 11 = .ok (.invokestatic 118, 3) := by decide +kernel
theorem dX12_undo_14 : decode cX12_undo 14 = .ok (.ifCond .eq 14, 3) := by decide +kernel
theorem dX12_undo_17 : decode cX12_undo 17 = .ok (.iload_n 1, 1) := by decide +kernel
theorem dX12_undo_18 : decode cX12_undo 18 = .ok (.aload_n 0, 1) := by decide +kernel
theorem dX12_undo_19 : decode cX12_undo 19 = .ok (.getfield 13, 3) := by decide +kernel
theorem dX12_undo_22 : decode cX12_undo 22 = .ok (.bipush 96, 2) := by decide +kernel
theorem dX12_undo_24 : decode cX12_undo 24 = .ok (.iaload, 1) := by decide +kernel
theorem dX12_undo_25 : decode cX12_undo 25 = .ok (.if_icmp .le 6, 3) := by decide +kernel
theorem dX12_undo_28 : decode cX12_undo 28 = .ok (.bipush (-3), 2) := by decide +kernel
theorem dX12_undo_30 : decode cX12_undo 30 = .ok (.ireturn, 1) := by decide +kernel
theorem dX12_undo_31 : decode cX12_undo 31 = .ok (.aload_n 0, 1) := by decide +kernel
theorem dX12_undo_32 : decode cX12_undo 32 = .ok (.getfield 13, 3) := by decide +kernel
theorem dX12_undo_35 : decode cX12_undo 35 = .ok (.bipush 96, 2) := by decide +kernel
theorem dX12_undo_37 : decode cX12_undo 37 = .ok (.dup2, 1) := by decide +kernel
theorem dX12_undo_38 : decode cX12_undo 38 = .ok (.iaload, 1) := by decide +kernel
theorem dX12_undo_39 : decode cX12_undo 39 = .ok (.iload_n 1, 1) := by decide +kernel
theorem dX12_undo_40 : decode cX12_undo 40 = .ok (.isub, 1) := by decide +kernel
theorem dX12_undo_41 : decode cX12_undo 41 = .ok (.iastore, 1) := by decide +kernel
theorem dX12_undo_42 : decode cX12_undo 42 = .ok (.iconst 0, 1) := by decide +kernel
theorem dX12_undo_43 : decode cX12_undo 43 = .ok (.istore_n 2, 1) := by decide +kernel
theorem dX12_undo_44 : decode cX12_undo 44 = .ok (.iload_n 2, 1) := by decide +kernel
theorem dX12_undo_45 : decode cX12_undo 45 = .ok (.bipush 36, 2) := by decide +kernel
theorem dX12_undo_47 : decode cX12_undo 47 = .ok (.if_icmp .ge 38, 3) := by decide +kernel
theorem dX12_undo_50 : decode cX12_undo 50 = .ok (.aload_n 0, 1) := by decide +kernel
theorem dX12_undo_51 : decode cX12_undo 51 = .ok (.getfield 13, 3) := by decide +kernel
theorem dX12_undo_54 : decode cX12_undo 54 = .ok (.bipush 60, 2) := by decide +kernel
theorem dX12_undo_56 : decode cX12_undo 56 = .ok (.iload_n 2, 1) := by decide +kernel
theorem dX12_undo_57 : decode cX12_undo 57 = .ok (.iadd, 1) := by decide +kernel
theorem dX12_undo_58 : decode cX12_undo 58 = .ok (.aload_n 0, 1) := by decide +kernel
theorem dX12_undo_59 : decode cX12_undo 59 = .ok (.getfield 13, 3) := by decide +kernel
theorem dX12_undo_62 : decode cX12_undo 62 = .ok (.bipush 97, 2) := by decide +kernel
theorem dX12_undo_64 : decode cX12_undo 64 = .ok (.bipush 36, 2) := by decide +kernel
theorem dX12_undo_66 : decode cX12_undo 66 = .ok (.aload_n 0, 1) := by decide +kernel
theorem dX12_undo_67 : decode cX12_undo 67 = .ok (.getfield 13, 3) := by decide +kernel
theorem dX12_undo_70 : decode cX12_undo 70 = .ok (.bipush 96, 2) := by decide +kernel
theorem dX12_undo_72 : decode cX12_undo 72 = .ok (.iaload, 1) := by decide +kernel
theorem dX12_undo_73 : decode cX12_undo 73 = .ok (.imul, 1) := by decide +kernel
theorem dX12_undo_74 : decode cX12_undo 74 = .ok (.iadd, 1) := by decide +kernel
theorem dX12_undo_75 : decode cX12_undo 75 = .ok (.iload_n 2, 1) := by decide +kernel
theorem dX12_undo_76 : decode cX12_undo 76 = .ok (.iadd, 1) := by decide +kernel
theorem dX12_undo_77 : decode cX12_undo 77 = .ok (.iaload, 1) := by decide +kernel
theorem dX12_undo_78 : decode cX12_undo 78 = .ok (.iastore, 1) := by decide +kernel
theorem dX12_undo_79 : decode cX12_undo 79 = .ok (.iinc 2 1, 3) := by decide +kernel
theorem dX12_undo_82 : decode cX12_undo 82 = .ok (.goto (-38), 3) := by decide +kernel
theorem dX12_undo_85 : decode cX12_undo 85 = .ok (.aload_n 0, 1) := by decide +kernel
theorem dX12_undo_86 : decode cX12_undo 86 = .ok (.getfield 13, 3) := by decide +kernel
theorem dX12_undo_89 : decode cX12_undo 89 = .ok (.bipush 96, 2) := by decide +kernel
theorem dX12_undo_91 : decode cX12_undo 91 = .ok (.iaload, 1) := by decide +kernel
theorem dX12_undo_92 : decode cX12_undo 92 = .ok (.ireturn, 1) := by decide +kernel
theorem dX12_whyNot_0 : decode cX12_whyNot 0 = .ok (.lload_n 1, 1) := by decide +kernel
theorem dX12_whyNot_1 : decode cX12_whyNot 1 = .ok (.lconst 0, 1) := by decide +kernel
theorem dX12_whyNot_2 : decode cX12_whyNot 2 = .ok (.ldc2_w 290, 3) := by decide +kernel
theorem dX12_whyNot_5 : decode cX12_whyNot 5 = .ok (.invokestatic 118, 3) := by decide +kernel
theorem dX12_whyNot_8 : decode cX12_whyNot 8 = .ok (.ifCond .eq 19, 3) := by decide +kernel
theorem dX12_whyNot_11 : decode cX12_whyNot 11 = .ok (.aload_n 0, 1) := by decide +kernel
theorem dX12_whyNot_12 : decode cX12_whyNot 12 = .ok (.lload_n 1, 1) := by decide +kernel
theorem dX12_whyNot_13 : decode cX12_whyNot 13 = .ok (.ldc2_w 292, 3) := by decide +kernel
theorem dX12_whyNot_16 : decode cX12_whyNot 16 = .ok (.ldiv, 1) := by decide +kernel
theorem dX12_whyNot_17 : decode cX12_whyNot 17 = .ok (.lload_n 1, 1) := by decide +kernel
theorem dX12_whyNot_18 : decode cX12_whyNot 18 = .ok (.ldc2_w 292, 3) := by decide +kernel
theorem dX12_whyNot_21 : decode cX12_whyNot 21 = .ok (.lrem, 1) := by decide +kernel
theorem dX12_whyNot_22 : decode cX12_whyNot 22 = .ok (.iconst 0, 1) := by decide +kernel
theorem dX12_whyNot_23 : decode cX12_whyNot 23 = .ok (.invokevirtual 254, 3) := by decide +kernel
theorem dX12_whyNot_26 : decode cX12_whyNot 26 = .ok (.ireturn, 1) := by decide +kernel
theorem dX12_whyNot_27 : decode cX12_whyNot 27 = .ok (.lload_n 1, 1) := by decide +kernel
theorem dX12_whyNot_28 : decode cX12_whyNot 28 = .ok (.ldc2_w 294, 3) := by decide +kernel
theorem dX12_whyNot_31 : decode cX12_whyNot 31 = .ok (.ldc2_w 296, 3) := by decide +kernel
theorem dX12_whyNot_34 : decode cX12_whyNot 34 = .ok (.invokestatic 118, 3) := by decide +kernel
theorem dX12_whyNot_37 : decode cX12_whyNot 37 = .ok (.ifCond .eq 23, 3) := by decide +kernel
theorem dX12_whyNot_40 : decode cX12_whyNot 40 = .ok (.aload_n 0, 1) := by decide +kernel
theorem dX12_whyNot_41 : decode cX12_whyNot 41 = .ok (.lload_n 1, 1) := by decide +kernel
theorem dX12_whyNot_42 : decode cX12_whyNot 42 = .ok (.ldc2_w 294, 3) := by decide +kernel
theorem dX12_whyNot_45 : decode cX12_whyNot 45 = .ok (.lsub, 1) := by decide +kernel
theorem dX12_whyNot_46 : decode cX12_whyNot 46 = .ok (.ldc2_w 292, 3) := by decide +kernel
theorem dX12_whyNot_49 : decode cX12_whyNot 49 = .ok (.ldiv, 1) := by decide +kernel
theorem dX12_whyNot_50 : decode cX12_whyNot 50 = .ok (.lload_n 1, 1) := by decide +kernel
theorem dX12_whyNot_51 : decode cX12_whyNot 51 = .ok (.ldc2_w 292, 3) := by decide +kernel
theorem dX12_whyNot_54 : decode cX12_whyNot 54 = .ok (.lrem, 1) := by decide +kernel
theorem dX12_whyNot_55 : decode cX12_whyNot 55 = .ok (.iconst 1, 1) := by decide +kernel
theorem dX12_whyNot_56 : decode cX12_whyNot 56 = .ok (.invokevirtual 254, 3) := by decide +kernel
theorem dX12_whyNot_59 : decode cX12_whyNot 59 = .ok (.ireturn, 1) := by decide +kernel
theorem dX12_whyNot_60 : decode cX12_whyNot 60 = .ok (.lload_n 1, 1) := by decide +kernel
theorem dX12_whyNot_61 : decode cX12_whyNot 61 = .ok (.ldc2_w 298, 3) := by decide +kernel
theorem dX12_whyNot_64 : decode cX12_whyNot 64 = .ok (.ldc2_w 300, 3) := by decide +kernel
theorem dX12_whyNot_67 : decode cX12_whyNot 67 = .ok (.invokestatic 118, 3) := by decide +kernel
theorem dX12_whyNot_70 : decode cX12_whyNot 70 = .ok (.ifCond .eq 13, 3) := by decide +kernel
theorem dX12_whyNot_73 : decode cX12_whyNot 73 = .ok (.aload_n 0, 1) := by decide +kernel
theorem dX12_whyNot_74 : decode cX12_whyNot 74 = .ok (.lload_n 1, 1) := by decide +kernel
theorem dX12_whyNot_75 : decode cX12_whyNot 75 = .ok (.ldc2_w 298, 3) := by decide +kernel
theorem dX12_whyNot_78 : decode cX12_whyNot 78 = .ok (.lsub, 1) := by decide +kernel
theorem dX12_whyNot_79 : decode cX12_whyNot 79 = .ok (.invokevirtual 264, 3) := by decide +kernel
theorem dX12_whyNot_82 : decode cX12_whyNot 82 = .ok (.ireturn, 1) := by decide +kernel
theorem dX12_whyNot_83 : decode cX12_whyNot 83 = .ok (.lload_n 1, 1) := by decide +kernel
theorem dX12_whyNot_84 : decode cX12_whyNot 84 = .ok (.ldc2_w 302, 3) := by decide +kernel
theorem dX12_whyNot_87 : decode cX12_whyNot 87 = .ok (.ldc2_w 304, 3) := by decide +kernel
theorem dX12_whyNot_90 : decode cX12_whyNot 90 = .ok (.invokestatic 118, 3) := by decide +kernel
theorem dX12_whyNot_93 : decode cX12_whyNot 93 = .ok (.ifCond .eq 13, 3) := by decide +kernel
theorem dX12_whyNot_96 : decode cX12_whyNot 96 = .ok (.aload_n 0, 1) := by decide +kernel
theorem dX12_whyNot_97 : decode cX12_whyNot 97 = .ok (.lload_n 1, 1) := by decide +kernel
theorem dX12_whyNot_98 : decode cX12_whyNot 98 = .ok (.ldc2_w 302, 3) := by decide +kernel
theorem dX12_whyNot_101 : decode cX12_whyNot 101 = .ok (.lsub, 1) := by decide +kernel
theorem dX12_whyNot_102 : decode cX12_whyNot 102 = .ok (.invokevirtual 271, 3) := by decide +kernel
theorem dX12_whyNot_105 : decode cX12_whyNot 105 = .ok (.ireturn, 1) := by decide +kernel
theorem dX12_whyNot_106 : decode cX12_whyNot 106 = .ok (.lload_n 1, 1) := by decide +kernel
theorem dX12_whyNot_107 : decode cX12_whyNot 107 = .ok (.ldc2_w 306, 3) := by decide +kernel
theorem dX12_whyNot_110 : decode cX12_whyNot 110 = .ok (.ldc2_w 308, 3) := by decide +kernel
theorem dX12_whyNot_113 : decode cX12_whyNot 113 = .ok (.invokestatic 118, 3) := by decide +kernel
theorem dX12_whyNot_116 : decode cX12_whyNot 116 = .ok (.ifCond .eq 22, 3) := by decide +kernel
theorem dX12_whyNot_119 : decode cX12_whyNot 119 = .ok (.aload_n 0, 1) := by decide +kernel
theorem dX12_whyNot_120 : decode cX12_whyNot 120 = .ok (.lload_n 1, 1) := by decide +kernel
theorem dX12_whyNot_121 : decode cX12_whyNot 121 = .ok (.ldc2_w 306, 3) := by decide +kernel
theorem dX12_whyNot_124 : decode cX12_whyNot 124 = .ok (.lsub, 1) := by decide +kernel
theorem dX12_whyNot_125 : decode cX12_whyNot 125 = .ok (.ldc2_w 288, 3) := by decide +kernel
theorem dX12_whyNot_128 : decode cX12_whyNot 128 = .ok (.ldiv, 1) := by decide +kernel
theorem dX12_whyNot_129 : decode cX12_whyNot 129 = .ok (.lload_n 1, 1) := by decide +kernel
theorem dX12_whyNot_130 : decode cX12_whyNot 130 = .ok (.ldc2_w 288, 3) := by decide +kernel
theorem dX12_whyNot_133 : decode cX12_whyNot 133 = .ok (.lrem, 1) := by decide +kernel
theorem dX12_whyNot_134 : decode cX12_whyNot 134 = .ok (.invokevirtual 274, 3) := by decide +kernel
theorem dX12_whyNot_137 : decode cX12_whyNot 137 = .ok (.ireturn, 1) := by decide +kernel
theorem dX12_whyNot_138 : decode cX12_whyNot 138 = .ok (.lload_n 1, 1) := by decide +kernel
theorem dX12_whyNot_139 : decode cX12_whyNot 139 = .ok (.ldc2_w 310, 3) := by decide +kernel
theorem dX12_whyNot_142 : decode cX12_whyNot 142 = .ok (.ldc2_w 312, 3) := by decide +kernel
theorem dX12_whyNot_145 : decode cX12_whyNot 145 = .ok (.invokestatic 118, 3) := by decide +kernel
theorem dX12_whyNot_148 : decode cX12_whyNot 148 = .ok (.ifCond .eq 24, 3) := by decide +kernel
theorem dX12_whyNot_151 : decode cX12_whyNot 151 = .ok (.aload_n 0, 1) := by decide +kernel
theorem dX12_whyNot_152 : decode cX12_whyNot 152 = .ok (.lload_n 1, 1) := by decide +kernel
theorem dX12_whyNot_153 : decode cX12_whyNot 153 = .ok (.ldc2_w 310, 3) := by decide +kernel
theorem dX12_whyNot_156 : decode cX12_whyNot 156 = .ok (.lsub, 1) := by decide +kernel
theorem dX12_whyNot_157 : decode cX12_whyNot 157 = .ok (.ldc2_w 292, 3) := by decide +kernel
theorem dX12_whyNot_160 : decode cX12_whyNot 160 = .ok (.ldiv, 1) := by decide +kernel
theorem dX12_whyNot_161 : decode cX12_whyNot 161 = .ok (.lload_n 1, 1) := by decide +kernel
theorem dX12_whyNot_162 : decode cX12_whyNot 162 = .ok (.ldc2_w 292, 3) := by decide +kernel
theorem dX12_whyNot_165 : decode cX12_whyNot 165 = .ok (.lrem, 1) := by decide +kernel
theorem dX12_whyNot_166 : decode cX12_whyNot 166 = .ok (.invokevirtual 282, 3) := by decide +kernel
theorem dX12_whyNot_169 : decode cX12_whyNot 169 = .ok (.goto 4, 3) := by decide +kernel
theorem dX12_whyNot_172 : decode cX12_whyNot 172 = .ok (.iconst 1, 1) := by decide +kernel
theorem dX12_whyNot_173 : decode cX12_whyNot 173 = .ok (.ireturn, 1) := by decide +kernel
theorem dX12_does_0 : decode cX12_does 0 = .ok (.iload_n 1, 1) := by decide +kernel
theorem dX12_does_1 : decode cX12_does 1 = .ok (.sipush 1000, 3) := by decide +kernel
theorem dX12_does_4 : decode cX12_does 4 = .ok (.if_icmp .ge 27, 3) := by decide +kernel
theorem dX12_does_7 : decode cX12_does 7 = .ok (.aload_n 0, 1) := by decide +kernel
theorem dX12_does_8 : decode cX12_does 8 = .ok (.getfield 13, 3) := by decide +kernel
theorem dX12_does_11 : decode cX12_does 11 = .ok (.bipush 66, 2) := by decide +kernel
theorem dX12_does_13 : decode cX12_does 13 = .ok (.iload_n 1, 1) := by decide +kernel
theorem dX12_does_14 : decode cX12_does 14 = .ok (.bipush 100, 2) := by decide +kernel
theorem dX12_does_16 : decode cX12_does 16 = .ok (.idiv, 1) := by decide +kernel
theorem dX12_does_17 : decode cX12_does 17 = .ok (.iadd, 1) := by decide +kernel
theorem dX12_does_18 : decode cX12_does 18 = .ok (.dup2, 1) := by decide +kernel
theorem dX12_does_19 : decode cX12_does 19 = .ok (.iaload, 1) := by decide +kernel
theorem dX12_does_20 : decode cX12_does 20 = .ok (.iconst 1, 1) := by decide +kernel
theorem dX12_does_21 : decode cX12_does 21 = .ok (.iload_n 1, 1) := by decide +kernel
theorem dX12_does_22 : decode cX12_does 22 = .ok (.bipush 100, 2) := by decide +kernel
theorem dX12_does_24 : decode cX12_does 24 = .ok (.irem, 1) := by decide +kernel
theorem dX12_does_25 : decode cX12_does 25 = .ok (.ishl, 1) := by decide +kernel
theorem dX12_does_26 : decode cX12_does 26 = .ok (.ior, 1) := by decide +kernel
theorem dX12_does_27 : decode cX12_does 27 = .ok (.iastore, 1) := by decide +kernel
theorem dX12_does_28 : decode cX12_does 28 = .ok (.goto 125, 3) := by decide +kernel
theorem dX12_does_31 : decode cX12_does 31 = .ok (.iload_n 1, 1) := by decide +kernel
theorem dX12_does_32 : decode cX12_does 32 = .ok (.sipush 2000, 3) := by decide +kernel
theorem dX12_does_35 : decode cX12_does 35 = .ok (.if_icmp .ge 33, 3) := by decide +kernel
theorem dX12_does_38 : decode cX12_does 38 = .ok (.aload_n 0, 1) := by decide +kernel
theorem dX12_does_39 : decode cX12_does 39 = .ok (.getfield 13, 3) := by decide +kernel
theorem dX12_does_42 : decode cX12_does 42 = .ok (.bipush 66, 2) := by decide +kernel
theorem dX12_does_44 : decode cX12_does 44 = .ok (.iload_n 1, 1) := by decide +kernel
theorem dX12_does_45 : decode cX12_does 45 = .ok (.sipush 1000, 3) := by decide +kernel
theorem dX12_does_48 : decode cX12_does 48 = .ok (.isub, 1) := by decide +kernel
theorem dX12_does_49 : decode cX12_does 49 = .ok (.bipush 100, 2) := by decide +kernel
theorem dX12_does_51 : decode cX12_does 51 = .ok (.idiv, 1) := by decide +kernel
theorem dX12_does_52 : decode cX12_does 52 = .ok (.iadd, 1) := by decide +kernel
theorem dX12_does_53 : decode cX12_does 53 = .ok (.dup2, 1) := by decide +kernel
theorem dX12_does_54 : decode cX12_does 54 = .ok (.iaload, 1) := by decide +kernel
theorem dX12_does_55 : decode cX12_does 55 = .ok (.iconst 1, 1) := by decide +kernel
theorem dX12_does_56 : decode cX12_does 56 = .ok (.iload_n 1, 1) := by decide +kernel
theorem dX12_does_57 : decode cX12_does 57 = .ok (.bipush 100, 2) := by decide +kernel
theorem dX12_does_59 : decode cX12_does 59 = .ok (.irem, 1) := by decide +kernel
theorem dX12_does_60 : decode cX12_does 60 = .ok (.ishl, 1) := by decide +kernel
theorem dX12_does_61 : decode cX12_does 61 = .ok (.iconst (-1), 1) := by decide +kernel
theorem dX12_does_62 : decode cX12_does 62 = .ok (.ixor, 1) := by decide +kernel
theorem dX12_does_63 : decode cX12_does 63 = .ok (.iand, 1) := by decide +kernel
theorem dX12_does_64 : decode cX12_does 64 = .ok (.iastore, 1) := by decide +kernel
theorem dX12_does_65 : decode cX12_does 65 = .ok (.goto 88, 3) := by decide +kernel
theorem dX12_does_68 : decode cX12_does 68 = .ok (.iload_n 1, 1) := by decide +kernel
theorem dX12_does_69 : decode cX12_does 69 = .ok (.sipush 3000, 3) := by decide +kernel
theorem dX12_does_72 : decode cX12_does 72 = .ok (.if_icmp .ge 15, 3) := by decide +kernel
theorem dX12_does_75 : decode cX12_does 75 = .ok (.aload_n 0, 1) := by decide +kernel
theorem dX12_does_76 : decode cX12_does 76 = .ok (.iload_n 1, 1) := by decide +kernel
theorem dX12_does_77 : decode cX12_does 77 = .ok (.sipush 2000, 3) := by decide +kernel
theorem dX12_does_80 : decode cX12_does 80 = .ok (.isub, 1) := by decide +kernel
theorem dX12_does_81 : decode cX12_does 81 = .ok (.invokevirtual 268, 3) := by decide +kernel
theorem dX12_does_84 : decode cX12_does 84 = .ok (.goto 69, 3) := by decide +kernel
theorem dX12_does_87 : decode cX12_does 87 = .ok (.iload_n 1, 1) := by decide +kernel
theorem dX12_does_88 : decode cX12_does 88 = .ok (.sipush 4000, 3) := by decide +kernel
theorem dX12_does_91 : decode cX12_does 91 = .ok (.if_icmp .ge 20, 3) := by decide +kernel
theorem dX12_does_94 : decode cX12_does 94 = .ok (.aload_n 0, 1) := by decide +kernel
theorem dX12_does_95 : decode cX12_does 95 = .ok (.getfield 13, 3) := by decide +kernel
theorem dX12_does_98 : decode cX12_does 98 = .ok (.bipush 88, 2) := by decide +kernel
theorem dX12_does_100 : decode cX12_does 100 = .ok (.iload_n 1, 1) := by decide +kernel
theorem dX12_does_101 : decode cX12_does 101 = .ok (.iadd, 1) := by decide +kernel
theorem dX12_does_102 : decode cX12_does 102 = .ok (.sipush 3000, 3) := by decide +kernel
theorem dX12_does_105 : decode cX12_does 105 = .ok (.isub, 1) := by decide +kernel
theorem dX12_does_106 : decode cX12_does 106 = .ok (.iconst (-1), 1) := by decide +kernel
theorem dX12_does_107 : decode cX12_does 107 = .ok (.iastore, 1) := by decide +kernel
theorem dX12_does_108 : decode cX12_does 108 = .ok (.goto 45, 3) := by decide +kernel
theorem dX12_does_111 : decode cX12_does 111 = .ok (.iload_n 1, 1) := by decide +kernel
theorem dX12_does_112 : decode cX12_does 112 = .ok (.sipush 5000, 3) := by decide +kernel
theorem dX12_does_115 : decode cX12_does 115 = .ok (.if_icmp .ge 22, 3) := by decide +kernel
theorem dX12_does_118 : decode cX12_does 118 = .ok (.aload_n 0, 1) := by decide +kernel
theorem dX12_does_119 : decode cX12_does 119 = .ok (.iload_n 1, 1) := by decide +kernel
theorem dX12_does_120 : decode cX12_does 120 = .ok (.sipush 4000, 3) := by decide +kernel
theorem dX12_does_123 : decode cX12_does 123 = .ok (.isub, 1) := by decide +kernel
theorem dX12_does_124 : decode cX12_does 124 = .ok (.bipush 10, 2) := by decide +kernel
theorem dX12_does_126 : decode cX12_does 126 = .ok (.idiv, 1) := by decide +kernel
theorem dX12_does_127 : decode cX12_does 127 = .ok (.iload_n 1, 1) := by decide +kernel
theorem dX12_does_128 : decode cX12_does 128 = .ok (.bipush 10, 2) := by decide +kernel
theorem dX12_does_130 : decode cX12_does 130 = .ok (.irem, 1) := by decide +kernel
theorem dX12_does_131 : decode cX12_does 131 = .ok (.invokevirtual 278, 3) := by decide +kernel
theorem dX12_does_134 : decode cX12_does 134 = .ok (.goto 19, 3) := by decide +kernel
theorem dX12_does_137 : decode cX12_does 137 = .ok (.aload_n 0, 1) := by decide +kernel
theorem dX12_does_138 : decode cX12_does 138 = .ok (.iload_n 1, 1) := by decide +kernel
theorem dX12_does_139 : decode cX12_does 139 = .ok (.sipush 5000, 3) := by decide +kernel
theorem dX12_does_142 : decode cX12_does 142 = .ok (.isub, 1) := by decide +kernel
theorem dX12_does_143 : decode cX12_does 143 = .ok (.bipush 100, 2) := by decide +kernel
theorem dX12_does_145 : decode cX12_does 145 = .ok (.idiv, 1) := by decide +kernel
theorem dX12_does_146 : decode cX12_does 146 = .ok (.iload_n 1, 1) := by decide +kernel
theorem dX12_does_147 : decode cX12_does 147 = .ok (.bipush 100, 2) := by decide +kernel
theorem dX12_does_149 : decode cX12_does 149 = .ok (.irem, 1) := by decide +kernel
theorem dX12_does_150 : decode cX12_does 150 = .ok (.invokevirtual 285, 3) := by decide +kernel
theorem dX12_does_153 : decode cX12_does 153 = .ok (.return_, 1) := by decide +kernel
theorem dX12_tells_0 : decode cX12_tells 0 = .ok (.aload_n 0, 1) := by decide +kernel
theorem dX12_tells_1 : decode cX12_tells 1 = .ok (.iconst 0, 1) := by decide +kernel
theorem dX12_tells_2 : decode cX12_tells 2 = .ok (.putfield 314, 3) := by decide +kernel
theorem dX12_tells_5 : decode cX12_tells 5 = .ok (.iconst 0, 1) := by decide +kernel
theorem dX12_tells_6 : decode cX12_tells 6 = .ok (.istore_n 2, 1) := by decide +kernel
theorem dX12_tells_7 : decode cX12_tells 7 = .ok (.iload_n 2, 1) := by decide +kernel
theorem dX12_tells_8 : decode cX12_tells 8 = .ok (.aload_n 0, 1) := by decide +kernel
theorem dX12_tells_9 : decode cX12_tells 9 = .ok (.getfield 45, 3) := by decide +kernel
theorem dX12_tells_12 : decode cX12_tells 12 = .ok (.iload_n 1, 1) := by decide +kernel
theorem dX12_tells_13 : decode cX12_tells 13 = .ok (.iaload, 1) := by decide +kernel
theorem dX12_tells_14 : decode cX12_tells 14 = .ok (.if_icmp .ge 53, 3) := by decide +kernel
theorem dX12_tells_17 : decode cX12_tells 17 = .ok (.aload_n 0, 1) := by decide +kernel
theorem dX12_tells_18 : decode cX12_tells 18 = .ok (.aload_n 0, 1) := by decide +kernel
theorem dX12_tells_19 : decode cX12_tells 19 = .ok (.aload_n 0, 1) := by decide +kernel
theorem dX12_tells_20 : decode cX12_tells 20 = .ok (.getfield 48, 3) := by decide +kernel
theorem dX12_tells_23 : decode cX12_tells 23 = .ok (.bipush 40, 2) := by decide +kernel
theorem dX12_tells_25 : decode cX12_tells 25 = .ok (.iload_n 1, 1) := by decide +kernel
theorem dX12_tells_26 : decode cX12_tells 26 = .ok (.imul, 1) := by decide +kernel
theorem dX12_tells_27 : decode cX12_tells 27 = .ok (.iload_n 2, 1) := by decide +kernel
theorem dX12_tells_28 : decode cX12_tells 28 = .ok (.iadd, 1) := by decide +kernel
theorem dX12_tells_29 : decode cX12_tells 29 = .ok (.laload, 1) := by decide +kernel
theorem dX12_tells_30 : decode cX12_tells 30 = .ok (.invokevirtual 317, 3) := by decide +kernel
theorem dX12_tells_33 : decode cX12_tells 33 = .ok (.putfield 314, 3) := by decide +kernel
theorem dX12_tells_36 : decode cX12_tells 36 = .ok (.aload_n 0, 1) := by decide +kernel
theorem dX12_tells_37 : decode cX12_tells 37 = .ok (.getfield 314, 3) := by decide +kernel
theorem dX12_tells_40 : decode cX12_tells 40 = .ok (.ifCond .eq 5, 3) := by decide +kernel
theorem dX12_tells_43 : decode cX12_tells 43 = .ok (.iload_n 2, 1) := by decide +kernel
theorem dX12_tells_44 : decode cX12_tells 44 = .ok (.ireturn, 1) := by decide +kernel
theorem dX12_tells_45 : decode cX12_tells 45 = .ok (.aload_n 0, 1) := by decide +kernel
theorem dX12_tells_46 : decode cX12_tells 46 = .ok (.aload_n 0, 1) := by decide +kernel
theorem dX12_tells_47 : decode cX12_tells 47 = .ok (.getfield 48, 3) := by decide +kernel
theorem dX12_tells_50 : decode cX12_tells 50 = .ok (.bipush 40, 2) := by decide +kernel
theorem dX12_tells_52 : decode cX12_tells 52 = .ok (.iload_n 1, 1) := by decide +kernel
theorem dX12_tells_53 : decode cX12_tells 53 = .ok (.imul, 1) := by decide +kernel
theorem dX12_tells_54 : decode cX12_tells 54 = .ok (.iload_n 2, 1) := by decide +kernel
theorem dX12_tells_55 : decode cX12_tells 55 = .ok (.iadd, 1) := by decide +kernel
theorem dX12_tells_56 : decode cX12_tells 56 = .ok (.laload, 1) := by decide +kernel
theorem dX12_tells_57 : decode cX12_tells 57 = .ok (.l2i, 1) := by decide +kernel
theorem dX12_tells_58 : decode cX12_tells 58 = .ok (.invokevirtual 320, 3) := by decide +kernel
theorem dX12_tells_61 : decode cX12_tells 61 = .ok (.iinc 2 1, 3) := by decide +kernel
theorem dX12_tells_64 : decode cX12_tells 64 = .ok (.goto (-57), 3) := by decide +kernel
theorem dX12_tells_67 : decode cX12_tells 67 = .ok (.aload_n 0, 1) := by decide +kernel
theorem dX12_tells_68 : decode cX12_tells 68 = .ok (.getfield 45, 3) := by decide +kernel
theorem dX12_tells_71 : decode cX12_tells 71 = .ok (.iload_n 1, 1) := by decide +kernel
theorem dX12_tells_72 : decode cX12_tells 72 = .ok (.iaload, 1) := by decide +kernel
theorem dX12_tells_73 : decode cX12_tells 73 = .ok (.ireturn, 1) := by decide +kernel
theorem dX12_noTray_0 : decode cX12_noTray 0 = .ok (.iload_n 1, 1) := by decide +kernel
theorem dX12_noTray_1 : decode cX12_noTray 1 = .ok (.i2l, 1) := by decide +kernel
theorem dX12_noTray_2 : decode cX12_noTray 2 = .ok (.lconst 0, 1) := by decide +kernel
theorem dX12_noTray_3 : decode cX12_noTray 3 = .ok (.ldc2_w 323, 3) := by decide +kernel
theorem dX12_noTray_6 : decode cX12_noTray 6 = .ok (.invokestatic 118, 3) := by decide +kernel
theorem dX12_noTray_9 : decode cX12_noTray 9 = .ok (.ifCond .ne 8, 3) := by decide +kernel
theorem dX12_noTray_12 : decode cX12_noTray 12 = .ok (.bipush (-2), 2) := by decide +kernel
theorem dX12_noTray_14 : decode cX12_noTray 14 = .ok (.goto 19, 3) := by decide +kernel
theorem dX12_noTray_17 : decode cX12_noTray 17 = .ok (.aload_n 0, 1) := by decide +kernel
theorem dX12_noTray_18 : decode cX12_noTray 18 = .ok (.getfield 42, 3) := by decide +kernel
theorem dX12_noTray_21 : decode cX12_noTray 21 = .ok (.iload_n 1, 1) := by decide +kernel
theorem dX12_noTray_22 : decode cX12_noTray 22 = .ok (.iaload, 1) := by decide +kernel
theorem dX12_noTray_23 : decode cX12_noTray 23 = .ok (.iconst (-1), 1) := by decide +kernel
theorem dX12_noTray_24 : decode cX12_noTray 24 = .ok (.if_icmp .ne 8, 3) := by decide +kernel
theorem dX12_noTray_27 : decode cX12_noTray 27 = .ok (.bipush (-6), 2) := by decide +kernel
theorem dX12_noTray_29 : decode cX12_noTray 29 = .ok (.goto 4, 3) := by decide +kernel
theorem dX12_noTray_32 : decode cX12_noTray 32 = .ok (.iconst 0, 1) := by decide +kernel
theorem dX12_noTray_33 : decode cX12_noTray 33 = .ok (.ireturn, 1) := by decide +kernel
theorem dX12_atHome_0 : decode cX12_atHome 0 = .ok (.iconst 0, 1) := by decide +kernel
theorem dX12_atHome_1 : decode cX12_atHome 1 = .ok (.istore_n 1, 1) := by decide +kernel
theorem dX12_atHome_2 : decode cX12_atHome 2 = .ok (.iconst 0, 1) := by decide +kernel
theorem dX12_atHome_3 : decode cX12_atHome 3 = .ok (.istore_n 2, 1) := by decide +kernel
theorem dX12_atHome_4 : decode cX12_atHome 4 = .ok (.iload_n 2, 1) := by decide +kernel
theorem dX12_atHome_5 : decode cX12_atHome 5 = .ok (.aload_n 0, 1) := by decide +kernel
theorem dX12_atHome_6 : decode cX12_atHome 6 = .ok (.getfield 13, 3) := by decide +kernel
theorem dX12_atHome_9 : decode cX12_atHome 9 = .ok (.iconst 3, 1) := by decide +kernel
theorem dX12_atHome_10 : decode cX12_atHome 10 = .ok (.iaload, 1) := by decide +kernel
theorem dX12_atHome_11 : decode cX12_atHome 11 = .ok (.if_icmp .ge 53, 3) := by decide +kernel
theorem dX12_atHome_14 : decode cX12_atHome 14 = .ok (.iload_n 1, 1) := by decide +kernel
theorem dX12_atHome_15 : decode cX12_atHome 15 = .ok (.aload_n 0, 1) := by decide +kernel
theorem dX12_atHome_16 : decode cX12_atHome 16 = .ok (.getfield 13, 3) := by decide +kernel
theorem dX12_atHome_19 : decode cX12_atHome 19 = .ok (.bipush 88, 2) := by decide +kernel
theorem dX12_atHome_21 : decode cX12_atHome 21 = .ok (.iload_n 2, 1) := by decide +kernel
theorem dX12_atHome_22 : decode cX12_atHome 22 = .ok (.iadd, 1) := by decide +kernel
theorem dX12_atHome_23 : decode cX12_atHome 23 = .ok (.iaload, 1) := by decide +kernel
theorem dX12_atHome_24 : decode cX12_atHome 24 = .ok (.iconst (-1), 1) := by decide +kernel
theorem dX12_atHome_25 : decode cX12_atHome 25 = .ok (.if_icmp .ne 30, 3) := by decide +kernel
theorem dX12_atHome_28 : decode cX12_atHome 28 = .ok (.aload_n 0, 1) := by decide +kernel
theorem dX12_atHome_29 : decode cX12_atHome 29 = .ok (.getfield 13, 3) := by decide +kernel
theorem dX12_atHome_32 : decode cX12_atHome 32 = .ok (.bipush 72, 2) := by decide +kernel
theorem dX12_atHome_34 : decode cX12_atHome 34 = .ok (.iload_n 2, 1) := by decide +kernel
theorem dX12_atHome_35 : decode cX12_atHome 35 = .ok (.iadd, 1) := by decide +kernel
theorem dX12_atHome_36 : decode cX12_atHome 36 = .ok (.iaload, 1) := by decide +kernel
theorem dX12_atHome_37 : decode cX12_atHome 37 = .ok (.aload_n 0, 1) := by decide +kernel
theorem dX12_atHome_38 : decode cX12_atHome 38 = .ok (.getfield 13, 3) := by decide +kernel
theorem dX12_atHome_41 : decode cX12_atHome 41 = .ok (.bipush 28, 2) := by decide +kernel
theorem dX12_atHome_43 : decode cX12_atHome 43 = .ok (.iload_n 2, 1) := by decide +kernel
theorem dX12_atHome_44 : decode cX12_atHome 44 = .ok (.iadd, 1) := by decide +kernel
theorem dX12_atHome_45 : decode cX12_atHome 45 = .ok (.iaload, 1) := by decide +kernel
theorem dX12_atHome_46 : decode cX12_atHome 46 = .ok (.if_icmp .ne 9, 3) := by decide +kernel
theorem dX12_atHome_49 : decode cX12_atHome 49 = .ok (.iconst 1, 1) := by decide +kernel
theorem dX12_atHome_50 : decode cX12_atHome 50 = .ok (.iload_n 2, 1) := by decide +kernel
theorem dX12_atHome_51 : decode cX12_atHome 51 = .ok (.ishl, 1) := by decide +kernel
theorem dX12_atHome_52 : decode cX12_atHome 52 = .ok (.goto 4, 3) := by decide +kernel
theorem dX12_atHome_55 : decode cX12_atHome 55 = .ok (.iconst 0, 1) := by decide +kernel
theorem dX12_atHome_56 : decode cX12_atHome 56 = .ok (.ior, 1) := by decide +kernel
theorem dX12_atHome_57 : decode cX12_atHome 57 = .ok (.istore_n 1, 1) := by decide +kernel
theorem dX12_atHome_58 : decode cX12_atHome 58 = .ok (.iinc 2 1, 3) := by decide +kernel
theorem dX12_atHome_61 : decode cX12_atHome 61 = .ok (.goto (-57), 3) := by decide +kernel
theorem dX12_atHome_64 : decode cX12_atHome 64 = .ok (.iload_n 1, 1) := by decide +kernel
theorem dX12_atHome_65 : decode cX12_atHome 65 = .ok (.ireturn, 1) := by decide +kernel
theorem dX12_lightsMany_0 : decode cX12_lightsMany 0 = .ok (.iconst 0, 1) := by decide +kernel
theorem dX12_lightsMany_1 : decode cX12_lightsMany 1 = .ok (.istore_n 1, 1) := by decide +kernel
theorem dX12_lightsMany_2 : decode cX12_lightsMany 2 = .ok (.iconst 0, 1) := by decide +kernel
theorem dX12_lightsMany_3 : decode cX12_lightsMany 3 = .ok (.istore_n 2, 1) := by decide +kernel
theorem dX12_lightsMany_4 : decode cX12_lightsMany 4 = .ok (.iload_n 2, 1) := by decide +kernel
theorem dX12_lightsMany_5 : decode cX12_lightsMany 5 = .ok (.aload_n 0, 1) := by decide +kernel
theorem dX12_lightsMany_6 : decode cX12_lightsMany 6 = .ok (.getfield 13, 3) := by decide +kernel
theorem dX12_lightsMany_9 : decode cX12_lightsMany 9 = .ok (.iconst 2, 1) := by decide +kernel
theorem dX12_lightsMany_10 : decode cX12_lightsMany 10 = .ok (.iaload, 1) := by decide +kernel
theorem dX12_lightsMany_11 : decode cX12_lightsMany 11 = .ok (.if_icmp .ge 24, 3) := by decide +kernel
theorem dX12_lightsMany_14 : decode cX12_lightsMany 14 = .ok (.iload_n 1, 1) := by decide +kernel
theorem dX12_lightsMany_15 : decode cX12_lightsMany 15 = .ok (.aload_n 0, 1) := by decide +kernel
theorem dX12_lightsMany_16 : decode cX12_lightsMany 16 = .ok (.getfield 13, 3) := by decide +kernel
theorem dX12_lightsMany_19 : decode cX12_lightsMany 19 = .ok (.bipush 66, 2) := by decide +kernel
theorem dX12_lightsMany_21 : decode cX12_lightsMany 21 = .ok (.iload_n 2, 1) := by decide +kernel
theorem dX12_lightsMany_22 : decode cX12_lightsMany 22 = .ok (.iadd, 1) := by decide +kernel
theorem dX12_lightsMany_23 : decode cX12_lightsMany 23 = .ok (.iaload, 1) := by decide +kernel
theorem dX12_lightsMany_24 : decode cX12_lightsMany 24 = .ok (.invokestatic 224, 3) := by decide +kernel
theorem dX12_lightsMany_27 : decode cX12_lightsMany 27 = .ok (.iadd, 1) := by decide +kernel
theorem dX12_lightsMany_28 : decode cX12_lightsMany 28 = .ok (.istore_n 1, 1) := by decide +kernel
theorem dX12_lightsMany_29 : decode cX12_lightsMany 29 = .ok (.iinc 2 1, 3) := by decide +kernel
theorem dX12_lightsMany_32 : decode cX12_lightsMany 32 = .ok (.goto (-28), 3) := by decide +kernel
theorem dX12_lightsMany_35 : decode cX12_lightsMany 35 = .ok (.iload_n 1, 1) := by decide +kernel
theorem dX12_lightsMany_36 : decode cX12_lightsMany 36 = .ok (.ireturn, 1) := by decide +kernel
theorem dX12_judge_0 : decode cX12_judge 0 = .ok (.aload_n 0, 1) := by decide +kernel
theorem dX12_judge_1 : decode cX12_judge 1 = .ok (.iconst 0, 1) := by decide +kernel
theorem dX12_judge_2 : decode cX12_judge 2 = .ok (.putfield 1, 3) := by decide +kernel
theorem dX12_judge_5 : decode cX12_judge 5 = .ok (.iload_n 2, 1) := by decide +kernel
theorem dX12_judge_6 : decode cX12_judge 6 = .ok (.i2l, 1) := by decide +kernel
theorem dX12_judge_7 : decode cX12_judge 7 = .ok (.lconst 0, 1) := by decide +kernel
theorem dX12_judge_8 : decode cX12_judge 8 = .ok (.ldc2_w 323, 3) := by decide +kernel
theorem dX12_judge_11 : decode cX12_judge 11 = .ok (.invokestatic 118, 3) := by decide +kernel
theorem dX12_judge_14 : decode cX12_judge 14 = .ok (.ifCond .ne 6, 3) := by decide +kernel
theorem dX12_judge_17 : decode cX12_judge 17 = .ok (.bipush (-2), 2) := by decide +kernel
theorem dX12_judge_19 : decode cX12_judge 19 = .ok (.ireturn, 1) := by decide +kernel
theorem dX12_judge_20 : decode cX12_judge 20 = .ok (.aload_n 0, 1) := by decide +kernel
theorem dX12_judge_21 : decode cX12_judge 21 = .ok (.iload_n 1, 1) := by decide +kernel
theorem dX12_judge_22 : decode cX12_judge 22 = .ok (.invokevirtual 325, 3) := by decide +kernel
theorem dX12_judge_25 : decode cX12_judge 25 = .ok (.istore_n 3, 1) := by decide +kernel
theorem dX12_judge_26 : decode cX12_judge 26 = .ok (.iload_n 3, 1) := by decide +kernel
theorem dX12_judge_27 : decode cX12_judge 27 = .ok (.ifCond .eq 5, 3) := by decide +kernel
theorem dX12_judge_30 : decode cX12_judge 30 = .ok (.iload_n 3, 1) := by decide +kernel
theorem dX12_judge_31 : decode cX12_judge 31 = .ok (.ireturn, 1) := by decide +kernel
theorem dX12_judge_32 : decode cX12_judge 32 = .ok (.aload_n 0, 1) := by decide +kernel
theorem dX12_judge_33 : decode cX12_judge 33 = .ok (.invokevirtual 258, 3) := by decide +kernel
theorem dX12_judge_36 : decode cX12_judge 36 = .ok (.aload_n 0, 1) := by decide +kernel
theorem dX12_judge_37 : decode cX12_judge 37 = .ok (.iload_n 1, 1) := by decide +kernel
theorem dX12_judge_38 : decode cX12_judge 38 = .ok (.invokevirtual 328, 3) := by decide +kernel
theorem dX12_judge_41 : decode cX12_judge 41 = .ok (.istore 4, 2) := by decide +kernel
theorem dX12_judge_43 : decode cX12_judge 43 = .ok (.aload_n 0, 1) := by decide +kernel
theorem dX12_judge_44 : decode cX12_judge 44 = .ok (.invokevirtual 331, 3) := by decide +kernel
theorem dX12_judge_47 : decode cX12_judge 47 = .ok (.istore 5, 2) := by decide +kernel
theorem dX12_judge_49 : decode cX12_judge 49 = .ok (.aload_n 0, 1) := by decide +kernel
theorem dX12_judge_50 : decode cX12_judge 50 = .ok (.invokevirtual 334, 3) := by decide +kernel
theorem dX12_judge_53 : decode cX12_judge 53 = .ok (.istore 6, 2) := by decide +kernel
theorem dX12_judge_55 : decode cX12_judge 55 = .ok (.aload_n 0, 1) := by decide +kernel
theorem dX12_judge_56 : decode cX12_judge 56 = .ok (.invokevirtual 337, 3) := by decide +kernel
theorem dX12_judge_59 : decode cX12_judge 59 = .ok (.iload_n 2, 1) := by decide +kernel
theorem dX12_judge_60 : decode cX12_judge 60 = .ok (.ifCond .ne 19, 3) := by decide +kernel
theorem dX12_judge_63 : decode cX12_judge 63 = .ok (.aload_n 0, 1) := by decide +kernel
theorem dX12_judge_64 : decode cX12_judge 64 = .ok (.getfield 314, 3) := by decide +kernel
theorem dX12_judge_67 : decode cX12_judge 67 = .ok (.ifCond .ne 7, 3) := by decide +kernel
theorem dX12_judge_70 : decode cX12_judge 70 = .ok (.iconst (-1), 1) := by decide +kernel
theorem dX12_judge_71 : decode cX12_judge 71 = .ok (.goto 32, 3) := by decide +kernel
theorem dX12_judge_74 : decode cX12_judge 74 = .ok (.iload 4, 2) := by decide +kernel
theorem dX12_judge_76 : decode cX12_judge 76 = .ok (.goto 27, 3) := by decide +kernel
theorem dX12_judge_79 : decode cX12_judge 79 = .ok (.iload_n 2, 1) := by decide +kernel
theorem dX12_judge_80 : decode cX12_judge 80 = .ok (.iconst 1, 1) := by decide +kernel
theorem dX12_judge_81 : decode cX12_judge 81 = .ok (.if_icmp .ne 10, 3) := by decide +kernel
theorem dX12_judge_84 : decode cX12_judge 84 = .ok (.aload_n 0, 1) := by decide +kernel
theorem dX12_judge_85 : decode cX12_judge 85 = .ok (.getfield 314, 3) := by decide +kernel
theorem dX12_judge_88 : decode cX12_judge 88 = .ok (.goto 15, 3) := by decide +kernel
theorem dX12_judge_91 : decode cX12_judge 91 = .ok (.iload_n 2, 1) := by decide +kernel
theorem dX12_judge_92 : decode cX12_judge 92 = .ok (.iconst 2, 1) := by decide +kernel
theorem dX12_judge_93 : decode cX12_judge 93 = .ok (.if_icmp .ne 8, 3) := by decide +kernel
theorem dX12_judge_96 : decode cX12_judge 96 = .ok (.iload 5, 2) := by decide +kernel
theorem dX12_judge_98 : decode cX12_judge 98 = .ok (.goto 5, 3) := by decide +kernel
theorem dX12_judge_101 : decode cX12_judge 101 = .ok (.iload 6, 2) := by decide +kernel
theorem dX12_judge_103 : decode cX12_judge 103 = .ok (.ireturn, 1) := by decide +kernel
theorem dX12_perform_0 : decode cX12_perform 0 = .ok (.aload_n 0, 1) := by decide +kernel
theorem dX12_perform_1 : decode cX12_perform 1 = .ok (.iconst 0, 1) := by decide +kernel
theorem dX12_perform_2 : decode cX12_perform 2 = .ok (.putfield 1, 3) := by decide +kernel
theorem dX12_perform_5 : decode cX12_perform 5 = .ok (.aload_n 0, 1) := by decide +kernel
theorem dX12_perform_6 : decode cX12_perform 6 = .ok (.iload_n 1, 1) := by decide +kernel
theorem dX12_perform_7 : decode cX12_perform 7 = .ok (.invokevirtual 325, 3) := by decide +kernel
theorem dX12_perform_10 : decode cX12_perform 10 = .ok (.istore_n 2, 1) := by decide +kernel
theorem dX12_perform_11 : decode cX12_perform 11 = .ok (.iload_n 2, 1) := by decide +kernel
theorem dX12_perform_12 : decode cX12_perform 12 = .ok (.ifCond .eq 5, 3) := by decide +kernel
theorem dX12_perform_15 : decode cX12_perform 15 = .ok (.iload_n 2, 1) := by decide +kernel
theorem dX12_perform_16 : decode cX12_perform 16 = .ok (.ireturn, 1) := by decide +kernel
theorem dX12_perform_17 : decode cX12_perform 17 = .ok (.aload_n 0, 1) := by decide +kernel
theorem dX12_perform_18 : decode cX12_perform 18 = .ok (.invokevirtual 258, 3) := by decide +kernel
theorem dX12_perform_21 : decode cX12_perform 21 = .ok (.aload_n 0, 1) := by decide +kernel
theorem dX12_perform_22 : decode cX12_perform 22 = .ok (.iload_n 1, 1) := by decide +kernel
theorem dX12_perform_23 : decode cX12_perform 23 = .ok (.invokevirtual 328, 3) := by decide +kernel
theorem dX12_perform_26 : decode cX12_perform 26 = .ok (.istore_n 3, 1) := by decide +kernel
theorem dX12_perform_27 : decode cX12_perform 27 = .ok (.iload_n 3, 1) := by decide +kernel
theorem dX12_perform_28 : decode cX12_perform 28 = .ok (.ifCond .le 7, 3) := by decide +kernel
theorem dX12_perform_31 : decode cX12_perform 31 = .ok (.aload_n 0, 1) := by decide +kernel
theorem dX12_perform_32 : decode cX12_perform 32 = .ok (.invokevirtual 261, 3) := by decide +kernel
theorem dX12_perform_35 : decode cX12_perform 35 = .ok (.iload_n 3, 1) := by decide +kernel
theorem dX12_perform_36 : decode cX12_perform 36 = .ok (.ireturn, 1) := by decide +kernel
theorem dX12_draw_0 : decode cX12_draw 0 = .ok (.aload_n 0, 1) := by decide +kernel
theorem dX12_draw_1 : decode cX12_draw 1 = .ok (.ldc_w 340, 3) := by decide +kernel
theorem dX12_draw_4 : decode cX12_draw 4 = .ok (.aload_n 0, 1) := by decide +kernel
theorem dX12_draw_5 : decode cX12_draw 5 = .ok (.getfield 341, 3) := by decide +kernel
theorem dX12_draw_8 : decode cX12_draw 8 = .ok (.imul, 1) := by decide +kernel
theorem dX12_draw_9 : decode cX12_draw 9 = .ok (.sipush 12345, 3) := by decide +kernel
theorem dX12_draw_12 : decode cX12_draw 12 = .ok (.iadd, 1) := by decide +kernel
theorem dX12_draw_13 : decode cX12_draw 13 = .ok (.putfield 341, 3) := by decide +kernel
theorem dX12_draw_16 : decode cX12_draw 16 = .ok (.aload_n 0, 1) := by decide +kernel
theorem dX12_draw_17 : decode cX12_draw 17 = .ok (.getfield 341, 3) := by decide +kernel
theorem dX12_draw_20 : decode cX12_draw 20 = .ok (.bipush 16, 2) := by decide +kernel
theorem dX12_draw_22 : decode cX12_draw 22 = .ok (.iushr, 1) := by decide +kernel
theorem dX12_draw_23 : decode cX12_draw 23 = .ok (.iload_n 1, 1) := by decide +kernel
theorem dX12_draw_24 : decode cX12_draw 24 = .ok (.irem, 1) := by decide +kernel
theorem dX12_draw_25 : decode cX12_draw 25 = .ok (.ireturn, 1) := by decide +kernel
theorem dX12_drawn_0 : decode cX12_drawn 0 = .ok (.aload_n 0, 1) := by decide +kernel
theorem dX12_drawn_1 : decode cX12_drawn 1 = .ok (.bipush 6, 2) := by decide +kernel
theorem dX12_drawn_3 : decode cX12_drawn 3 = .ok (.invokevirtual 344, 3) := by decide +kernel
theorem dX12_drawn_6 : decode cX12_drawn 6 = .ok (.istore_n 1, 1) := by decide +kernel
theorem dX12_drawn_7 : decode cX12_drawn 7 = .ok (.iload_n 1, 1) := by decide +kernel
theorem dX12_drawn_8 : decode cX12_drawn 8 = .ok (.iconst 2, 1) := by decide +kernel
theorem dX12_drawn_9 : decode cX12_drawn 9 = .ok (.if_icmp .ge 18, 3) := by decide +kernel
theorem dX12_drawn_12 : decode cX12_drawn 12 = .ok (.sipush 2000, 3) := by decide +kernel
theorem dX12_drawn_15 : decode cX12_drawn 15 = .ok (.aload_n 0, 1) := by decide +kernel
theorem dX12_drawn_16 : decode cX12_drawn 16 = .ok (.aload_n 0, 1) := by decide +kernel
theorem dX12_drawn_17 : decode cX12_drawn 17 = .ok (.getfield 13, 3) := by decide +kernel
theorem dX12_drawn_20 : decode cX12_drawn 20 = .ok (.iconst 2, 1) := by decide +kernel
theorem dX12_drawn_21 : decode cX12_drawn 21 = .ok (.iaload, 1) := by decide +kernel
theorem dX12_drawn_22 : decode cX12_drawn 22 = .ok (.invokevirtual 344, 3) := by decide +kernel
theorem dX12_drawn_25 : decode cX12_drawn 25 = .ok (.iadd, 1) := by decide +kernel
theorem dX12_drawn_26 : decode cX12_drawn 26 = .ok (.ireturn, 1) := by decide +kernel
theorem dX12_drawn_27 : decode cX12_drawn 27 = .ok (.iload_n 1, 1) := by decide +kernel
theorem dX12_drawn_28 : decode cX12_drawn 28 = .ok (.iconst 2, 1) := by decide +kernel
theorem dX12_drawn_29 : decode cX12_drawn 29 = .ok (.if_icmp .ne 30, 3) := by decide +kernel
theorem dX12_drawn_32 : decode cX12_drawn 32 = .ok (.aload_n 0, 1) := by decide +kernel
theorem dX12_drawn_33 : decode cX12_drawn 33 = .ok (.aload_n 0, 1) := by decide +kernel
theorem dX12_drawn_34 : decode cX12_drawn 34 = .ok (.getfield 13, 3) := by decide +kernel
theorem dX12_drawn_37 : decode cX12_drawn 37 = .ok (.iconst 2, 1) := by decide +kernel
theorem dX12_drawn_38 : decode cX12_drawn 38 = .ok (.iaload, 1) := by decide +kernel
theorem dX12_drawn_39 : decode cX12_drawn 39 = .ok (.invokevirtual 344, 3) := by decide +kernel
theorem dX12_drawn_42 : decode cX12_drawn 42 = .ok (.istore_n 2, 1) := by decide +kernel
theorem dX12_drawn_43 : decode cX12_drawn 43 = .ok (.bipush 100, 2) := by decide +kernel
theorem dX12_drawn_45 : decode cX12_drawn 45 = .ok (.iload_n 2, 1) := by decide +kernel
theorem dX12_drawn_46 : decode cX12_drawn 46 = .ok (.imul, 1) := by decide +kernel
theorem dX12_drawn_47 : decode cX12_drawn 47 = .ok (.aload_n 0, 1) := by decide +kernel
theorem dX12_drawn_48 : decode cX12_drawn 48 = .ok (.aload_n 0, 1) := by decide +kernel
theorem dX12_drawn_49 : decode cX12_drawn 49 = .ok (.getfield 13, 3) := by decide +kernel
theorem dX12_drawn_52 : decode cX12_drawn 52 = .ok (.iconst 1, 1) := by decide +kernel
theorem dX12_drawn_53 : decode cX12_drawn 53 = .ok (.iaload, 1) := by decide +kernel
theorem dX12_drawn_54 : decode cX12_drawn 54 = .ok (.invokevirtual 344, 3) := by decide +kernel
theorem dX12_drawn_57 : decode cX12_drawn 57 = .ok (.iadd, 1) := by decide +kernel
theorem dX12_drawn_58 : decode cX12_drawn 58 = .ok (.ireturn, 1) := by decide +kernel
theorem dX12_drawn_59 : decode cX12_drawn 59 = .ok (.aload_n 0, 1) := by decide +kernel
theorem dX12_drawn_60 : decode cX12_drawn 60 = .ok (.aload_n 0, 1) := by decide +kernel
theorem dX12_drawn_61 : decode cX12_drawn 61 = .ok (.getfield 13, 3) := by decide +kernel
theorem dX12_drawn_64 : decode cX12_drawn 64 = .ok (.iconst 3, 1) := by decide +kernel
theorem dX12_drawn_65 : decode cX12_drawn 65 = .ok (.iaload, 1) := by decide +kernel
theorem dX12_drawn_66 : decode cX12_drawn 66 = .ok (.invokevirtual 344, 3) := by decide +kernel
theorem dX12_drawn_69 : decode cX12_drawn 69 = .ok (.istore_n 2, 1) := by decide +kernel
theorem dX12_drawn_70 : decode cX12_drawn 70 = .ok (.iload_n 1, 1) := by decide +kernel
theorem dX12_drawn_71 : decode cX12_drawn 71 = .ok (.iconst 3, 1) := by decide +kernel
theorem dX12_drawn_72 : decode cX12_drawn 72 = .ok (.if_icmp .ne 11, 3) := by decide +kernel
theorem dX12_drawn_75 : decode cX12_drawn 75 = .ok (.sipush 3000, 3) := by decide +kernel
theorem dX12_drawn_78 : decode cX12_drawn 78 = .ok (.iload_n 2, 1) := by decide +kernel
theorem dX12_drawn_79 : decode cX12_drawn 79 = .ok (.iadd, 1) := by decide +kernel
theorem dX12_drawn_80 : decode cX12_drawn 80 = .ok (.goto 49, 3) := by decide +kernel
theorem dX12_drawn_83 : decode cX12_drawn 83 = .ok (.iload_n 1, 1) := by decide +kernel
theorem dX12_drawn_84 : decode cX12_drawn 84 = .ok (.iconst 4, 1) := by decide +kernel
theorem dX12_drawn_85 : decode cX12_drawn 85 = .ok (.if_icmp .ne 25, 3) := by decide +kernel
theorem dX12_drawn_88 : decode cX12_drawn 88 = .ok (.sipush 4000, 3) := by decide +kernel
theorem dX12_drawn_91 : decode cX12_drawn 91 = .ok (.bipush 10, 2) := by decide +kernel
theorem dX12_drawn_93 : decode cX12_drawn 93 = .ok (.iload_n 2, 1) := by decide +kernel
theorem dX12_drawn_94 : decode cX12_drawn 94 = .ok (.imul, 1) := by decide +kernel
theorem dX12_drawn_95 : decode cX12_drawn 95 = .ok (.iadd, 1) := by decide +kernel
theorem dX12_drawn_96 : decode cX12_drawn 96 = .ok (.aload_n 0, 1) := by decide +kernel
theorem dX12_drawn_97 : decode cX12_drawn 97 = .ok (.aload_n 0, 1) := by decide +kernel
theorem dX12_drawn_98 : decode cX12_drawn 98 = .ok (.getfield 13, 3) := by decide +kernel
theorem dX12_drawn_101 : decode cX12_drawn 101 = .ok (.iconst 2, 1) := by decide +kernel
theorem dX12_drawn_102 : decode cX12_drawn 102 = .ok (.iaload, 1) := by decide +kernel
theorem dX12_drawn_103 : decode cX12_drawn 103 = .ok (.invokevirtual 344, 3) := by decide +kernel
theorem dX12_drawn_106 : decode cX12_drawn 106 = .ok (.iadd, 1) := by decide +kernel
theorem dX12_drawn_107 : decode cX12_drawn 107 = .ok (.goto 22, 3) := by decide +kernel
theorem dX12_drawn_110 : decode cX12_drawn 110 = .ok (.sipush 5000, 3) := by decide +kernel
theorem dX12_drawn_113 : decode cX12_drawn 113 = .ok (.bipush 100, 2) := by decide +kernel
theorem dX12_drawn_115 : decode cX12_drawn 115 = .ok (.iload_n 2, 1) := by decide +kernel
theorem dX12_drawn_116 : decode cX12_drawn 116 = .ok (.imul, 1) := by decide +kernel
theorem dX12_drawn_117 : decode cX12_drawn 117 = .ok (.iadd, 1) := by decide +kernel
theorem dX12_drawn_118 : decode cX12_drawn 118 = .ok (.aload_n 0, 1) := by decide +kernel
theorem dX12_drawn_119 : decode cX12_drawn 119 = .ok (.aload_n 0, 1) := by decide +kernel
theorem dX12_drawn_120 : decode cX12_drawn 120 = .ok (.getfield 13, 3) := by decide +kernel
theorem dX12_drawn_123 : decode cX12_drawn 123 = .ok (.iconst 1, 1) := by decide +kernel
theorem dX12_drawn_124 : decode cX12_drawn 124 = .ok (.iaload, 1) := by decide +kernel
theorem dX12_drawn_125 : decode cX12_drawn 125 = .ok (.invokevirtual 344, 3) := by decide +kernel
theorem dX12_drawn_128 : decode cX12_drawn 128 = .ok (.iadd, 1) := by decide +kernel
theorem dX12_drawn_129 : decode cX12_drawn 129 = .ok (.ireturn, 1) := by decide +kernel
theorem dX12_evenings_0 : decode cX12_evenings 0 = .ok (.aload_n 0, 1) := by decide +kernel
theorem dX12_evenings_1 : decode cX12_evenings 1 = .ok (.iconst 0, 1) := by decide +kernel
theorem dX12_evenings_2 : decode cX12_evenings 2 = .ok (.putfield 1, 3) := by decide +kernel
theorem dX12_evenings_5 : decode cX12_evenings 5 = .ok (.iload_n 2, 1) := by decide +kernel
theorem dX12_evenings_6 : decode cX12_evenings 6 = .ok (.i2l, 1) := by decide +kernel
theorem dX12_evenings_7 : decode cX12_evenings 7 = .ok (.lconst 1, 1) := by decide +kernel
theorem dX12_evenings_8 : decode cX12_evenings 8 = .ok (.ldc2_w 347, 3) := by decide +kernel
theorem dX12_evenings_11 : decode cX12_evenings 11 = .ok (.invokestatic 118, 3) := by decide +kernel
theorem dX12_evenings_14 : decode cX12_evenings 14 = .ok (.ifCond .ne 6, 3) := by decide +kernel
theorem dX12_evenings_17 : decode cX12_evenings 17 = .ok (.bipush (-3), 2) := by decide +kernel
theorem dX12_evenings_19 : decode cX12_evenings 19 = .ok (.ireturn, 1) := by decide +kernel
theorem dX12_evenings_20 : decode cX12_evenings 20 = .ok (.aload_n 0, 1) := by decide +kernel
theorem dX12_evenings_21 : decode cX12_evenings 21 = .ok (.getfield 13, 3) := by decide +kernel
theorem dX12_evenings_24 : decode cX12_evenings 24 = .ok (.iconst 2, 1) := by decide +kernel
theorem dX12_evenings_25 : decode cX12_evenings 25 = .ok (.iaload, 1) := by decide +kernel
theorem dX12_evenings_26 : decode cX12_evenings 26 = .ok (.ifCond .eq 12, 3) := by decide +kernel
theorem dX12_evenings_29 : decode cX12_evenings 29 = .ok (.aload_n 0, 1) := by decide +kernel
theorem dX12_evenings_30 : decode cX12_evenings 30 = .ok (.getfield 13, 3) := by decide +kernel
theorem dX12_evenings_33 : decode cX12_evenings 33 = .ok (.iconst 3, 1) := by decide +kernel
theorem dX12_evenings_34 : decode cX12_evenings 34 = .ok (.iaload, 1) := by decide +kernel
theorem dX12_evenings_35 : decode cX12_evenings 35 = .ok (.ifCond .ne 6, 3) := by decide +kernel
theorem dX12_evenings_38 : decode cX12_evenings 38 = .ok (.bipush (-5), 2) := by decide +kernel
theorem dX12_evenings_40 : decode cX12_evenings 40 = .ok (.ireturn, 1) := by decide +kernel
theorem dX12_evenings_41 : decode cX12_evenings 41 = .ok (.aload_n 0, 1) := by decide +kernel
theorem dX12_evenings_42 : decode cX12_evenings 42 = .ok (.invokevirtual 258, 3) := by decide +kernel
theorem dX12_evenings_45 : decode cX12_evenings 45 = .ok (.aload_n 0, 1) := by decide +kernel
theorem dX12_evenings_46 : decode cX12_evenings 46 = .ok (.iload_n 1, 1) := by decide +kernel
theorem dX12_evenings_47 : decode cX12_evenings 47 = .ok (.putfield 341, 3) := by decide +kernel
theorem dX12_evenings_50 : decode cX12_evenings 50 = .ok (.iconst 0, 1) := by decide +kernel
theorem dX12_evenings_51 : decode cX12_evenings 51 = .ok (.istore_n 3, 1) := by decide +kernel
theorem dX12_evenings_52 : decode cX12_evenings 52 = .ok (.iconst 0, 1) := by decide +kernel
theorem dX12_evenings_53 : decode cX12_evenings 53 = .ok (.istore 4, 2) := by decide +kernel
theorem dX12_evenings_55 : decode cX12_evenings 55 = .ok (.iload 4, 2) := by decide +kernel
theorem dX12_evenings_57 : decode cX12_evenings 57 = .ok (.iload_n 2, 1) := by decide +kernel
theorem dX12_evenings_58 : decode cX12_evenings 58 = .ok (.if_icmp .ge 37, 3) := by decide +kernel
theorem dX12_evenings_61 : decode cX12_evenings 61 = .ok (.aload_n 0, 1) := by decide +kernel
theorem dX12_evenings_62 : decode cX12_evenings 62 = .ok (.invokevirtual 349, 3) := by decide +kernel
theorem dX12_evenings_65 : decode cX12_evenings 65 = .ok (.istore 5, 2) := by decide +kernel
theorem dX12_evenings_67 : decode cX12_evenings 67 = .ok (.aload_n 0, 1) := by decide +kernel
theorem dX12_evenings_68 : decode cX12_evenings 68 = .ok (.iload 5, 2) := by decide +kernel
theorem dX12_evenings_70 : decode cX12_evenings 70 = .ok (.i2l, 1) := by decide +kernel
theorem dX12_evenings_71 : decode cX12_evenings 71 = .ok (.invokevirtual 317, 3) := by decide +kernel
theorem dX12_evenings_74 : decode cX12_evenings 74 = .ok (.ifCond .eq 6, 3) := by decide +kernel
theorem dX12_evenings_77 : decode cX12_evenings 77 = .ok (.goto 12, 3) := by decide +kernel
theorem dX12_evenings_80 : decode cX12_evenings 80 = .ok (.aload_n 0, 1) := by decide +kernel
theorem dX12_evenings_81 : decode cX12_evenings 81 = .ok (.iload 5, 2) := by decide +kernel
theorem dX12_evenings_83 : decode cX12_evenings 83 = .ok (.invokevirtual 320, 3) := by decide +kernel
theorem dX12_evenings_86 : decode cX12_evenings 86 = .ok (.iinc 3 1, 3) := by decide +kernel
theorem dX12_evenings_89 : decode cX12_evenings 89 = .ok (.iinc 4 1, 3) := by decide +kernel
theorem dX12_evenings_92 : decode cX12_evenings 92 = .ok (.goto (-37), 3) := by decide +kernel
theorem dX12_evenings_95 : decode cX12_evenings 95 = .ok (.iload_n 3, 1) := by decide +kernel
theorem dX12_evenings_96 : decode cX12_evenings 96 = .ok (.ifCond .le 7, 3) := by decide +kernel
theorem dX12_evenings_99 : decode cX12_evenings 99 = .ok (.aload_n 0, 1) := by decide +kernel
theorem dX12_evenings_100 : decode cX12_evenings 100 = .ok (.invokevirtual 261, 3) := by decide +kernel
theorem dX12_evenings_103 : decode cX12_evenings 103 = .ok (.iload_n 3, 1) := by decide +kernel
theorem dX12_evenings_104 : decode cX12_evenings 104 = .ok (.ireturn, 1) := by decide +kernel
theorem dX12_stops_0 : decode cX12_stops 0 = .ok (.aload_n 0, 1) := by decide +kernel
theorem dX12_stops_1 : decode cX12_stops 1 = .ok (.iconst 0, 1) := by decide +kernel
theorem dX12_stops_2 : decode cX12_stops 2 = .ok (.putfield 1, 3) := by decide +kernel
theorem dX12_stops_5 : decode cX12_stops 5 = .ok (.aload_n 0, 1) := by decide +kernel
theorem dX12_stops_6 : decode cX12_stops 6 = .ok (.iload_n 1, 1) := by decide +kernel
theorem dX12_stops_7 : decode cX12_stops 7 = .ok (.i2l, 1) := by decide +kernel
theorem dX12_stops_8 : decode cX12_stops 8 = .ok (.invokevirtual 230, 3) := by decide +kernel
theorem dX12_stops_11 : decode cX12_stops 11 = .ok (.ifCond .eq 18, 3) := by decide +kernel
theorem dX12_stops_14 : decode cX12_stops 14 = .ok (.aload_n 0, 1) := by decide +kernel
theorem dX12_stops_15 : decode cX12_stops 15 = .ok (.getfield 13, 3) := by decide +kernel
theorem dX12_stops_18 : decode cX12_stops 18 = .ok (.bipush 66, 2) := by decide +kernel
theorem dX12_stops_20 : decode cX12_stops 20 = .ok (.iload_n 1, 1) := by decide +kernel
theorem dX12_stops_21 : decode cX12_stops 21 = .ok (.iadd, 1) := by decide +kernel
theorem dX12_stops_22 : decode cX12_stops 22 = .ok (.iaload, 1) := by decide +kernel
theorem dX12_stops_23 : decode cX12_stops 23 = .ok (.invokestatic 224, 3) := by decide +kernel
theorem dX12_stops_26 : decode cX12_stops 26 = .ok (.goto 5, 3) := by decide +kernel
theorem dX12_stops_29 : decode cX12_stops 29 = .ok (.bipush (-2), 2) := by decide +kernel
theorem dX12_stops_31 : decode cX12_stops 31 = .ok (.ireturn, 1) := by decide +kernel
theorem dX12_stopAt_0 : decode cX12_stopAt 0 = .ok (.aload_n 0, 1) := by decide +kernel
theorem dX12_stopAt_1 : decode cX12_stopAt 1 = .ok (.iconst 0, 1) := by decide +kernel
theorem dX12_stopAt_2 : decode cX12_stopAt 2 = .ok (.putfield 1, 3) := by decide +kernel
theorem dX12_stopAt_5 : decode cX12_stopAt 5 = .ok (.aload_n 0, 1) := by decide +kernel
theorem dX12_stopAt_6 : decode cX12_stopAt 6 = .ok (.iload_n 1, 1) := by decide +kernel
theorem dX12_stopAt_7 : decode cX12_stopAt 7 = .ok (.i2l, 1) := by decide +kernel
theorem dX12_stopAt_8 : decode cX12_stopAt 8 = .ok (.invokevirtual 230, 3) := by decide +kernel
theorem dX12_stopAt_11 : decode cX12_stopAt 11 = .ok (.ifCond .ne 6, 3) := by decide +kernel
theorem dX12_stopAt_14 : decode cX12_stopAt 14 = .ok (.bipush (-2), 2) := by decide +kernel
theorem dX12_stopAt_16 : decode cX12_stopAt 16 = .ok (.ireturn, 1) := by decide +kernel
theorem dX12_stopAt_17 : decode cX12_stopAt 17 = .ok (.iload_n 2, 1) := by decide +kernel
theorem dX12_stopAt_18 : decode cX12_stopAt 18 = .ok (.ifCond .ge 6, 3) := by decide +kernel
theorem dX12_stopAt_21 : decode cX12_stopAt 21 = .ok (.bipush (-3), 2) := by decide +kernel
theorem dX12_stopAt_23 : decode cX12_stopAt 23 = .ok (.ireturn, 1) := by decide +kernel
theorem dX12_stopAt_24 : decode cX12_stopAt 24 = .ok (.iload_n 2, 1) := by decide +kernel
theorem dX12_stopAt_25 : decode cX12_stopAt 25 = .ok (.bipush 12, 2) := by decide +kernel
theorem dX12_stopAt_27 : decode cX12_stopAt 27 = .ok (.if_icmp .lt 5, 3) := by decide +kernel
theorem dX12_stopAt_30 : decode cX12_stopAt 30 = .ok (.iconst (-1), 1) := by decide +kernel
theorem dX12_stopAt_31 : decode cX12_stopAt 31 = .ok (.ireturn, 1) := by decide +kernel
theorem dX12_stopAt_32 : decode cX12_stopAt 32 = .ok (.aload_n 0, 1) := by decide +kernel
theorem dX12_stopAt_33 : decode cX12_stopAt 33 = .ok (.iload_n 1, 1) := by decide +kernel
theorem dX12_stopAt_34 : decode cX12_stopAt 34 = .ok (.invokevirtual 234, 3) := by decide +kernel
theorem dX12_stopAt_37 : decode cX12_stopAt 37 = .ok (.iconst (-1), 1) := by decide +kernel
theorem dX12_stopAt_38 : decode cX12_stopAt 38 = .ok (.istore_n 3, 1) := by decide +kernel
theorem dX12_stopAt_39 : decode cX12_stopAt 39 = .ok (.iconst 0, 1) := by decide +kernel
theorem dX12_stopAt_40 : decode cX12_stopAt 40 = .ok (.istore 4, 2) := by decide +kernel
theorem dX12_stopAt_42 : decode cX12_stopAt 42 = .ok (.iload 4, 2) := by decide +kernel
theorem dX12_stopAt_44 : decode cX12_stopAt 44 = .ok (.iload_n 2, 1) := by decide +kernel
theorem dX12_stopAt_45 : decode cX12_stopAt 45 = .ok (.if_icmp .gt 14, 3) := by decide +kernel
theorem dX12_stopAt_48 : decode cX12_stopAt 48 = .ok (.aload_n 0, 1) := by decide +kernel
theorem dX12_stopAt_49 : decode cX12_stopAt 49 = .ok (.invokevirtual 251, 3) := by decide +kernel
theorem dX12_stopAt_52 : decode cX12_stopAt 52 = .ok (.istore_n 3, 1) := by decide +kernel
theorem dX12_stopAt_53 : decode cX12_stopAt 53 = .ok (.iinc 4 1, 3) := by decide +kernel
theorem dX12_stopAt_56 : decode cX12_stopAt 56 = .ok (.goto (-14), 3) := by decide +kernel
theorem dX12_stopAt_59 : decode cX12_stopAt 59 = .ok (.iload_n 3, 1) := by decide +kernel
theorem dX12_stopAt_60 : decode cX12_stopAt 60 = .ok (.ireturn, 1) := by decide +kernel
theorem dX12_ridesTo_0 : decode cX12_ridesTo 0 = .ok (.aload_n 0, 1) := by decide +kernel
theorem dX12_ridesTo_1 : decode cX12_ridesTo 1 = .ok (.getfield 200, 3) := by decide +kernel
theorem dX12_ridesTo_4 : decode cX12_ridesTo 4 = .ok (.i2l, 1) := by decide +kernel
theorem dX12_ridesTo_5 : decode cX12_ridesTo 5 = .ok (.iload_n 1, 1) := by decide +kernel
theorem dX12_ridesTo_6 : decode cX12_ridesTo 6 = .ok (.invokestatic 207, 3) := by decide +kernel
theorem dX12_ridesTo_9 : decode cX12_ridesTo 9 = .ok (.ifCond .eq 16, 3) := by decide +kernel
theorem dX12_ridesTo_12 : decode cX12_ridesTo 12 = .ok (.aload_n 0, 1) := by decide +kernel
theorem dX12_ridesTo_13 : decode cX12_ridesTo 13 = .ok (.invokevirtual 251, 3) := by decide +kernel
theorem dX12_ridesTo_16 : decode cX12_ridesTo 16 = .ok (.iload_n 1, 1) := by decide +kernel
theorem dX12_ridesTo_17 : decode cX12_ridesTo 17 = .ok (.if_icmp .ne (-17), 3) := by decide +kernel
theorem dX12_ridesTo_20 : decode cX12_ridesTo 20 = .ok (.aload_n 0, 1) := by decide +kernel
theorem dX12_ridesTo_21 : decode cX12_ridesTo 21 = .ok (.getfield 221, 3) := by decide +kernel
theorem dX12_ridesTo_24 : decode cX12_ridesTo 24 = .ok (.ireturn, 1) := by decide +kernel
theorem dX12_ridesTo_25 : decode cX12_ridesTo 25 = .ok (.iconst (-1), 1) := by decide +kernel
theorem dX12_ridesTo_26 : decode cX12_ridesTo 26 = .ok (.ireturn, 1) := by decide +kernel
theorem dX12_comes_0 : decode cX12_comes 0 = .ok (.aload_n 0, 1) := by decide +kernel
theorem dX12_comes_1 : decode cX12_comes 1 = .ok (.iconst 0, 1) := by decide +kernel
theorem dX12_comes_2 : decode cX12_comes 2 = .ok (.putfield 1, 3) := by decide +kernel
theorem dX12_comes_5 : decode cX12_comes 5 = .ok (.aload_n 0, 1) := by decide +kernel
theorem dX12_comes_6 : decode cX12_comes 6 = .ok (.iload_n 1, 1) := by decide +kernel
theorem dX12_comes_7 : decode cX12_comes 7 = .ok (.i2l, 1) := by decide +kernel
theorem dX12_comes_8 : decode cX12_comes 8 = .ok (.invokevirtual 230, 3) := by decide +kernel
theorem dX12_comes_11 : decode cX12_comes 11 = .ok (.ifCond .eq 12, 3) := by decide +kernel
theorem dX12_comes_14 : decode cX12_comes 14 = .ok (.aload_n 0, 1) := by decide +kernel
theorem dX12_comes_15 : decode cX12_comes 15 = .ok (.iload_n 2, 1) := by decide +kernel
theorem dX12_comes_16 : decode cX12_comes 16 = .ok (.i2l, 1) := by decide +kernel
theorem dX12_comes_17 : decode cX12_comes 17 = .ok (.invokevirtual 243, 3) := by decide +kernel
theorem dX12_comes_20 : decode cX12_comes 20 = .ok (.ifCond .ne 6, 3) := by decide +kernel
theorem dX12_comes_23 : decode cX12_comes 23 = .ok (.bipush (-2), 2) := by decide +kernel
theorem dX12_comes_25 : decode cX12_comes 25 = .ok (.ireturn, 1) := by decide +kernel
theorem dX12_comes_26 : decode cX12_comes 26 = .ok (.aload_n 0, 1) := by decide +kernel
theorem dX12_comes_27 : decode cX12_comes 27 = .ok (.iload_n 1, 1) := by decide +kernel
theorem dX12_comes_28 : decode cX12_comes 28 = .ok (.invokevirtual 234, 3) := by decide +kernel
theorem dX12_comes_31 : decode cX12_comes 31 = .ok (.aload_n 0, 1) := by decide +kernel
theorem dX12_comes_32 : decode cX12_comes 32 = .ok (.iload_n 2, 1) := by decide +kernel
theorem dX12_comes_33 : decode cX12_comes 33 = .ok (.invokevirtual 352, 3) := by decide +kernel
theorem dX12_comes_36 : decode cX12_comes 36 = .ok (.ireturn, 1) := by decide +kernel
theorem dX12_restsBy_0 : decode cX12_restsBy 0 = .ok (.aload_n 0, 1) := by decide +kernel
theorem dX12_restsBy_1 : decode cX12_restsBy 1 = .ok (.iconst 0, 1) := by decide +kernel
theorem dX12_restsBy_2 : decode cX12_restsBy 2 = .ok (.putfield 1, 3) := by decide +kernel
theorem dX12_restsBy_5 : decode cX12_restsBy 5 = .ok (.aload_n 0, 1) := by decide +kernel
theorem dX12_restsBy_6 : decode cX12_restsBy 6 = .ok (.iload_n 1, 1) := by decide +kernel
theorem dX12_restsBy_7 : decode cX12_restsBy 7 = .ok (.i2l, 1) := by decide +kernel
theorem dX12_restsBy_8 : decode cX12_restsBy 8 = .ok (.invokevirtual 230, 3) := by decide +kernel
theorem dX12_restsBy_11 : decode cX12_restsBy 11 = .ok (.ifCond .ne 6, 3) := by decide +kernel
theorem dX12_restsBy_14 : decode cX12_restsBy 14 = .ok (.bipush (-2), 2) := by decide +kernel
theorem dX12_restsBy_16 : decode cX12_restsBy 16 = .ok (.ireturn, 1) := by decide +kernel
theorem dX12_restsBy_17 : decode cX12_restsBy 17 = .ok (.aload_n 0, 1) := by decide +kernel
theorem dX12_restsBy_18 : decode cX12_restsBy 18 = .ok (.iload_n 1, 1) := by decide +kernel
theorem dX12_restsBy_19 : decode cX12_restsBy 19 = .ok (.invokevirtual 234, 3) := by decide +kernel
theorem dX12_restsBy_22 : decode cX12_restsBy 22 = .ok (.aload_n 0, 1) := by decide +kernel
theorem dX12_restsBy_23 : decode cX12_restsBy 23 = .ok (.getfield 200, 3) := by decide +kernel
theorem dX12_restsBy_26 : decode cX12_restsBy 26 = .ok (.ifCond .eq 11, 3) := by decide +kernel
theorem dX12_restsBy_29 : decode cX12_restsBy 29 = .ok (.aload_n 0, 1) := by decide +kernel
theorem dX12_restsBy_30 : decode cX12_restsBy 30 = .ok (.invokevirtual 251, 3) := by decide +kernel
theorem dX12_restsBy_33 : decode cX12_restsBy 33 = .ok (.pop, 1) := by decide +kernel
theorem dX12_restsBy_34 : decode cX12_restsBy 34 = .ok (.goto (-12), 3) := by decide +kernel
theorem dX12_restsBy_37 : decode cX12_restsBy 37 = .ok (.aload_n 0, 1) := by decide +kernel
theorem dX12_restsBy_38 : decode cX12_restsBy 38 = .ok (.getfield 197, 3) := by decide +kernel
theorem dX12_restsBy_41 : decode cX12_restsBy 41 = .ok (.ireturn, 1) := by decide +kernel
theorem dX12_bestBy_0 : decode cX12_bestBy 0 = .ok (.aload_n 0, 1) := by decide +kernel
theorem dX12_bestBy_1 : decode cX12_bestBy 1 = .ok (.iconst (-1), 1) := by decide +kernel
theorem dX12_bestBy_2 : decode cX12_bestBy 2 = .ok (.putfield 355, 3) := by decide +kernel
theorem dX12_bestBy_5 : decode cX12_bestBy 5 = .ok (.aload_n 0, 1) := by decide +kernel
theorem dX12_bestBy_6 : decode cX12_bestBy 6 = .ok (.getfield 13, 3) := by decide +kernel
theorem dX12_bestBy_9 : decode cX12_bestBy 9 = .ok (.bipush 80, 2) := by decide +kernel
theorem dX12_bestBy_11 : decode cX12_bestBy 11 = .ok (.iload_n 1, 1) := by decide +kernel
theorem dX12_bestBy_12 : decode cX12_bestBy 12 = .ok (.iadd, 1) := by decide +kernel
theorem dX12_bestBy_13 : decode cX12_bestBy 13 = .ok (.iaload, 1) := by decide +kernel
theorem dX12_bestBy_14 : decode cX12_bestBy 14 = .ok (.aload_n 0, 1) := by decide +kernel
theorem dX12_bestBy_15 : decode cX12_bestBy 15 = .ok (.iload_n 1, 1) := by decide +kernel
theorem dX12_bestBy_16 : decode cX12_bestBy 16 = .ok (.aload_n 0, 1) := by decide +kernel
theorem dX12_bestBy_17 : decode cX12_bestBy 17 = .ok (.getfield 13, 3) := by decide +kernel
theorem dX12_bestBy_20 : decode cX12_bestBy 20 = .ok (.bipush 72, 2) := by decide +kernel
theorem dX12_bestBy_22 : decode cX12_bestBy 22 = .ok (.iload_n 1, 1) := by decide +kernel
theorem dX12_bestBy_23 : decode cX12_bestBy 23 = .ok (.iadd, 1) := by decide +kernel
theorem dX12_bestBy_24 : decode cX12_bestBy 24 = .ok (.iaload, 1) := by decide +kernel
theorem dX12_bestBy_25 : decode cX12_bestBy 25 = .ok (.aload_n 0, 1) := by decide +kernel
theorem dX12_bestBy_26 : decode cX12_bestBy 26 = .ok (.getfield 13, 3) := by decide +kernel
theorem dX12_bestBy_29 : decode cX12_bestBy 29 = .ok (.bipush 28, 2) := by decide +kernel
theorem dX12_bestBy_31 : decode cX12_bestBy 31 = .ok (.iload_n 1, 1) := by decide +kernel
theorem dX12_bestBy_32 : decode cX12_bestBy 32 = .ok (.iadd, 1) := by decide +kernel
theorem dX12_bestBy_33 : decode cX12_bestBy 33 = .ok (.iaload, 1) := by decide +kernel
theorem dX12_bestBy_34 : decode cX12_bestBy 34 = .ok (.invokevirtual 246, 3) := by decide +kernel
theorem dX12_bestBy_37 : decode cX12_bestBy 37 = .ok (.iadd, 1) := by decide +kernel
theorem dX12_bestBy_38 : decode cX12_bestBy 38 = .ok (.istore_n 3, 1) := by decide +kernel
theorem dX12_bestBy_39 : decode cX12_bestBy 39 = .ok (.aload_n 0, 1) := by decide +kernel
theorem dX12_bestBy_40 : decode cX12_bestBy 40 = .ok (.getfield 13, 3) := by decide +kernel
theorem dX12_bestBy_43 : decode cX12_bestBy 43 = .ok (.bipush 88, 2) := by decide +kernel
theorem dX12_bestBy_45 : decode cX12_bestBy 45 = .ok (.iload_n 1, 1) := by decide +kernel
theorem dX12_bestBy_46 : decode cX12_bestBy 46 = .ok (.iadd, 1) := by decide +kernel
theorem dX12_bestBy_47 : decode cX12_bestBy 47 = .ok (.iaload, 1) := by decide +kernel
theorem dX12_bestBy_48 : decode cX12_bestBy 48 = .ok (.iconst (-1), 1) := by decide +kernel
theorem dX12_bestBy_49 : decode cX12_bestBy 49 = .ok (.if_icmp .ne 5, 3) := by decide +kernel
theorem dX12_bestBy_52 : decode cX12_bestBy 52 = .ok (.iload_n 3, 1) := by decide +kernel
theorem dX12_bestBy_53 : decode cX12_bestBy 53 = .ok (.ireturn, 1) := by decide +kernel
theorem dX12_bestBy_54 : decode cX12_bestBy 54 = .ok (.aload_n 0, 1) := by decide +kernel
theorem dX12_bestBy_55 : decode cX12_bestBy 55 = .ok (.aload_n 0, 1) := by decide +kernel
theorem dX12_bestBy_56 : decode cX12_bestBy 56 = .ok (.getfield 13, 3) := by decide +kernel
theorem dX12_bestBy_59 : decode cX12_bestBy 59 = .ok (.bipush 88, 2) := by decide +kernel
theorem dX12_bestBy_61 : decode cX12_bestBy 61 = .ok (.iload_n 1, 1) := by decide +kernel
theorem dX12_bestBy_62 : decode cX12_bestBy 62 = .ok (.iadd, 1) := by decide +kernel
theorem dX12_bestBy_63 : decode cX12_bestBy 63 = .ok (.iaload, 1) := by decide +kernel
theorem dX12_bestBy_64 : decode cX12_bestBy 64 = .ok (.invokevirtual 234, 3) := by decide +kernel
theorem dX12_bestBy_67 : decode cX12_bestBy 67 = .ok (.aload_n 0, 1) := by decide +kernel
theorem dX12_bestBy_68 : decode cX12_bestBy 68 = .ok (.iload_n 2, 1) := by decide +kernel
theorem dX12_bestBy_69 : decode cX12_bestBy 69 = .ok (.putfield 200, 3) := by decide +kernel
theorem dX12_bestBy_72 : decode cX12_bestBy 72 = .ok (.aload_n 0, 1) := by decide +kernel
theorem dX12_bestBy_73 : decode cX12_bestBy 73 = .ok (.aload_n 0, 1) := by decide +kernel
theorem dX12_bestBy_74 : decode cX12_bestBy 74 = .ok (.getfield 194, 3) := by decide +kernel
theorem dX12_bestBy_77 : decode cX12_bestBy 77 = .ok (.putfield 355, 3) := by decide +kernel
theorem dX12_bestBy_80 : decode cX12_bestBy 80 = .ok (.aload_n 0, 1) := by decide +kernel
theorem dX12_bestBy_81 : decode cX12_bestBy 81 = .ok (.getfield 200, 3) := by decide +kernel
theorem dX12_bestBy_84 : decode cX12_bestBy 84 = .ok (.ifCond .eq 53, 3) := by decide +kernel
theorem dX12_bestBy_87 : decode cX12_bestBy 87 = .ok (.aload_n 0, 1) := by decide +kernel
theorem dX12_bestBy_88 : decode cX12_bestBy 88 = .ok (.invokevirtual 251, 3) := by decide +kernel
theorem dX12_bestBy_91 : decode cX12_bestBy 91 = .ok (.istore 4, 2) := by decide +kernel
theorem dX12_bestBy_93 : decode cX12_bestBy 93 = .ok (.aload_n 0, 1) := by decide +kernel
theorem dX12_bestBy_94 : decode cX12_bestBy 94 = .ok (.getfield 221, 3) := by decide +kernel
theorem dX12_bestBy_97 : decode cX12_bestBy 97 = .ok (.aload_n 0, 1) := by decide +kernel
theorem dX12_bestBy_98 : decode cX12_bestBy 98 = .ok (.iload_n 1, 1) := by decide +kernel
theorem dX12_bestBy_99 : decode cX12_bestBy 99 = .ok (.iload 4, 2) := by decide +kernel
theorem dX12_bestBy_101 : decode cX12_bestBy 101 = .ok (.aload_n 0, 1) := by decide +kernel
theorem dX12_bestBy_102 : decode cX12_bestBy 102 = .ok (.getfield 13, 3) := by decide +kernel
theorem dX12_bestBy_105 : decode cX12_bestBy 105 = .ok (.bipush 28, 2) := by decide +kernel
theorem dX12_bestBy_107 : decode cX12_bestBy 107 = .ok (.iload_n 1, 1) := by decide +kernel
theorem dX12_bestBy_108 : decode cX12_bestBy 108 = .ok (.iadd, 1) := by decide +kernel
theorem dX12_bestBy_109 : decode cX12_bestBy 109 = .ok (.iaload, 1) := by decide +kernel
theorem dX12_bestBy_110 : decode cX12_bestBy 110 = .ok (.invokevirtual 246, 3) := by decide +kernel
theorem dX12_bestBy_113 : decode cX12_bestBy 113 = .ok (.iadd, 1) := by decide +kernel
theorem dX12_bestBy_114 : decode cX12_bestBy 114 = .ok (.istore 5, 2) := by decide +kernel
theorem dX12_bestBy_116 : decode cX12_bestBy 116 = .ok (.iload 5, 2) := by decide +kernel
theorem dX12_bestBy_118 : decode cX12_bestBy 118 = .ok (.iload_n 3, 1) := by decide +kernel
theorem dX12_bestBy_119 : decode cX12_bestBy 119 = .ok (.if_icmp .lt 6, 3) := by decide +kernel
theorem dX12_bestBy_122 : decode cX12_bestBy 122 = .ok (.goto (-42), 3) := by decide +kernel
theorem dX12_bestBy_125 : decode cX12_bestBy 125 = .ok (.iload 5, 2) := by decide +kernel
theorem dX12_bestBy_127 : decode cX12_bestBy 127 = .ok (.istore_n 3, 1) := by decide +kernel
theorem dX12_bestBy_128 : decode cX12_bestBy 128 = .ok (.aload_n 0, 1) := by decide +kernel
theorem dX12_bestBy_129 : decode cX12_bestBy 129 = .ok (.iload 4, 2) := by decide +kernel
theorem dX12_bestBy_131 : decode cX12_bestBy 131 = .ok (.putfield 355, 3) := by decide +kernel
theorem dX12_bestBy_134 : decode cX12_bestBy 134 = .ok (.goto (-54), 3) := by decide +kernel
theorem dX12_bestBy_137 : decode cX12_bestBy 137 = .ok (.iload_n 3, 1) := by decide +kernel
theorem dX12_bestBy_138 : decode cX12_bestBy 138 = .ok (.ireturn, 1) := by decide +kernel
theorem dX12_bestNow_0 : decode cX12_bestNow 0 = .ok (.aload_n 0, 1) := by decide +kernel
theorem dX12_bestNow_1 : decode cX12_bestNow 1 = .ok (.iload_n 1, 1) := by decide +kernel
theorem dX12_bestNow_2 : decode cX12_bestNow 2 = .ok (.aload_n 0, 1) := by decide +kernel
theorem dX12_bestNow_3 : decode cX12_bestNow 3 = .ok (.getfield 13, 3) := by decide +kernel
theorem dX12_bestNow_6 : decode cX12_bestNow 6 = .ok (.bipush 88, 2) := by decide +kernel
theorem dX12_bestNow_8 : decode cX12_bestNow 8 = .ok (.iload_n 1, 1) := by decide +kernel
theorem dX12_bestNow_9 : decode cX12_bestNow 9 = .ok (.iadd, 1) := by decide +kernel
theorem dX12_bestNow_10 : decode cX12_bestNow 10 = .ok (.iaload, 1) := by decide +kernel
theorem dX12_bestNow_11 : decode cX12_bestNow 11 = .ok (.iconst (-1), 1) := by decide +kernel
theorem dX12_bestNow_12 : decode cX12_bestNow 12 = .ok (.if_icmp .ne 7, 3) := by decide +kernel
theorem dX12_bestNow_15 : decode cX12_bestNow 15 = .ok (.iconst 0, 1) := by decide +kernel
theorem dX12_bestNow_16 : decode cX12_bestNow 16 = .ok (.goto 20, 3) := by decide +kernel
theorem dX12_bestNow_19 : decode cX12_bestNow 19 = .ok (.aload_n 0, 1) := by decide +kernel
theorem dX12_bestNow_20 : decode cX12_bestNow 20 = .ok (.getfield 13, 3) := by decide +kernel
theorem dX12_bestNow_23 : decode cX12_bestNow 23 = .ok (.bipush 66, 2) := by decide +kernel
theorem dX12_bestNow_25 : decode cX12_bestNow 25 = .ok (.aload_n 0, 1) := by decide +kernel
theorem dX12_bestNow_26 : decode cX12_bestNow 26 = .ok (.getfield 13, 3) := by decide +kernel
theorem dX12_bestNow_29 : decode cX12_bestNow 29 = .ok (.bipush 88, 2) := by decide +kernel
theorem dX12_bestNow_31 : decode cX12_bestNow 31 = .ok (.iload_n 1, 1) := by decide +kernel
theorem dX12_bestNow_32 : decode cX12_bestNow 32 = .ok (.iadd, 1) := by decide +kernel
theorem dX12_bestNow_33 : decode cX12_bestNow 33 = .ok (.iaload, 1) := by decide +kernel
theorem dX12_bestNow_34 : decode cX12_bestNow 34 = .ok (.iadd, 1) := by decide +kernel
theorem dX12_bestNow_35 : decode cX12_bestNow 35 = .ok (.iaload, 1) := by decide +kernel
theorem dX12_bestNow_36 : decode cX12_bestNow 36 = .ok (.invokevirtual 358, 3) := by decide +kernel
theorem dX12_bestNow_39 : decode cX12_bestNow 39 = .ok (.ireturn, 1) := by decide +kernel
theorem dX12_best_0 : decode cX12_best 0 = .ok (.aload_n 0, 1) := by decide +kernel
theorem dX12_best_1 : decode cX12_best 1 = .ok (.iconst 0, 1) := by decide +kernel
theorem dX12_best_2 : decode cX12_best 2 = .ok (.putfield 1, 3) := by decide +kernel
theorem dX12_best_5 : decode cX12_best 5 = .ok (.aload_n 0, 1) := by decide +kernel
theorem dX12_best_6 : decode cX12_best 6 = .ok (.iload_n 1, 1) := by decide +kernel
theorem dX12_best_7 : decode cX12_best 7 = .ok (.i2l, 1) := by decide +kernel
theorem dX12_best_8 : decode cX12_best 8 = .ok (.invokevirtual 240, 3) := by decide +kernel
theorem dX12_best_11 : decode cX12_best 11 = .ok (.ifCond .eq 13, 3) := by decide +kernel
theorem dX12_best_14 : decode cX12_best 14 = .ok (.iload_n 2, 1) := by decide +kernel
theorem dX12_best_15 : decode cX12_best 15 = .ok (.i2l, 1) := by decide +kernel
theorem dX12_best_16 : decode cX12_best 16 = .ok (.lconst 0, 1) := by decide +kernel
theorem dX12_best_17 : decode cX12_best 17 = .ok (.lconst 1, 1) := by decide +kernel
theorem dX12_best_18 : decode cX12_best 18 = .ok (.invokestatic 118, 3) := by decide +kernel
theorem dX12_best_21 : decode cX12_best 21 = .ok (.ifCond .ne 6, 3) := by decide +kernel
theorem dX12_best_24 : decode cX12_best 24 = .ok (.bipush (-2), 2) := by decide +kernel
theorem dX12_best_26 : decode cX12_best 26 = .ok (.ireturn, 1) := by decide +kernel
theorem dX12_best_27 : decode cX12_best 27 = .ok (.aload_n 0, 1) := by decide +kernel
theorem dX12_best_28 : decode cX12_best 28 = .ok (.iload_n 1, 1) := by decide +kernel
theorem dX12_best_29 : decode cX12_best 29 = .ok (.invokevirtual 361, 3) := by decide +kernel
theorem dX12_best_32 : decode cX12_best 32 = .ok (.istore_n 3, 1) := by decide +kernel
theorem dX12_best_33 : decode cX12_best 33 = .ok (.iload_n 2, 1) := by decide +kernel
theorem dX12_best_34 : decode cX12_best 34 = .ok (.ifCond .ne 7, 3) := by decide +kernel
theorem dX12_best_37 : decode cX12_best 37 = .ok (.iload_n 3, 1) := by decide +kernel
theorem dX12_best_38 : decode cX12_best 38 = .ok (.goto 7, 3) := by decide +kernel
theorem dX12_best_41 : decode cX12_best 41 = .ok (.aload_n 0, 1) := by decide +kernel
theorem dX12_best_42 : decode cX12_best 42 = .ok (.getfield 355, 3) := by decide +kernel
theorem dX12_best_45 : decode cX12_best 45 = .ok (.ireturn, 1) := by decide +kernel
theorem dX12_homeBy_0 : decode cX12_homeBy 0 = .ok (.aload_n 0, 1) := by decide +kernel
theorem dX12_homeBy_1 : decode cX12_homeBy 1 = .ok (.iconst 0, 1) := by decide +kernel
theorem dX12_homeBy_2 : decode cX12_homeBy 2 = .ok (.putfield 1, 3) := by decide +kernel
theorem dX12_homeBy_5 : decode cX12_homeBy 5 = .ok (.aload_n 0, 1) := by decide +kernel
theorem dX12_homeBy_6 : decode cX12_homeBy 6 = .ok (.iload_n 1, 1) := by decide +kernel
theorem dX12_homeBy_7 : decode cX12_homeBy 7 = .ok (.i2l, 1) := by decide +kernel
theorem dX12_homeBy_8 : decode cX12_homeBy 8 = .ok (.invokevirtual 240, 3) := by decide +kernel
theorem dX12_homeBy_11 : decode cX12_homeBy 11 = .ok (.ifCond .eq 12, 3) := by decide +kernel
theorem dX12_homeBy_14 : decode cX12_homeBy 14 = .ok (.aload_n 0, 1) := by decide +kernel
theorem dX12_homeBy_15 : decode cX12_homeBy 15 = .ok (.iload_n 2, 1) := by decide +kernel
theorem dX12_homeBy_16 : decode cX12_homeBy 16 = .ok (.i2l, 1) := by decide +kernel
theorem dX12_homeBy_17 : decode cX12_homeBy 17 = .ok (.invokevirtual 243, 3) := by decide +kernel
theorem dX12_homeBy_20 : decode cX12_homeBy 20 = .ok (.ifCond .ne 6, 3) := by decide +kernel
theorem dX12_homeBy_23 : decode cX12_homeBy 23 = .ok (.bipush (-2), 2) := by decide +kernel
theorem dX12_homeBy_25 : decode cX12_homeBy 25 = .ok (.ireturn, 1) := by decide +kernel
theorem dX12_homeBy_26 : decode cX12_homeBy 26 = .ok (.aload_n 0, 1) := by decide +kernel
theorem dX12_homeBy_27 : decode cX12_homeBy 27 = .ok (.getfield 13, 3) := by decide +kernel
theorem dX12_homeBy_30 : decode cX12_homeBy 30 = .ok (.bipush 88, 2) := by decide +kernel
theorem dX12_homeBy_32 : decode cX12_homeBy 32 = .ok (.iload_n 1, 1) := by decide +kernel
theorem dX12_homeBy_33 : decode cX12_homeBy 33 = .ok (.iadd, 1) := by decide +kernel
theorem dX12_homeBy_34 : decode cX12_homeBy 34 = .ok (.iaload, 1) := by decide +kernel
theorem dX12_homeBy_35 : decode cX12_homeBy 35 = .ok (.iconst (-1), 1) := by decide +kernel
theorem dX12_homeBy_36 : decode cX12_homeBy 36 = .ok (.if_icmp .ne 6, 3) := by decide +kernel
theorem dX12_homeBy_39 : decode cX12_homeBy 39 = .ok (.bipush (-5), 2) := by decide +kernel
theorem dX12_homeBy_41 : decode cX12_homeBy 41 = .ok (.ireturn, 1) := by decide +kernel
theorem dX12_homeBy_42 : decode cX12_homeBy 42 = .ok (.iload_n 2, 1) := by decide +kernel
theorem dX12_homeBy_43 : decode cX12_homeBy 43 = .ok (.aload_n 0, 1) := by decide +kernel
theorem dX12_homeBy_44 : decode cX12_homeBy 44 = .ok (.getfield 13, 3) := by decide +kernel
theorem dX12_homeBy_47 : decode cX12_homeBy 47 = .ok (.bipush 72, 2) := by decide +kernel
theorem dX12_homeBy_49 : decode cX12_homeBy 49 = .ok (.iload_n 1, 1) := by decide +kernel
theorem dX12_homeBy_50 : decode cX12_homeBy 50 = .ok (.iadd, 1) := by decide +kernel
theorem dX12_homeBy_51 : decode cX12_homeBy 51 = .ok (.iaload, 1) := by decide +kernel
theorem dX12_homeBy_52 : decode cX12_homeBy 52 = .ok (.if_icmp .ne 29, 3) := by decide +kernel
theorem dX12_homeBy_55 : decode cX12_homeBy 55 = .ok (.aload_n 0, 1) := by decide +kernel
theorem dX12_homeBy_56 : decode cX12_homeBy 56 = .ok (.getfield 13, 3) := by decide +kernel
theorem dX12_homeBy_59 : decode cX12_homeBy 59 = .ok (.bipush 80, 2) := by decide +kernel
theorem dX12_homeBy_61 : decode cX12_homeBy 61 = .ok (.iload_n 1, 1) := by decide +kernel
theorem dX12_homeBy_62 : decode cX12_homeBy 62 = .ok (.iadd, 1) := by decide +kernel
theorem dX12_homeBy_63 : decode cX12_homeBy 63 = .ok (.iaload, 1) := by decide +kernel
theorem dX12_homeBy_64 : decode cX12_homeBy 64 = .ok (.aload_n 0, 1) := by decide +kernel
theorem dX12_homeBy_65 : decode cX12_homeBy 65 = .ok (.iload_n 1, 1) := by decide +kernel
theorem dX12_homeBy_66 : decode cX12_homeBy 66 = .ok (.iload_n 2, 1) := by decide +kernel
theorem dX12_homeBy_67 : decode cX12_homeBy 67 = .ok (.aload_n 0, 1) := by decide +kernel
theorem dX12_homeBy_68 : decode cX12_homeBy 68 = .ok (.getfield 13, 3) := by decide +kernel
theorem dX12_homeBy_71 : decode cX12_homeBy 71 = .ok (.bipush 28, 2) := by decide +kernel
theorem dX12_homeBy_73 : decode cX12_homeBy 73 = .ok (.iload_n 1, 1) := by decide +kernel
theorem dX12_homeBy_74 : decode cX12_homeBy 74 = .ok (.iadd, 1) := by decide +kernel
theorem dX12_homeBy_75 : decode cX12_homeBy 75 = .ok (.iaload, 1) := by decide +kernel
theorem dX12_homeBy_76 : decode cX12_homeBy 76 = .ok (.invokevirtual 246, 3) := by decide +kernel
theorem dX12_homeBy_79 : decode cX12_homeBy 79 = .ok (.iadd, 1) := by decide +kernel
theorem dX12_homeBy_80 : decode cX12_homeBy 80 = .ok (.ireturn, 1) := by decide +kernel
theorem dX12_homeBy_81 : decode cX12_homeBy 81 = .ok (.aload_n 0, 1) := by decide +kernel
theorem dX12_homeBy_82 : decode cX12_homeBy 82 = .ok (.aload_n 0, 1) := by decide +kernel
theorem dX12_homeBy_83 : decode cX12_homeBy 83 = .ok (.getfield 13, 3) := by decide +kernel
theorem dX12_homeBy_86 : decode cX12_homeBy 86 = .ok (.bipush 88, 2) := by decide +kernel
theorem dX12_homeBy_88 : decode cX12_homeBy 88 = .ok (.iload_n 1, 1) := by decide +kernel
theorem dX12_homeBy_89 : decode cX12_homeBy 89 = .ok (.iadd, 1) := by decide +kernel
theorem dX12_homeBy_90 : decode cX12_homeBy 90 = .ok (.iaload, 1) := by decide +kernel
theorem dX12_homeBy_91 : decode cX12_homeBy 91 = .ok (.invokevirtual 234, 3) := by decide +kernel
theorem dX12_homeBy_94 : decode cX12_homeBy 94 = .ok (.aload_n 0, 1) := by decide +kernel
theorem dX12_homeBy_95 : decode cX12_homeBy 95 = .ok (.iload_n 2, 1) := by decide +kernel
theorem dX12_homeBy_96 : decode cX12_homeBy 96 = .ok (.invokevirtual 352, 3) := by decide +kernel
theorem dX12_homeBy_99 : decode cX12_homeBy 99 = .ok (.istore_n 3, 1) := by decide +kernel
theorem dX12_homeBy_100 : decode cX12_homeBy 100 = .ok (.iload_n 3, 1) := by decide +kernel
theorem dX12_homeBy_101 : decode cX12_homeBy 101 = .ok (.iconst (-1), 1) := by decide +kernel
theorem dX12_homeBy_102 : decode cX12_homeBy 102 = .ok (.if_icmp .ne 7, 3) := by decide +kernel
theorem dX12_homeBy_105 : decode cX12_homeBy 105 = .ok (.iconst (-1), 1) := by decide +kernel
theorem dX12_homeBy_106 : decode cX12_homeBy 106 = .ok (.goto 20, 3) := by decide +kernel
theorem dX12_homeBy_109 : decode cX12_homeBy 109 = .ok (.iload_n 3, 1) := by decide +kernel
theorem dX12_homeBy_110 : decode cX12_homeBy 110 = .ok (.aload_n 0, 1) := by decide +kernel
theorem dX12_homeBy_111 : decode cX12_homeBy 111 = .ok (.iload_n 1, 1) := by decide +kernel
theorem dX12_homeBy_112 : decode cX12_homeBy 112 = .ok (.iload_n 2, 1) := by decide +kernel
theorem dX12_homeBy_113 : decode cX12_homeBy 113 = .ok (.aload_n 0, 1) := by decide +kernel
theorem dX12_homeBy_114 : decode cX12_homeBy 114 = .ok (.getfield 13, 3) := by decide +kernel
theorem dX12_homeBy_117 : decode cX12_homeBy 117 = .ok (.bipush 28, 2) := by decide +kernel
theorem dX12_homeBy_119 : decode cX12_homeBy 119 = .ok (.iload_n 1, 1) := by decide +kernel
theorem dX12_homeBy_120 : decode cX12_homeBy 120 = .ok (.iadd, 1) := by decide +kernel
theorem dX12_homeBy_121 : decode cX12_homeBy 121 = .ok (.iaload, 1) := by decide +kernel
theorem dX12_homeBy_122 : decode cX12_homeBy 122 = .ok (.invokevirtual 246, 3) := by decide +kernel
theorem dX12_homeBy_125 : decode cX12_homeBy 125 = .ok (.iadd, 1) := by decide +kernel
theorem dX12_homeBy_126 : decode cX12_homeBy 126 = .ok (.ireturn, 1) := by decide +kernel
theorem dX12_sumBy_0 : decode cX12_sumBy 0 = .ok (.lconst 0, 1) := by decide +kernel
theorem dX12_sumBy_1 : decode cX12_sumBy 1 = .ok (.lstore_n 3, 1) := by decide +kernel
theorem dX12_sumBy_2 : decode cX12_sumBy 2 = .ok (.iconst 0, 1) := by decide +kernel
theorem dX12_sumBy_3 : decode cX12_sumBy 3 = .ok (.istore 5, 2) := by decide +kernel
theorem dX12_sumBy_5 : decode cX12_sumBy 5 = .ok (.iload 5, 2) := by decide +kernel
theorem dX12_sumBy_7 : decode cX12_sumBy 7 = .ok (.aload_n 0, 1) := by decide +kernel
theorem dX12_sumBy_8 : decode cX12_sumBy 8 = .ok (.getfield 13, 3) := by decide +kernel
theorem dX12_sumBy_11 : decode cX12_sumBy 11 = .ok (.iconst 3, 1) := by decide +kernel
theorem dX12_sumBy_12 : decode cX12_sumBy 12 = .ok (.iaload, 1) := by decide +kernel
theorem dX12_sumBy_13 : decode cX12_sumBy 13 = .ok (.if_icmp .ge 46, 3) := by decide +kernel
theorem dX12_sumBy_16 : decode cX12_sumBy 16 = .ok (.aload_n 0, 1) := by decide +kernel
theorem dX12_sumBy_17 : decode cX12_sumBy 17 = .ok (.getfield 13, 3) := by decide +kernel
theorem dX12_sumBy_20 : decode cX12_sumBy 20 = .ok (.bipush 88, 2) := by decide +kernel
theorem dX12_sumBy_22 : decode cX12_sumBy 22 = .ok (.iload 5, 2) := by decide +kernel
theorem dX12_sumBy_24 : decode cX12_sumBy 24 = .ok (.iadd, 1) := by decide +kernel
theorem dX12_sumBy_25 : decode cX12_sumBy 25 = .ok (.iaload, 1) := by decide +kernel
theorem dX12_sumBy_26 : decode cX12_sumBy 26 = .ok (.iload_n 1, 1) := by decide +kernel
theorem dX12_sumBy_27 : decode cX12_sumBy 27 = .ok (.if_icmp .ne 26, 3) := by decide +kernel
theorem dX12_sumBy_30 : decode cX12_sumBy 30 = .ok (.lload_n 3, 1) := by decide +kernel
theorem dX12_sumBy_31 : decode cX12_sumBy 31 = .ok (.aload_n 0, 1) := by decide +kernel
theorem dX12_sumBy_32 : decode cX12_sumBy 32 = .ok (.iload 5, 2) := by decide +kernel
theorem dX12_sumBy_34 : decode cX12_sumBy 34 = .ok (.iload_n 2, 1) := by decide +kernel
theorem dX12_sumBy_35 : decode cX12_sumBy 35 = .ok (.invokevirtual 358, 3) := by decide +kernel
theorem dX12_sumBy_38 : decode cX12_sumBy 38 = .ok (.i2l, 1) := by decide +kernel
theorem dX12_sumBy_39 : decode cX12_sumBy 39 = .ok (.aload_n 0, 1) := by decide +kernel
theorem dX12_sumBy_40 : decode cX12_sumBy 40 = .ok (.getfield 13, 3) := by decide +kernel
theorem dX12_sumBy_43 : decode cX12_sumBy 43 = .ok (.bipush 52, 2) := by decide +kernel
theorem dX12_sumBy_45 : decode cX12_sumBy 45 = .ok (.iload 5, 2) := by decide +kernel
theorem dX12_sumBy_47 : decode cX12_sumBy 47 = .ok (.iadd, 1) := by decide +kernel
theorem dX12_sumBy_48 : decode cX12_sumBy 48 = .ok (.iaload, 1) := by decide +kernel
theorem dX12_sumBy_49 : decode cX12_sumBy 49 = .ok (.i2l, 1) := by decide +kernel
theorem dX12_sumBy_50 : decode cX12_sumBy 50 = .ok (.lmul, 1) := by decide +kernel
theorem dX12_sumBy_51 : decode cX12_sumBy 51 = .ok (.ladd, 1) := by decide +kernel
theorem dX12_sumBy_52 : decode cX12_sumBy 52 = .ok (.lstore_n 3, 1) := by decide +kernel
theorem dX12_sumBy_53 : decode cX12_sumBy 53 = .ok (.iinc 5 1, 3) := by decide +kernel
theorem dX12_sumBy_56 : decode cX12_sumBy 56 = .ok (.goto (-51), 3) := by decide +kernel
theorem dX12_sumBy_59 : decode cX12_sumBy 59 = .ok (.lload_n 3, 1) := by decide +kernel
theorem dX12_sumBy_60 : decode cX12_sumBy 60 = .ok (.lreturn, 1) := by decide +kernel
theorem dX12_latestBy_0 : decode cX12_latestBy 0 = .ok (.iconst 0, 1) := by decide +kernel
theorem dX12_latestBy_1 : decode cX12_latestBy 1 = .ok (.istore_n 3, 1) := by decide +kernel
theorem dX12_latestBy_2 : decode cX12_latestBy 2 = .ok (.iconst 0, 1) := by decide +kernel
theorem dX12_latestBy_3 : decode cX12_latestBy 3 = .ok (.istore 4, 2) := by decide +kernel
theorem dX12_latestBy_5 : decode cX12_latestBy 5 = .ok (.iload 4, 2) := by decide +kernel
theorem dX12_latestBy_7 : decode cX12_latestBy 7 = .ok (.aload_n 0, 1) := by decide +kernel
theorem dX12_latestBy_8 : decode cX12_latestBy 8 = .ok (.getfield 13, 3) := by decide +kernel
theorem dX12_latestBy_11 : decode cX12_latestBy 11 = .ok (.iconst 3, 1) := by decide +kernel
theorem dX12_latestBy_12 : decode cX12_latestBy 12 = .ok (.iaload, 1) := by decide +kernel
theorem dX12_latestBy_13 : decode cX12_latestBy 13 = .ok (.if_icmp .ge 48, 3) := by decide +kernel
theorem dX12_latestBy_16 : decode cX12_latestBy 16 = .ok (.aload_n 0, 1) := by decide +kernel
theorem dX12_latestBy_17 : decode cX12_latestBy 17 = .ok (.getfield 13, 3) := by decide +kernel
theorem dX12_latestBy_20 : decode cX12_latestBy 20 = .ok (.bipush 88, 2) := by decide +kernel
theorem dX12_latestBy_22 : decode cX12_latestBy 22 = .ok (.iload 4, 2) := by decide +kernel
theorem dX12_latestBy_24 : decode cX12_latestBy 24 = .ok (.iadd, 1) := by decide +kernel
theorem dX12_latestBy_25 : decode cX12_latestBy 25 = .ok (.iaload, 1) := by decide +kernel
theorem dX12_latestBy_26 : decode cX12_latestBy 26 = .ok (.iload_n 1, 1) := by decide +kernel
theorem dX12_latestBy_27 : decode cX12_latestBy 27 = .ok (.if_icmp .eq 6, 3) := by decide +kernel
theorem dX12_latestBy_30 : decode cX12_latestBy 30 = .ok (.goto 25, 3) := by decide +kernel
theorem dX12_latestBy_33 : decode cX12_latestBy 33 = .ok (.aload_n 0, 1) := by decide +kernel
theorem dX12_latestBy_34 : decode cX12_latestBy 34 = .ok (.iload 4, 2) := by decide +kernel
theorem dX12_latestBy_36 : decode cX12_latestBy 36 = .ok (.iload_n 2, 1) := by decide +kernel
theorem dX12_latestBy_37 : decode cX12_latestBy 37 = .ok (.invokevirtual 358, 3) := by decide +kernel
theorem dX12_latestBy_40 : decode cX12_latestBy 40 = .ok (.istore 5, 2) := by decide +kernel
theorem dX12_latestBy_42 : decode cX12_latestBy 42 = .ok (.iload 5, 2) := by decide +kernel
theorem dX12_latestBy_44 : decode cX12_latestBy 44 = .ok (.iload_n 3, 1) := by decide +kernel
theorem dX12_latestBy_45 : decode cX12_latestBy 45 = .ok (.if_icmp .le 8, 3) := by decide +kernel
theorem dX12_latestBy_48 : decode cX12_latestBy 48 = .ok (.iload 5, 2) := by decide +kernel
theorem dX12_latestBy_50 : decode cX12_latestBy 50 = .ok (.goto 4, 3) := by decide +kernel
theorem dX12_latestBy_53 : decode cX12_latestBy 53 = .ok (.iload_n 3, 1) := by decide +kernel
theorem dX12_latestBy_54 : decode cX12_latestBy 54 = .ok (.istore_n 3, 1) := by decide +kernel
theorem dX12_latestBy_55 : decode cX12_latestBy 55 = .ok (.iinc 4 1, 3) := by decide +kernel
theorem dX12_latestBy_58 : decode cX12_latestBy 58 = .ok (.goto (-53), 3) := by decide +kernel
theorem dX12_latestBy_61 : decode cX12_latestBy 61 = .ok (.iload_n 3, 1) := by decide +kernel
theorem dX12_latestBy_62 : decode cX12_latestBy 62 = .ok (.ireturn, 1) := by decide +kernel
theorem dX12_all_0 : decode cX12_all 0 = .ok (.aload_n 0, 1) := by decide +kernel
theorem dX12_all_1 : decode cX12_all 1 = .ok (.iconst 0, 1) := by decide +kernel
theorem dX12_all_2 : decode cX12_all 2 = .ok (.putfield 1, 3) := by decide +kernel
theorem dX12_all_5 : decode cX12_all 5 = .ok (.aload_n 0, 1) := by decide +kernel
theorem dX12_all_6 : decode cX12_all 6 = .ok (.iload_n 1, 1) := by decide +kernel
theorem dX12_all_7 : decode cX12_all 7 = .ok (.i2l, 1) := by decide +kernel
theorem dX12_all_8 : decode cX12_all 8 = .ok (.invokevirtual 230, 3) := by decide +kernel
theorem dX12_all_11 : decode cX12_all 11 = .ok (.ifCond .eq 20, 3) := by decide +kernel
theorem dX12_all_14 : decode cX12_all 14 = .ok (.aload_n 0, 1) := by decide +kernel
theorem dX12_all_15 : decode cX12_all 15 = .ok (.iload_n 1, 1) := by decide +kernel
theorem dX12_all_16 : decode cX12_all 16 = .ok (.aload_n 0, 1) := by decide +kernel
theorem dX12_all_17 : decode cX12_all 17 = .ok (.getfield 13, 3) := by decide +kernel
theorem dX12_all_20 : decode cX12_all 20 = .ok (.bipush 66, 2) := by decide +kernel
theorem dX12_all_22 : decode cX12_all 22 = .ok (.iload_n 1, 1) := by decide +kernel
theorem dX12_all_23 : decode cX12_all 23 = .ok (.iadd, 1) := by decide +kernel
theorem dX12_all_24 : decode cX12_all 24 = .ok (.iaload, 1) := by decide +kernel
theorem dX12_all_25 : decode cX12_all 25 = .ok (.invokevirtual 364, 3) := by decide +kernel
theorem dX12_all_28 : decode cX12_all 28 = .ok (.goto 6, 3) := by decide +kernel
theorem dX12_all_31 : decode cX12_all 31 = .ok (.ldc2_w 368, 3) := by decide +kernel
theorem dX12_all_34 : decode cX12_all 34 = .ok (.lreturn, 1) := by decide +kernel
theorem dX12_latest_0 : decode cX12_latest 0 = .ok (.aload_n 0, 1) := by decide +kernel
theorem dX12_latest_1 : decode cX12_latest 1 = .ok (.iconst 0, 1) := by decide +kernel
