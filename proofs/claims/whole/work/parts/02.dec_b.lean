theorem dX2_init_0 : decode cX2_init 0 = .ok (.aload_n 0, 1) := by decide +kernel
theorem dX2_init_1 : decode cX2_init 1 = .ok (.invokespecial 3, 3) := by decide +kernel
theorem dX2_init_4 : decode cX2_init 4 = .ok (.aload_n 0, 1) := by decide +kernel
theorem dX2_init_5 : decode cX2_init 5 = .ok (.iconst 0, 1) := by decide +kernel
theorem dX2_init_6 : decode cX2_init 6 = .ok (.putfield 9, 3) := by decide +kernel
theorem dX2_init_9 : decode cX2_init 9 = .ok (.aload_n 0, 1) := by decide +kernel
theorem dX2_init_10 : decode cX2_init 10 = .ok (.iconst 0, 1) := by decide +kernel
theorem dX2_init_11 : decode cX2_init 11 = .ok (.putfield 15, 3) := by decide +kernel
theorem dX2_init_14 : decode cX2_init 14 = .ok (.aload_n 0, 1) := by decide +kernel
theorem dX2_init_15 : decode cX2_init 15 = .ok (.iconst 4, 1) := by decide +kernel
theorem dX2_init_16 : decode cX2_init 16 = .ok (.newarray .int, 2) := by decide +kernel
theorem dX2_init_18 : decode cX2_init 18 = .ok (.putfield 19, 3) := by decide +kernel
theorem dX2_init_21 : decode cX2_init 21 = .ok (.aload_n 0, 1) := by decide +kernel
theorem dX2_init_22 : decode cX2_init 22 = .ok (.sipush 900, 3) := by decide +kernel
theorem dX2_init_25 : decode cX2_init 25 = .ok (.newarray .int, 2) := by decide +kernel
theorem dX2_init_27 : decode cX2_init 27 = .ok (.putfield 23, 3) := by decide +kernel
theorem dX2_init_30 : decode cX2_init 30 = .ok (.aload_n 0, 1) := by decide +kernel
theorem dX2_init_31 : decode cX2_init 31 = .ok (.iconst 0, 1) := by decide +kernel
theorem dX2_init_32 : decode cX2_init 32 = .ok (.putfield 26, 3) := by decide +kernel
theorem dX2_init_35 : decode cX2_init 35 = .ok (.aload_n 0, 1) := by decide +kernel
theorem dX2_init_36 : decode cX2_init 36 = .ok (.bipush 32, 2) := by decide +kernel
theorem dX2_init_38 : decode cX2_init 38 = .ok (.newarray .int, 2) := by decide +kernel
theorem dX2_init_40 : decode cX2_init 40 = .ok (.putfield 29, 3) := by decide +kernel
theorem dX2_init_43 : decode cX2_init 43 = .ok (.aload_n 0, 1) := by decide +kernel
theorem dX2_init_44 : decode cX2_init 44 = .ok (.iconst 0, 1) := by decide +kernel
theorem dX2_init_45 : decode cX2_init 45 = .ok (.putfield 32, 3) := by decide +kernel
theorem dX2_init_48 : decode cX2_init 48 = .ok (.return_, 1) := by decide +kernel
theorem dX2_begin_0 : decode cX2_begin 0 = .ok (.aload_n 0, 1) := by decide +kernel
theorem dX2_begin_1 : decode cX2_begin 1 = .ok (.iconst 1, 1) := by decide +kernel
theorem dX2_begin_2 : decode cX2_begin 2 = .ok (.putfield 9, 3) := by decide +kernel
theorem dX2_begin_5 : decode cX2_begin 5 = .ok (.aload_n 0, 1) := by decide +kernel
theorem dX2_begin_6 : decode cX2_begin 6 = .ok (.iconst 0, 1) := by decide +kernel
theorem dX2_begin_7 : decode cX2_begin 7 = .ok (.putfield 15, 3) := by decide +kernel
theorem dX2_begin_10 : decode cX2_begin 10 = .ok (.aload_n 0, 1) := by decide +kernel
theorem dX2_begin_11 : decode cX2_begin 11 = .ok (.iconst 0, 1) := by decide +kernel
theorem dX2_begin_12 : decode cX2_begin 12 = .ok (.putfield 26, 3) := by decide +kernel
theorem dX2_begin_15 : decode cX2_begin 15 = .ok (.aload_n 0, 1) := by decide +kernel
theorem dX2_begin_16 : decode cX2_begin 16 = .ok (.iconst 0, 1) := by decide +kernel
theorem dX2_begin_17 : decode cX2_begin 17 = .ok (.putfield 32, 3) := by decide +kernel
theorem dX2_begin_20 : decode cX2_begin 20 = .ok (.return_, 1) := by decide +kernel
theorem dX2_putNumber_0 : decode cX2_putNumber 0 = .ok (.aload_n 0, 1) := by decide +kernel
theorem dX2_putNumber_1 : decode cX2_putNumber 1 = .ok (.iload_n 1, 1) := by decide +kernel
theorem dX2_putNumber_2 : decode cX2_putNumber 2 = .ok (.invokevirtual 35, 3) := by decide +kernel
theorem dX2_putNumber_5 : decode cX2_putNumber 5 = .ok (.return_, 1) := by decide +kernel
theorem dX2_putWord_0 : decode cX2_putWord 0 = .ok (.aload_n 0, 1) := by decide +kernel
theorem dX2_putWord_1 : decode cX2_putWord 1 = .ok (.iconst (-1), 1) := by decide +kernel
theorem dX2_putWord_2 : decode cX2_putWord 2 = .ok (.iload_n 1, 1) := by decide +kernel
theorem dX2_putWord_3 : decode cX2_putWord 3 = .ok (.isub, 1) := by decide +kernel
theorem dX2_putWord_4 : decode cX2_putWord 4 = .ok (.invokevirtual 35, 3) := by decide +kernel
theorem dX2_putWord_7 : decode cX2_putWord 7 = .ok (.return_, 1) := by decide +kernel
theorem dX2_join_0 : decode cX2_join 0 = .ok (.aload_n 0, 1) := by decide +kernel
theorem dX2_join_1 : decode cX2_join 1 = .ok (.getfield 32, 3) := by decide +kernel
theorem dX2_join_4 : decode cX2_join 4 = .ok (.ifCond .le 49, 3) := by decide +kernel
theorem dX2_join_7 : decode cX2_join 7 = .ok (.aload_n 0, 1) := by decide +kernel
theorem dX2_join_8 : decode cX2_join 8 = .ok (.getfield 29, 3) := by decide +kernel
theorem dX2_join_11 : decode cX2_join 11 = .ok (.aload_n 0, 1) := by decide +kernel
theorem dX2_join_12 : decode cX2_join 12 = .ok (.getfield 32, 3) := by decide +kernel
theorem dX2_join_15 : decode cX2_join 15 = .ok (.iconst 1, 1) := by decide +kernel
theorem dX2_join_16 : decode cX2_join 16 = .ok (.isub, 1) := by decide +kernel
theorem dX2_join_17 : decode cX2_join 17 = .ok (.iaload, 1) := by decide +kernel
theorem dX2_join_18 : decode cX2_join 18 = .ok (.iload_n 1, 1) := by decide +kernel
theorem dX2_join_19 : decode cX2_join 19 = .ok (.invokestatic 39, 3) := by decide +kernel
theorem dX2_join_22 : decode cX2_join 22 = .ok (.ifCond .eq 31, 3) := by decide +kernel
theorem dX2_join_25 : decode cX2_join 25 = .ok (.aload_n 0, 1) := by decide +kernel
theorem dX2_join_26 : decode cX2_join 26 = .ok (.aload_n 0, 1) := by decide +kernel
theorem dX2_join_27 : decode cX2_join 27 = .ok (.getfield 29, 3) := by decide +kernel
theorem dX2_join_30 : decode cX2_join 30 = .ok (.aload_n 0, 1) := by decide +kernel
theorem dX2_join_31 : decode cX2_join 31 = .ok (.getfield 32, 3) := by decide +kernel
theorem dX2_join_34 : decode cX2_join 34 = .ok (.iconst 1, 1) := by decide +kernel
theorem dX2_join_35 : decode cX2_join 35 = .ok (.isub, 1) := by decide +kernel
theorem dX2_join_36 : decode cX2_join 36 = .ok (.iaload, 1) := by decide +kernel
theorem dX2_join_37 : decode cX2_join 37 = .ok (.invokevirtual 35, 3) := by decide +kernel
theorem dX2_join_40 : decode cX2_join 40 = .ok (.aload_n 0, 1) := by decide +kernel
theorem dX2_join_41 : decode cX2_join 41 = .ok (.dup, 1) := by decide +kernel
theorem dX2_join_42 : decode cX2_join 42 = .ok (.getfield 32, 3) := by decide +kernel
theorem dX2_join_45 : decode cX2_join 45 = .ok (.iconst 1, 1) := by decide +kernel
theorem dX2_join_46 : decode cX2_join 46 = .ok (.isub, 1) := by decide +kernel
theorem dX2_join_47 : decode cX2_join 47 = .ok (.putfield 32, 3) := by decide +kernel
theorem dX2_join_50 : decode cX2_join 50 = .ok (.goto (-50), 3) := by decide +kernel
theorem dX2_join_53 : decode cX2_join 53 = .ok (.aload_n 0, 1) := by decide +kernel
theorem dX2_join_54 : decode cX2_join 54 = .ok (.iload_n 1, 1) := by decide +kernel
theorem dX2_join_55 : decode cX2_join 55 = .ok (.invokevirtual 43, 3) := by decide +kernel
theorem dX2_join_58 : decode cX2_join 58 = .ok (.return_, 1) := by decide +kernel
theorem dX2_open_0 : decode cX2_open 0 = .ok (.aload_n 0, 1) := by decide +kernel
theorem dX2_open_1 : decode cX2_open 1 = .ok (.dup, 1) := by decide +kernel
theorem dX2_open_2 : decode cX2_open 2 = .ok (.getfield 15, 3) := by decide +kernel
theorem dX2_open_5 : decode cX2_open 5 = .ok (.iconst 1, 1) := by decide +kernel
theorem dX2_open_6 : decode cX2_open 6 = .ok (.iadd, 1) := by decide +kernel
theorem dX2_open_7 : decode cX2_open 7 = .ok (.putfield 15, 3) := by decide +kernel
theorem dX2_open_10 : decode cX2_open 10 = .ok (.aload_n 0, 1) := by decide +kernel
theorem dX2_open_11 : decode cX2_open 11 = .ok (.bipush (-14), 2) := by decide +kernel
theorem dX2_open_13 : decode cX2_open 13 = .ok (.invokevirtual 43, 3) := by decide +kernel
theorem dX2_open_16 : decode cX2_open 16 = .ok (.return_, 1) := by decide +kernel
theorem dX2_close_0 : decode cX2_close 0 = .ok (.aload_n 0, 1) := by decide +kernel
theorem dX2_close_1 : decode cX2_close 1 = .ok (.dup, 1) := by decide +kernel
theorem dX2_close_2 : decode cX2_close 2 = .ok (.getfield 15, 3) := by decide +kernel
theorem dX2_close_5 : decode cX2_close 5 = .ok (.iconst 1, 1) := by decide +kernel
theorem dX2_close_6 : decode cX2_close 6 = .ok (.isub, 1) := by decide +kernel
theorem dX2_close_7 : decode cX2_close 7 = .ok (.putfield 15, 3) := by decide +kernel
theorem dX2_close_10 : decode cX2_close 10 = .ok (.aload_n 0, 1) := by decide +kernel
theorem dX2_close_11 : decode cX2_close 11 = .ok (.getfield 32, 3) := by decide +kernel
theorem dX2_close_14 : decode cX2_close 14 = .ok (.ifCond .le 47, 3) := by decide +kernel
theorem dX2_close_17 : decode cX2_close 17 = .ok (.aload_n 0, 1) := by decide +kernel
theorem dX2_close_18 : decode cX2_close 18 = .ok (.getfield 29, 3) := by decide +kernel
theorem dX2_close_21 : decode cX2_close 21 = .ok (.aload_n 0, 1) := by decide +kernel
theorem dX2_close_22 : decode cX2_close 22 = .ok (.getfield 32, 3) := by decide +kernel
theorem dX2_close_25 : decode cX2_close 25 = .ok (.iconst 1, 1) := by decide +kernel
theorem dX2_close_26 : decode cX2_close 26 = .ok (.isub, 1) := by decide +kernel
theorem dX2_close_27 : decode cX2_close 27 = .ok (.iaload, 1) := by decide +kernel
theorem dX2_close_28 : decode cX2_close 28 = .ok (.bipush (-14), 2) := by decide +kernel
theorem dX2_close_30 : decode cX2_close 30 = .ok (.if_icmp .eq 31, 3) := by decide +kernel
theorem dX2_close_33 : decode cX2_close 33 = .ok (.aload_n 0, 1) := by decide +kernel
theorem dX2_close_34 : decode cX2_close 34 = .ok (.aload_n 0, 1) := by decide +kernel
theorem dX2_close_35 : decode cX2_close 35 = .ok (.getfield 29, 3) := by decide +kernel
theorem dX2_close_38 : decode cX2_close 38 = .ok (.aload_n 0, 1) := by decide +kernel
theorem dX2_close_39 : decode cX2_close 39 = .ok (.getfield 32, 3) := by decide +kernel
theorem dX2_close_42 : decode cX2_close 42 = .ok (.iconst 1, 1) := by decide +kernel
theorem dX2_close_43 : decode cX2_close 43 = .ok (.isub, 1) := by decide +kernel
theorem dX2_close_44 : decode cX2_close 44 = .ok (.iaload, 1) := by decide +kernel
theorem dX2_close_45 : decode cX2_close 45 = .ok (.invokevirtual 35, 3) := by decide +kernel
theorem dX2_close_48 : decode cX2_close 48 = .ok (.aload_n 0, 1) := by decide +kernel
theorem dX2_close_49 : decode cX2_close 49 = .ok (.dup, 1) := by decide +kernel
theorem dX2_close_50 : decode cX2_close 50 = .ok (.getfield 32, 3) := by decide +kernel
theorem dX2_close_53 : decode cX2_close 53 = .ok (.iconst 1, 1) := by decide +kernel
theorem dX2_close_54 : decode cX2_close 54 = .ok (.isub, 1) := by decide +kernel
theorem dX2_close_55 : decode cX2_close 55 = .ok (.putfield 32, 3) := by decide +kernel
theorem dX2_close_58 : decode cX2_close 58 = .ok (.goto (-48), 3) := by decide +kernel
theorem dX2_close_61 : decode cX2_close 61 = .ok (.aload_n 0, 1) := by decide +kernel
theorem dX2_close_62 : decode cX2_close 62 = .ok (.invokevirtual 46, 3) := by decide +kernel
theorem dX2_close_65 : decode cX2_close 65 = .ok (.pop, 1) := by decide +kernel
theorem dX2_close_66 : decode cX2_close 66 = .ok (.return_, 1) := by decide +kernel
theorem dX2_finish_0 : decode cX2_finish 0 = .ok (.aload_n 0, 1) := by decide +kernel
theorem dX2_finish_1 : decode cX2_finish 1 = .ok (.getfield 32, 3) := by decide +kernel
theorem dX2_finish_4 : decode cX2_finish 4 = .ok (.ifCond .le 31, 3) := by decide +kernel
theorem dX2_finish_7 : decode cX2_finish 7 = .ok (.aload_n 0, 1) := by decide +kernel
theorem dX2_finish_8 : decode cX2_finish 8 = .ok (.aload_n 0, 1) := by decide +kernel
theorem dX2_finish_9 : decode cX2_finish 9 = .ok (.getfield 29, 3) := by decide +kernel
theorem dX2_finish_12 : decode cX2_finish 12 = .ok (.aload_n 0, 1) := by decide +kernel
theorem dX2_finish_13 : decode cX2_finish 13 = .ok (.getfield 32, 3) := by decide +kernel
theorem dX2_finish_16 : decode cX2_finish 16 = .ok (.iconst 1, 1) := by decide +kernel
theorem dX2_finish_17 : decode cX2_finish 17 = .ok (.isub, 1) := by decide +kernel
theorem dX2_finish_18 : decode cX2_finish 18 = .ok (.iaload, 1) := by decide +kernel
theorem dX2_finish_19 : decode cX2_finish 19 = .ok (.invokevirtual 35, 3) := by decide +kernel
theorem dX2_finish_22 : decode cX2_finish 22 = .ok (.aload_n 0, 1) := by decide +kernel
theorem dX2_finish_23 : decode cX2_finish 23 = .ok (.dup, 1) := by decide +kernel
theorem dX2_finish_24 : decode cX2_finish 24 = .ok (.getfield 32, 3) := by decide +kernel
theorem dX2_finish_27 : decode cX2_finish 27 = .ok (.iconst 1, 1) := by decide +kernel
theorem dX2_finish_28 : decode cX2_finish 28 = .ok (.isub, 1) := by decide +kernel
theorem dX2_finish_29 : decode cX2_finish 29 = .ok (.putfield 32, 3) := by decide +kernel
theorem dX2_finish_32 : decode cX2_finish 32 = .ok (.goto (-32), 3) := by decide +kernel
theorem dX2_finish_35 : decode cX2_finish 35 = .ok (.return_, 1) := by decide +kernel
theorem dX2_seconds_0 : decode cX2_seconds 0 = .ok (.aload_n 0, 1) := by decide +kernel
theorem dX2_seconds_1 : decode cX2_seconds 1 = .ok (.iconst 0, 1) := by decide +kernel
theorem dX2_seconds_2 : decode cX2_seconds 2 = .ok (.putfield 32, 3) := by decide +kernel
theorem dX2_seconds_5 : decode cX2_seconds 5 = .ok (.iconst 0, 1) := by decide +kernel
theorem dX2_seconds_6 : decode cX2_seconds 6 = .ok (.istore_n 1, 1) := by decide +kernel
theorem dX2_seconds_7 : decode cX2_seconds 7 = .ok (.iload_n 1, 1) := by decide +kernel
theorem dX2_seconds_8 : decode cX2_seconds 8 = .ok (.aload_n 0, 1) := by decide +kernel
theorem dX2_seconds_9 : decode cX2_seconds 9 = .ok (.getfield 26, 3) := by decide +kernel
theorem dX2_seconds_12 : decode cX2_seconds 12 = .ok (.if_icmp .ge 64, 3) := by decide +kernel
theorem dX2_seconds_15 : decode cX2_seconds 15 = .ok (.aload_n 0, 1) := by decide +kernel
theorem dX2_seconds_16 : decode cX2_seconds 16 = .ok (.getfield 23, 3) := by decide +kernel
theorem dX2_seconds_19 : decode cX2_seconds 19 = .ok (.iload_n 1, 1) := by decide +kernel
theorem dX2_seconds_20 : decode cX2_seconds 20 = .ok (.iaload, 1) := by decide +kernel
theorem dX2_seconds_21 : decode cX2_seconds 21 = .ok (.istore_n 2, 1) := by decide +kernel
theorem dX2_seconds_22 : decode cX2_seconds 22 = .ok (.iload_n 2, 1) := by decide +kernel
theorem dX2_seconds_23 : decode cX2_seconds 23 = .ok (.ifCond .lt 11, 3) := by decide +kernel
theorem dX2_seconds_26 : decode cX2_seconds 26 = .ok (.aload_n 0, 1) := by decide +kernel
theorem dX2_seconds_27 : decode cX2_seconds 27 = .ok (.iload_n 2, 1) := by decide +kernel
theorem dX2_seconds_28 : decode cX2_seconds 28 = .ok (.invokevirtual 43, 3) := by decide +kernel
theorem dX2_seconds_31 : decode cX2_seconds 31 = .ok (.goto 39, 3) := by decide +kernel
theorem dX2_seconds_34 : decode cX2_seconds 34 = .ok (.iload_n 2, 1) := by decide +kernel
theorem dX2_seconds_35 : decode cX2_seconds 35 = .ok (.bipush (-11), 2) := by decide +kernel
theorem dX2_seconds_37 : decode cX2_seconds 37 = .ok (.if_icmp .gt 24, 3) := by decide +kernel
theorem dX2_seconds_40 : decode cX2_seconds 40 = .ok (.aload_n 0, 1) := by decide +kernel
theorem dX2_seconds_41 : decode cX2_seconds 41 = .ok (.iload_n 2, 1) := by decide +kernel
theorem dX2_seconds_42 : decode cX2_seconds 42 = .ok (.aload_n 0, 1) := by decide +kernel
theorem dX2_seconds_43 : decode cX2_seconds 43 = .ok (.invokevirtual 46, 3) := by decide +kernel
theorem dX2_seconds_46 : decode cX2_seconds 46 = .ok (.i2l, 1) := by decide +kernel
theorem dX2_seconds_47 : decode cX2_seconds 47 = .ok (.aload_n 0, 1) := by decide +kernel
theorem dX2_seconds_48 : decode cX2_seconds 48 = .ok (.invokevirtual 46, 3) := by decide +kernel
theorem dX2_seconds_51 : decode cX2_seconds 51 = .ok (.i2l, 1) := by decide +kernel
theorem dX2_seconds_52 : decode cX2_seconds 52 = .ok (.invokestatic 50, 3) := by decide +kernel
theorem dX2_seconds_55 : decode cX2_seconds 55 = .ok (.invokevirtual 43, 3) := by decide +kernel
theorem dX2_seconds_58 : decode cX2_seconds 58 = .ok (.goto 12, 3) := by decide +kernel
theorem dX2_seconds_61 : decode cX2_seconds 61 = .ok (.aload_n 0, 1) := by decide +kernel
theorem dX2_seconds_62 : decode cX2_seconds 62 = .ok (.aload_n 0, 1) := by decide +kernel
theorem dX2_seconds_63 : decode cX2_seconds 63 = .ok (.iload_n 2, 1) := by decide +kernel
theorem dX2_seconds_64 : decode cX2_seconds 64 = .ok (.invokevirtual 54, 3) := by decide +kernel
theorem dX2_seconds_67 : decode cX2_seconds 67 = .ok (.invokevirtual 43, 3) := by decide +kernel
theorem dX2_seconds_70 : decode cX2_seconds 70 = .ok (.iinc 1 1, 3) := by decide +kernel
theorem dX2_seconds_73 : decode cX2_seconds 73 = .ok (.goto (-66), 3) := by decide +kernel
theorem dX2_seconds_76 : decode cX2_seconds 76 = .ok (.aload_n 0, 1) := by decide +kernel
theorem dX2_seconds_77 : decode cX2_seconds 77 = .ok (.invokevirtual 46, 3) := by decide +kernel
theorem dX2_seconds_80 : decode cX2_seconds 80 = .ok (.i2l, 1) := by decide +kernel
theorem dX2_seconds_81 : decode cX2_seconds 81 = .ok (.lconst 0, 1) := by decide +kernel
theorem dX2_seconds_82 : decode cX2_seconds 82 = .ok (.ldc2_w 58, 3) := by decide +kernel
theorem dX2_seconds_85 : decode cX2_seconds 85 = .ok (.invokestatic 60, 3) := by decide +kernel
theorem dX2_seconds_88 : decode cX2_seconds 88 = .ok (.l2i, 1) := by decide +kernel
theorem dX2_seconds_89 : decode cX2_seconds 89 = .ok (.ireturn, 1) := by decide +kernel
theorem dX2_wordOf_0 : decode cX2_wordOf 0 = .ok (.iconst (-1), 1) := by decide +kernel
theorem dX2_wordOf_1 : decode cX2_wordOf 1 = .ok (.iload_n 1, 1) := by decide +kernel
theorem dX2_wordOf_2 : decode cX2_wordOf 2 = .ok (.isub, 1) := by decide +kernel
theorem dX2_wordOf_3 : decode cX2_wordOf 3 = .ok (.istore_n 2, 1) := by decide +kernel
theorem dX2_wordOf_4 : decode cX2_wordOf 4 = .ok (.iload_n 2, 1) := by decide +kernel
theorem dX2_wordOf_5 : decode cX2_wordOf 5 = .ok (.ifCond .lt 21, 3) := by decide +kernel
theorem dX2_wordOf_8 : decode cX2_wordOf 8 = .ok (.iload_n 2, 1) := by decide +kernel
theorem dX2_wordOf_9 : decode cX2_wordOf 9 = .ok (.aload_n 0, 1) := by decide +kernel
theorem dX2_wordOf_10 : decode cX2_wordOf 10 = .ok (.getfield 19, 3) := by decide +kernel
theorem dX2_wordOf_13 : decode cX2_wordOf 13 = .ok (.arraylength, 1) := by decide +kernel
theorem dX2_wordOf_14 : decode cX2_wordOf 14 = .ok (.if_icmp .ge 12, 3) := by decide +kernel
theorem dX2_wordOf_17 : decode cX2_wordOf 17 = .ok (.aload_n 0, 1) := by decide +kernel
theorem dX2_wordOf_18 : decode cX2_wordOf 18 = .ok (.getfield 19, 3) := by decide +kernel
theorem dX2_wordOf_21 : decode cX2_wordOf 21 = .ok (.iload_n 2, 1) := by decide +kernel
theorem dX2_wordOf_22 : decode cX2_wordOf 22 = .ok (.iaload, 1) := by decide +kernel
theorem dX2_wordOf_23 : decode cX2_wordOf 23 = .ok (.goto 4, 3) := by decide +kernel
theorem dX2_wordOf_26 : decode cX2_wordOf 26 = .ok (.iconst 0, 1) := by decide +kernel
theorem dX2_wordOf_27 : decode cX2_wordOf 27 = .ok (.ireturn, 1) := by decide +kernel
theorem dX2_joined_0 : decode cX2_joined 0 = .ok (.iload_n 0, 1) := by decide +kernel
theorem dX2_joined_1 : decode cX2_joined 1 = .ok (.lookupswitch 55 #[(-12, 41), (-11, 27)], 27) := by decide +kernel
theorem dX2_joined_28 : decode cX2_joined 28 = .ok (.lload_n 3, 1) := by decide +kernel
theorem dX2_joined_29 : decode cX2_joined 29 = .ok (.lload_n 1, 1) := by decide +kernel
theorem dX2_joined_30 : decode cX2_joined 30 = .ok (.ladd, 1) := by decide +kernel
theorem dX2_joined_31 : decode cX2_joined 31 = .ok (.ldc2_w 64, 3) := by decide +kernel
theorem dX2_joined_34 : decode cX2_joined 34 = .ok (.ldc2_w 66, 3) := by decide +kernel
theorem dX2_joined_37 : decode cX2_joined 37 = .ok (.invokestatic 60, 3) := by decide +kernel
theorem dX2_joined_40 : decode cX2_joined 40 = .ok (.l2i, 1) := by decide +kernel
theorem dX2_joined_41 : decode cX2_joined 41 = .ok (.ireturn, 1) := by decide +kernel
theorem dX2_joined_42 : decode cX2_joined 42 = .ok (.lload_n 3, 1) := by decide +kernel
theorem dX2_joined_43 : decode cX2_joined 43 = .ok (.lload_n 1, 1) := by decide +kernel
theorem dX2_joined_44 : decode cX2_joined 44 = .ok (.lsub, 1) := by decide +kernel
theorem dX2_joined_45 : decode cX2_joined 45 = .ok (.ldc2_w 64, 3) := by decide +kernel
theorem dX2_joined_48 : decode cX2_joined 48 = .ok (.ldc2_w 66, 3) := by decide +kernel
theorem dX2_joined_51 : decode cX2_joined 51 = .ok (.invokestatic 60, 3) := by decide +kernel
theorem dX2_joined_54 : decode cX2_joined 54 = .ok (.l2i, 1) := by decide +kernel
theorem dX2_joined_55 : decode cX2_joined 55 = .ok (.ireturn, 1) := by decide +kernel
theorem dX2_joined_56 : decode cX2_joined 56 = .ok (.lload_n 3, 1) := by decide +kernel
theorem dX2_joined_57 : decode cX2_joined 57 = .ok (.lload_n 1, 1) := by decide +kernel
theorem dX2_joined_58 : decode cX2_joined 58 = .ok (.lmul, 1) := by decide +kernel
theorem dX2_joined_59 : decode cX2_joined 59 = .ok (.ldc2_w 64, 3) := by decide +kernel
theorem dX2_joined_62 : decode cX2_joined 62 = .ok (.ldc2_w 66, 3) := by decide +kernel
theorem dX2_joined_65 : decode cX2_joined 65 = .ok (.invokestatic 60, 3) := by decide +kernel
theorem dX2_joined_68 : decode cX2_joined 68 = .ok (.l2i, 1) := by decide +kernel
theorem dX2_joined_69 : decode cX2_joined 69 = .ok (.ireturn, 1) := by decide +kernel
theorem dX2_clamp_0 : decode cX2_clamp 0 = .ok (.lload_n 2, 1) := by decide +kernel
theorem dX2_clamp_1 : decode cX2_clamp 1 = .ok (.lload 4, 2) := by decide +kernel
theorem dX2_clamp_3 : decode cX2_clamp 3 = .ok (.lload_n 0, 1) := by decide +kernel
theorem dX2_clamp_4 : decode cX2_clamp 4 = .ok (.invokestatic 68, 3) := by decide +kernel
theorem dX2_clamp_7 : decode cX2_clamp 7 = .ok (.invokestatic 74, 3) := by decide +kernel
theorem dX2_clamp_10 : decode cX2_clamp 10 = .ok (.lreturn, 1) := by decide +kernel
theorem dX2_bindsAtLeast_0 : decode cX2_bindsAtLeast 0 = .ok (.iload_n 0, 1) := by decide +kernel
theorem dX2_bindsAtLeast_1 : decode cX2_bindsAtLeast 1 = .ok (.bipush (-14), 2) := by decide +kernel
theorem dX2_bindsAtLeast_3 : decode cX2_bindsAtLeast 3 = .ok (.if_icmp .eq 19, 3) := by decide +kernel
theorem dX2_bindsAtLeast_6 : decode cX2_bindsAtLeast 6 = .ok (.iload_n 0, 1) := by decide +kernel
theorem dX2_bindsAtLeast_7 : decode cX2_bindsAtLeast 7 = .ok (.bipush (-13), 2) := by decide +kernel
theorem dX2_bindsAtLeast_9 : decode cX2_bindsAtLeast 9 = .ok (.if_icmp .eq 9, 3) := by decide +kernel
theorem dX2_bindsAtLeast_12 : decode cX2_bindsAtLeast 12 = .ok (.iload_n 1, 1) := by decide +kernel
theorem dX2_bindsAtLeast_13 : decode cX2_bindsAtLeast 13 = .ok (.bipush (-13), 2) := by decide +kernel
theorem dX2_bindsAtLeast_15 : decode cX2_bindsAtLeast 15 = .ok (.if_icmp .eq 7, 3) := by decide +kernel
theorem dX2_bindsAtLeast_18 : decode cX2_bindsAtLeast 18 = .ok (.iconst 1, 1) := by decide +kernel
theorem dX2_bindsAtLeast_19 : decode cX2_bindsAtLeast 19 = .ok (.goto 4, 3) := by decide +kernel
theorem dX2_bindsAtLeast_22 : decode cX2_bindsAtLeast 22 = .ok (.iconst 0, 1) := by decide +kernel
theorem dX2_bindsAtLeast_23 : decode cX2_bindsAtLeast 23 = .ok (.ireturn, 1) := by decide +kernel
theorem dX2_emit_0 : decode cX2_emit 0 = .ok (.aload_n 0, 1) := by decide +kernel
theorem dX2_emit_1 : decode cX2_emit 1 = .ok (.getfield 26, 3) := by decide +kernel
theorem dX2_emit_4 : decode cX2_emit 4 = .ok (.aload_n 0, 1) := by decide +kernel
theorem dX2_emit_5 : decode cX2_emit 5 = .ok (.getfield 23, 3) := by decide +kernel
theorem dX2_emit_8 : decode cX2_emit 8 = .ok (.arraylength, 1) := by decide +kernel
theorem dX2_emit_9 : decode cX2_emit 9 = .ok (.if_icmp .ge 20, 3) := by decide +kernel
theorem dX2_emit_12 : decode cX2_emit 12 = .ok (.aload_n 0, 1) := by decide +kernel
theorem dX2_emit_13 : decode cX2_emit 13 = .ok (.getfield 23, 3) := by decide +kernel
theorem dX2_emit_16 : decode cX2_emit 16 = .ok (.aload_n 0, 1) := by decide +kernel
theorem dX2_emit_17 : decode cX2_emit 17 = .ok (.dup, 1) := by decide +kernel
theorem dX2_emit_18 : decode cX2_emit 18 = .ok (.getfield 26, 3) := by decide +kernel
theorem dX2_emit_21 : decode cX2_emit 21 = .ok (.dup_x1, 1) := by decide +kernel
theorem dX2_emit_22 : decode cX2_emit 22 = .ok (.iconst 1, 1) := by decide +kernel
theorem dX2_emit_23 : decode cX2_emit 23 = .ok (.iadd, 1) := by decide +kernel
theorem dX2_emit_24 : decode cX2_emit 24 = .ok (.putfield 26, 3) := by decide +kernel
theorem dX2_emit_27 : decode cX2_emit 27 = .ok (.iload_n 1, 1) := by decide +kernel
theorem dX2_emit_28 : decode cX2_emit 28 = .ok (.iastore, 1) := by decide +kernel
theorem dX2_emit_29 : decode cX2_emit 29 = .ok (.return_, 1) := by decide +kernel
theorem dX2_push_0 : decode cX2_push 0 = .ok (.aload_n 0, 1) := by decide +kernel
theorem dX2_push_1 : decode cX2_push 1 = .ok (.getfield 32, 3) := by decide +kernel
theorem dX2_push_4 : decode cX2_push 4 = .ok (.aload_n 0, 1) := by decide +kernel
theorem dX2_push_5 : decode cX2_push 5 = .ok (.getfield 29, 3) := by decide +kernel
theorem dX2_push_8 : decode cX2_push 8 = .ok (.arraylength, 1) := by decide +kernel
theorem dX2_push_9 : decode cX2_push 9 = .ok (.if_icmp .ge 20, 3) := by decide +kernel
theorem dX2_push_12 : decode cX2_push 12 = .ok (.aload_n 0, 1) := by decide +kernel
theorem dX2_push_13 : decode cX2_push 13 = .ok (.getfield 29, 3) := by decide +kernel
theorem dX2_push_16 : decode cX2_push 16 = .ok (.aload_n 0, 1) := by decide +kernel
theorem dX2_push_17 : decode cX2_push 17 = .ok (.dup, 1) := by decide +kernel
theorem dX2_push_18 : decode cX2_push 18 = .ok (.getfield 32, 3) := by decide +kernel
theorem dX2_push_21 : decode cX2_push 21 = .ok (.dup_x1, 1) := by decide +kernel
theorem dX2_push_22 : decode cX2_push 22 = .ok (.iconst 1, 1) := by decide +kernel
theorem dX2_push_23 : decode cX2_push 23 = .ok (.iadd, 1) := by decide +kernel
theorem dX2_push_24 : decode cX2_push 24 = .ok (.putfield 32, 3) := by decide +kernel
theorem dX2_push_27 : decode cX2_push 27 = .ok (.iload_n 1, 1) := by decide +kernel
theorem dX2_push_28 : decode cX2_push 28 = .ok (.iastore, 1) := by decide +kernel
theorem dX2_push_29 : decode cX2_push 29 = .ok (.return_, 1) := by decide +kernel
theorem dX2_pop_0 : decode cX2_pop 0 = .ok (.aload_n 0, 1) := by decide +kernel
theorem dX2_pop_1 : decode cX2_pop 1 = .ok (.getfield 32, 3) := by decide +kernel
theorem dX2_pop_4 : decode cX2_pop 4 = .ok (.ifCond .le 22, 3) := by decide +kernel
theorem dX2_pop_7 : decode cX2_pop 7 = .ok (.aload_n 0, 1) := by decide +kernel
theorem dX2_pop_8 : decode cX2_pop 8 = .ok (.getfield 29, 3) := by decide +kernel
theorem dX2_pop_11 : decode cX2_pop 11 = .ok (.aload_n 0, 1) := by decide +kernel
theorem dX2_pop_12 : decode cX2_pop 12 = .ok (.dup, 1) := by decide +kernel
theorem dX2_pop_13 : decode cX2_pop 13 = .ok (.getfield 32, 3) := by decide +kernel
theorem dX2_pop_16 : decode cX2_pop 16 = .ok (.iconst 1, 1) := by decide +kernel
theorem dX2_pop_17 : decode cX2_pop 17 = .ok (.isub, 1) := by decide +kernel
theorem dX2_pop_18 : decode cX2_pop 18 = .ok (.dup_x1, 1) := by decide +kernel
theorem dX2_pop_19 : decode cX2_pop 19 = .ok (.putfield 32, 3) := by decide +kernel
theorem dX2_pop_22 : decode cX2_pop 22 = .ok (.iaload, 1) := by decide +kernel
theorem dX2_pop_23 : decode cX2_pop 23 = .ok (.goto 4, 3) := by decide +kernel
theorem dX2_pop_26 : decode cX2_pop 26 = .ok (.iconst 0, 1) := by decide +kernel
theorem dX2_pop_27 : decode cX2_pop 27 = .ok (.ireturn, 1) := by decide +kernel
theorem dX8_init_0 : decode cX8_init 0 = .ok (.aload_n 0, 1) := by decide +kernel
theorem dX8_init_1 : decode cX8_init 1 = .ok (.invokespecial 1, 3) := by decide +kernel
theorem dX8_init_4 : decode cX8_init 4 = .ok (.aload_n 0, 1) := by decide +kernel
theorem dX8_init_5 : decode cX8_init 5 = .ok (.iconst 0, 1) := by decide +kernel
theorem dX8_init_6 : decode cX8_init 6 = .ok (.newarray .byte, 2) := by decide +kernel
theorem dX8_init_8 : decode cX8_init 8 = .ok (.putfield 7, 3) := by decide +kernel
theorem dX8_init_11 : decode cX8_init 11 = .ok (.aload_n 0, 1) := by decide +kernel
theorem dX8_init_12 : decode cX8_init 12 = .ok (.iconst 0, 1) := by decide +kernel
theorem dX8_init_13 : decode cX8_init 13 = .ok (.putfield 13, 3) := by decide +kernel
theorem dX8_init_16 : decode cX8_init 16 = .ok (.aload_n 0, 1) := by decide +kernel
theorem dX8_init_17 : decode cX8_init 17 = .ok (.iconst 0, 1) := by decide +kernel
theorem dX8_init_18 : decode cX8_init 18 = .ok (.putfield 17, 3) := by decide +kernel
theorem dX8_init_21 : decode cX8_init 21 = .ok (.aload_n 0, 1) := by decide +kernel
theorem dX8_init_22 : decode cX8_init 22 = .ok (.iconst 0, 1) := by decide +kernel
theorem dX8_init_23 : decode cX8_init 23 = .ok (.putfield 20, 3) := by decide +kernel
theorem dX8_init_26 : decode cX8_init 26 = .ok (.aload_n 0, 1) := by decide +kernel
theorem dX8_init_27 : decode cX8_init 27 = .ok (.iconst 0, 1) := by decide +kernel
theorem dX8_init_28 : decode cX8_init 28 = .ok (.putfield 23, 3) := by decide +kernel
theorem dX8_init_31 : decode cX8_init 31 = .ok (.aload_n 0, 1) := by decide +kernel
theorem dX8_init_32 : decode cX8_init 32 = .ok (.iconst 0, 1) := by decide +kernel
theorem dX8_init_33 : decode cX8_init 33 = .ok (.putfield 26, 3) := by decide +kernel
theorem dX8_init_36 : decode cX8_init 36 = .ok (.return_, 1) := by decide +kernel
theorem dX8_begin_0 : decode cX8_begin 0 = .ok (.aload_n 0, 1) := by decide +kernel
theorem dX8_begin_1 : decode cX8_begin 1 = .ok (.aload_n 1, 1) := by decide +kernel
theorem dX8_begin_2 : decode cX8_begin 2 = .ok (.putfield 7, 3) := by decide +kernel
theorem dX8_begin_5 : decode cX8_begin 5 = .ok (.aload_n 0, 1) := by decide +kernel
theorem dX8_begin_6 : decode cX8_begin 6 = .ok (.iload_n 2, 1) := by decide +kernel
theorem dX8_begin_7 : decode cX8_begin 7 = .ok (.aload_n 1, 1) := by decide +kernel
theorem dX8_begin_8 : decode cX8_begin 8 = .ok (.arraylength, 1) := by decide +kernel
theorem dX8_begin_9 : decode cX8_begin 9 = .ok (.invokestatic 29, 3) := by decide +kernel
theorem dX8_begin_12 : decode cX8_begin 12 = .ok (.putfield 13, 3) := by decide +kernel
theorem dX8_begin_15 : decode cX8_begin 15 = .ok (.aload_n 0, 1) := by decide +kernel
theorem dX8_begin_16 : decode cX8_begin 16 = .ok (.iconst 0, 1) := by decide +kernel
theorem dX8_begin_17 : decode cX8_begin 17 = .ok (.putfield 17, 3) := by decide +kernel
theorem dX8_begin_20 : decode cX8_begin 20 = .ok (.aload_n 0, 1) := by decide +kernel
theorem dX8_begin_21 : decode cX8_begin 21 = .ok (.invokevirtual 35, 3) := by decide +kernel
theorem dX8_begin_24 : decode cX8_begin 24 = .ok (.return_, 1) := by decide +kernel
theorem dX8_next_0 : decode cX8_next 0 = .ok (.aload_n 0, 1) := by decide +kernel
theorem dX8_next_1 : decode cX8_next 1 = .ok (.getfield 17, 3) := by decide +kernel
theorem dX8_next_4 : decode cX8_next 4 = .ok (.aload_n 0, 1) := by decide +kernel
theorem dX8_next_5 : decode cX8_next 5 = .ok (.getfield 13, 3) := by decide +kernel
theorem dX8_next_8 : decode cX8_next 8 = .ok (.if_icmp .ge 44, 3) := by decide +kernel
theorem dX8_next_11 : decode cX8_next 11 = .ok (.aload_n 0, 1) := by decide +kernel
theorem dX8_next_12 : decode cX8_next 12 = .ok (.getfield 7, 3) := by decide +kernel
theorem dX8_next_15 : decode cX8_next 15 = .ok (.aload_n 0, 1) := by decide +kernel
theorem dX8_next_16 : decode cX8_next 16 = .ok (.getfield 17, 3) := by decide +kernel
theorem dX8_next_19 : decode cX8_next 19 = .ok (.baload, 1) := by decide +kernel
theorem dX8_next_20 : decode cX8_next 20 = .ok (.bipush 10, 2) := by decide +kernel
theorem dX8_next_22 : decode cX8_next 22 = .ok (.if_icmp .eq 17, 3) := by decide +kernel
theorem dX8_next_25 : decode cX8_next 25 = .ok (.aload_n 0, 1) := by decide +kernel
theorem dX8_next_26 : decode cX8_next 26 = .ok (.getfield 7, 3) := by decide +kernel
theorem dX8_next_29 : decode cX8_next 29 = .ok (.aload_n 0, 1) := by decide +kernel
theorem dX8_next_30 : decode cX8_next 30 = .ok (.getfield 17, 3) := by decide +kernel
theorem dX8_next_33 : decode cX8_next 33 = .ok (.baload, 1) := by decide +kernel
theorem dX8_next_34 : decode cX8_next 34 = .ok (.bipush 32, 2) := by decide +kernel
theorem dX8_next_36 : decode cX8_next 36 = .ok (.if_icmp .ne 16, 3) := by decide +kernel
theorem dX8_next_39 : decode cX8_next 39 = .ok (.aload_n 0, 1) := by decide +kernel
theorem dX8_next_40 : decode cX8_next 40 = .ok (.dup, 1) := by decide +kernel
theorem dX8_next_41 : decode cX8_next 41 = .ok (.getfield 17, 3) := by decide +kernel
theorem dX8_next_44 : decode cX8_next 44 = .ok (.iconst 1, 1) := by decide +kernel
theorem dX8_next_45 : decode cX8_next 45 = .ok (.iadd, 1) := by decide +kernel
theorem dX8_next_46 : decode cX8_next 46 = .ok (.putfield 17, 3) := by decide +kernel
theorem dX8_next_49 : decode cX8_next 49 = .ok (.goto (-49), 3) := by decide +kernel
theorem dX8_next_52 : decode cX8_next 52 = .ok (.aload_n 0, 1) := by decide +kernel
theorem dX8_next_53 : decode cX8_next 53 = .ok (.aload_n 0, 1) := by decide +kernel
theorem dX8_next_54 : decode cX8_next 54 = .ok (.getfield 17, 3) := by decide +kernel
theorem dX8_next_57 : decode cX8_next 57 = .ok (.putfield 23, 3) := by decide +kernel
theorem dX8_next_60 : decode cX8_next 60 = .ok (.aload_n 0, 1) := by decide +kernel
theorem dX8_next_61 : decode cX8_next 61 = .ok (.iconst 0, 1) := by decide +kernel
theorem dX8_next_62 : decode cX8_next 62 = .ok (.putfield 26, 3) := by decide +kernel
theorem dX8_next_65 : decode cX8_next 65 = .ok (.aload_n 0, 1) := by decide +kernel
theorem dX8_next_66 : decode cX8_next 66 = .ok (.iconst 0, 1) := by decide +kernel
theorem dX8_next_67 : decode cX8_next 67 = .ok (.putfield 20, 3) := by decide +kernel
theorem dX8_next_70 : decode cX8_next 70 = .ok (.aload_n 0, 1) := by decide +kernel
theorem dX8_next_71 : decode cX8_next 71 = .ok (.getfield 17, 3) := by decide +kernel
theorem dX8_next_74 : decode cX8_next 74 = .ok (.aload_n 0, 1) := by decide +kernel
theorem dX8_next_75 : decode cX8_next 75 = .ok (.getfield 13, 3) := by decide +kernel
theorem dX8_next_78 : decode cX8_next 78 = .ok (.if_icmp .lt 4, 3) := by decide +kernel
theorem dX8_next_81 : decode cX8_next 81 = .ok (.return_, 1) := by decide +kernel
theorem dX8_next_82 : decode cX8_next 82 = .ok (.aload_n 0, 1) := by decide +kernel
theorem dX8_next_83 : decode cX8_next 83 = .ok (.getfield 7, 3) := by decide +kernel
theorem dX8_next_86 : decode cX8_next 86 = .ok (.aload_n 0, 1) := by decide +kernel
theorem dX8_next_87 : decode cX8_next 87 = .ok (.dup, 1) := by decide +kernel
theorem dX8_next_88 : decode cX8_next 88 = .ok (.getfield 17, 3) := by decide +kernel
theorem dX8_next_91 : decode cX8_next 91 = .ok (.dup_x1, 1) := by decide +kernel
theorem dX8_next_92 : decode cX8_next 92 = .ok (.iconst 1, 1) := by decide +kernel
theorem dX8_next_93 : decode cX8_next 93 = .ok (.iadd, 1) := by decide +kernel
theorem dX8_next_94 : decode cX8_next 94 = .ok (.putfield 17, 3) := by decide +kernel
theorem dX8_next_97 : decode cX8_next 97 = .ok (.baload, 1) := by decide +kernel
theorem dX8_next_98 : decode cX8_next 98 = .ok (.istore_n 1, 1) := by decide +kernel
theorem dX8_next_99 : decode cX8_next 99 = .ok (.iload_n 1, 1) := by decide +kernel
theorem dX8_next_100 : decode cX8_next 100 = .ok (.bipush 97, 2) := by decide +kernel
theorem dX8_next_102 : decode cX8_next 102 = .ok (.if_icmp .lt 69, 3) := by decide +kernel
theorem dX8_next_105 : decode cX8_next 105 = .ok (.iload_n 1, 1) := by decide +kernel
theorem dX8_next_106 : decode cX8_next 106 = .ok (.bipush 122, 2) := by decide +kernel
theorem dX8_next_108 : decode cX8_next 108 = .ok (.if_icmp .gt 63, 3) := by decide +kernel
theorem dX8_next_111 : decode cX8_next 111 = .ok (.aload_n 0, 1) := by decide +kernel
theorem dX8_next_112 : decode cX8_next 112 = .ok (.getfield 17, 3) := by decide +kernel
theorem dX8_next_115 : decode cX8_next 115 = .ok (.aload_n 0, 1) := by decide +kernel
theorem dX8_next_116 : decode cX8_next 116 = .ok (.getfield 13, 3) := by decide +kernel
theorem dX8_next_119 : decode cX8_next 119 = .ok (.if_icmp .ge 44, 3) := by decide +kernel
theorem dX8_next_122 : decode cX8_next 122 = .ok (.aload_n 0, 1) := by decide +kernel
theorem dX8_next_123 : decode cX8_next 123 = .ok (.getfield 7, 3) := by decide +kernel
theorem dX8_next_126 : decode cX8_next 126 = .ok (.aload_n 0, 1) := by decide +kernel
theorem dX8_next_127 : decode cX8_next 127 = .ok (.getfield 17, 3) := by decide +kernel
theorem dX8_next_130 : decode cX8_next 130 = .ok (.baload, 1) := by decide +kernel
theorem dX8_next_131 : decode cX8_next 131 = .ok (.bipush 97, 2) := by decide +kernel
theorem dX8_next_133 : decode cX8_next 133 = .ok (.if_icmp .lt 30, 3) := by decide +kernel
theorem dX8_next_136 : decode cX8_next 136 = .ok (.aload_n 0, 1) := by decide +kernel
theorem dX8_next_137 : decode cX8_next 137 = .ok (.getfield 7, 3) := by decide +kernel
theorem dX8_next_140 : decode cX8_next 140 = .ok (.aload_n 0, 1) := by decide +kernel
theorem dX8_next_141 : decode cX8_next 141 = .ok (.getfield 17, 3) := by decide +kernel
theorem dX8_next_144 : decode cX8_next 144 = .ok (.baload, 1) := by decide +kernel
theorem dX8_next_145 : decode cX8_next 145 = .ok (.bipush 122, 2) := by decide +kernel
theorem dX8_next_147 : decode cX8_next 147 = .ok (.if_icmp .gt 16, 3) := by decide +kernel
theorem dX8_next_150 : decode cX8_next 150 = .ok (.aload_n 0, 1) := by decide +kernel
theorem dX8_next_151 : decode cX8_next 151 = .ok (.dup, 1) := by decide +kernel
theorem dX8_next_152 : decode cX8_next 152 = .ok (.getfield 17, 3) := by decide +kernel
theorem dX8_next_155 : decode cX8_next 155 = .ok (.iconst 1, 1) := by decide +kernel
theorem dX8_next_156 : decode cX8_next 156 = .ok (.iadd, 1) := by decide +kernel
theorem dX8_next_157 : decode cX8_next 157 = .ok (.putfield 17, 3) := by decide +kernel
theorem dX8_next_160 : decode cX8_next 160 = .ok (.goto (-49), 3) := by decide +kernel
theorem dX8_next_163 : decode cX8_next 163 = .ok (.aload_n 0, 1) := by decide +kernel
theorem dX8_next_164 : decode cX8_next 164 = .ok (.iconst 1, 1) := by decide +kernel
theorem dX8_next_165 : decode cX8_next 165 = .ok (.putfield 20, 3) := by decide +kernel
theorem dX8_next_168 : decode cX8_next 168 = .ok (.goto 208, 3) := by decide +kernel
theorem dX8_next_171 : decode cX8_next 171 = .ok (.iload_n 1, 1) := by decide +kernel
theorem dX8_next_172 : decode cX8_next 172 = .ok (.bipush 48, 2) := by decide +kernel
theorem dX8_next_174 : decode cX8_next 174 = .ok (.if_icmp .lt 131, 3) := by decide +kernel
theorem dX8_next_177 : decode cX8_next 177 = .ok (.iload_n 1, 1) := by decide +kernel
theorem dX8_next_178 : decode cX8_next 178 = .ok (.bipush 57, 2) := by decide +kernel
theorem dX8_next_180 : decode cX8_next 180 = .ok (.if_icmp .gt 125, 3) := by decide +kernel
theorem dX8_next_183 : decode cX8_next 183 = .ok (.aload_n 0, 1) := by decide +kernel
theorem dX8_next_184 : decode cX8_next 184 = .ok (.iload_n 1, 1) := by decide +kernel
theorem dX8_next_185 : decode cX8_next 185 = .ok (.bipush 48, 2) := by decide +kernel
theorem dX8_next_187 : decode cX8_next 187 = .ok (.isub, 1) := by decide +kernel
theorem dX8_next_188 : decode cX8_next 188 = .ok (.putfield 26, 3) := by decide +kernel
theorem dX8_next_191 : decode cX8_next 191 = .ok (.aload_n 0, 1) := by decide +kernel
theorem dX8_next_192 : decode cX8_next 192 = .ok (.getfield 17, 3) := by decide +kernel
theorem dX8_next_195 : decode cX8_next 195 = .ok (.aload_n 0, 1) := by decide +kernel
theorem dX8_next_196 : decode cX8_next 196 = .ok (.getfield 13, 3) := by decide +kernel
theorem dX8_next_199 : decode cX8_next 199 = .ok (.if_icmp .ge 81, 3) := by decide +kernel
theorem dX8_next_202 : decode cX8_next 202 = .ok (.aload_n 0, 1) := by decide +kernel
theorem dX8_next_203 : decode cX8_next 203 = .ok (.getfield 7, 3) := by decide +kernel
theorem dX8_next_206 : decode cX8_next 206 = .ok (.aload_n 0, 1) := by decide +kernel
theorem dX8_next_207 : decode cX8_next 207 = .ok (.getfield 17, 3) := by decide +kernel
theorem dX8_next_210 : decode cX8_next 210 = .ok (.baload, 1) := by decide +kernel
theorem dX8_next_211 : decode cX8_next 211 = .ok (.bipush 48, 2) := by decide +kernel
theorem dX8_next_213 : decode cX8_next 213 = .ok (.if_icmp .lt 67, 3) := by decide +kernel
theorem dX8_next_216 : decode cX8_next 216 = .ok (.aload_n 0, 1) := by decide +kernel
theorem dX8_next_217 : decode cX8_next 217 = .ok (.getfield 7, 3) := by decide +kernel
theorem dX8_next_220 : decode cX8_next 220 = .ok (.aload_n 0, 1) := by decide +kernel
theorem dX8_next_221 : decode cX8_next 221 = .ok (.getfield 17, 3) := by decide +kernel
theorem dX8_next_224 : decode cX8_next 224 = .ok (.baload, 1) := by decide +kernel
theorem dX8_next_225 : decode cX8_next 225 = .ok (.bipush 57, 2) := by decide +kernel
theorem dX8_next_227 : decode cX8_next 227 = .ok (.if_icmp .gt 53, 3) := by decide +kernel
theorem dX8_next_230 : decode cX8_next 230 = .ok (.aload_n 0, 1) := by decide +kernel
theorem dX8_next_231 : decode cX8_next 231 = .ok (.getfield 17, 3) := by decide +kernel
theorem dX8_next_234 : decode cX8_next 234 = .ok (.aload_n 0, 1) := by decide +kernel
theorem dX8_next_235 : decode cX8_next 235 = .ok (.getfield 23, 3) := by decide +kernel
theorem dX8_next_238 : decode cX8_next 238 = .ok (.isub, 1) := by decide +kernel
theorem dX8_next_239 : decode cX8_next 239 = .ok (.iconst 3, 1) := by decide +kernel
theorem dX8_next_240 : decode cX8_next 240 = .ok (.if_icmp .ge 27, 3) := by decide +kernel
theorem dX8_next_243 : decode cX8_next 243 = .ok (.aload_n 0, 1) := by decide +kernel
theorem dX8_next_244 : decode cX8_next 244 = .ok (.aload_n 0, 1) := by decide +kernel
theorem dX8_next_245 : decode cX8_next 245 = .ok (.getfield 26, 3) := by decide +kernel
theorem dX8_next_248 : decode cX8_next 248 = .ok (.bipush 10, 2) := by decide +kernel
theorem dX8_next_250 : decode cX8_next 250 = .ok (.imul, 1) := by decide +kernel
theorem dX8_next_251 : decode cX8_next 251 = .ok (.aload_n 0, 1) := by decide +kernel
theorem dX8_next_252 : decode cX8_next 252 = .ok (.getfield 7, 3) := by decide +kernel
theorem dX8_next_255 : decode cX8_next 255 = .ok (.aload_n 0, 1) := by decide +kernel
theorem dX8_next_256 : decode cX8_next 256 = .ok (.getfield 17, 3) := by decide +kernel
theorem dX8_next_259 : decode cX8_next 259 = .ok (.baload, 1) := by decide +kernel
theorem dX8_next_260 : decode cX8_next 260 = .ok (.iadd, 1) := by decide +kernel
theorem dX8_next_261 : decode cX8_next 261 = .ok (.bipush 48, 2) := by decide +kernel
theorem dX8_next_263 : decode cX8_next 263 = .ok (.isub, 1) := by decide +kernel
theorem dX8_next_264 : decode cX8_next 264 = .ok (.putfield 26, 3) := by decide +kernel
theorem dX8_next_267 : decode cX8_next 267 = .ok (.aload_n 0, 1) := by decide +kernel
theorem dX8_next_268 : decode cX8_next 268 = .ok (.dup, 1) := by decide +kernel
theorem dX8_next_269 : decode cX8_next 269 = .ok (.getfield 17, 3) := by decide +kernel
theorem dX8_next_272 : decode cX8_next 272 = .ok (.iconst 1, 1) := by decide +kernel
theorem dX8_next_273 : decode cX8_next 273 = .ok (.iadd, 1) := by decide +kernel
theorem dX8_next_274 : decode cX8_next 274 = .ok (.putfield 17, 3) := by decide +kernel
theorem dX8_next_277 : decode cX8_next 277 = .ok (.goto (-86), 3) := by decide +kernel
theorem dX8_next_280 : decode cX8_next 280 = .ok (.aload_n 0, 1) := by decide +kernel
theorem dX8_next_281 : decode cX8_next 281 = .ok (.aload_n 0, 1) := by decide +kernel
theorem dX8_next_282 : decode cX8_next 282 = .ok (.getfield 17, 3) := by decide +kernel
theorem dX8_next_285 : decode cX8_next 285 = .ok (.aload_n 0, 1) := by decide +kernel
theorem dX8_next_286 : decode cX8_next 286 = .ok (.getfield 23, 3) := by decide +kernel
theorem dX8_next_289 : decode cX8_next 289 = .ok (.isub, 1) := by decide +kernel
theorem dX8_next_290 : decode cX8_next 290 = .ok (.iconst 3, 1) := by decide +kernel
theorem dX8_next_291 : decode cX8_next 291 = .ok (.if_icmp .le 7, 3) := by decide +kernel
theorem dX8_next_294 : decode cX8_next 294 = .ok (.iconst 4, 1) := by decide +kernel
theorem dX8_next_295 : decode cX8_next 295 = .ok (.goto 4, 3) := by decide +kernel
theorem dX8_next_298 : decode cX8_next 298 = .ok (.iconst 2, 1) := by decide +kernel
theorem dX8_next_299 : decode cX8_next 299 = .ok (.putfield 20, 3) := by decide +kernel
theorem dX8_next_302 : decode cX8_next 302 = .ok (.goto 74, 3) := by decide +kernel
theorem dX8_next_305 : decode cX8_next 305 = .ok (.iload_n 1, 1) := by decide +kernel
theorem dX8_next_306 : decode cX8_next 306 = .ok (.bipush 43, 2) := by decide +kernel
theorem dX8_next_308 : decode cX8_next 308 = .ok (.if_icmp .eq 15, 3) := by decide +kernel
theorem dX8_next_311 : decode cX8_next 311 = .ok (.iload_n 1, 1) := by decide +kernel
theorem dX8_next_312 : decode cX8_next 312 = .ok (.bipush 45, 2) := by decide +kernel
theorem dX8_next_314 : decode cX8_next 314 = .ok (.if_icmp .eq 9, 3) := by decide +kernel
theorem dX8_next_317 : decode cX8_next 317 = .ok (.iload_n 1, 1) := by decide +kernel
theorem dX8_next_318 : decode cX8_next 318 = .ok (.bipush 42, 2) := by decide +kernel
theorem dX8_next_320 : decode cX8_next 320 = .ok (.if_icmp .ne 7, 3) := by decide +kernel
theorem dX8_next_323 : decode cX8_next 323 = .ok (.iconst 1, 1) := by decide +kernel
theorem dX8_next_324 : decode cX8_next 324 = .ok (.goto 4, 3) := by decide +kernel
theorem dX8_next_327 : decode cX8_next 327 = .ok (.iconst 0, 1) := by decide +kernel
theorem dX8_next_328 : decode cX8_next 328 = .ok (.istore_n 2, 1) := by decide +kernel
theorem dX8_next_329 : decode cX8_next 329 = .ok (.iload_n 1, 1) := by decide +kernel
theorem dX8_next_330 : decode cX8_next 330 = .ok (.bipush 59, 2) := by decide +kernel
theorem dX8_next_332 : decode cX8_next 332 = .ok (.if_icmp .eq 21, 3) := by decide +kernel
theorem dX8_next_335 : decode cX8_next 335 = .ok (.iload_n 1, 1) := by decide +kernel
theorem dX8_next_336 : decode cX8_next 336 = .ok (.bipush 58, 2) := by decide +kernel
theorem dX8_next_338 : decode cX8_next 338 = .ok (.if_icmp .eq 15, 3) := by decide +kernel
theorem dX8_next_341 : decode cX8_next 341 = .ok (.iload_n 1, 1) := by decide +kernel
theorem dX8_next_342 : decode cX8_next 342 = .ok (.bipush 40, 2) := by decide +kernel
theorem dX8_next_344 : decode cX8_next 344 = .ok (.if_icmp .eq 9, 3) := by decide +kernel
theorem dX8_next_347 : decode cX8_next 347 = .ok (.iload_n 1, 1) := by decide +kernel
theorem dX8_next_348 : decode cX8_next 348 = .ok (.bipush 41, 2) := by decide +kernel
theorem dX8_next_350 : decode cX8_next 350 = .ok (.if_icmp .ne 7, 3) := by decide +kernel
theorem dX8_next_353 : decode cX8_next 353 = .ok (.iconst 1, 1) := by decide +kernel
theorem dX8_next_354 : decode cX8_next 354 = .ok (.goto 4, 3) := by decide +kernel
theorem dX8_next_357 : decode cX8_next 357 = .ok (.iconst 0, 1) := by decide +kernel
theorem dX8_next_358 : decode cX8_next 358 = .ok (.istore_n 3, 1) := by decide +kernel
theorem dX8_next_359 : decode cX8_next 359 = .ok (.aload_n 0, 1) := by decide +kernel
theorem dX8_next_360 : decode cX8_next 360 = .ok (.iload_n 2, 1) := by decide +kernel
theorem dX8_next_361 : decode cX8_next 361 = .ok (.ifCond .ne 7, 3) := by decide +kernel
theorem dX8_next_364 : decode cX8_next 364 = .ok (.iload_n 3, 1) := by decide +kernel
theorem dX8_next_365 : decode cX8_next 365 = .ok (.ifCond .eq 7, 3) := by decide +kernel
theorem dX8_next_368 : decode cX8_next 368 = .ok (.iconst 3, 1) := by decide +kernel
theorem dX8_next_369 : decode cX8_next 369 = .ok (.goto 4, 3) := by decide +kernel
theorem dX8_next_372 : decode cX8_next 372 = .ok (.iconst 4, 1) := by decide +kernel
theorem dX8_next_373 : decode cX8_next 373 = .ok (.putfield 20, 3) := by decide +kernel
theorem dX8_next_376 : decode cX8_next 376 = .ok (.return_, 1) := by decide +kernel
theorem dX8_isWord_0 : decode cX8_isWord 0 = .ok (.aload_n 0, 1) := by decide +kernel
theorem dX8_isWord_1 : decode cX8_isWord 1 = .ok (.getfield 20, 3) := by decide +kernel
theorem dX8_isWord_4 : decode cX8_isWord 4 = .ok (.iconst 1, 1) := by decide +kernel
theorem dX8_isWord_5 : decode cX8_isWord 5 = .ok (.if_icmp .ne 19, 3) := by decide +kernel
theorem dX8_isWord_8 : decode cX8_isWord 8 = .ok (.aload_n 0, 1) := by decide +kernel
theorem dX8_isWord_9 : decode cX8_isWord 9 = .ok (.getfield 17, 3) := by decide +kernel
theorem dX8_isWord_12 : decode cX8_isWord 12 = .ok (.aload_n 0, 1) := by decide +kernel
theorem dX8_isWord_13 : decode cX8_isWord 13 = .ok (.getfield 23, 3) := by decide +kernel
theorem dX8_isWord_16 : decode cX8_isWord 16 = .ok (.isub, 1) := by decide +kernel
theorem dX8_isWord_17 : decode cX8_isWord 17 = .ok (.aload_n 1, 1) := by decide +kernel
theorem dX8_isWord_18 : decode cX8_isWord 18 = .ok (.invokevirtual 38, 3) := by decide +kernel
theorem dX8_isWord_21 : decode cX8_isWord 21 = .ok (.if_icmp .eq 5, 3) := by decide +kernel
theorem dX8_isWord_24 : decode cX8_isWord 24 = .ok (.iconst 0, 1) := by decide +kernel
theorem dX8_isWord_25 : decode cX8_isWord 25 = .ok (.ireturn, 1) := by decide +kernel
theorem dX8_isWord_26 : decode cX8_isWord 26 = .ok (.iconst 0, 1) := by decide +kernel
theorem dX8_isWord_27 : decode cX8_isWord 27 = .ok (.istore_n 2, 1) := by decide +kernel
theorem dX8_isWord_28 : decode cX8_isWord 28 = .ok (.iload_n 2, 1) := by decide +kernel
theorem dX8_isWord_29 : decode cX8_isWord 29 = .ok (.aload_n 1, 1) := by decide +kernel
theorem dX8_isWord_30 : decode cX8_isWord 30 = .ok (.invokevirtual 38, 3) := by decide +kernel
theorem dX8_isWord_33 : decode cX8_isWord 33 = .ok (.if_icmp .ge 30, 3) := by decide +kernel
theorem dX8_isWord_36 : decode cX8_isWord 36 = .ok (.aload_n 0, 1) := by decide +kernel
theorem dX8_isWord_37 : decode cX8_isWord 37 = .ok (.getfield 7, 3) := by decide +kernel
theorem dX8_isWord_40 : decode cX8_isWord 40 = .ok (.aload_n 0, 1) := by decide +kernel
theorem dX8_isWord_41 : decode cX8_isWord 41 = .ok (.getfield 23, 3) := by decide +kernel
theorem dX8_isWord_44 : decode cX8_isWord 44 = .ok (.iload_n 2, 1) := by decide +kernel
theorem dX8_isWord_45 : decode cX8_isWord 45 = .ok (.iadd, 1) := by decide +kernel
theorem dX8_isWord_46 : decode cX8_isWord 46 = .ok (.baload, 1) := by decide +kernel
theorem dX8_isWord_47 : decode cX8_isWord 47 = .ok (.aload_n 1, 1) := by decide +kernel
theorem dX8_isWord_48 : decode cX8_isWord 48 = .ok (.iload_n 2, 1) := by decide +kernel
theorem dX8_isWord_49 : decode cX8_isWord 49 = .ok (.invokevirtual 43, 3) := by decide +kernel
theorem dX8_isWord_52 : decode cX8_isWord 52 = .ok (.if_icmp .eq 5, 3) := by decide +kernel
theorem dX8_isWord_55 : decode cX8_isWord 55 = .ok (.iconst 0, 1) := by decide +kernel
theorem dX8_isWord_56 : decode cX8_isWord 56 = .ok (.ireturn, 1) := by decide +kernel
theorem dX8_isWord_57 : decode cX8_isWord 57 = .ok (.iinc 2 1, 3) := by decide +kernel
theorem dX8_isWord_60 : decode cX8_isWord 60 = .ok (.goto (-32), 3) := by decide +kernel
theorem dX8_isWord_63 : decode cX8_isWord 63 = .ok (.iconst 1, 1) := by decide +kernel
theorem dX8_isWord_64 : decode cX8_isWord 64 = .ok (.ireturn, 1) := by decide +kernel
theorem dX8_isSign_0 : decode cX8_isSign 0 = .ok (.aload_n 0, 1) := by decide +kernel
theorem dX8_isSign_1 : decode cX8_isSign 1 = .ok (.getfield 20, 3) := by decide +kernel
theorem dX8_isSign_4 : decode cX8_isSign 4 = .ok (.iconst 3, 1) := by decide +kernel
theorem dX8_isSign_5 : decode cX8_isSign 5 = .ok (.if_icmp .ne 20, 3) := by decide +kernel
theorem dX8_isSign_8 : decode cX8_isSign 8 = .ok (.aload_n 0, 1) := by decide +kernel
theorem dX8_isSign_9 : decode cX8_isSign 9 = .ok (.getfield 7, 3) := by decide +kernel
theorem dX8_isSign_12 : decode cX8_isSign 12 = .ok (.aload_n 0, 1) := by decide +kernel
theorem dX8_isSign_13 : decode cX8_isSign 13 = .ok (.getfield 23, 3) := by decide +kernel
theorem dX8_isSign_16 : decode cX8_isSign 16 = .ok (.baload, 1) := by decide +kernel
theorem dX8_isSign_17 : decode cX8_isSign 17 = .ok (.iload_n 1, 1) := by decide +kernel
theorem dX8_isSign_18 : decode cX8_isSign 18 = .ok (.if_icmp .ne 7, 3) := by decide +kernel
theorem dX8_isSign_21 : decode cX8_isSign 21 = .ok (.iconst 1, 1) := by decide +kernel
theorem dX8_isSign_22 : decode cX8_isSign 22 = .ok (.goto 4, 3) := by decide +kernel
theorem dX8_isSign_25 : decode cX8_isSign 25 = .ok (.iconst 0, 1) := by decide +kernel
theorem dX8_isSign_26 : decode cX8_isSign 26 = .ok (.ireturn, 1) := by decide +kernel
theorem dX6_init_0 : decode cX6_init 0 = .ok (.aload_n 0, 1) := by decide +kernel
theorem dX6_init_1 : decode cX6_init 1 = .ok (.invokespecial 3, 3) := by decide +kernel
theorem dX6_init_4 : decode cX6_init 4 = .ok (.aload_n 0, 1) := by decide +kernel
theorem dX6_init_5 : decode cX6_init 5 = .ok (.new 9, 3) := by decide +kernel
theorem dX6_init_8 : decode cX6_init 8 = .ok (.dup, 1) := by decide +kernel
theorem dX6_init_9 : decode cX6_init 9 = .ok (.invokespecial 11, 3) := by decide +kernel
theorem dX6_init_12 : decode cX6_init 12 = .ok (.putfield 12, 3) := by decide +kernel
theorem dX6_init_15 : decode cX6_init 15 = .ok (.aload_n 0, 1) := by decide +kernel
theorem dX6_init_16 : decode cX6_init 16 = .ok (.new 18, 3) := by decide +kernel
theorem dX6_init_19 : decode cX6_init 19 = .ok (.dup, 1) := by decide +kernel
theorem dX6_init_20 : decode cX6_init 20 = .ok (.invokespecial 20, 3) := by decide +kernel
theorem dX6_init_23 : decode cX6_init 23 = .ok (.putfield 21, 3) := by decide +kernel
theorem dX6_init_26 : decode cX6_init 26 = .ok (.aload_n 0, 1) := by decide +kernel
theorem dX6_init_27 : decode cX6_init 27 = .ok (.iconst 0, 1) := by decide +kernel
theorem dX6_init_28 : decode cX6_init 28 = .ok (.putfield 25, 3) := by decide +kernel
theorem dX6_init_31 : decode cX6_init 31 = .ok (.aload_n 0, 1) := by decide +kernel
theorem dX6_init_32 : decode cX6_init 32 = .ok (.iconst (-1), 1) := by decide +kernel
theorem dX6_init_33 : decode cX6_init 33 = .ok (.putfield 29, 3) := by decide +kernel
theorem dX6_init_36 : decode cX6_init 36 = .ok (.aload_n 0, 1) := by decide +kernel
theorem dX6_init_37 : decode cX6_init 37 = .ok (.new 32, 3) := by decide +kernel
theorem dX6_init_40 : decode cX6_init 40 = .ok (.dup, 1) := by decide +kernel
theorem dX6_init_41 : decode cX6_init 41 = .ok (.invokespecial 34, 3) := by decide +kernel
theorem dX6_init_44 : decode cX6_init 44 = .ok (.putfield 35, 3) := by decide +kernel
theorem dX6_init_47 : decode cX6_init 47 = .ok (.aload_n 0, 1) := by decide +kernel
theorem dX6_init_48 : decode cX6_init 48 = .ok (.iconst 3, 1) := by decide +kernel
theorem dX6_init_49 : decode cX6_init 49 = .ok (.newarray .int, 2) := by decide +kernel
theorem dX6_init_51 : decode cX6_init 51 = .ok (.putfield 39, 3) := by decide +kernel
theorem dX6_init_54 : decode cX6_init 54 = .ok (.aload_n 0, 1) := by decide +kernel
theorem dX6_init_55 : decode cX6_init 55 = .ok (.new 43, 3) := by decide +kernel
theorem dX6_init_58 : decode cX6_init 58 = .ok (.dup, 1) := by decide +kernel
theorem dX6_init_59 : decode cX6_init 59 = .ok (.invokespecial 45, 3) := by decide +kernel
theorem dX6_init_62 : decode cX6_init 62 = .ok (.putfield 46, 3) := by decide +kernel
theorem dX6_init_65 : decode cX6_init 65 = .ok (.aload_n 0, 1) := by decide +kernel
theorem dX6_init_66 : decode cX6_init 66 = .ok (.new 43, 3) := by decide +kernel
theorem dX6_init_69 : decode cX6_init 69 = .ok (.dup, 1) := by decide +kernel
theorem dX6_init_70 : decode cX6_init 70 = .ok (.invokespecial 45, 3) := by decide +kernel
theorem dX6_init_73 : decode cX6_init 73 = .ok (.putfield 50, 3) := by decide +kernel
theorem dX6_init_76 : decode cX6_init 76 = .ok (.return_, 1) := by decide +kernel
theorem dX6_read_0 : decode cX6_read 0 = .ok (.aload_n 0, 1) := by decide +kernel
theorem dX6_read_1 : decode cX6_read 1 = .ok (.iconst 0, 1) := by decide +kernel
theorem dX6_read_2 : decode cX6_read 2 = .ok (.putfield 25, 3) := by decide +kernel
theorem dX6_read_5 : decode cX6_read 5 = .ok (.aload_n 0, 1) := by decide +kernel
theorem dX6_read_6 : decode cX6_read 6 = .ok (.iconst (-1), 1) := by decide +kernel
theorem dX6_read_7 : decode cX6_read 7 = .ok (.putfield 29, 3) := by decide +kernel
theorem dX6_read_10 : decode cX6_read 10 = .ok (.aload_n 0, 1) := by decide +kernel
theorem dX6_read_11 : decode cX6_read 11 = .ok (.getfield 12, 3) := by decide +kernel
theorem dX6_read_14 : decode cX6_read 14 = .ok (.invokevirtual 53, 3) := by decide +kernel
theorem dX6_read_17 : decode cX6_read 17 = .ok (.aload_n 0, 1) := by decide +kernel
theorem dX6_read_18 : decode cX6_read 18 = .ok (.getfield 46, 3) := by decide +kernel
theorem dX6_read_21 : decode cX6_read 21 = .ok (.iconst 0, 1) := by decide +kernel
theorem dX6_read_22 : decode cX6_read 22 = .ok (.putfield 56, 3) := by decide +kernel
theorem dX6_read_25 : decode cX6_read 25 = .ok (.aload_n 0, 1) := by decide +kernel
theorem dX6_read_26 : decode cX6_read 26 = .ok (.getfield 50, 3) := by decide +kernel
theorem dX6_read_29 : decode cX6_read 29 = .ok (.iconst 0, 1) := by decide +kernel
theorem dX6_read_30 : decode cX6_read 30 = .ok (.putfield 56, 3) := by decide +kernel
theorem dX6_read_33 : decode cX6_read 33 = .ok (.aload_n 0, 1) := by decide +kernel
theorem dX6_read_34 : decode cX6_read 34 = .ok (.getfield 35, 3) := by decide +kernel
theorem dX6_read_37 : decode cX6_read 37 = .ok (.aload_n 1, 1) := by decide +kernel
theorem dX6_read_38 : decode cX6_read 38 = .ok (.iload_n 2, 1) := by decide +kernel
theorem dX6_read_39 : decode cX6_read 39 = .ok (.invokevirtual 60, 3) := by decide +kernel
theorem dX6_read_42 : decode cX6_read 42 = .ok (.aload_n 0, 1) := by decide +kernel
theorem dX6_read_43 : decode cX6_read 43 = .ok (.ldc 64, 2) := by decide +kernel
theorem dX6_read_45 : decode cX6_read 45 = .ok (.invokevirtual 65, 3) := by decide +kernel
theorem dX6_read_48 : decode cX6_read 48 = .ok (.aload_n 0, 1) := by decide +kernel
theorem dX6_read_49 : decode cX6_read 49 = .ok (.getfield 12, 3) := by decide +kernel
theorem dX6_read_52 : decode cX6_read 52 = .ok (.aload_n 0, 1) := by decide +kernel
theorem dX6_read_53 : decode cX6_read 53 = .ok (.iconst 2, 1) := by decide +kernel
theorem dX6_read_54 : decode cX6_read 54 = .ok (.bipush 12, 2) := by decide +kernel
theorem dX6_read_56 : decode cX6_read 56 = .ok (.invokevirtual 69, 3) := by decide +kernel
theorem dX6_read_59 : decode cX6_read 59 = .ok (.putfield 73, 3) := by decide +kernel
theorem dX6_read_62 : decode cX6_read 62 = .ok (.aload_n 0, 1) := by decide +kernel
theorem dX6_read_63 : decode cX6_read 63 = .ok (.invokevirtual 76, 3) := by decide +kernel
theorem dX6_read_66 : decode cX6_read 66 = .ok (.iconst 0, 1) := by decide +kernel
theorem dX6_read_67 : decode cX6_read 67 = .ok (.istore_n 3, 1) := by decide +kernel
theorem dX6_read_68 : decode cX6_read 68 = .ok (.iload_n 3, 1) := by decide +kernel
theorem dX6_read_69 : decode cX6_read 69 = .ok (.sipush 900, 3) := by decide +kernel
theorem dX6_read_72 : decode cX6_read 72 = .ok (.if_icmp .ge 30, 3) := by decide +kernel
theorem dX6_read_75 : decode cX6_read 75 = .ok (.aload_n 0, 1) := by decide +kernel
theorem dX6_read_76 : decode cX6_read 76 = .ok (.getfield 25, 3) := by decide +kernel
theorem dX6_read_79 : decode cX6_read 79 = .ok (.ifCond .ne 23, 3) := by decide +kernel
theorem dX6_read_82 : decode cX6_read 82 = .ok (.aload_n 0, 1) := by decide +kernel
theorem dX6_read_83 : decode cX6_read 83 = .ok (.getfield 35, 3) := by decide +kernel
theorem dX6_read_86 : decode cX6_read 86 = .ok (.getfield 79, 3) := by decide +kernel
theorem dX6_read_89 : decode cX6_read 89 = .ok (.ifCond .eq 13, 3) := by decide +kernel
theorem dX6_read_92 : decode cX6_read 92 = .ok (.aload_n 0, 1) := by decide +kernel
theorem dX6_read_93 : decode cX6_read 93 = .ok (.invokevirtual 82, 3) := by decide +kernel
theorem dX6_read_96 : decode cX6_read 96 = .ok (.iinc 3 1, 3) := by decide +kernel
theorem dX6_read_99 : decode cX6_read 99 = .ok (.goto (-31), 3) := by decide +kernel
theorem dX6_read_102 : decode cX6_read 102 = .ok (.aload_n 0, 1) := by decide +kernel
theorem dX6_read_103 : decode cX6_read 103 = .ok (.getfield 25, 3) := by decide +kernel
theorem dX6_read_106 : decode cX6_read 106 = .ok (.ifCond .eq 5, 3) := by decide +kernel
theorem dX6_read_109 : decode cX6_read 109 = .ok (.iconst 0, 1) := by decide +kernel
theorem dX6_read_110 : decode cX6_read 110 = .ok (.ireturn, 1) := by decide +kernel
theorem dX6_read_111 : decode cX6_read 111 = .ok (.aload_n 0, 1) := by decide +kernel
theorem dX6_read_112 : decode cX6_read 112 = .ok (.invokevirtual 85, 3) := by decide +kernel
theorem dX6_read_115 : decode cX6_read 115 = .ok (.aload_n 0, 1) := by decide +kernel
theorem dX6_read_116 : decode cX6_read 116 = .ok (.invokevirtual 88, 3) := by decide +kernel
theorem dX6_read_119 : decode cX6_read 119 = .ok (.iconst 1, 1) := by decide +kernel
theorem dX6_read_120 : decode cX6_read 120 = .ok (.ireturn, 1) := by decide +kernel
theorem dX6_readLine_0 : decode cX6_readLine 0 = .ok (.aload_n 0, 1) := by decide +kernel
theorem dX6_readLine_1 : decode cX6_readLine 1 = .ok (.getfield 35, 3) := by decide +kernel
theorem dX6_readLine_4 : decode cX6_readLine 4 = .ok (.ldc 91, 2) := by decide +kernel
theorem dX6_readLine_6 : decode cX6_readLine 6 = .ok (.invokevirtual 93, 3) := by decide +kernel
theorem dX6_readLine_9 : decode cX6_readLine 9 = .ok (.ifCond .eq 10, 3) := by decide +kernel
theorem dX6_readLine_12 : decode cX6_readLine 12 = .ok (.aload_n 0, 1) := by decide +kernel
theorem dX6_readLine_13 : decode cX6_readLine 13 = .ok (.invokevirtual 97, 3) := by decide +kernel
theorem dX6_readLine_16 : decode cX6_readLine 16 = .ok (.goto 94, 3) := by decide +kernel
theorem dX6_readLine_19 : decode cX6_readLine 19 = .ok (.aload_n 0, 1) := by decide +kernel
theorem dX6_readLine_20 : decode cX6_readLine 20 = .ok (.getfield 35, 3) := by decide +kernel
theorem dX6_readLine_23 : decode cX6_readLine 23 = .ok (.ldc 100, 2) := by decide +kernel
theorem dX6_readLine_25 : decode cX6_readLine 25 = .ok (.invokevirtual 93, 3) := by decide +kernel
theorem dX6_readLine_28 : decode cX6_readLine 28 = .ok (.ifCond .eq 10, 3) := by decide +kernel
theorem dX6_readLine_31 : decode cX6_readLine 31 = .ok (.aload_n 0, 1) := by decide +kernel
theorem dX6_readLine_32 : decode cX6_readLine 32 = .ok (.invokevirtual 102, 3) := by decide +kernel
theorem dX6_readLine_35 : decode cX6_readLine 35 = .ok (.goto 75, 3) := by decide +kernel
theorem dX6_readLine_38 : decode cX6_readLine 38 = .ok (.aload_n 0, 1) := by decide +kernel
theorem dX6_readLine_39 : decode cX6_readLine 39 = .ok (.getfield 35, 3) := by decide +kernel
theorem dX6_readLine_42 : decode cX6_readLine 42 = .ok (.ldc 105, 2) := by decide +kernel
theorem dX6_readLine_44 : decode cX6_readLine 44 = .ok (.invokevirtual 93, 3) := by decide +kernel
theorem dX6_readLine_47 : decode cX6_readLine 47 = .ok (.ifCond .eq 15, 3) := by decide +kernel
theorem dX6_readLine_50 : decode cX6_readLine 50 = .ok (.aload_n 0, 1) := by decide +kernel
theorem dX6_readLine_51 : decode cX6_readLine 51 = .ok (.aload_n 0, 1) := by decide +kernel
theorem dX6_readLine_52 : decode cX6_readLine 52 = .ok (.getfield 46, 3) := by decide +kernel
theorem dX6_readLine_55 : decode cX6_readLine 55 = .ok (.iconst 1, 1) := by decide +kernel
theorem dX6_readLine_56 : decode cX6_readLine 56 = .ok (.invokevirtual 107, 3) := by decide +kernel
theorem dX6_readLine_59 : decode cX6_readLine 59 = .ok (.goto 51, 3) := by decide +kernel
theorem dX6_readLine_62 : decode cX6_readLine 62 = .ok (.aload_n 0, 1) := by decide +kernel
theorem dX6_readLine_63 : decode cX6_readLine 63 = .ok (.getfield 35, 3) := by decide +kernel
theorem dX6_readLine_66 : decode cX6_readLine 66 = .ok (.ldc 111, 2) := by decide +kernel
theorem dX6_readLine_68 : decode cX6_readLine 68 = .ok (.invokevirtual 93, 3) := by decide +kernel
theorem dX6_readLine_71 : decode cX6_readLine 71 = .ok (.ifCond .eq 15, 3) := by decide +kernel
theorem dX6_readLine_74 : decode cX6_readLine 74 = .ok (.aload_n 0, 1) := by decide +kernel
theorem dX6_readLine_75 : decode cX6_readLine 75 = .ok (.aload_n 0, 1) := by decide +kernel
theorem dX6_readLine_76 : decode cX6_readLine 76 = .ok (.getfield 50, 3) := by decide +kernel
theorem dX6_readLine_79 : decode cX6_readLine 79 = .ok (.iconst 0, 1) := by decide +kernel
theorem dX6_readLine_80 : decode cX6_readLine 80 = .ok (.invokevirtual 107, 3) := by decide +kernel
theorem dX6_readLine_83 : decode cX6_readLine 83 = .ok (.goto 27, 3) := by decide +kernel
theorem dX6_readLine_86 : decode cX6_readLine 86 = .ok (.aload_n 0, 1) := by decide +kernel
theorem dX6_readLine_87 : decode cX6_readLine 87 = .ok (.getfield 35, 3) := by decide +kernel
theorem dX6_readLine_90 : decode cX6_readLine 90 = .ok (.ldc 113, 2) := by decide +kernel
theorem dX6_readLine_92 : decode cX6_readLine 92 = .ok (.invokevirtual 93, 3) := by decide +kernel
theorem dX6_readLine_95 : decode cX6_readLine 95 = .ok (.ifCond .eq 10, 3) := by decide +kernel
theorem dX6_readLine_98 : decode cX6_readLine 98 = .ok (.aload_n 0, 1) := by decide +kernel
theorem dX6_readLine_99 : decode cX6_readLine 99 = .ok (.invokevirtual 115, 3) := by decide +kernel
theorem dX6_readLine_102 : decode cX6_readLine 102 = .ok (.goto 8, 3) := by decide +kernel
theorem dX6_readLine_105 : decode cX6_readLine 105 = .ok (.aload_n 0, 1) := by decide +kernel
theorem dX6_readLine_106 : decode cX6_readLine 106 = .ok (.iconst 2, 1) := by decide +kernel
theorem dX6_readLine_107 : decode cX6_readLine 107 = .ok (.invokevirtual 118, 3) := by decide +kernel
theorem dX6_readLine_110 : decode cX6_readLine 110 = .ok (.aload_n 0, 1) := by decide +kernel
theorem dX6_readLine_111 : decode cX6_readLine 111 = .ok (.invokevirtual 76, 3) := by decide +kernel
theorem dX6_readLine_114 : decode cX6_readLine 114 = .ok (.return_, 1) := by decide +kernel
theorem dX6_endLine_0 : decode cX6_endLine 0 = .ok (.aload_n 0, 1) := by decide +kernel
theorem dX6_endLine_1 : decode cX6_endLine 1 = .ok (.bipush 59, 2) := by decide +kernel
theorem dX6_endLine_3 : decode cX6_endLine 3 = .ok (.invokevirtual 122, 3) := by decide +kernel
theorem dX6_endLine_6 : decode cX6_endLine 6 = .ok (.aload_n 0, 1) := by decide +kernel
theorem dX6_endLine_7 : decode cX6_endLine 7 = .ok (.getfield 25, 3) := by decide +kernel
theorem dX6_endLine_10 : decode cX6_endLine 10 = .ok (.ifCond .ne 16, 3) := by decide +kernel
theorem dX6_endLine_13 : decode cX6_endLine 13 = .ok (.aload_n 0, 1) := by decide +kernel
theorem dX6_endLine_14 : decode cX6_endLine 14 = .ok (.getfield 12, 3) := by decide +kernel
theorem dX6_endLine_17 : decode cX6_endLine 17 = .ok (.dup, 1) := by decide +kernel
theorem dX6_endLine_18 : decode cX6_endLine 18 = .ok (.getfield 126, 3) := by decide +kernel
theorem dX6_endLine_21 : decode cX6_endLine 21 = .ok (.iconst 1, 1) := by decide +kernel
theorem dX6_endLine_22 : decode cX6_endLine 22 = .ok (.iadd, 1) := by decide +kernel
theorem dX6_endLine_23 : decode cX6_endLine 23 = .ok (.putfield 126, 3) := by decide +kernel
theorem dX6_endLine_26 : decode cX6_endLine 26 = .ok (.return_, 1) := by decide +kernel
theorem dX6_readLift_0 : decode cX6_readLift 0 = .ok (.aload_n 0, 1) := by decide +kernel
theorem dX6_readLift_1 : decode cX6_readLift 1 = .ok (.getfield 12, 3) := by decide +kernel
theorem dX6_readLift_4 : decode cX6_readLift 4 = .ok (.getfield 129, 3) := by decide +kernel
theorem dX6_readLift_7 : decode cX6_readLift 7 = .ok (.iconst 3, 1) := by decide +kernel
theorem dX6_readLift_8 : decode cX6_readLift 8 = .ok (.if_icmp .lt 9, 3) := by decide +kernel
theorem dX6_readLift_11 : decode cX6_readLift 11 = .ok (.aload_n 0, 1) := by decide +kernel
theorem dX6_readLift_12 : decode cX6_readLift 12 = .ok (.iconst 4, 1) := by decide +kernel
theorem dX6_readLift_13 : decode cX6_readLift 13 = .ok (.invokevirtual 118, 3) := by decide +kernel
theorem dX6_readLift_16 : decode cX6_readLift 16 = .ok (.return_, 1) := by decide +kernel
theorem dX6_readLift_17 : decode cX6_readLift 17 = .ok (.aload_n 0, 1) := by decide +kernel
theorem dX6_readLift_18 : decode cX6_readLift 18 = .ok (.getfield 35, 3) := by decide +kernel
theorem dX6_readLift_21 : decode cX6_readLift 21 = .ok (.invokevirtual 132, 3) := by decide +kernel
theorem dX6_readLift_24 : decode cX6_readLift 24 = .ok (.aload_n 0, 1) := by decide +kernel
theorem dX6_readLift_25 : decode cX6_readLift 25 = .ok (.ldc 135, 2) := by decide +kernel
theorem dX6_readLift_27 : decode cX6_readLift 27 = .ok (.invokevirtual 65, 3) := by decide +kernel
theorem dX6_readLift_30 : decode cX6_readLift 30 = .ok (.aload_n 0, 1) := by decide +kernel
theorem dX6_readLift_31 : decode cX6_readLift 31 = .ok (.getfield 12, 3) := by decide +kernel
theorem dX6_readLift_34 : decode cX6_readLift 34 = .ok (.getfield 129, 3) := by decide +kernel
theorem dX6_readLift_37 : decode cX6_readLift 37 = .ok (.istore_n 1, 1) := by decide +kernel
theorem dX6_readLift_38 : decode cX6_readLift 38 = .ok (.aload_n 0, 1) := by decide +kernel
theorem dX6_readLift_39 : decode cX6_readLift 39 = .ok (.getfield 21, 3) := by decide +kernel
theorem dX6_readLift_42 : decode cX6_readLift 42 = .ok (.getfield 137, 3) := by decide +kernel
theorem dX6_readLift_45 : decode cX6_readLift 45 = .ok (.iload_n 1, 1) := by decide +kernel
theorem dX6_readLift_46 : decode cX6_readLift 46 = .ok (.aload_n 0, 1) := by decide +kernel
theorem dX6_readLift_47 : decode cX6_readLift 47 = .ok (.iconst 0, 1) := by decide +kernel
theorem dX6_readLift_48 : decode cX6_readLift 48 = .ok (.aload_n 0, 1) := by decide +kernel
theorem dX6_readLift_49 : decode cX6_readLift 49 = .ok (.getfield 12, 3) := by decide +kernel
theorem dX6_readLift_52 : decode cX6_readLift 52 = .ok (.getfield 73, 3) := by decide +kernel
theorem dX6_readLift_55 : decode cX6_readLift 55 = .ok (.iconst 1, 1) := by decide +kernel
theorem dX6_readLift_56 : decode cX6_readLift 56 = .ok (.isub, 1) := by decide +kernel
theorem dX6_readLift_57 : decode cX6_readLift 57 = .ok (.invokevirtual 69, 3) := by decide +kernel
theorem dX6_readLift_60 : decode cX6_readLift 60 = .ok (.iastore, 1) := by decide +kernel
theorem dX6_readLift_61 : decode cX6_readLift 61 = .ok (.aload_n 0, 1) := by decide +kernel
theorem dX6_readLift_62 : decode cX6_readLift 62 = .ok (.getfield 21, 3) := by decide +kernel
theorem dX6_readLift_65 : decode cX6_readLift 65 = .ok (.getfield 140, 3) := by decide +kernel
theorem dX6_readLift_68 : decode cX6_readLift 68 = .ok (.iload_n 1, 1) := by decide +kernel
theorem dX6_readLift_69 : decode cX6_readLift 69 = .ok (.iconst 0, 1) := by decide +kernel
theorem dX6_readLift_70 : decode cX6_readLift 70 = .ok (.iastore, 1) := by decide +kernel
theorem dX6_readLift_71 : decode cX6_readLift 71 = .ok (.aload_n 0, 1) := by decide +kernel
theorem dX6_readLift_72 : decode cX6_readLift 72 = .ok (.getfield 21, 3) := by decide +kernel
theorem dX6_readLift_75 : decode cX6_readLift 75 = .ok (.getfield 143, 3) := by decide +kernel
theorem dX6_readLift_78 : decode cX6_readLift 78 = .ok (.iload_n 1, 1) := by decide +kernel
theorem dX6_readLift_79 : decode cX6_readLift 79 = .ok (.iconst 0, 1) := by decide +kernel
theorem dX6_readLift_80 : decode cX6_readLift 80 = .ok (.iastore, 1) := by decide +kernel
theorem dX6_readLift_81 : decode cX6_readLift 81 = .ok (.aload_n 0, 1) := by decide +kernel
theorem dX6_readLift_82 : decode cX6_readLift 82 = .ok (.getfield 21, 3) := by decide +kernel
theorem dX6_readLift_85 : decode cX6_readLift 85 = .ok (.getfield 146, 3) := by decide +kernel
theorem dX6_readLift_88 : decode cX6_readLift 88 = .ok (.iload_n 1, 1) := by decide +kernel
theorem dX6_readLift_89 : decode cX6_readLift 89 = .ok (.iconst 1, 1) := by decide +kernel
theorem dX6_readLift_90 : decode cX6_readLift 90 = .ok (.iastore, 1) := by decide +kernel
theorem dX6_readLift_91 : decode cX6_readLift 91 = .ok (.aload_n 0, 1) := by decide +kernel
theorem dX6_readLift_92 : decode cX6_readLift 92 = .ok (.getfield 12, 3) := by decide +kernel
theorem dX6_readLift_95 : decode cX6_readLift 95 = .ok (.getfield 149, 3) := by decide +kernel
theorem dX6_readLift_98 : decode cX6_readLift 98 = .ok (.iload_n 1, 1) := by decide +kernel
theorem dX6_readLift_99 : decode cX6_readLift 99 = .ok (.iconst 3, 1) := by decide +kernel
theorem dX6_readLift_100 : decode cX6_readLift 100 = .ok (.iastore, 1) := by decide +kernel
theorem dX6_readLift_101 : decode cX6_readLift 101 = .ok (.aload_n 0, 1) := by decide +kernel
theorem dX6_readLift_102 : decode cX6_readLift 102 = .ok (.getfield 39, 3) := by decide +kernel
theorem dX6_readLift_105 : decode cX6_readLift 105 = .ok (.iload_n 1, 1) := by decide +kernel
theorem dX6_readLift_106 : decode cX6_readLift 106 = .ok (.bipush 8, 2) := by decide +kernel
theorem dX6_readLift_108 : decode cX6_readLift 108 = .ok (.iastore, 1) := by decide +kernel
theorem dX6_readLift_109 : decode cX6_readLift 109 = .ok (.iconst 0, 1) := by decide +kernel
theorem dX6_readLift_110 : decode cX6_readLift 110 = .ok (.istore_n 2, 1) := by decide +kernel
theorem dX6_readLift_111 : decode cX6_readLift 111 = .ok (.iload_n 2, 1) := by decide +kernel
theorem dX6_readLift_112 : decode cX6_readLift 112 = .ok (.sipush 900, 3) := by decide +kernel
theorem dX6_readLift_115 : decode cX6_readLift 115 = .ok (.if_icmp .ge 33, 3) := by decide +kernel
theorem dX6_readLift_118 : decode cX6_readLift 118 = .ok (.aload_n 0, 1) := by decide +kernel
theorem dX6_readLift_119 : decode cX6_readLift 119 = .ok (.getfield 25, 3) := by decide +kernel
theorem dX6_readLift_122 : decode cX6_readLift 122 = .ok (.ifCond .ne 26, 3) := by decide +kernel
theorem dX6_readLift_125 : decode cX6_readLift 125 = .ok (.aload_n 0, 1) := by decide +kernel
theorem dX6_readLift_126 : decode cX6_readLift 126 = .ok (.getfield 35, 3) := by decide +kernel
theorem dX6_readLift_129 : decode cX6_readLift 129 = .ok (.bipush 59, 2) := by decide +kernel
theorem dX6_readLift_131 : decode cX6_readLift 131 = .ok (.invokevirtual 152, 3) := by decide +kernel
theorem dX6_readLift_134 : decode cX6_readLift 134 = .ok (.ifCond .ne 14, 3) := by decide +kernel
theorem dX6_readLift_137 : decode cX6_readLift 137 = .ok (.aload_n 0, 1) := by decide +kernel
theorem dX6_readLift_138 : decode cX6_readLift 138 = .ok (.iload_n 1, 1) := by decide +kernel
theorem dX6_readLift_139 : decode cX6_readLift 139 = .ok (.invokevirtual 156, 3) := by decide +kernel
theorem dX6_readLift_142 : decode cX6_readLift 142 = .ok (.iinc 2 1, 3) := by decide +kernel
theorem dX6_readLift_145 : decode cX6_readLift 145 = .ok (.goto (-34), 3) := by decide +kernel
theorem dX6_readLift_148 : decode cX6_readLift 148 = .ok (.aload_n 0, 1) := by decide +kernel
theorem dX6_readLift_149 : decode cX6_readLift 149 = .ok (.getfield 12, 3) := by decide +kernel
theorem dX6_readLift_152 : decode cX6_readLift 152 = .ok (.dup, 1) := by decide +kernel
theorem dX6_readLift_153 : decode cX6_readLift 153 = .ok (.getfield 129, 3) := by decide +kernel
theorem dX6_readLift_156 : decode cX6_readLift 156 = .ok (.iconst 1, 1) := by decide +kernel
theorem dX6_readLift_157 : decode cX6_readLift 157 = .ok (.iadd, 1) := by decide +kernel
theorem dX6_readLift_158 : decode cX6_readLift 158 = .ok (.putfield 129, 3) := by decide +kernel
theorem dX6_readLift_161 : decode cX6_readLift 161 = .ok (.return_, 1) := by decide +kernel
theorem dX6_readLiftFlag_0 : decode cX6_readLiftFlag 0 = .ok (.aload_n 0, 1) := by decide +kernel
theorem dX6_readLiftFlag_1 : decode cX6_readLiftFlag 1 = .ok (.ldc 159, 2) := by decide +kernel
theorem dX6_readLiftFlag_3 : decode cX6_readLiftFlag 3 = .ok (.invokevirtual 160, 3) := by decide +kernel
theorem dX6_readLiftFlag_6 : decode cX6_readLiftFlag 6 = .ok (.ifCond .eq 22, 3) := by decide +kernel
theorem dX6_readLiftFlag_9 : decode cX6_readLiftFlag 9 = .ok (.aload_n 0, 1) := by decide +kernel
theorem dX6_readLiftFlag_10 : decode cX6_readLiftFlag 10 = .ok (.getfield 12, 3) := by decide +kernel
theorem dX6_readLiftFlag_13 : decode cX6_readLiftFlag 13 = .ok (.getfield 149, 3) := by decide +kernel
theorem dX6_readLiftFlag_16 : decode cX6_readLiftFlag 16 = .ok (.iload_n 1, 1) := by decide +kernel
theorem dX6_readLiftFlag_17 : decode cX6_readLiftFlag 17 = .ok (.aload_n 0, 1) := by decide +kernel
theorem dX6_readLiftFlag_18 : decode cX6_readLiftFlag 18 = .ok (.iconst 1, 1) := by decide +kernel
theorem dX6_readLiftFlag_19 : decode cX6_readLiftFlag 19 = .ok (.bipush 60, 2) := by decide +kernel
theorem dX6_readLiftFlag_21 : decode cX6_readLiftFlag 21 = .ok (.invokevirtual 69, 3) := by decide +kernel
theorem dX6_readLiftFlag_24 : decode cX6_readLiftFlag 24 = .ok (.iastore, 1) := by decide +kernel
theorem dX6_readLiftFlag_25 : decode cX6_readLiftFlag 25 = .ok (.goto 72, 3) := by decide +kernel
theorem dX6_readLiftFlag_28 : decode cX6_readLiftFlag 28 = .ok (.aload_n 0, 1) := by decide +kernel
theorem dX6_readLiftFlag_29 : decode cX6_readLiftFlag 29 = .ok (.ldc 163, 2) := by decide +kernel
theorem dX6_readLiftFlag_31 : decode cX6_readLiftFlag 31 = .ok (.invokevirtual 160, 3) := by decide +kernel
theorem dX6_readLiftFlag_34 : decode cX6_readLiftFlag 34 = .ok (.ifCond .eq 19, 3) := by decide +kernel
theorem dX6_readLiftFlag_37 : decode cX6_readLiftFlag 37 = .ok (.aload_n 0, 1) := by decide +kernel
theorem dX6_readLiftFlag_38 : decode cX6_readLiftFlag 38 = .ok (.getfield 39, 3) := by decide +kernel
theorem dX6_readLiftFlag_41 : decode cX6_readLiftFlag 41 = .ok (.iload_n 1, 1) := by decide +kernel
theorem dX6_readLiftFlag_42 : decode cX6_readLiftFlag 42 = .ok (.aload_n 0, 1) := by decide +kernel
theorem dX6_readLiftFlag_43 : decode cX6_readLiftFlag 43 = .ok (.iconst 0, 1) := by decide +kernel
theorem dX6_readLiftFlag_44 : decode cX6_readLiftFlag 44 = .ok (.bipush 99, 2) := by decide +kernel
theorem dX6_readLiftFlag_46 : decode cX6_readLiftFlag 46 = .ok (.invokevirtual 69, 3) := by decide +kernel
theorem dX6_readLiftFlag_49 : decode cX6_readLiftFlag 49 = .ok (.iastore, 1) := by decide +kernel
theorem dX6_readLiftFlag_50 : decode cX6_readLiftFlag 50 = .ok (.goto 47, 3) := by decide +kernel
theorem dX6_readLiftFlag_53 : decode cX6_readLiftFlag 53 = .ok (.aload_n 0, 1) := by decide +kernel
theorem dX6_readLiftFlag_54 : decode cX6_readLiftFlag 54 = .ok (.ldc 165, 2) := by decide +kernel
theorem dX6_readLiftFlag_56 : decode cX6_readLiftFlag 56 = .ok (.invokevirtual 160, 3) := by decide +kernel
theorem dX6_readLiftFlag_59 : decode cX6_readLiftFlag 59 = .ok (.ifCond .eq 11, 3) := by decide +kernel
theorem dX6_readLiftFlag_62 : decode cX6_readLiftFlag 62 = .ok (.aload_n 0, 1) := by decide +kernel
theorem dX6_readLiftFlag_63 : decode cX6_readLiftFlag 63 = .ok (.iload_n 1, 1) := by decide +kernel
theorem dX6_readLiftFlag_64 : decode cX6_readLiftFlag 64 = .ok (.invokevirtual 166, 3) := by decide +kernel
theorem dX6_readLiftFlag_67 : decode cX6_readLiftFlag 67 = .ok (.goto 30, 3) := by decide +kernel
theorem dX6_readLiftFlag_70 : decode cX6_readLiftFlag 70 = .ok (.aload_n 0, 1) := by decide +kernel
theorem dX6_readLiftFlag_71 : decode cX6_readLiftFlag 71 = .ok (.ldc 169, 2) := by decide +kernel
theorem dX6_readLiftFlag_73 : decode cX6_readLiftFlag 73 = .ok (.invokevirtual 160, 3) := by decide +kernel
theorem dX6_readLiftFlag_76 : decode cX6_readLiftFlag 76 = .ok (.ifCond .eq 16, 3) := by decide +kernel
theorem dX6_readLiftFlag_79 : decode cX6_readLiftFlag 79 = .ok (.aload_n 0, 1) := by decide +kernel
theorem dX6_readLiftFlag_80 : decode cX6_readLiftFlag 80 = .ok (.getfield 21, 3) := by decide +kernel
theorem dX6_readLiftFlag_83 : decode cX6_readLiftFlag 83 = .ok (.getfield 146, 3) := by decide +kernel
theorem dX6_readLiftFlag_86 : decode cX6_readLiftFlag 86 = .ok (.iload_n 1, 1) := by decide +kernel
theorem dX6_readLiftFlag_87 : decode cX6_readLiftFlag 87 = .ok (.iconst 0, 1) := by decide +kernel
theorem dX6_readLiftFlag_88 : decode cX6_readLiftFlag 88 = .ok (.iastore, 1) := by decide +kernel
theorem dX6_readLiftFlag_89 : decode cX6_readLiftFlag 89 = .ok (.goto 8, 3) := by decide +kernel
theorem dX6_readLiftFlag_92 : decode cX6_readLiftFlag 92 = .ok (.aload_n 0, 1) := by decide +kernel
theorem dX6_readLiftFlag_93 : decode cX6_readLiftFlag 93 = .ok (.iconst 2, 1) := by decide +kernel
theorem dX6_readLiftFlag_94 : decode cX6_readLiftFlag 94 = .ok (.invokevirtual 118, 3) := by decide +kernel
theorem dX6_readLiftFlag_97 : decode cX6_readLiftFlag 97 = .ok (.return_, 1) := by decide +kernel
theorem dX6_readLit_0 : decode cX6_readLit 0 = .ok (.iconst 0, 1) := by decide +kernel
theorem dX6_readLit_1 : decode cX6_readLit 1 = .ok (.istore_n 2, 1) := by decide +kernel
theorem dX6_readLit_2 : decode cX6_readLit 2 = .ok (.iconst 1, 1) := by decide +kernel
theorem dX6_readLit_3 : decode cX6_readLit 3 = .ok (.istore_n 3, 1) := by decide +kernel
theorem dX6_readLit_4 : decode cX6_readLit 4 = .ok (.iconst 0, 1) := by decide +kernel
theorem dX6_readLit_5 : decode cX6_readLit 5 = .ok (.istore 4, 2) := by decide +kernel
theorem dX6_readLit_7 : decode cX6_readLit 7 = .ok (.iload 4, 2) := by decide +kernel
theorem dX6_readLit_9 : decode cX6_readLit 9 = .ok (.sipush 900, 3) := by decide +kernel
theorem dX6_readLit_12 : decode cX6_readLit 12 = .ok (.if_icmp .ge 91, 3) := by decide +kernel
theorem dX6_readLit_15 : decode cX6_readLit 15 = .ok (.iload_n 3, 1) := by decide +kernel
theorem dX6_readLit_16 : decode cX6_readLit 16 = .ok (.ifCond .eq 87, 3) := by decide +kernel
theorem dX6_readLit_19 : decode cX6_readLit 19 = .ok (.aload_n 0, 1) := by decide +kernel
theorem dX6_readLit_20 : decode cX6_readLit 20 = .ok (.getfield 35, 3) := by decide +kernel
theorem dX6_readLit_23 : decode cX6_readLit 23 = .ok (.getfield 79, 3) := by decide +kernel
theorem dX6_readLit_26 : decode cX6_readLit 26 = .ok (.iconst 2, 1) := by decide +kernel
theorem dX6_readLit_27 : decode cX6_readLit 27 = .ok (.if_icmp .ne 27, 3) := by decide +kernel
theorem dX6_readLit_30 : decode cX6_readLit 30 = .ok (.aload_n 0, 1) := by decide +kernel
theorem dX6_readLit_31 : decode cX6_readLit 31 = .ok (.getfield 35, 3) := by decide +kernel
theorem dX6_readLit_34 : decode cX6_readLit 34 = .ok (.getfield 171, 3) := by decide +kernel
theorem dX6_readLit_37 : decode cX6_readLit 37 = .ok (.aload_n 0, 1) := by decide +kernel
theorem dX6_readLit_38 : decode cX6_readLit 38 = .ok (.getfield 21, 3) := by decide +kernel
theorem dX6_readLit_41 : decode cX6_readLit 41 = .ok (.getfield 137, 3) := by decide +kernel
theorem dX6_readLit_44 : decode cX6_readLit 44 = .ok (.iload_n 1, 1) := by decide +kernel
theorem dX6_readLit_45 : decode cX6_readLit 45 = .ok (.iaload, 1) := by decide +kernel
theorem dX6_readLit_46 : decode cX6_readLit 46 = .ok (.if_icmp .ne 8, 3) := by decide +kernel
theorem dX6_readLit_49 : decode cX6_readLit 49 = .ok (.aload_n 0, 1) := by decide +kernel
theorem dX6_readLit_50 : decode cX6_readLit 50 = .ok (.iconst 3, 1) := by decide +kernel
theorem dX6_readLit_51 : decode cX6_readLit 51 = .ok (.invokevirtual 118, 3) := by decide +kernel
theorem dX6_readLit_54 : decode cX6_readLit 54 = .ok (.iload_n 2, 1) := by decide +kernel
theorem dX6_readLit_55 : decode cX6_readLit 55 = .ok (.iconst 1, 1) := by decide +kernel
theorem dX6_readLit_56 : decode cX6_readLit 56 = .ok (.aload_n 0, 1) := by decide +kernel
theorem dX6_readLit_57 : decode cX6_readLit 57 = .ok (.iconst 0, 1) := by decide +kernel
theorem dX6_readLit_58 : decode cX6_readLit 58 = .ok (.aload_n 0, 1) := by decide +kernel
theorem dX6_readLit_59 : decode cX6_readLit 59 = .ok (.getfield 12, 3) := by decide +kernel
theorem dX6_readLit_62 : decode cX6_readLit 62 = .ok (.getfield 73, 3) := by decide +kernel
theorem dX6_readLit_65 : decode cX6_readLit 65 = .ok (.iconst 1, 1) := by decide +kernel
theorem dX6_readLit_66 : decode cX6_readLit 66 = .ok (.isub, 1) := by decide +kernel
theorem dX6_readLit_67 : decode cX6_readLit 67 = .ok (.invokevirtual 69, 3) := by decide +kernel
theorem dX6_readLit_70 : decode cX6_readLit 70 = .ok (.ishl, 1) := by decide +kernel
theorem dX6_readLit_71 : decode cX6_readLit 71 = .ok (.ior, 1) := by decide +kernel
theorem dX6_readLit_72 : decode cX6_readLit 72 = .ok (.istore_n 2, 1) := by decide +kernel
theorem dX6_readLit_73 : decode cX6_readLit 73 = .ok (.aload_n 0, 1) := by decide +kernel
theorem dX6_readLit_74 : decode cX6_readLit 74 = .ok (.getfield 25, 3) := by decide +kernel
theorem dX6_readLit_77 : decode cX6_readLit 77 = .ok (.ifCond .ne 18, 3) := by decide +kernel
theorem dX6_readLit_80 : decode cX6_readLit 80 = .ok (.aload_n 0, 1) := by decide +kernel
theorem dX6_readLit_81 : decode cX6_readLit 81 = .ok (.getfield 35, 3) := by decide +kernel
theorem dX6_readLit_84 : decode cX6_readLit 84 = .ok (.getfield 79, 3) := by decide +kernel
theorem dX6_readLit_87 : decode cX6_readLit 87 = .ok (.iconst 2, 1) := by decide +kernel
theorem dX6_readLit_88 : decode cX6_readLit 88 = .ok (.if_icmp .ne 7, 3) := by decide +kernel
theorem dX6_readLit_91 : decode cX6_readLit 91 = .ok (.iconst 1, 1) := by decide +kernel
theorem dX6_readLit_92 : decode cX6_readLit 92 = .ok (.goto 4, 3) := by decide +kernel
theorem dX6_readLit_95 : decode cX6_readLit 95 = .ok (.iconst 0, 1) := by decide +kernel
theorem dX6_readLit_96 : decode cX6_readLit 96 = .ok (.istore_n 3, 1) := by decide +kernel
theorem dX6_readLit_97 : decode cX6_readLit 97 = .ok (.iinc 4 1, 3) := by decide +kernel
theorem dX6_readLit_100 : decode cX6_readLit 100 = .ok (.goto (-93), 3) := by decide +kernel
theorem dX6_readLit_103 : decode cX6_readLit 103 = .ok (.aload_n 0, 1) := by decide +kernel
theorem dX6_readLit_104 : decode cX6_readLit 104 = .ok (.getfield 21, 3) := by decide +kernel
theorem dX6_readLit_107 : decode cX6_readLit 107 = .ok (.getfield 143, 3) := by decide +kernel
theorem dX6_readLit_110 : decode cX6_readLit 110 = .ok (.iload_n 1, 1) := by decide +kernel
theorem dX6_readLit_111 : decode cX6_readLit 111 = .ok (.iload_n 2, 1) := by decide +kernel
theorem dX6_readLit_112 : decode cX6_readLit 112 = .ok (.iastore, 1) := by decide +kernel
theorem dX6_readLit_113 : decode cX6_readLit 113 = .ok (.return_, 1) := by decide +kernel
theorem dX6_readPerson_0 : decode cX6_readPerson 0 = .ok (.aload_n 0, 1) := by decide +kernel
theorem dX6_readPerson_1 : decode cX6_readPerson 1 = .ok (.getfield 12, 3) := by decide +kernel
theorem dX6_readPerson_4 : decode cX6_readPerson 4 = .ok (.getfield 174, 3) := by decide +kernel
theorem dX6_readPerson_7 : decode cX6_readPerson 7 = .ok (.bipush 8, 2) := by decide +kernel
theorem dX6_readPerson_9 : decode cX6_readPerson 9 = .ok (.if_icmp .lt 9, 3) := by decide +kernel
theorem dX6_readPerson_12 : decode cX6_readPerson 12 = .ok (.aload_n 0, 1) := by decide +kernel
theorem dX6_readPerson_13 : decode cX6_readPerson 13 = .ok (.iconst 4, 1) := by decide +kernel
theorem dX6_readPerson_14 : decode cX6_readPerson 14 = .ok (.invokevirtual 118, 3) := by decide +kernel
theorem dX6_readPerson_17 : decode cX6_readPerson 17 = .ok (.return_, 1) := by decide +kernel
theorem dX6_readPerson_18 : decode cX6_readPerson 18 = .ok (.aload_n 0, 1) := by decide +kernel
theorem dX6_readPerson_19 : decode cX6_readPerson 19 = .ok (.getfield 35, 3) := by decide +kernel
theorem dX6_readPerson_22 : decode cX6_readPerson 22 = .ok (.invokevirtual 132, 3) := by decide +kernel
theorem dX6_readPerson_25 : decode cX6_readPerson 25 = .ok (.aload_n 0, 1) := by decide +kernel
theorem dX6_readPerson_26 : decode cX6_readPerson 26 = .ok (.ldc 177, 2) := by decide +kernel
theorem dX6_readPerson_28 : decode cX6_readPerson 28 = .ok (.invokevirtual 65, 3) := by decide +kernel
theorem dX6_readPerson_31 : decode cX6_readPerson 31 = .ok (.aload_n 0, 1) := by decide +kernel
theorem dX6_readPerson_32 : decode cX6_readPerson 32 = .ok (.getfield 12, 3) := by decide +kernel
theorem dX6_readPerson_35 : decode cX6_readPerson 35 = .ok (.getfield 174, 3) := by decide +kernel
theorem dX6_readPerson_38 : decode cX6_readPerson 38 = .ok (.istore_n 1, 1) := by decide +kernel
theorem dX6_readPerson_39 : decode cX6_readPerson 39 = .ok (.aload_n 0, 1) := by decide +kernel
theorem dX6_readPerson_40 : decode cX6_readPerson 40 = .ok (.getfield 12, 3) := by decide +kernel
theorem dX6_readPerson_43 : decode cX6_readPerson 43 = .ok (.getfield 179, 3) := by decide +kernel
theorem dX6_readPerson_46 : decode cX6_readPerson 46 = .ok (.iload_n 1, 1) := by decide +kernel
theorem dX6_readPerson_47 : decode cX6_readPerson 47 = .ok (.aload_n 0, 1) := by decide +kernel
theorem dX6_readPerson_48 : decode cX6_readPerson 48 = .ok (.iconst 0, 1) := by decide +kernel
theorem dX6_readPerson_49 : decode cX6_readPerson 49 = .ok (.aload_n 0, 1) := by decide +kernel
theorem dX6_readPerson_50 : decode cX6_readPerson 50 = .ok (.getfield 12, 3) := by decide +kernel
theorem dX6_readPerson_53 : decode cX6_readPerson 53 = .ok (.getfield 73, 3) := by decide +kernel
theorem dX6_readPerson_56 : decode cX6_readPerson 56 = .ok (.iconst 1, 1) := by decide +kernel
theorem dX6_readPerson_57 : decode cX6_readPerson 57 = .ok (.isub, 1) := by decide +kernel
theorem dX6_readPerson_58 : decode cX6_readPerson 58 = .ok (.invokevirtual 69, 3) := by decide +kernel
theorem dX6_readPerson_61 : decode cX6_readPerson 61 = .ok (.iastore, 1) := by decide +kernel
theorem dX6_readPerson_62 : decode cX6_readPerson 62 = .ok (.aload_n 0, 1) := by decide +kernel
theorem dX6_readPerson_63 : decode cX6_readPerson 63 = .ok (.getfield 12, 3) := by decide +kernel
theorem dX6_readPerson_66 : decode cX6_readPerson 66 = .ok (.getfield 181, 3) := by decide +kernel
theorem dX6_readPerson_69 : decode cX6_readPerson 69 = .ok (.iload_n 1, 1) := by decide +kernel
theorem dX6_readPerson_70 : decode cX6_readPerson 70 = .ok (.iconst 0, 1) := by decide +kernel
theorem dX6_readPerson_71 : decode cX6_readPerson 71 = .ok (.iastore, 1) := by decide +kernel
theorem dX6_readPerson_72 : decode cX6_readPerson 72 = .ok (.aload_n 0, 1) := by decide +kernel
theorem dX6_readPerson_73 : decode cX6_readPerson 73 = .ok (.getfield 12, 3) := by decide +kernel
theorem dX6_readPerson_76 : decode cX6_readPerson 76 = .ok (.getfield 184, 3) := by decide +kernel
theorem dX6_readPerson_79 : decode cX6_readPerson 79 = .ok (.iload_n 1, 1) := by decide +kernel
theorem dX6_readPerson_80 : decode cX6_readPerson 80 = .ok (.iconst 0, 1) := by decide +kernel
theorem dX6_readPerson_81 : decode cX6_readPerson 81 = .ok (.iastore, 1) := by decide +kernel
theorem dX6_readPerson_82 : decode cX6_readPerson 82 = .ok (.aload_n 0, 1) := by decide +kernel
theorem dX6_readPerson_83 : decode cX6_readPerson 83 = .ok (.getfield 12, 3) := by decide +kernel
theorem dX6_readPerson_86 : decode cX6_readPerson 86 = .ok (.getfield 187, 3) := by decide +kernel
theorem dX6_readPerson_89 : decode cX6_readPerson 89 = .ok (.iload_n 1, 1) := by decide +kernel
theorem dX6_readPerson_90 : decode cX6_readPerson 90 = .ok (.iconst 1, 1) := by decide +kernel
theorem dX6_readPerson_91 : decode cX6_readPerson 91 = .ok (.iastore, 1) := by decide +kernel
theorem dX6_readPerson_92 : decode cX6_readPerson 92 = .ok (.aload_n 0, 1) := by decide +kernel
theorem dX6_readPerson_93 : decode cX6_readPerson 93 = .ok (.getfield 21, 3) := by decide +kernel
theorem dX6_readPerson_96 : decode cX6_readPerson 96 = .ok (.getfield 190, 3) := by decide +kernel
theorem dX6_readPerson_99 : decode cX6_readPerson 99 = .ok (.iload_n 1, 1) := by decide +kernel
theorem dX6_readPerson_100 : decode cX6_readPerson 100 = .ok (.iconst 0, 1) := by decide +kernel
theorem dX6_readPerson_101 : decode cX6_readPerson 101 = .ok (.iastore, 1) := by decide +kernel
theorem dX6_readPerson_102 : decode cX6_readPerson 102 = .ok (.aload_n 0, 1) := by decide +kernel
theorem dX6_readPerson_103 : decode cX6_readPerson 103 = .ok (.getfield 21, 3) := by decide +kernel
theorem dX6_readPerson_106 : decode cX6_readPerson 106 = .ok (.getfield 193, 3) := by decide +kernel
theorem dX6_readPerson_109 : decode cX6_readPerson 109 = .ok (.iload_n 1, 1) := by decide +kernel
theorem dX6_readPerson_110 : decode cX6_readPerson 110 = .ok (.iconst 0, 1) := by decide +kernel
theorem dX6_readPerson_111 : decode cX6_readPerson 111 = .ok (.iastore, 1) := by decide +kernel
theorem dX6_readPerson_112 : decode cX6_readPerson 112 = .ok (.aload_n 0, 1) := by decide +kernel
theorem dX6_readPerson_113 : decode cX6_readPerson 113 = .ok (.getfield 21, 3) := by decide +kernel
theorem dX6_readPerson_116 : decode cX6_readPerson 116 = .ok (.getfield 196, 3) := by decide +kernel
theorem dX6_readPerson_119 : decode cX6_readPerson 119 = .ok (.iload_n 1, 1) := by decide +kernel
theorem dX6_readPerson_120 : decode cX6_readPerson 120 = .ok (.iconst (-1), 1) := by decide +kernel
theorem dX6_readPerson_121 : decode cX6_readPerson 121 = .ok (.iastore, 1) := by decide +kernel
theorem dX6_readPerson_122 : decode cX6_readPerson 122 = .ok (.iconst 0, 1) := by decide +kernel
theorem dX6_readPerson_123 : decode cX6_readPerson 123 = .ok (.istore_n 2, 1) := by decide +kernel
theorem dX6_readPerson_124 : decode cX6_readPerson 124 = .ok (.iload_n 2, 1) := by decide +kernel
theorem dX6_readPerson_125 : decode cX6_readPerson 125 = .ok (.sipush 900, 3) := by decide +kernel
theorem dX6_readPerson_128 : decode cX6_readPerson 128 = .ok (.if_icmp .ge 33, 3) := by decide +kernel
theorem dX6_readPerson_131 : decode cX6_readPerson 131 = .ok (.aload_n 0, 1) := by decide +kernel
theorem dX6_readPerson_132 : decode cX6_readPerson 132 = .ok (.getfield 25, 3) := by decide +kernel
theorem dX6_readPerson_135 : decode cX6_readPerson 135 = .ok (.ifCond .ne 26, 3) := by decide +kernel
theorem dX6_readPerson_138 : decode cX6_readPerson 138 = .ok (.aload_n 0, 1) := by decide +kernel
theorem dX6_readPerson_139 : decode cX6_readPerson 139 = .ok (.getfield 35, 3) := by decide +kernel
theorem dX6_readPerson_142 : decode cX6_readPerson 142 = .ok (.bipush 59, 2) := by decide +kernel
theorem dX6_readPerson_144 : decode cX6_readPerson 144 = .ok (.invokevirtual 152, 3) := by decide +kernel
theorem dX6_readPerson_147 : decode cX6_readPerson 147 = .ok (.ifCond .ne 14, 3) := by decide +kernel
theorem dX6_readPerson_150 : decode cX6_readPerson 150 = .ok (.aload_n 0, 1) := by decide +kernel
theorem dX6_readPerson_151 : decode cX6_readPerson 151 = .ok (.iload_n 1, 1) := by decide +kernel
theorem dX6_readPerson_152 : decode cX6_readPerson 152 = .ok (.invokevirtual 199, 3) := by decide +kernel
theorem dX6_readPerson_155 : decode cX6_readPerson 155 = .ok (.iinc 2 1, 3) := by decide +kernel
theorem dX6_readPerson_158 : decode cX6_readPerson 158 = .ok (.goto (-34), 3) := by decide +kernel
theorem dX6_readPerson_161 : decode cX6_readPerson 161 = .ok (.aload_n 0, 1) := by decide +kernel
theorem dX6_readPerson_162 : decode cX6_readPerson 162 = .ok (.getfield 12, 3) := by decide +kernel
theorem dX6_readPerson_165 : decode cX6_readPerson 165 = .ok (.dup, 1) := by decide +kernel
theorem dX6_readPerson_166 : decode cX6_readPerson 166 = .ok (.getfield 174, 3) := by decide +kernel
theorem dX6_readPerson_169 : decode cX6_readPerson 169 = .ok (.iconst 1, 1) := by decide +kernel
theorem dX6_readPerson_170 : decode cX6_readPerson 170 = .ok (.iadd, 1) := by decide +kernel
theorem dX6_readPerson_171 : decode cX6_readPerson 171 = .ok (.putfield 174, 3) := by decide +kernel
theorem dX6_readPerson_174 : decode cX6_readPerson 174 = .ok (.return_, 1) := by decide +kernel
theorem dX6_readPersonFlag_0 : decode cX6_readPersonFlag 0 = .ok (.aload_n 0, 1) := by decide +kernel
theorem dX6_readPersonFlag_1 : decode cX6_readPersonFlag 1 = .ok (.ldc 135, 2) := by decide +kernel
theorem dX6_readPersonFlag_3 : decode cX6_readPersonFlag 3 = .ok (.invokevirtual 160, 3) := by decide +kernel
theorem dX6_readPersonFlag_6 : decode cX6_readPersonFlag 6 = .ok (.ifCond .eq 39, 3) := by decide +kernel
theorem dX6_readPersonFlag_9 : decode cX6_readPersonFlag 9 = .ok (.aload_n 0, 1) := by decide +kernel
theorem dX6_readPersonFlag_10 : decode cX6_readPersonFlag 10 = .ok (.getfield 21, 3) := by decide +kernel
theorem dX6_readPersonFlag_13 : decode cX6_readPersonFlag 13 = .ok (.getfield 190, 3) := by decide +kernel
theorem dX6_readPersonFlag_16 : decode cX6_readPersonFlag 16 = .ok (.iload_n 1, 1) := by decide +kernel
theorem dX6_readPersonFlag_17 : decode cX6_readPersonFlag 17 = .ok (.aload_n 0, 1) := by decide +kernel
theorem dX6_readPersonFlag_18 : decode cX6_readPersonFlag 18 = .ok (.iconst 0, 1) := by decide +kernel
theorem dX6_readPersonFlag_19 : decode cX6_readPersonFlag 19 = .ok (.aload_n 0, 1) := by decide +kernel
theorem dX6_readPersonFlag_20 : decode cX6_readPersonFlag 20 = .ok (.getfield 12, 3) := by decide +kernel
theorem dX6_readPersonFlag_23 : decode cX6_readPersonFlag 23 = .ok (.getfield 73, 3) := by decide +kernel
theorem dX6_readPersonFlag_26 : decode cX6_readPersonFlag 26 = .ok (.iconst 1, 1) := by decide +kernel
theorem dX6_readPersonFlag_27 : decode cX6_readPersonFlag 27 = .ok (.isub, 1) := by decide +kernel
theorem dX6_readPersonFlag_28 : decode cX6_readPersonFlag 28 = .ok (.invokevirtual 69, 3) := by decide +kernel
theorem dX6_readPersonFlag_31 : decode cX6_readPersonFlag 31 = .ok (.iastore, 1) := by decide +kernel
theorem dX6_readPersonFlag_32 : decode cX6_readPersonFlag 32 = .ok (.aload_n 0, 1) := by decide +kernel
theorem dX6_readPersonFlag_33 : decode cX6_readPersonFlag 33 = .ok (.getfield 21, 3) := by decide +kernel
theorem dX6_readPersonFlag_36 : decode cX6_readPersonFlag 36 = .ok (.getfield 196, 3) := by decide +kernel
theorem dX6_readPersonFlag_39 : decode cX6_readPersonFlag 39 = .ok (.iload_n 1, 1) := by decide +kernel
theorem dX6_readPersonFlag_40 : decode cX6_readPersonFlag 40 = .ok (.iconst (-1), 1) := by decide +kernel
theorem dX6_readPersonFlag_41 : decode cX6_readPersonFlag 41 = .ok (.iastore, 1) := by decide +kernel
theorem dX6_readPersonFlag_42 : decode cX6_readPersonFlag 42 = .ok (.goto 147, 3) := by decide +kernel
theorem dX6_readPersonFlag_45 : decode cX6_readPersonFlag 45 = .ok (.aload_n 0, 1) := by decide +kernel
theorem dX6_readPersonFlag_46 : decode cX6_readPersonFlag 46 = .ok (.ldc 202, 2) := by decide +kernel
theorem dX6_readPersonFlag_48 : decode cX6_readPersonFlag 48 = .ok (.invokevirtual 160, 3) := by decide +kernel
theorem dX6_readPersonFlag_51 : decode cX6_readPersonFlag 51 = .ok (.ifCond .eq 49, 3) := by decide +kernel
theorem dX6_readPersonFlag_54 : decode cX6_readPersonFlag 54 = .ok (.aload_n 0, 1) := by decide +kernel
theorem dX6_readPersonFlag_55 : decode cX6_readPersonFlag 55 = .ok (.iconst 0, 1) := by decide +kernel
theorem dX6_readPersonFlag_56 : decode cX6_readPersonFlag 56 = .ok (.aload_n 0, 1) := by decide +kernel
theorem dX6_readPersonFlag_57 : decode cX6_readPersonFlag 57 = .ok (.getfield 12, 3) := by decide +kernel
theorem dX6_readPersonFlag_60 : decode cX6_readPersonFlag 60 = .ok (.getfield 129, 3) := by decide +kernel
theorem dX6_readPersonFlag_63 : decode cX6_readPersonFlag 63 = .ok (.iconst 1, 1) := by decide +kernel
theorem dX6_readPersonFlag_64 : decode cX6_readPersonFlag 64 = .ok (.isub, 1) := by decide +kernel
theorem dX6_readPersonFlag_65 : decode cX6_readPersonFlag 65 = .ok (.invokevirtual 69, 3) := by decide +kernel
theorem dX6_readPersonFlag_68 : decode cX6_readPersonFlag 68 = .ok (.istore_n 2, 1) := by decide +kernel
theorem dX6_readPersonFlag_69 : decode cX6_readPersonFlag 69 = .ok (.aload_n 0, 1) := by decide +kernel
theorem dX6_readPersonFlag_70 : decode cX6_readPersonFlag 70 = .ok (.getfield 21, 3) := by decide +kernel
theorem dX6_readPersonFlag_73 : decode cX6_readPersonFlag 73 = .ok (.getfield 190, 3) := by decide +kernel
theorem dX6_readPersonFlag_76 : decode cX6_readPersonFlag 76 = .ok (.iload_n 1, 1) := by decide +kernel
theorem dX6_readPersonFlag_77 : decode cX6_readPersonFlag 77 = .ok (.aload_n 0, 1) := by decide +kernel
theorem dX6_readPersonFlag_78 : decode cX6_readPersonFlag 78 = .ok (.getfield 21, 3) := by decide +kernel
theorem dX6_readPersonFlag_81 : decode cX6_readPersonFlag 81 = .ok (.getfield 137, 3) := by decide +kernel
theorem dX6_readPersonFlag_84 : decode cX6_readPersonFlag 84 = .ok (.iload_n 2, 1) := by decide +kernel
theorem dX6_readPersonFlag_85 : decode cX6_readPersonFlag 85 = .ok (.iaload, 1) := by decide +kernel
theorem dX6_readPersonFlag_86 : decode cX6_readPersonFlag 86 = .ok (.iastore, 1) := by decide +kernel
theorem dX6_readPersonFlag_87 : decode cX6_readPersonFlag 87 = .ok (.aload_n 0, 1) := by decide +kernel
theorem dX6_readPersonFlag_88 : decode cX6_readPersonFlag 88 = .ok (.getfield 21, 3) := by decide +kernel
theorem dX6_readPersonFlag_91 : decode cX6_readPersonFlag 91 = .ok (.getfield 196, 3) := by decide +kernel
theorem dX6_readPersonFlag_94 : decode cX6_readPersonFlag 94 = .ok (.iload_n 1, 1) := by decide +kernel
theorem dX6_readPersonFlag_95 : decode cX6_readPersonFlag 95 = .ok (.iload_n 2, 1) := by decide +kernel
theorem dX6_readPersonFlag_96 : decode cX6_readPersonFlag 96 = .ok (.iastore, 1) := by decide +kernel
theorem dX6_readPersonFlag_97 : decode cX6_readPersonFlag 97 = .ok (.goto 92, 3) := by decide +kernel
theorem dX6_readPersonFlag_100 : decode cX6_readPersonFlag 100 = .ok (.aload_n 0, 1) := by decide +kernel
theorem dX6_readPersonFlag_101 : decode cX6_readPersonFlag 101 = .ok (.ldc 204, 2) := by decide +kernel
theorem dX6_readPersonFlag_103 : decode cX6_readPersonFlag 103 = .ok (.invokevirtual 160, 3) := by decide +kernel
theorem dX6_readPersonFlag_106 : decode cX6_readPersonFlag 106 = .ok (.ifCond .eq 22, 3) := by decide +kernel
theorem dX6_readPersonFlag_109 : decode cX6_readPersonFlag 109 = .ok (.aload_n 0, 1) := by decide +kernel
theorem dX6_readPersonFlag_110 : decode cX6_readPersonFlag 110 = .ok (.getfield 12, 3) := by decide +kernel
theorem dX6_readPersonFlag_113 : decode cX6_readPersonFlag 113 = .ok (.getfield 181, 3) := by decide +kernel
theorem dX6_readPersonFlag_116 : decode cX6_readPersonFlag 116 = .ok (.iload_n 1, 1) := by decide +kernel
theorem dX6_readPersonFlag_117 : decode cX6_readPersonFlag 117 = .ok (.aload_n 0, 1) := by decide +kernel
theorem dX6_readPersonFlag_118 : decode cX6_readPersonFlag 118 = .ok (.iconst 0, 1) := by decide +kernel
theorem dX6_readPersonFlag_119 : decode cX6_readPersonFlag 119 = .ok (.bipush 99, 2) := by decide +kernel
theorem dX6_readPersonFlag_121 : decode cX6_readPersonFlag 121 = .ok (.invokevirtual 69, 3) := by decide +kernel
theorem dX6_readPersonFlag_124 : decode cX6_readPersonFlag 124 = .ok (.iastore, 1) := by decide +kernel
theorem dX6_readPersonFlag_125 : decode cX6_readPersonFlag 125 = .ok (.goto 64, 3) := by decide +kernel
theorem dX6_readPersonFlag_128 : decode cX6_readPersonFlag 128 = .ok (.aload_n 0, 1) := by decide +kernel
theorem dX6_readPersonFlag_129 : decode cX6_readPersonFlag 129 = .ok (.ldc 205, 2) := by decide +kernel
theorem dX6_readPersonFlag_131 : decode cX6_readPersonFlag 131 = .ok (.invokevirtual 160, 3) := by decide +kernel
theorem dX6_readPersonFlag_134 : decode cX6_readPersonFlag 134 = .ok (.ifCond .eq 22, 3) := by decide +kernel
theorem dX6_readPersonFlag_137 : decode cX6_readPersonFlag 137 = .ok (.aload_n 0, 1) := by decide +kernel
theorem dX6_readPersonFlag_138 : decode cX6_readPersonFlag 138 = .ok (.getfield 12, 3) := by decide +kernel
theorem dX6_readPersonFlag_141 : decode cX6_readPersonFlag 141 = .ok (.getfield 184, 3) := by decide +kernel
theorem dX6_readPersonFlag_144 : decode cX6_readPersonFlag 144 = .ok (.iload_n 1, 1) := by decide +kernel
theorem dX6_readPersonFlag_145 : decode cX6_readPersonFlag 145 = .ok (.aload_n 0, 1) := by decide +kernel
theorem dX6_readPersonFlag_146 : decode cX6_readPersonFlag 146 = .ok (.iconst 0, 1) := by decide +kernel
theorem dX6_readPersonFlag_147 : decode cX6_readPersonFlag 147 = .ok (.bipush 99, 2) := by decide +kernel
theorem dX6_readPersonFlag_149 : decode cX6_readPersonFlag 149 = .ok (.invokevirtual 69, 3) := by decide +kernel
theorem dX6_readPersonFlag_152 : decode cX6_readPersonFlag 152 = .ok (.iastore, 1) := by decide +kernel
theorem dX6_readPersonFlag_153 : decode cX6_readPersonFlag 153 = .ok (.goto 36, 3) := by decide +kernel
theorem dX6_readPersonFlag_156 : decode cX6_readPersonFlag 156 = .ok (.aload_n 0, 1) := by decide +kernel
theorem dX6_readPersonFlag_157 : decode cX6_readPersonFlag 157 = .ok (.ldc 206, 2) := by decide +kernel
theorem dX6_readPersonFlag_159 : decode cX6_readPersonFlag 159 = .ok (.invokevirtual 160, 3) := by decide +kernel
theorem dX6_readPersonFlag_162 : decode cX6_readPersonFlag 162 = .ok (.ifCond .eq 22, 3) := by decide +kernel
theorem dX6_readPersonFlag_165 : decode cX6_readPersonFlag 165 = .ok (.aload_n 0, 1) := by decide +kernel
theorem dX6_readPersonFlag_166 : decode cX6_readPersonFlag 166 = .ok (.getfield 12, 3) := by decide +kernel
theorem dX6_readPersonFlag_169 : decode cX6_readPersonFlag 169 = .ok (.getfield 187, 3) := by decide +kernel
theorem dX6_readPersonFlag_172 : decode cX6_readPersonFlag 172 = .ok (.iload_n 1, 1) := by decide +kernel
theorem dX6_readPersonFlag_173 : decode cX6_readPersonFlag 173 = .ok (.aload_n 0, 1) := by decide +kernel
theorem dX6_readPersonFlag_174 : decode cX6_readPersonFlag 174 = .ok (.iconst 1, 1) := by decide +kernel
theorem dX6_readPersonFlag_175 : decode cX6_readPersonFlag 175 = .ok (.bipush 99, 2) := by decide +kernel
theorem dX6_readPersonFlag_177 : decode cX6_readPersonFlag 177 = .ok (.invokevirtual 69, 3) := by decide +kernel
theorem dX6_readPersonFlag_180 : decode cX6_readPersonFlag 180 = .ok (.iastore, 1) := by decide +kernel
theorem dX6_readPersonFlag_181 : decode cX6_readPersonFlag 181 = .ok (.goto 8, 3) := by decide +kernel
theorem dX6_readPersonFlag_184 : decode cX6_readPersonFlag 184 = .ok (.aload_n 0, 1) := by decide +kernel
theorem dX6_readPersonFlag_185 : decode cX6_readPersonFlag 185 = .ok (.iconst 2, 1) := by decide +kernel
theorem dX6_readPersonFlag_186 : decode cX6_readPersonFlag 186 = .ok (.invokevirtual 118, 3) := by decide +kernel
theorem dX6_readPersonFlag_189 : decode cX6_readPersonFlag 189 = .ok (.return_, 1) := by decide +kernel
theorem dX6_readCalls_0 : decode cX6_readCalls 0 = .ok (.aload_n 0, 1) := by decide +kernel
theorem dX6_readCalls_1 : decode cX6_readCalls 1 = .ok (.getfield 35, 3) := by decide +kernel
theorem dX6_readCalls_4 : decode cX6_readCalls 4 = .ok (.invokevirtual 132, 3) := by decide +kernel
theorem dX6_readCalls_7 : decode cX6_readCalls 7 = .ok (.aload_n 0, 1) := by decide +kernel
theorem dX6_readCalls_8 : decode cX6_readCalls 8 = .ok (.iconst 0, 1) := by decide +kernel
theorem dX6_readCalls_9 : decode cX6_readCalls 9 = .ok (.aload_n 0, 1) := by decide +kernel
theorem dX6_readCalls_10 : decode cX6_readCalls 10 = .ok (.getfield 12, 3) := by decide +kernel
theorem dX6_readCalls_13 : decode cX6_readCalls 13 = .ok (.getfield 73, 3) := by decide +kernel
theorem dX6_readCalls_16 : decode cX6_readCalls 16 = .ok (.iconst 1, 1) := by decide +kernel
theorem dX6_readCalls_17 : decode cX6_readCalls 17 = .ok (.isub, 1) := by decide +kernel
theorem dX6_readCalls_18 : decode cX6_readCalls 18 = .ok (.invokevirtual 69, 3) := by decide +kernel
theorem dX6_readCalls_21 : decode cX6_readCalls 21 = .ok (.istore_n 1, 1) := by decide +kernel
theorem dX6_readCalls_22 : decode cX6_readCalls 22 = .ok (.aload_n 0, 1) := by decide +kernel
theorem dX6_readCalls_23 : decode cX6_readCalls 23 = .ok (.ldc 207, 2) := by decide +kernel
theorem dX6_readCalls_25 : decode cX6_readCalls 25 = .ok (.invokevirtual 65, 3) := by decide +kernel
theorem dX6_readCalls_28 : decode cX6_readCalls 28 = .ok (.aload_n 0, 1) := by decide +kernel
theorem dX6_readCalls_29 : decode cX6_readCalls 29 = .ok (.getfield 12, 3) := by decide +kernel
theorem dX6_readCalls_32 : decode cX6_readCalls 32 = .ok (.getfield 209, 3) := by decide +kernel
theorem dX6_readCalls_35 : decode cX6_readCalls 35 = .ok (.iload_n 1, 1) := by decide +kernel
theorem dX6_readCalls_36 : decode cX6_readCalls 36 = .ok (.aload_n 0, 1) := by decide +kernel
theorem dX6_readCalls_37 : decode cX6_readCalls 37 = .ok (.iconst 0, 1) := by decide +kernel
theorem dX6_readCalls_38 : decode cX6_readCalls 38 = .ok (.bipush 99, 2) := by decide +kernel
theorem dX6_readCalls_40 : decode cX6_readCalls 40 = .ok (.invokevirtual 69, 3) := by decide +kernel
theorem dX6_readCalls_43 : decode cX6_readCalls 43 = .ok (.iastore, 1) := by decide +kernel
theorem dX6_readCalls_44 : decode cX6_readCalls 44 = .ok (.return_, 1) := by decide +kernel
theorem dX6_readLaw_0 : decode cX6_readLaw 0 = .ok (.aload_n 0, 1) := by decide +kernel
theorem dX6_readLaw_1 : decode cX6_readLaw 1 = .ok (.getfield 35, 3) := by decide +kernel
theorem dX6_readLaw_4 : decode cX6_readLaw 4 = .ok (.invokevirtual 132, 3) := by decide +kernel
theorem dX6_readLaw_7 : decode cX6_readLaw 7 = .ok (.aload_n 0, 1) := by decide +kernel
theorem dX6_readLaw_8 : decode cX6_readLaw 8 = .ok (.bipush 58, 2) := by decide +kernel
theorem dX6_readLaw_10 : decode cX6_readLaw 10 = .ok (.invokevirtual 122, 3) := by decide +kernel
theorem dX6_readLaw_13 : decode cX6_readLaw 13 = .ok (.aload_n 1, 1) := by decide +kernel
theorem dX6_readLaw_14 : decode cX6_readLaw 14 = .ok (.invokevirtual 212, 3) := by decide +kernel
theorem dX6_readLaw_17 : decode cX6_readLaw 17 = .ok (.iconst 1, 1) := by decide +kernel
theorem dX6_readLaw_18 : decode cX6_readLaw 18 = .ok (.istore_n 3, 1) := by decide +kernel
theorem dX6_readLaw_19 : decode cX6_readLaw 19 = .ok (.iconst 0, 1) := by decide +kernel
theorem dX6_readLaw_20 : decode cX6_readLaw 20 = .ok (.istore 4, 2) := by decide +kernel
theorem dX6_readLaw_22 : decode cX6_readLaw 22 = .ok (.iload 4, 2) := by decide +kernel
theorem dX6_readLaw_24 : decode cX6_readLaw 24 = .ok (.sipush 900, 3) := by decide +kernel
theorem dX6_readLaw_27 : decode cX6_readLaw 27 = .ok (.if_icmp .ge 58, 3) := by decide +kernel
theorem dX6_readLaw_30 : decode cX6_readLaw 30 = .ok (.aload_n 0, 1) := by decide +kernel
theorem dX6_readLaw_31 : decode cX6_readLaw 31 = .ok (.getfield 25, 3) := by decide +kernel
theorem dX6_readLaw_34 : decode cX6_readLaw 34 = .ok (.ifCond .ne 51, 3) := by decide +kernel
theorem dX6_readLaw_37 : decode cX6_readLaw 37 = .ok (.iload_n 3, 1) := by decide +kernel
theorem dX6_readLaw_38 : decode cX6_readLaw 38 = .ok (.ifCond .eq 13, 3) := by decide +kernel
theorem dX6_readLaw_41 : decode cX6_readLaw 41 = .ok (.aload_n 0, 1) := by decide +kernel
theorem dX6_readLaw_42 : decode cX6_readLaw 42 = .ok (.aload_n 1, 1) := by decide +kernel
theorem dX6_readLaw_43 : decode cX6_readLaw 43 = .ok (.iload_n 2, 1) := by decide +kernel
theorem dX6_readLaw_44 : decode cX6_readLaw 44 = .ok (.invokevirtual 214, 3) := by decide +kernel
theorem dX6_readLaw_47 : decode cX6_readLaw 47 = .ok (.istore_n 3, 1) := by decide +kernel
theorem dX6_readLaw_48 : decode cX6_readLaw 48 = .ok (.goto 31, 3) := by decide +kernel
theorem dX6_readLaw_51 : decode cX6_readLaw 51 = .ok (.aload_n 1, 1) := by decide +kernel
theorem dX6_readLaw_52 : decode cX6_readLaw 52 = .ok (.getfield 218, 3) := by decide +kernel
theorem dX6_readLaw_55 : decode cX6_readLaw 55 = .ok (.ifCond .ne 18, 3) := by decide +kernel
theorem dX6_readLaw_58 : decode cX6_readLaw 58 = .ok (.aload_n 0, 1) := by decide +kernel
theorem dX6_readLaw_59 : decode cX6_readLaw 59 = .ok (.getfield 35, 3) := by decide +kernel
theorem dX6_readLaw_62 : decode cX6_readLaw 62 = .ok (.bipush 59, 2) := by decide +kernel
theorem dX6_readLaw_64 : decode cX6_readLaw 64 = .ok (.invokevirtual 152, 3) := by decide +kernel
theorem dX6_readLaw_67 : decode cX6_readLaw 67 = .ok (.ifCond .eq 6, 3) := by decide +kernel
theorem dX6_readLaw_70 : decode cX6_readLaw 70 = .ok (.goto 15, 3) := by decide +kernel
theorem dX6_readLaw_73 : decode cX6_readLaw 73 = .ok (.aload_n 0, 1) := by decide +kernel
theorem dX6_readLaw_74 : decode cX6_readLaw 74 = .ok (.aload_n 1, 1) := by decide +kernel
theorem dX6_readLaw_75 : decode cX6_readLaw 75 = .ok (.invokevirtual 221, 3) := by decide +kernel
theorem dX6_readLaw_78 : decode cX6_readLaw 78 = .ok (.istore_n 3, 1) := by decide +kernel
theorem dX6_readLaw_79 : decode cX6_readLaw 79 = .ok (.iinc 4 1, 3) := by decide +kernel
theorem dX6_readLaw_82 : decode cX6_readLaw 82 = .ok (.goto (-60), 3) := by decide +kernel
theorem dX6_readLaw_85 : decode cX6_readLaw 85 = .ok (.aload_n 1, 1) := by decide +kernel
theorem dX6_readLaw_86 : decode cX6_readLaw 86 = .ok (.invokevirtual 225, 3) := by decide +kernel
theorem dX6_readLaw_89 : decode cX6_readLaw 89 = .ok (.return_, 1) := by decide +kernel
theorem dX6_readAtom_0 : decode cX6_readAtom 0 = .ok (.aload_n 0, 1) := by decide +kernel
theorem dX6_readAtom_1 : decode cX6_readAtom 1 = .ok (.getfield 35, 3) := by decide +kernel
theorem dX6_readAtom_4 : decode cX6_readAtom 4 = .ok (.bipush 40, 2) := by decide +kernel
theorem dX6_readAtom_6 : decode cX6_readAtom 6 = .ok (.invokevirtual 152, 3) := by decide +kernel
theorem dX6_readAtom_9 : decode cX6_readAtom 9 = .ok (.ifCond .eq 33, 3) := by decide +kernel
theorem dX6_readAtom_12 : decode cX6_readAtom 12 = .ok (.aload_n 1, 1) := by decide +kernel
theorem dX6_readAtom_13 : decode cX6_readAtom 13 = .ok (.getfield 218, 3) := by decide +kernel
theorem dX6_readAtom_16 : decode cX6_readAtom 16 = .ok (.bipush 6, 2) := by decide +kernel
theorem dX6_readAtom_18 : decode cX6_readAtom 18 = .ok (.if_icmp .lt 11, 3) := by decide +kernel
theorem dX6_readAtom_21 : decode cX6_readAtom 21 = .ok (.aload_n 0, 1) := by decide +kernel
theorem dX6_readAtom_22 : decode cX6_readAtom 22 = .ok (.iconst 4, 1) := by decide +kernel
theorem dX6_readAtom_23 : decode cX6_readAtom 23 = .ok (.invokevirtual 118, 3) := by decide +kernel
theorem dX6_readAtom_26 : decode cX6_readAtom 26 = .ok (.goto 7, 3) := by decide +kernel
theorem dX6_readAtom_29 : decode cX6_readAtom 29 = .ok (.aload_n 1, 1) := by decide +kernel
theorem dX6_readAtom_30 : decode cX6_readAtom 30 = .ok (.invokevirtual 228, 3) := by decide +kernel
theorem dX6_readAtom_33 : decode cX6_readAtom 33 = .ok (.aload_n 0, 1) := by decide +kernel
theorem dX6_readAtom_34 : decode cX6_readAtom 34 = .ok (.getfield 35, 3) := by decide +kernel
theorem dX6_readAtom_37 : decode cX6_readAtom 37 = .ok (.invokevirtual 132, 3) := by decide +kernel
theorem dX6_readAtom_40 : decode cX6_readAtom 40 = .ok (.iconst 1, 1) := by decide +kernel
theorem dX6_readAtom_41 : decode cX6_readAtom 41 = .ok (.ireturn, 1) := by decide +kernel
theorem dX6_readAtom_42 : decode cX6_readAtom 42 = .ok (.iload_n 2, 1) := by decide +kernel
theorem dX6_readAtom_43 : decode cX6_readAtom 43 = .ok (.ifCond .eq 10, 3) := by decide +kernel
theorem dX6_readAtom_46 : decode cX6_readAtom 46 = .ok (.aload_n 0, 1) := by decide +kernel
theorem dX6_readAtom_47 : decode cX6_readAtom 47 = .ok (.invokevirtual 231, 3) := by decide +kernel
theorem dX6_readAtom_50 : decode cX6_readAtom 50 = .ok (.goto 7, 3) := by decide +kernel
theorem dX6_readAtom_53 : decode cX6_readAtom 53 = .ok (.aload_n 0, 1) := by decide +kernel
theorem dX6_readAtom_54 : decode cX6_readAtom 54 = .ok (.invokevirtual 235, 3) := by decide +kernel
theorem dX6_readAtom_57 : decode cX6_readAtom 57 = .ok (.istore_n 3, 1) := by decide +kernel
theorem dX6_readAtom_58 : decode cX6_readAtom 58 = .ok (.aload_n 0, 1) := by decide +kernel
theorem dX6_readAtom_59 : decode cX6_readAtom 59 = .ok (.getfield 35, 3) := by decide +kernel
theorem dX6_readAtom_62 : decode cX6_readAtom 62 = .ok (.getfield 79, 3) := by decide +kernel
theorem dX6_readAtom_65 : decode cX6_readAtom 65 = .ok (.iconst 2, 1) := by decide +kernel
theorem dX6_readAtom_66 : decode cX6_readAtom 66 = .ok (.if_icmp .ne 17, 3) := by decide +kernel
theorem dX6_readAtom_69 : decode cX6_readAtom 69 = .ok (.aload_n 1, 1) := by decide +kernel
theorem dX6_readAtom_70 : decode cX6_readAtom 70 = .ok (.aload_n 0, 1) := by decide +kernel
theorem dX6_readAtom_71 : decode cX6_readAtom 71 = .ok (.getfield 35, 3) := by decide +kernel
theorem dX6_readAtom_74 : decode cX6_readAtom 74 = .ok (.getfield 171, 3) := by decide +kernel
theorem dX6_readAtom_77 : decode cX6_readAtom 77 = .ok (.invokevirtual 238, 3) := by decide +kernel
theorem dX6_readAtom_80 : decode cX6_readAtom 80 = .ok (.goto 21, 3) := by decide +kernel
theorem dX6_readAtom_83 : decode cX6_readAtom 83 = .ok (.iload_n 3, 1) := by decide +kernel
theorem dX6_readAtom_84 : decode cX6_readAtom 84 = .ok (.iconst (-1), 1) := by decide +kernel
theorem dX6_readAtom_85 : decode cX6_readAtom 85 = .ok (.if_icmp .eq 11, 3) := by decide +kernel
theorem dX6_readAtom_88 : decode cX6_readAtom 88 = .ok (.aload_n 1, 1) := by decide +kernel
theorem dX6_readAtom_89 : decode cX6_readAtom 89 = .ok (.iload_n 3, 1) := by decide +kernel
theorem dX6_readAtom_90 : decode cX6_readAtom 90 = .ok (.invokevirtual 241, 3) := by decide +kernel
theorem dX6_readAtom_93 : decode cX6_readAtom 93 = .ok (.goto 8, 3) := by decide +kernel
theorem dX6_readAtom_96 : decode cX6_readAtom 96 = .ok (.aload_n 0, 1) := by decide +kernel
theorem dX6_readAtom_97 : decode cX6_readAtom 97 = .ok (.iconst 2, 1) := by decide +kernel
theorem dX6_readAtom_98 : decode cX6_readAtom 98 = .ok (.invokevirtual 118, 3) := by decide +kernel
theorem dX6_readAtom_101 : decode cX6_readAtom 101 = .ok (.aload_n 0, 1) := by decide +kernel
theorem dX6_readAtom_102 : decode cX6_readAtom 102 = .ok (.getfield 35, 3) := by decide +kernel
theorem dX6_readAtom_105 : decode cX6_readAtom 105 = .ok (.invokevirtual 132, 3) := by decide +kernel
theorem dX6_readAtom_108 : decode cX6_readAtom 108 = .ok (.iconst 0, 1) := by decide +kernel
theorem dX6_readAtom_109 : decode cX6_readAtom 109 = .ok (.ireturn, 1) := by decide +kernel
theorem dX6_readJoint_0 : decode cX6_readJoint 0 = .ok (.aload_n 1, 1) := by decide +kernel
theorem dX6_readJoint_1 : decode cX6_readJoint 1 = .ok (.getfield 218, 3) := by decide +kernel
theorem dX6_readJoint_4 : decode cX6_readJoint 4 = .ok (.ifCond .le 19, 3) := by decide +kernel
theorem dX6_readJoint_7 : decode cX6_readJoint 7 = .ok (.aload_n 0, 1) := by decide +kernel
theorem dX6_readJoint_8 : decode cX6_readJoint 8 = .ok (.getfield 35, 3) := by decide +kernel
theorem dX6_readJoint_11 : decode cX6_readJoint 11 = .ok (.bipush 41, 2) := by decide +kernel
theorem dX6_readJoint_13 : decode cX6_readJoint 13 = .ok (.invokevirtual 152, 3) := by decide +kernel
theorem dX6_readJoint_16 : decode cX6_readJoint 16 = .ok (.ifCond .eq 7, 3) := by decide +kernel
theorem dX6_readJoint_19 : decode cX6_readJoint 19 = .ok (.iconst 1, 1) := by decide +kernel
theorem dX6_readJoint_20 : decode cX6_readJoint 20 = .ok (.goto 4, 3) := by decide +kernel
theorem dX6_readJoint_23 : decode cX6_readJoint 23 = .ok (.iconst 0, 1) := by decide +kernel
theorem dX6_readJoint_24 : decode cX6_readJoint 24 = .ok (.istore_n 2, 1) := by decide +kernel
theorem dX6_readJoint_25 : decode cX6_readJoint 25 = .ok (.iload_n 2, 1) := by decide +kernel
theorem dX6_readJoint_26 : decode cX6_readJoint 26 = .ok (.ifCond .eq 10, 3) := by decide +kernel
theorem dX6_readJoint_29 : decode cX6_readJoint 29 = .ok (.aload_n 1, 1) := by decide +kernel
theorem dX6_readJoint_30 : decode cX6_readJoint 30 = .ok (.invokevirtual 244, 3) := by decide +kernel
theorem dX6_readJoint_33 : decode cX6_readJoint 33 = .ok (.goto 71, 3) := by decide +kernel
theorem dX6_readJoint_36 : decode cX6_readJoint 36 = .ok (.aload_n 0, 1) := by decide +kernel
theorem dX6_readJoint_37 : decode cX6_readJoint 37 = .ok (.getfield 35, 3) := by decide +kernel
theorem dX6_readJoint_40 : decode cX6_readJoint 40 = .ok (.bipush 43, 2) := by decide +kernel
theorem dX6_readJoint_42 : decode cX6_readJoint 42 = .ok (.invokevirtual 152, 3) := by decide +kernel
theorem dX6_readJoint_45 : decode cX6_readJoint 45 = .ok (.ifCond .eq 12, 3) := by decide +kernel
theorem dX6_readJoint_48 : decode cX6_readJoint 48 = .ok (.aload_n 1, 1) := by decide +kernel
theorem dX6_readJoint_49 : decode cX6_readJoint 49 = .ok (.bipush (-11), 2) := by decide +kernel
theorem dX6_readJoint_51 : decode cX6_readJoint 51 = .ok (.invokevirtual 247, 3) := by decide +kernel
theorem dX6_readJoint_54 : decode cX6_readJoint 54 = .ok (.goto 50, 3) := by decide +kernel
theorem dX6_readJoint_57 : decode cX6_readJoint 57 = .ok (.aload_n 0, 1) := by decide +kernel
theorem dX6_readJoint_58 : decode cX6_readJoint 58 = .ok (.getfield 35, 3) := by decide +kernel
theorem dX6_readJoint_61 : decode cX6_readJoint 61 = .ok (.bipush 45, 2) := by decide +kernel
theorem dX6_readJoint_63 : decode cX6_readJoint 63 = .ok (.invokevirtual 152, 3) := by decide +kernel
theorem dX6_readJoint_66 : decode cX6_readJoint 66 = .ok (.ifCond .eq 12, 3) := by decide +kernel
theorem dX6_readJoint_69 : decode cX6_readJoint 69 = .ok (.aload_n 1, 1) := by decide +kernel
theorem dX6_readJoint_70 : decode cX6_readJoint 70 = .ok (.bipush (-12), 2) := by decide +kernel
theorem dX6_readJoint_72 : decode cX6_readJoint 72 = .ok (.invokevirtual 247, 3) := by decide +kernel
theorem dX6_readJoint_75 : decode cX6_readJoint 75 = .ok (.goto 29, 3) := by decide +kernel
theorem dX6_readJoint_78 : decode cX6_readJoint 78 = .ok (.aload_n 0, 1) := by decide +kernel
theorem dX6_readJoint_79 : decode cX6_readJoint 79 = .ok (.getfield 35, 3) := by decide +kernel
theorem dX6_readJoint_82 : decode cX6_readJoint 82 = .ok (.bipush 42, 2) := by decide +kernel
theorem dX6_readJoint_84 : decode cX6_readJoint 84 = .ok (.invokevirtual 152, 3) := by decide +kernel
theorem dX6_readJoint_87 : decode cX6_readJoint 87 = .ok (.ifCond .eq 12, 3) := by decide +kernel
theorem dX6_readJoint_90 : decode cX6_readJoint 90 = .ok (.aload_n 1, 1) := by decide +kernel
theorem dX6_readJoint_91 : decode cX6_readJoint 91 = .ok (.bipush (-13), 2) := by decide +kernel
theorem dX6_readJoint_93 : decode cX6_readJoint 93 = .ok (.invokevirtual 247, 3) := by decide +kernel
theorem dX6_readJoint_96 : decode cX6_readJoint 96 = .ok (.goto 8, 3) := by decide +kernel
theorem dX6_readJoint_99 : decode cX6_readJoint 99 = .ok (.aload_n 0, 1) := by decide +kernel
theorem dX6_readJoint_100 : decode cX6_readJoint 100 = .ok (.iconst 2, 1) := by decide +kernel
theorem dX6_readJoint_101 : decode cX6_readJoint 101 = .ok (.invokevirtual 118, 3) := by decide +kernel
theorem dX6_readJoint_104 : decode cX6_readJoint 104 = .ok (.aload_n 0, 1) := by decide +kernel
theorem dX6_readJoint_105 : decode cX6_readJoint 105 = .ok (.getfield 35, 3) := by decide +kernel
theorem dX6_readJoint_108 : decode cX6_readJoint 108 = .ok (.invokevirtual 132, 3) := by decide +kernel
theorem dX6_readJoint_111 : decode cX6_readJoint 111 = .ok (.iload_n 2, 1) := by decide +kernel
theorem dX6_readJoint_112 : decode cX6_readJoint 112 = .ok (.ifCond .ne 7, 3) := by decide +kernel
theorem dX6_readJoint_115 : decode cX6_readJoint 115 = .ok (.iconst 1, 1) := by decide +kernel
theorem dX6_readJoint_116 : decode cX6_readJoint 116 = .ok (.goto 4, 3) := by decide +kernel
theorem dX6_readJoint_119 : decode cX6_readJoint 119 = .ok (.iconst 0, 1) := by decide +kernel
theorem dX6_readJoint_120 : decode cX6_readJoint 120 = .ok (.ireturn, 1) := by decide +kernel
theorem dX6_wordOfFoot_0 : decode cX6_wordOfFoot 0 = .ok (.aload_n 0, 1) := by decide +kernel
theorem dX6_wordOfFoot_1 : decode cX6_wordOfFoot 1 = .ok (.getfield 35, 3) := by decide +kernel
theorem dX6_wordOfFoot_4 : decode cX6_wordOfFoot 4 = .ok (.ldc 250, 2) := by decide +kernel
theorem dX6_wordOfFoot_6 : decode cX6_wordOfFoot 6 = .ok (.invokevirtual 93, 3) := by decide +kernel
theorem dX6_wordOfFoot_9 : decode cX6_wordOfFoot 9 = .ok (.ifCond .eq 5, 3) := by decide +kernel
theorem dX6_wordOfFoot_12 : decode cX6_wordOfFoot 12 = .ok (.iconst 0, 1) := by decide +kernel
theorem dX6_wordOfFoot_13 : decode cX6_wordOfFoot 13 = .ok (.ireturn, 1) := by decide +kernel
theorem dX6_wordOfFoot_14 : decode cX6_wordOfFoot 14 = .ok (.aload_n 0, 1) := by decide +kernel
theorem dX6_wordOfFoot_15 : decode cX6_wordOfFoot 15 = .ok (.getfield 35, 3) := by decide +kernel
theorem dX6_wordOfFoot_18 : decode cX6_wordOfFoot 18 = .ok (.ldc 204, 2) := by decide +kernel
theorem dX6_wordOfFoot_20 : decode cX6_wordOfFoot 20 = .ok (.invokevirtual 93, 3) := by decide +kernel
theorem dX6_wordOfFoot_23 : decode cX6_wordOfFoot 23 = .ok (.ifCond .eq 5, 3) := by decide +kernel
theorem dX6_wordOfFoot_26 : decode cX6_wordOfFoot 26 = .ok (.iconst 1, 1) := by decide +kernel
theorem dX6_wordOfFoot_27 : decode cX6_wordOfFoot 27 = .ok (.ireturn, 1) := by decide +kernel
theorem dX6_wordOfFoot_28 : decode cX6_wordOfFoot 28 = .ok (.aload_n 0, 1) := by decide +kernel
theorem dX6_wordOfFoot_29 : decode cX6_wordOfFoot 29 = .ok (.getfield 35, 3) := by decide +kernel
theorem dX6_wordOfFoot_32 : decode cX6_wordOfFoot 32 = .ok (.ldc 205, 2) := by decide +kernel
theorem dX6_wordOfFoot_34 : decode cX6_wordOfFoot 34 = .ok (.invokevirtual 93, 3) := by decide +kernel
theorem dX6_wordOfFoot_37 : decode cX6_wordOfFoot 37 = .ok (.ifCond .eq 5, 3) := by decide +kernel
theorem dX6_wordOfFoot_40 : decode cX6_wordOfFoot 40 = .ok (.iconst 2, 1) := by decide +kernel
theorem dX6_wordOfFoot_41 : decode cX6_wordOfFoot 41 = .ok (.ireturn, 1) := by decide +kernel
theorem dX6_wordOfFoot_42 : decode cX6_wordOfFoot 42 = .ok (.aload_n 0, 1) := by decide +kernel
theorem dX6_wordOfFoot_43 : decode cX6_wordOfFoot 43 = .ok (.getfield 35, 3) := by decide +kernel
theorem dX6_wordOfFoot_46 : decode cX6_wordOfFoot 46 = .ok (.ldc 252, 2) := by decide +kernel
theorem dX6_wordOfFoot_48 : decode cX6_wordOfFoot 48 = .ok (.invokevirtual 93, 3) := by decide +kernel
theorem dX6_wordOfFoot_51 : decode cX6_wordOfFoot 51 = .ok (.ifCond .eq 7, 3) := by decide +kernel
theorem dX6_wordOfFoot_54 : decode cX6_wordOfFoot 54 = .ok (.iconst 3, 1) := by decide +kernel
theorem dX6_wordOfFoot_55 : decode cX6_wordOfFoot 55 = .ok (.goto 4, 3) := by decide +kernel
theorem dX6_wordOfFoot_58 : decode cX6_wordOfFoot 58 = .ok (.iconst (-1), 1) := by decide +kernel
theorem dX6_wordOfFoot_59 : decode cX6_wordOfFoot 59 = .ok (.ireturn, 1) := by decide +kernel
theorem dX6_wordOfStop_0 : decode cX6_wordOfStop 0 = .ok (.aload_n 0, 1) := by decide +kernel
theorem dX6_wordOfStop_1 : decode cX6_wordOfStop 1 = .ok (.getfield 35, 3) := by decide +kernel
theorem dX6_wordOfStop_4 : decode cX6_wordOfStop 4 = .ok (.ldc 252, 2) := by decide +kernel
theorem dX6_wordOfStop_6 : decode cX6_wordOfStop 6 = .ok (.invokevirtual 93, 3) := by decide +kernel
theorem dX6_wordOfStop_9 : decode cX6_wordOfStop 9 = .ok (.ifCond .eq 5, 3) := by decide +kernel
theorem dX6_wordOfStop_12 : decode cX6_wordOfStop 12 = .ok (.iconst 0, 1) := by decide +kernel
theorem dX6_wordOfStop_13 : decode cX6_wordOfStop 13 = .ok (.ireturn, 1) := by decide +kernel
theorem dX6_wordOfStop_14 : decode cX6_wordOfStop 14 = .ok (.aload_n 0, 1) := by decide +kernel
theorem dX6_wordOfStop_15 : decode cX6_wordOfStop 15 = .ok (.getfield 35, 3) := by decide +kernel
theorem dX6_wordOfStop_18 : decode cX6_wordOfStop 18 = .ok (.ldc 165, 2) := by decide +kernel
theorem dX6_wordOfStop_20 : decode cX6_wordOfStop 20 = .ok (.invokevirtual 93, 3) := by decide +kernel
theorem dX6_wordOfStop_23 : decode cX6_wordOfStop 23 = .ok (.ifCond .eq 5, 3) := by decide +kernel
theorem dX6_wordOfStop_26 : decode cX6_wordOfStop 26 = .ok (.iconst 1, 1) := by decide +kernel
theorem dX6_wordOfStop_27 : decode cX6_wordOfStop 27 = .ok (.ireturn, 1) := by decide +kernel
theorem dX6_wordOfStop_28 : decode cX6_wordOfStop 28 = .ok (.aload_n 0, 1) := by decide +kernel
theorem dX6_wordOfStop_29 : decode cX6_wordOfStop 29 = .ok (.getfield 35, 3) := by decide +kernel
theorem dX6_wordOfStop_32 : decode cX6_wordOfStop 32 = .ok (.ldc 91, 2) := by decide +kernel
theorem dX6_wordOfStop_34 : decode cX6_wordOfStop 34 = .ok (.invokevirtual 93, 3) := by decide +kernel
theorem dX6_wordOfStop_37 : decode cX6_wordOfStop 37 = .ok (.ifCond .eq 7, 3) := by decide +kernel
theorem dX6_wordOfStop_40 : decode cX6_wordOfStop 40 = .ok (.iconst 2, 1) := by decide +kernel
theorem dX6_wordOfStop_41 : decode cX6_wordOfStop 41 = .ok (.goto 4, 3) := by decide +kernel
theorem dX6_wordOfStop_44 : decode cX6_wordOfStop 44 = .ok (.iconst (-1), 1) := by decide +kernel
theorem dX6_wordOfStop_45 : decode cX6_wordOfStop 45 = .ok (.ireturn, 1) := by decide +kernel
theorem dX6_takesWord_0 : decode cX6_takesWord 0 = .ok (.aload_n 0, 1) := by decide +kernel
theorem dX6_takesWord_1 : decode cX6_takesWord 1 = .ok (.getfield 35, 3) := by decide +kernel
theorem dX6_takesWord_4 : decode cX6_takesWord 4 = .ok (.aload_n 1, 1) := by decide +kernel
theorem dX6_takesWord_5 : decode cX6_takesWord 5 = .ok (.invokevirtual 93, 3) := by decide +kernel
theorem dX6_takesWord_8 : decode cX6_takesWord 8 = .ok (.ifCond .ne 5, 3) := by decide +kernel
theorem dX6_takesWord_11 : decode cX6_takesWord 11 = .ok (.iconst 0, 1) := by decide +kernel
theorem dX6_takesWord_12 : decode cX6_takesWord 12 = .ok (.ireturn, 1) := by decide +kernel
theorem dX6_takesWord_13 : decode cX6_takesWord 13 = .ok (.aload_n 0, 1) := by decide +kernel
theorem dX6_takesWord_14 : decode cX6_takesWord 14 = .ok (.getfield 35, 3) := by decide +kernel
theorem dX6_takesWord_17 : decode cX6_takesWord 17 = .ok (.invokevirtual 132, 3) := by decide +kernel
theorem dX6_takesWord_20 : decode cX6_takesWord 20 = .ok (.iconst 1, 1) := by decide +kernel
theorem dX6_takesWord_21 : decode cX6_takesWord 21 = .ok (.ireturn, 1) := by decide +kernel
theorem dX6_expectWord_0 : decode cX6_expectWord 0 = .ok (.aload_n 0, 1) := by decide +kernel
theorem dX6_expectWord_1 : decode cX6_expectWord 1 = .ok (.getfield 25, 3) := by decide +kernel
theorem dX6_expectWord_4 : decode cX6_expectWord 4 = .ok (.ifCond .ne 16, 3) := by decide +kernel
theorem dX6_expectWord_7 : decode cX6_expectWord 7 = .ok (.aload_n 0, 1) := by decide +kernel
theorem dX6_expectWord_8 : decode cX6_expectWord 8 = .ok (.aload_n 1, 1) := by decide +kernel
theorem dX6_expectWord_9 : decode cX6_expectWord 9 = .ok (.invokevirtual 160, 3) := by decide +kernel
theorem dX6_expectWord_12 : decode cX6_expectWord 12 = .ok (.ifCond .ne 8, 3) := by decide +kernel
theorem dX6_expectWord_15 : decode cX6_expectWord 15 = .ok (.aload_n 0, 1) := by decide +kernel
theorem dX6_expectWord_16 : decode cX6_expectWord 16 = .ok (.iconst 2, 1) := by decide +kernel
theorem dX6_expectWord_17 : decode cX6_expectWord 17 = .ok (.invokevirtual 118, 3) := by decide +kernel
theorem dX6_expectWord_20 : decode cX6_expectWord 20 = .ok (.return_, 1) := by decide +kernel
theorem dX6_expectSign_0 : decode cX6_expectSign 0 = .ok (.aload_n 0, 1) := by decide +kernel
theorem dX6_expectSign_1 : decode cX6_expectSign 1 = .ok (.getfield 25, 3) := by decide +kernel
theorem dX6_expectSign_4 : decode cX6_expectSign 4 = .ok (.ifCond .eq 4, 3) := by decide +kernel
theorem dX6_expectSign_7 : decode cX6_expectSign 7 = .ok (.return_, 1) := by decide +kernel
theorem dX6_expectSign_8 : decode cX6_expectSign 8 = .ok (.aload_n 0, 1) := by decide +kernel
theorem dX6_expectSign_9 : decode cX6_expectSign 9 = .ok (.getfield 35, 3) := by decide +kernel
theorem dX6_expectSign_12 : decode cX6_expectSign 12 = .ok (.iload_n 1, 1) := by decide +kernel
theorem dX6_expectSign_13 : decode cX6_expectSign 13 = .ok (.invokevirtual 152, 3) := by decide +kernel
theorem dX6_expectSign_16 : decode cX6_expectSign 16 = .ok (.ifCond .eq 13, 3) := by decide +kernel
theorem dX6_expectSign_19 : decode cX6_expectSign 19 = .ok (.aload_n 0, 1) := by decide +kernel
theorem dX6_expectSign_20 : decode cX6_expectSign 20 = .ok (.getfield 35, 3) := by decide +kernel
theorem dX6_expectSign_23 : decode cX6_expectSign 23 = .ok (.invokevirtual 132, 3) := by decide +kernel
theorem dX6_expectSign_26 : decode cX6_expectSign 26 = .ok (.goto 8, 3) := by decide +kernel
theorem dX6_expectSign_29 : decode cX6_expectSign 29 = .ok (.aload_n 0, 1) := by decide +kernel
theorem dX6_expectSign_30 : decode cX6_expectSign 30 = .ok (.iconst 2, 1) := by decide +kernel
theorem dX6_expectSign_31 : decode cX6_expectSign 31 = .ok (.invokevirtual 118, 3) := by decide +kernel
theorem dX6_expectSign_34 : decode cX6_expectSign 34 = .ok (.return_, 1) := by decide +kernel
theorem dX6_expectNumber_0 : decode cX6_expectNumber 0 = .ok (.aload_n 0, 1) := by decide +kernel
theorem dX6_expectNumber_1 : decode cX6_expectNumber 1 = .ok (.getfield 25, 3) := by decide +kernel
theorem dX6_expectNumber_4 : decode cX6_expectNumber 4 = .ok (.ifCond .eq 5, 3) := by decide +kernel
theorem dX6_expectNumber_7 : decode cX6_expectNumber 7 = .ok (.iconst 0, 1) := by decide +kernel
theorem dX6_expectNumber_8 : decode cX6_expectNumber 8 = .ok (.ireturn, 1) := by decide +kernel
theorem dX6_expectNumber_9 : decode cX6_expectNumber 9 = .ok (.aload_n 0, 1) := by decide +kernel
theorem dX6_expectNumber_10 : decode cX6_expectNumber 10 = .ok (.getfield 35, 3) := by decide +kernel
theorem dX6_expectNumber_13 : decode cX6_expectNumber 13 = .ok (.getfield 79, 3) := by decide +kernel
theorem dX6_expectNumber_16 : decode cX6_expectNumber 16 = .ok (.iconst 2, 1) := by decide +kernel
theorem dX6_expectNumber_17 : decode cX6_expectNumber 17 = .ok (.if_icmp .eq 11, 3) := by decide +kernel
theorem dX6_expectNumber_20 : decode cX6_expectNumber 20 = .ok (.aload_n 0, 1) := by decide +kernel
theorem dX6_expectNumber_21 : decode cX6_expectNumber 21 = .ok (.iconst 2, 1) := by decide +kernel
theorem dX6_expectNumber_22 : decode cX6_expectNumber 22 = .ok (.invokevirtual 118, 3) := by decide +kernel
theorem dX6_expectNumber_25 : decode cX6_expectNumber 25 = .ok (.goto 30, 3) := by decide +kernel
theorem dX6_expectNumber_28 : decode cX6_expectNumber 28 = .ok (.aload_n 0, 1) := by decide +kernel
theorem dX6_expectNumber_29 : decode cX6_expectNumber 29 = .ok (.getfield 35, 3) := by decide +kernel
theorem dX6_expectNumber_32 : decode cX6_expectNumber 32 = .ok (.getfield 171, 3) := by decide +kernel
theorem dX6_expectNumber_35 : decode cX6_expectNumber 35 = .ok (.iload_n 1, 1) := by decide +kernel
theorem dX6_expectNumber_36 : decode cX6_expectNumber 36 = .ok (.if_icmp .lt 14, 3) := by decide +kernel
theorem dX6_expectNumber_39 : decode cX6_expectNumber 39 = .ok (.aload_n 0, 1) := by decide +kernel
theorem dX6_expectNumber_40 : decode cX6_expectNumber 40 = .ok (.getfield 35, 3) := by decide +kernel
theorem dX6_expectNumber_43 : decode cX6_expectNumber 43 = .ok (.getfield 171, 3) := by decide +kernel
theorem dX6_expectNumber_46 : decode cX6_expectNumber 46 = .ok (.iload_n 2, 1) := by decide +kernel
theorem dX6_expectNumber_47 : decode cX6_expectNumber 47 = .ok (.if_icmp .le 8, 3) := by decide +kernel
theorem dX6_expectNumber_50 : decode cX6_expectNumber 50 = .ok (.aload_n 0, 1) := by decide +kernel
theorem dX6_expectNumber_51 : decode cX6_expectNumber 51 = .ok (.iconst 3, 1) := by decide +kernel
theorem dX6_expectNumber_52 : decode cX6_expectNumber 52 = .ok (.invokevirtual 118, 3) := by decide +kernel
theorem dX6_expectNumber_55 : decode cX6_expectNumber 55 = .ok (.aload_n 0, 1) := by decide +kernel
theorem dX6_expectNumber_56 : decode cX6_expectNumber 56 = .ok (.getfield 25, 3) := by decide +kernel
theorem dX6_expectNumber_59 : decode cX6_expectNumber 59 = .ok (.ifCond .eq 5, 3) := by decide +kernel
theorem dX6_expectNumber_62 : decode cX6_expectNumber 62 = .ok (.iconst 0, 1) := by decide +kernel
theorem dX6_expectNumber_63 : decode cX6_expectNumber 63 = .ok (.ireturn, 1) := by decide +kernel
theorem dX6_expectNumber_64 : decode cX6_expectNumber 64 = .ok (.aload_n 0, 1) := by decide +kernel
theorem dX6_expectNumber_65 : decode cX6_expectNumber 65 = .ok (.getfield 35, 3) := by decide +kernel
theorem dX6_expectNumber_68 : decode cX6_expectNumber 68 = .ok (.getfield 171, 3) := by decide +kernel
theorem dX6_expectNumber_71 : decode cX6_expectNumber 71 = .ok (.istore_n 3, 1) := by decide +kernel
theorem dX6_expectNumber_72 : decode cX6_expectNumber 72 = .ok (.aload_n 0, 1) := by decide +kernel
theorem dX6_expectNumber_73 : decode cX6_expectNumber 73 = .ok (.getfield 35, 3) := by decide +kernel
theorem dX6_expectNumber_76 : decode cX6_expectNumber 76 = .ok (.invokevirtual 132, 3) := by decide +kernel
theorem dX6_expectNumber_79 : decode cX6_expectNumber 79 = .ok (.iload_n 3, 1) := by decide +kernel
theorem dX6_expectNumber_80 : decode cX6_expectNumber 80 = .ok (.ireturn, 1) := by decide +kernel
theorem dX6_fail_0 : decode cX6_fail 0 = .ok (.aload_n 0, 1) := by decide +kernel
theorem dX6_fail_1 : decode cX6_fail 1 = .ok (.getfield 25, 3) := by decide +kernel
theorem dX6_fail_4 : decode cX6_fail 4 = .ok (.ifCond .eq 4, 3) := by decide +kernel
theorem dX6_fail_7 : decode cX6_fail 7 = .ok (.return_, 1) := by decide +kernel
theorem dX6_fail_8 : decode cX6_fail 8 = .ok (.aload_n 0, 1) := by decide +kernel
theorem dX6_fail_9 : decode cX6_fail 9 = .ok (.aload_n 0, 1) := by decide +kernel
theorem dX6_fail_10 : decode cX6_fail 10 = .ok (.getfield 35, 3) := by decide +kernel
theorem dX6_fail_13 : decode cX6_fail 13 = .ok (.getfield 79, 3) := by decide +kernel
theorem dX6_fail_16 : decode cX6_fail 16 = .ok (.iconst 4, 1) := by decide +kernel
theorem dX6_fail_17 : decode cX6_fail 17 = .ok (.if_icmp .ne 7, 3) := by decide +kernel
theorem dX6_fail_20 : decode cX6_fail 20 = .ok (.iconst 1, 1) := by decide +kernel
theorem dX6_fail_21 : decode cX6_fail 21 = .ok (.goto 4, 3) := by decide +kernel
theorem dX6_fail_24 : decode cX6_fail 24 = .ok (.iload_n 1, 1) := by decide +kernel
theorem dX6_fail_25 : decode cX6_fail 25 = .ok (.putfield 25, 3) := by decide +kernel
theorem dX6_fail_28 : decode cX6_fail 28 = .ok (.aload_n 0, 1) := by decide +kernel
theorem dX6_fail_29 : decode cX6_fail 29 = .ok (.aload_n 0, 1) := by decide +kernel
theorem dX6_fail_30 : decode cX6_fail 30 = .ok (.getfield 35, 3) := by decide +kernel
theorem dX6_fail_33 : decode cX6_fail 33 = .ok (.getfield 254, 3) := by decide +kernel
theorem dX6_fail_36 : decode cX6_fail 36 = .ok (.putfield 29, 3) := by decide +kernel
theorem dX6_fail_39 : decode cX6_fail 39 = .ok (.return_, 1) := by decide +kernel
theorem dX6_fillFeet_0 : decode cX6_fillFeet 0 = .ok (.iconst 0, 1) := by decide +kernel
theorem dX6_fillFeet_1 : decode cX6_fillFeet 1 = .ok (.istore_n 1, 1) := by decide +kernel
theorem dX6_fillFeet_2 : decode cX6_fillFeet 2 = .ok (.iload_n 1, 1) := by decide +kernel
theorem dX6_fillFeet_3 : decode cX6_fillFeet 3 = .ok (.aload_n 0, 1) := by decide +kernel
theorem dX6_fillFeet_4 : decode cX6_fillFeet 4 = .ok (.getfield 12, 3) := by decide +kernel
theorem dX6_fillFeet_7 : decode cX6_fillFeet 7 = .ok (.getfield 174, 3) := by decide +kernel
theorem dX6_fillFeet_10 : decode cX6_fillFeet 10 = .ok (.if_icmp .ge 100, 3) := by decide +kernel
theorem dX6_fillFeet_13 : decode cX6_fillFeet 13 = .ok (.iconst 0, 1) := by decide +kernel
theorem dX6_fillFeet_14 : decode cX6_fillFeet 14 = .ok (.istore_n 2, 1) := by decide +kernel
theorem dX6_fillFeet_15 : decode cX6_fillFeet 15 = .ok (.iload_n 2, 1) := by decide +kernel
theorem dX6_fillFeet_16 : decode cX6_fillFeet 16 = .ok (.aload_n 0, 1) := by decide +kernel
theorem dX6_fillFeet_17 : decode cX6_fillFeet 17 = .ok (.getfield 12, 3) := by decide +kernel
theorem dX6_fillFeet_20 : decode cX6_fillFeet 20 = .ok (.getfield 73, 3) := by decide +kernel
theorem dX6_fillFeet_23 : decode cX6_fillFeet 23 = .ok (.if_icmp .ge 81, 3) := by decide +kernel
theorem dX6_fillFeet_26 : decode cX6_fillFeet 26 = .ok (.aload_n 0, 1) := by decide +kernel
theorem dX6_fillFeet_27 : decode cX6_fillFeet 27 = .ok (.getfield 12, 3) := by decide +kernel
theorem dX6_fillFeet_30 : decode cX6_fillFeet 30 = .ok (.getfield 257, 3) := by decide +kernel
theorem dX6_fillFeet_33 : decode cX6_fillFeet 33 = .ok (.iload_n 1, 1) := by decide +kernel
theorem dX6_fillFeet_34 : decode cX6_fillFeet 34 = .ok (.bipush 12, 2) := by decide +kernel
theorem dX6_fillFeet_36 : decode cX6_fillFeet 36 = .ok (.imul, 1) := by decide +kernel
theorem dX6_fillFeet_37 : decode cX6_fillFeet 37 = .ok (.iload_n 2, 1) := by decide +kernel
theorem dX6_fillFeet_38 : decode cX6_fillFeet 38 = .ok (.iadd, 1) := by decide +kernel
theorem dX6_fillFeet_39 : decode cX6_fillFeet 39 = .ok (.aload_n 0, 1) := by decide +kernel
theorem dX6_fillFeet_40 : decode cX6_fillFeet 40 = .ok (.getfield 46, 3) := by decide +kernel
theorem dX6_fillFeet_43 : decode cX6_fillFeet 43 = .ok (.getfield 56, 3) := by decide +kernel
theorem dX6_fillFeet_46 : decode cX6_fillFeet 46 = .ok (.ifCond .eq 13, 3) := by decide +kernel
theorem dX6_fillFeet_49 : decode cX6_fillFeet 49 = .ok (.aload_n 0, 1) := by decide +kernel
theorem dX6_fillFeet_50 : decode cX6_fillFeet 50 = .ok (.iload_n 1, 1) := by decide +kernel
theorem dX6_fillFeet_51 : decode cX6_fillFeet 51 = .ok (.iload_n 2, 1) := by decide +kernel
theorem dX6_fillFeet_52 : decode cX6_fillFeet 52 = .ok (.iconst 1, 1) := by decide +kernel
theorem dX6_fillFeet_53 : decode cX6_fillFeet 53 = .ok (.invokevirtual 260, 3) := by decide +kernel
theorem dX6_fillFeet_56 : decode cX6_fillFeet 56 = .ok (.goto 5, 3) := by decide +kernel
theorem dX6_fillFeet_59 : decode cX6_fillFeet 59 = .ok (.bipush 10, 2) := by decide +kernel
theorem dX6_fillFeet_61 : decode cX6_fillFeet 61 = .ok (.iastore, 1) := by decide +kernel
theorem dX6_fillFeet_62 : decode cX6_fillFeet 62 = .ok (.aload_n 0, 1) := by decide +kernel
theorem dX6_fillFeet_63 : decode cX6_fillFeet 63 = .ok (.getfield 12, 3) := by decide +kernel
theorem dX6_fillFeet_66 : decode cX6_fillFeet 66 = .ok (.getfield 264, 3) := by decide +kernel
theorem dX6_fillFeet_69 : decode cX6_fillFeet 69 = .ok (.iload_n 1, 1) := by decide +kernel
theorem dX6_fillFeet_70 : decode cX6_fillFeet 70 = .ok (.bipush 12, 2) := by decide +kernel
theorem dX6_fillFeet_72 : decode cX6_fillFeet 72 = .ok (.imul, 1) := by decide +kernel
theorem dX6_fillFeet_73 : decode cX6_fillFeet 73 = .ok (.iload_n 2, 1) := by decide +kernel
theorem dX6_fillFeet_74 : decode cX6_fillFeet 74 = .ok (.iadd, 1) := by decide +kernel
theorem dX6_fillFeet_75 : decode cX6_fillFeet 75 = .ok (.aload_n 0, 1) := by decide +kernel
theorem dX6_fillFeet_76 : decode cX6_fillFeet 76 = .ok (.getfield 46, 3) := by decide +kernel
theorem dX6_fillFeet_79 : decode cX6_fillFeet 79 = .ok (.getfield 56, 3) := by decide +kernel
theorem dX6_fillFeet_82 : decode cX6_fillFeet 82 = .ok (.ifCond .eq 13, 3) := by decide +kernel
theorem dX6_fillFeet_85 : decode cX6_fillFeet 85 = .ok (.aload_n 0, 1) := by decide +kernel
theorem dX6_fillFeet_86 : decode cX6_fillFeet 86 = .ok (.iload_n 1, 1) := by decide +kernel
theorem dX6_fillFeet_87 : decode cX6_fillFeet 87 = .ok (.iload_n 2, 1) := by decide +kernel
theorem dX6_fillFeet_88 : decode cX6_fillFeet 88 = .ok (.iconst 0, 1) := by decide +kernel
theorem dX6_fillFeet_89 : decode cX6_fillFeet 89 = .ok (.invokevirtual 260, 3) := by decide +kernel
theorem dX6_fillFeet_92 : decode cX6_fillFeet 92 = .ok (.goto 5, 3) := by decide +kernel
theorem dX6_fillFeet_95 : decode cX6_fillFeet 95 = .ok (.bipush 6, 2) := by decide +kernel
theorem dX6_fillFeet_97 : decode cX6_fillFeet 97 = .ok (.iastore, 1) := by decide +kernel
theorem dX6_fillFeet_98 : decode cX6_fillFeet 98 = .ok (.iinc 2 1, 3) := by decide +kernel
theorem dX6_fillFeet_101 : decode cX6_fillFeet 101 = .ok (.goto (-86), 3) := by decide +kernel
theorem dX6_fillFeet_104 : decode cX6_fillFeet 104 = .ok (.iinc 1 1, 3) := by decide +kernel
theorem dX6_fillFeet_107 : decode cX6_fillFeet 107 = .ok (.goto (-105), 3) := by decide +kernel
theorem dX6_fillFeet_110 : decode cX6_fillFeet 110 = .ok (.iconst 0, 1) := by decide +kernel
theorem dX6_fillFeet_111 : decode cX6_fillFeet 111 = .ok (.istore_n 1, 1) := by decide +kernel
theorem dX6_fillFeet_112 : decode cX6_fillFeet 112 = .ok (.iload_n 1, 1) := by decide +kernel
theorem dX6_fillFeet_113 : decode cX6_fillFeet 113 = .ok (.aload_n 0, 1) := by decide +kernel
theorem dX6_fillFeet_114 : decode cX6_fillFeet 114 = .ok (.getfield 12, 3) := by decide +kernel
theorem dX6_fillFeet_117 : decode cX6_fillFeet 117 = .ok (.getfield 174, 3) := by decide +kernel
theorem dX6_fillFeet_120 : decode cX6_fillFeet 120 = .ok (.if_icmp .ge 60, 3) := by decide +kernel
theorem dX6_fillFeet_123 : decode cX6_fillFeet 123 = .ok (.iconst 0, 1) := by decide +kernel
theorem dX6_fillFeet_124 : decode cX6_fillFeet 124 = .ok (.istore_n 2, 1) := by decide +kernel
theorem dX6_fillFeet_125 : decode cX6_fillFeet 125 = .ok (.iload_n 2, 1) := by decide +kernel
theorem dX6_fillFeet_126 : decode cX6_fillFeet 126 = .ok (.aload_n 0, 1) := by decide +kernel
theorem dX6_fillFeet_127 : decode cX6_fillFeet 127 = .ok (.getfield 12, 3) := by decide +kernel
theorem dX6_fillFeet_130 : decode cX6_fillFeet 130 = .ok (.getfield 73, 3) := by decide +kernel
theorem dX6_fillFeet_133 : decode cX6_fillFeet 133 = .ok (.if_icmp .ge 41, 3) := by decide +kernel
theorem dX6_fillFeet_136 : decode cX6_fillFeet 136 = .ok (.aload_n 0, 1) := by decide +kernel
theorem dX6_fillFeet_137 : decode cX6_fillFeet 137 = .ok (.getfield 12, 3) := by decide +kernel
theorem dX6_fillFeet_140 : decode cX6_fillFeet 140 = .ok (.getfield 267, 3) := by decide +kernel
theorem dX6_fillFeet_143 : decode cX6_fillFeet 143 = .ok (.iload_n 1, 1) := by decide +kernel
theorem dX6_fillFeet_144 : decode cX6_fillFeet 144 = .ok (.bipush 12, 2) := by decide +kernel
theorem dX6_fillFeet_146 : decode cX6_fillFeet 146 = .ok (.imul, 1) := by decide +kernel
theorem dX6_fillFeet_147 : decode cX6_fillFeet 147 = .ok (.iload_n 2, 1) := by decide +kernel
theorem dX6_fillFeet_148 : decode cX6_fillFeet 148 = .ok (.iadd, 1) := by decide +kernel
theorem dX6_fillFeet_149 : decode cX6_fillFeet 149 = .ok (.aload_n 0, 1) := by decide +kernel
theorem dX6_fillFeet_150 : decode cX6_fillFeet 150 = .ok (.getfield 12, 3) := by decide +kernel
theorem dX6_fillFeet_153 : decode cX6_fillFeet 153 = .ok (.iload_n 1, 1) := by decide +kernel
theorem dX6_fillFeet_154 : decode cX6_fillFeet 154 = .ok (.iload_n 2, 1) := by decide +kernel
theorem dX6_fillFeet_155 : decode cX6_fillFeet 155 = .ok (.aload_n 0, 1) := by decide +kernel
theorem dX6_fillFeet_156 : decode cX6_fillFeet 156 = .ok (.getfield 12, 3) := by decide +kernel
theorem dX6_fillFeet_159 : decode cX6_fillFeet 159 = .ok (.getfield 179, 3) := by decide +kernel
theorem dX6_fillFeet_162 : decode cX6_fillFeet 162 = .ok (.iload_n 1, 1) := by decide +kernel
theorem dX6_fillFeet_163 : decode cX6_fillFeet 163 = .ok (.iaload, 1) := by decide +kernel
theorem dX6_fillFeet_164 : decode cX6_fillFeet 164 = .ok (.invokevirtual 270, 3) := by decide +kernel
theorem dX6_fillFeet_167 : decode cX6_fillFeet 167 = .ok (.iastore, 1) := by decide +kernel
theorem dX6_fillFeet_168 : decode cX6_fillFeet 168 = .ok (.iinc 2 1, 3) := by decide +kernel
theorem dX6_fillFeet_171 : decode cX6_fillFeet 171 = .ok (.goto (-46), 3) := by decide +kernel
theorem dX6_fillFeet_174 : decode cX6_fillFeet 174 = .ok (.iinc 1 1, 3) := by decide +kernel
theorem dX6_fillFeet_177 : decode cX6_fillFeet 177 = .ok (.goto (-65), 3) := by decide +kernel
theorem dX6_fillFeet_180 : decode cX6_fillFeet 180 = .ok (.return_, 1) := by decide +kernel
theorem dX6_footSeconds_0 : decode cX6_footSeconds 0 = .ok (.aload_n 0, 1) := by decide +kernel
theorem dX6_footSeconds_1 : decode cX6_footSeconds 1 = .ok (.getfield 46, 3) := by decide +kernel
theorem dX6_footSeconds_4 : decode cX6_footSeconds 4 = .ok (.getfield 273, 3) := by decide +kernel
theorem dX6_footSeconds_7 : decode cX6_footSeconds 7 = .ok (.iconst 0, 1) := by decide +kernel
theorem dX6_footSeconds_8 : decode cX6_footSeconds 8 = .ok (.iload_n 3, 1) := by decide +kernel
theorem dX6_footSeconds_9 : decode cX6_footSeconds 9 = .ok (.iastore, 1) := by decide +kernel
theorem dX6_footSeconds_10 : decode cX6_footSeconds 10 = .ok (.aload_n 0, 1) := by decide +kernel
theorem dX6_footSeconds_11 : decode cX6_footSeconds 11 = .ok (.getfield 46, 3) := by decide +kernel
theorem dX6_footSeconds_14 : decode cX6_footSeconds 14 = .ok (.getfield 273, 3) := by decide +kernel
theorem dX6_footSeconds_17 : decode cX6_footSeconds 17 = .ok (.iconst 1, 1) := by decide +kernel
theorem dX6_footSeconds_18 : decode cX6_footSeconds 18 = .ok (.aload_n 0, 1) := by decide +kernel
theorem dX6_footSeconds_19 : decode cX6_footSeconds 19 = .ok (.getfield 12, 3) := by decide +kernel
theorem dX6_footSeconds_22 : decode cX6_footSeconds 22 = .ok (.getfield 181, 3) := by decide +kernel
theorem dX6_footSeconds_25 : decode cX6_footSeconds 25 = .ok (.iload_n 1, 1) := by decide +kernel
theorem dX6_footSeconds_26 : decode cX6_footSeconds 26 = .ok (.iaload, 1) := by decide +kernel
theorem dX6_footSeconds_27 : decode cX6_footSeconds 27 = .ok (.iastore, 1) := by decide +kernel
theorem dX6_footSeconds_28 : decode cX6_footSeconds 28 = .ok (.aload_n 0, 1) := by decide +kernel
theorem dX6_footSeconds_29 : decode cX6_footSeconds 29 = .ok (.getfield 46, 3) := by decide +kernel
theorem dX6_footSeconds_32 : decode cX6_footSeconds 32 = .ok (.getfield 273, 3) := by decide +kernel
theorem dX6_footSeconds_35 : decode cX6_footSeconds 35 = .ok (.iconst 2, 1) := by decide +kernel
theorem dX6_footSeconds_36 : decode cX6_footSeconds 36 = .ok (.aload_n 0, 1) := by decide +kernel
theorem dX6_footSeconds_37 : decode cX6_footSeconds 37 = .ok (.getfield 12, 3) := by decide +kernel
theorem dX6_footSeconds_40 : decode cX6_footSeconds 40 = .ok (.getfield 184, 3) := by decide +kernel
theorem dX6_footSeconds_43 : decode cX6_footSeconds 43 = .ok (.iload_n 1, 1) := by decide +kernel
theorem dX6_footSeconds_44 : decode cX6_footSeconds 44 = .ok (.iaload, 1) := by decide +kernel
theorem dX6_footSeconds_45 : decode cX6_footSeconds 45 = .ok (.iastore, 1) := by decide +kernel
theorem dX6_footSeconds_46 : decode cX6_footSeconds 46 = .ok (.aload_n 0, 1) := by decide +kernel
theorem dX6_footSeconds_47 : decode cX6_footSeconds 47 = .ok (.getfield 46, 3) := by decide +kernel
theorem dX6_footSeconds_50 : decode cX6_footSeconds 50 = .ok (.getfield 273, 3) := by decide +kernel
theorem dX6_footSeconds_53 : decode cX6_footSeconds 53 = .ok (.iconst 3, 1) := by decide +kernel
theorem dX6_footSeconds_54 : decode cX6_footSeconds 54 = .ok (.iload_n 2, 1) := by decide +kernel
theorem dX6_footSeconds_55 : decode cX6_footSeconds 55 = .ok (.iastore, 1) := by decide +kernel
theorem dX6_footSeconds_56 : decode cX6_footSeconds 56 = .ok (.aload_n 0, 1) := by decide +kernel
theorem dX6_footSeconds_57 : decode cX6_footSeconds 57 = .ok (.getfield 46, 3) := by decide +kernel
theorem dX6_footSeconds_60 : decode cX6_footSeconds 60 = .ok (.invokevirtual 276, 3) := by decide +kernel
theorem dX6_footSeconds_63 : decode cX6_footSeconds 63 = .ok (.ireturn, 1) := by decide +kernel
theorem dX6_fillStops_0 : decode cX6_fillStops 0 = .ok (.iconst 0, 1) := by decide +kernel
theorem dX6_fillStops_1 : decode cX6_fillStops 1 = .ok (.istore_n 1, 1) := by decide +kernel
theorem dX6_fillStops_2 : decode cX6_fillStops 2 = .ok (.iload_n 1, 1) := by decide +kernel
theorem dX6_fillStops_3 : decode cX6_fillStops 3 = .ok (.aload_n 0, 1) := by decide +kernel
theorem dX6_fillStops_4 : decode cX6_fillStops 4 = .ok (.getfield 12, 3) := by decide +kernel
theorem dX6_fillStops_7 : decode cX6_fillStops 7 = .ok (.getfield 129, 3) := by decide +kernel
theorem dX6_fillStops_10 : decode cX6_fillStops 10 = .ok (.if_icmp .ge 90, 3) := by decide +kernel
theorem dX6_fillStops_13 : decode cX6_fillStops 13 = .ok (.iconst 0, 1) := by decide +kernel
theorem dX6_fillStops_14 : decode cX6_fillStops 14 = .ok (.istore_n 2, 1) := by decide +kernel
theorem dX6_fillStops_15 : decode cX6_fillStops 15 = .ok (.iload_n 2, 1) := by decide +kernel
theorem dX6_fillStops_16 : decode cX6_fillStops 16 = .ok (.aload_n 0, 1) := by decide +kernel
theorem dX6_fillStops_17 : decode cX6_fillStops 17 = .ok (.getfield 12, 3) := by decide +kernel
theorem dX6_fillStops_20 : decode cX6_fillStops 20 = .ok (.getfield 73, 3) := by decide +kernel
theorem dX6_fillStops_23 : decode cX6_fillStops 23 = .ok (.if_icmp .ge 71, 3) := by decide +kernel
theorem dX6_fillStops_26 : decode cX6_fillStops 26 = .ok (.iconst 1, 1) := by decide +kernel
theorem dX6_fillStops_27 : decode cX6_fillStops 27 = .ok (.istore_n 3, 1) := by decide +kernel
theorem dX6_fillStops_28 : decode cX6_fillStops 28 = .ok (.iload_n 3, 1) := by decide +kernel
theorem dX6_fillStops_29 : decode cX6_fillStops 29 = .ok (.bipush 12, 2) := by decide +kernel
theorem dX6_fillStops_31 : decode cX6_fillStops 31 = .ok (.if_icmp .ge 57, 3) := by decide +kernel
theorem dX6_fillStops_34 : decode cX6_fillStops 34 = .ok (.aload_n 0, 1) := by decide +kernel
theorem dX6_fillStops_35 : decode cX6_fillStops 35 = .ok (.getfield 50, 3) := by decide +kernel
theorem dX6_fillStops_38 : decode cX6_fillStops 38 = .ok (.getfield 56, 3) := by decide +kernel
theorem dX6_fillStops_41 : decode cX6_fillStops 41 = .ok (.ifCond .eq 13, 3) := by decide +kernel
theorem dX6_fillStops_44 : decode cX6_fillStops 44 = .ok (.aload_n 0, 1) := by decide +kernel
theorem dX6_fillStops_45 : decode cX6_fillStops 45 = .ok (.iload_n 1, 1) := by decide +kernel
theorem dX6_fillStops_46 : decode cX6_fillStops 46 = .ok (.iload_n 2, 1) := by decide +kernel
theorem dX6_fillStops_47 : decode cX6_fillStops 47 = .ok (.iload_n 3, 1) := by decide +kernel
theorem dX6_fillStops_48 : decode cX6_fillStops 48 = .ok (.invokevirtual 279, 3) := by decide +kernel
theorem dX6_fillStops_51 : decode cX6_fillStops 51 = .ok (.goto 9, 3) := by decide +kernel
theorem dX6_fillStops_54 : decode cX6_fillStops 54 = .ok (.aload_n 0, 1) := by decide +kernel
theorem dX6_fillStops_55 : decode cX6_fillStops 55 = .ok (.getfield 39, 3) := by decide +kernel
theorem dX6_fillStops_58 : decode cX6_fillStops 58 = .ok (.iload_n 1, 1) := by decide +kernel
theorem dX6_fillStops_59 : decode cX6_fillStops 59 = .ok (.iaload, 1) := by decide +kernel
theorem dX6_fillStops_60 : decode cX6_fillStops 60 = .ok (.istore 4, 2) := by decide +kernel
theorem dX6_fillStops_62 : decode cX6_fillStops 62 = .ok (.aload_n 0, 1) := by decide +kernel
theorem dX6_fillStops_63 : decode cX6_fillStops 63 = .ok (.getfield 12, 3) := by decide +kernel
theorem dX6_fillStops_66 : decode cX6_fillStops 66 = .ok (.getfield 282, 3) := by decide +kernel
theorem dX6_fillStops_69 : decode cX6_fillStops 69 = .ok (.aload_n 0, 1) := by decide +kernel
theorem dX6_fillStops_70 : decode cX6_fillStops 70 = .ok (.getfield 12, 3) := by decide +kernel
theorem dX6_fillStops_73 : decode cX6_fillStops 73 = .ok (.iload_n 1, 1) := by decide +kernel
theorem dX6_fillStops_74 : decode cX6_fillStops 74 = .ok (.iload_n 2, 1) := by decide +kernel
theorem dX6_fillStops_75 : decode cX6_fillStops 75 = .ok (.iload_n 3, 1) := by decide +kernel
theorem dX6_fillStops_76 : decode cX6_fillStops 76 = .ok (.invokevirtual 285, 3) := by decide +kernel
theorem dX6_fillStops_79 : decode cX6_fillStops 79 = .ok (.iload 4, 2) := by decide +kernel
theorem dX6_fillStops_81 : decode cX6_fillStops 81 = .ok (.iastore, 1) := by decide +kernel
theorem dX6_fillStops_82 : decode cX6_fillStops 82 = .ok (.iinc 3 1, 3) := by decide +kernel
theorem dX6_fillStops_85 : decode cX6_fillStops 85 = .ok (.goto (-57), 3) := by decide +kernel
theorem dX6_fillStops_88 : decode cX6_fillStops 88 = .ok (.iinc 2 1, 3) := by decide +kernel
theorem dX6_fillStops_91 : decode cX6_fillStops 91 = .ok (.goto (-76), 3) := by decide +kernel
theorem dX6_fillStops_94 : decode cX6_fillStops 94 = .ok (.iinc 1 1, 3) := by decide +kernel
theorem dX6_fillStops_97 : decode cX6_fillStops 97 = .ok (.goto (-95), 3) := by decide +kernel
theorem dX6_fillStops_100 : decode cX6_fillStops 100 = .ok (.return_, 1) := by decide +kernel
theorem dX6_stopSeconds_0 : decode cX6_stopSeconds 0 = .ok (.aload_n 0, 1) := by decide +kernel
theorem dX6_stopSeconds_1 : decode cX6_stopSeconds 1 = .ok (.getfield 50, 3) := by decide +kernel
theorem dX6_stopSeconds_4 : decode cX6_stopSeconds 4 = .ok (.getfield 273, 3) := by decide +kernel
theorem dX6_stopSeconds_7 : decode cX6_stopSeconds 7 = .ok (.iconst 0, 1) := by decide +kernel
theorem dX6_stopSeconds_8 : decode cX6_stopSeconds 8 = .ok (.iload_n 2, 1) := by decide +kernel
theorem dX6_stopSeconds_9 : decode cX6_stopSeconds 9 = .ok (.iastore, 1) := by decide +kernel
theorem dX6_stopSeconds_10 : decode cX6_stopSeconds 10 = .ok (.aload_n 0, 1) := by decide +kernel
theorem dX6_stopSeconds_11 : decode cX6_stopSeconds 11 = .ok (.getfield 50, 3) := by decide +kernel
theorem dX6_stopSeconds_14 : decode cX6_stopSeconds 14 = .ok (.getfield 273, 3) := by decide +kernel
theorem dX6_stopSeconds_17 : decode cX6_stopSeconds 17 = .ok (.iconst 1, 1) := by decide +kernel
theorem dX6_stopSeconds_18 : decode cX6_stopSeconds 18 = .ok (.iload_n 3, 1) := by decide +kernel
theorem dX6_stopSeconds_19 : decode cX6_stopSeconds 19 = .ok (.iastore, 1) := by decide +kernel
theorem dX6_stopSeconds_20 : decode cX6_stopSeconds 20 = .ok (.aload_n 0, 1) := by decide +kernel
theorem dX6_stopSeconds_21 : decode cX6_stopSeconds 21 = .ok (.getfield 50, 3) := by decide +kernel
theorem dX6_stopSeconds_24 : decode cX6_stopSeconds 24 = .ok (.getfield 273, 3) := by decide +kernel
theorem dX6_stopSeconds_27 : decode cX6_stopSeconds 27 = .ok (.iconst 2, 1) := by decide +kernel
theorem dX6_stopSeconds_28 : decode cX6_stopSeconds 28 = .ok (.iload_n 1, 1) := by decide +kernel
theorem dX6_stopSeconds_29 : decode cX6_stopSeconds 29 = .ok (.iastore, 1) := by decide +kernel
theorem dX6_stopSeconds_30 : decode cX6_stopSeconds 30 = .ok (.aload_n 0, 1) := by decide +kernel
theorem dX6_stopSeconds_31 : decode cX6_stopSeconds 31 = .ok (.getfield 50, 3) := by decide +kernel
theorem dX6_stopSeconds_34 : decode cX6_stopSeconds 34 = .ok (.invokevirtual 276, 3) := by decide +kernel
theorem dX6_stopSeconds_37 : decode cX6_stopSeconds 37 = .ok (.ireturn, 1) := by decide +kernel
