theorem dX7_init_0 : decode cX7_init 0 = .ok (.aload_n 0, 1) := by decide +kernel
theorem dX7_init_1 : decode cX7_init 1 = .ok (.invokespecial 3, 3) := by decide +kernel
theorem dX7_init_4 : decode cX7_init 4 = .ok (.aload_n 0, 1) := by decide +kernel
theorem dX7_init_5 : decode cX7_init 5 = .ok (.sipush 909, 3) := by decide +kernel
theorem dX7_init_8 : decode cX7_init 8 = .ok (.newarray .int, 2) := by decide +kernel
theorem dX7_init_10 : decode cX7_init 10 = .ok (.putfield 9, 3) := by decide +kernel
theorem dX7_init_13 : decode cX7_init 13 = .ok (.aload_n 0, 1) := by decide +kernel
theorem dX7_init_14 : decode cX7_init 14 = .ok (.sipush 909, 3) := by decide +kernel
theorem dX7_init_17 : decode cX7_init 17 = .ok (.newarray .int, 2) := by decide +kernel
theorem dX7_init_19 : decode cX7_init 19 = .ok (.putfield 15, 3) := by decide +kernel
theorem dX7_init_22 : decode cX7_init 22 = .ok (.aload_n 0, 1) := by decide +kernel
theorem dX7_init_23 : decode cX7_init 23 = .ok (.bipush 12, 2) := by decide +kernel
theorem dX7_init_25 : decode cX7_init 25 = .ok (.newarray .int, 2) := by decide +kernel
theorem dX7_init_27 : decode cX7_init 27 = .ok (.putfield 18, 3) := by decide +kernel
theorem dX7_init_30 : decode cX7_init 30 = .ok (.aload_n 0, 1) := by decide +kernel
theorem dX7_init_31 : decode cX7_init 31 = .ok (.bipush 6, 2) := by decide +kernel
theorem dX7_init_33 : decode cX7_init 33 = .ok (.newarray .int, 2) := by decide +kernel
theorem dX7_init_35 : decode cX7_init 35 = .ok (.putfield 21, 3) := by decide +kernel
theorem dX7_init_38 : decode cX7_init 38 = .ok (.aload_n 0, 1) := by decide +kernel
theorem dX7_init_39 : decode cX7_init 39 = .ok (.bipush 64, 2) := by decide +kernel
theorem dX7_init_41 : decode cX7_init 41 = .ok (.newarray .boolean, 2) := by decide +kernel
theorem dX7_init_43 : decode cX7_init 43 = .ok (.putfield 24, 3) := by decide +kernel
theorem dX7_init_46 : decode cX7_init 46 = .ok (.aload_n 0, 1) := by decide +kernel
theorem dX7_init_47 : decode cX7_init 47 = .ok (.bipush 28, 2) := by decide +kernel
theorem dX7_init_49 : decode cX7_init 49 = .ok (.newarray .int, 2) := by decide +kernel
theorem dX7_init_51 : decode cX7_init 51 = .ok (.putfield 28, 3) := by decide +kernel
theorem dX7_init_54 : decode cX7_init 54 = .ok (.aload_n 0, 1) := by decide +kernel
theorem dX7_init_55 : decode cX7_init 55 = .ok (.sipush 4096, 3) := by decide +kernel
theorem dX7_init_58 : decode cX7_init 58 = .ok (.newarray .int, 2) := by decide +kernel
theorem dX7_init_60 : decode cX7_init 60 = .ok (.putfield 31, 3) := by decide +kernel
theorem dX7_init_63 : decode cX7_init 63 = .ok (.aload_n 0, 1) := by decide +kernel
theorem dX7_init_64 : decode cX7_init 64 = .ok (.sipush 4096, 3) := by decide +kernel
theorem dX7_init_67 : decode cX7_init 67 = .ok (.newarray .int, 2) := by decide +kernel
theorem dX7_init_69 : decode cX7_init 69 = .ok (.putfield 34, 3) := by decide +kernel
theorem dX7_init_72 : decode cX7_init 72 = .ok (.aload_n 0, 1) := by decide +kernel
theorem dX7_init_73 : decode cX7_init 73 = .ok (.iconst 4, 1) := by decide +kernel
theorem dX7_init_74 : decode cX7_init 74 = .ok (.newarray .int, 2) := by decide +kernel
theorem dX7_init_76 : decode cX7_init 76 = .ok (.putfield 37, 3) := by decide +kernel
theorem dX7_init_79 : decode cX7_init 79 = .ok (.aload_n 0, 1) := by decide +kernel
theorem dX7_init_80 : decode cX7_init 80 = .ok (.iconst 4, 1) := by decide +kernel
theorem dX7_init_81 : decode cX7_init 81 = .ok (.newarray .int, 2) := by decide +kernel
theorem dX7_init_83 : decode cX7_init 83 = .ok (.putfield 40, 3) := by decide +kernel
theorem dX7_init_86 : decode cX7_init 86 = .ok (.aload_n 0, 1) := by decide +kernel
theorem dX7_init_87 : decode cX7_init 87 = .ok (.bipush 20, 2) := by decide +kernel
theorem dX7_init_89 : decode cX7_init 89 = .ok (.newarray .int, 2) := by decide +kernel
theorem dX7_init_91 : decode cX7_init 91 = .ok (.putfield 43, 3) := by decide +kernel
theorem dX7_init_94 : decode cX7_init 94 = .ok (.aload_n 0, 1) := by decide +kernel
theorem dX7_init_95 : decode cX7_init 95 = .ok (.getfield 9, 3) := by decide +kernel
theorem dX7_init_98 : decode cX7_init 98 = .ok (.bipush 19, 2) := by decide +kernel
theorem dX7_init_100 : decode cX7_init 100 = .ok (.iconst (-1), 1) := by decide +kernel
theorem dX7_init_101 : decode cX7_init 101 = .ok (.iastore, 1) := by decide +kernel
theorem dX7_init_102 : decode cX7_init 102 = .ok (.return_, 1) := by decide +kernel
theorem dX7_in_0 : decode cX7_in 0 = .ok (.iload_n 0, 1) := by decide +kernel
theorem dX7_in_1 : decode cX7_in 1 = .ok (.iload_n 1, 1) := by decide +kernel
theorem dX7_in_2 : decode cX7_in 2 = .ok (.if_icmp .lt 12, 3) := by decide +kernel
theorem dX7_in_5 : decode cX7_in 5 = .ok (.iload_n 0, 1) := by decide +kernel
theorem dX7_in_6 : decode cX7_in 6 = .ok (.iload_n 2, 1) := by decide +kernel
theorem dX7_in_7 : decode cX7_in 7 = .ok (.if_icmp .gt 7, 3) := by decide +kernel
theorem dX7_in_10 : decode cX7_in 10 = .ok (.iconst 1, 1) := by decide +kernel
theorem dX7_in_11 : decode cX7_in 11 = .ok (.goto 4, 3) := by decide +kernel
theorem dX7_in_14 : decode cX7_in 14 = .ok (.iconst 0, 1) := by decide +kernel
theorem dX7_in_15 : decode cX7_in 15 = .ok (.ireturn, 1) := by decide +kernel
theorem dX7_within_0 : decode cX7_within 0 = .ok (.iload_n 0, 1) := by decide +kernel
theorem dX7_within_1 : decode cX7_within 1 = .ok (.iload_n 1, 1) := by decide +kernel
theorem dX7_within_2 : decode cX7_within 2 = .ok (.if_icmp .ge 7, 3) := by decide +kernel
theorem dX7_within_5 : decode cX7_within 5 = .ok (.iload_n 1, 1) := by decide +kernel
theorem dX7_within_6 : decode cX7_within 6 = .ok (.goto 13, 3) := by decide +kernel
theorem dX7_within_9 : decode cX7_within 9 = .ok (.iload_n 0, 1) := by decide +kernel
theorem dX7_within_10 : decode cX7_within 10 = .ok (.iload_n 2, 1) := by decide +kernel
theorem dX7_within_11 : decode cX7_within 11 = .ok (.if_icmp .le 7, 3) := by decide +kernel
theorem dX7_within_14 : decode cX7_within 14 = .ok (.iload_n 2, 1) := by decide +kernel
theorem dX7_within_15 : decode cX7_within 15 = .ok (.goto 4, 3) := by decide +kernel
theorem dX7_within_18 : decode cX7_within 18 = .ok (.iload_n 0, 1) := by decide +kernel
theorem dX7_within_19 : decode cX7_within 19 = .ok (.ireturn, 1) := by decide +kernel
theorem dX7_isReader_0 : decode cX7_isReader 0 = .ok (.iload_n 1, 1) := by decide +kernel
theorem dX7_isReader_1 : decode cX7_isReader 1 = .ok (.iconst 0, 1) := by decide +kernel
theorem dX7_isReader_2 : decode cX7_isReader 2 = .ok (.aload_n 0, 1) := by decide +kernel
theorem dX7_isReader_3 : decode cX7_isReader 3 = .ok (.getfield 9, 3) := by decide +kernel
theorem dX7_isReader_6 : decode cX7_isReader 6 = .ok (.bipush 12, 2) := by decide +kernel
theorem dX7_isReader_8 : decode cX7_isReader 8 = .ok (.iaload, 1) := by decide +kernel
theorem dX7_isReader_9 : decode cX7_isReader 9 = .ok (.iconst 1, 1) := by decide +kernel
theorem dX7_isReader_10 : decode cX7_isReader 10 = .ok (.isub, 1) := by decide +kernel
theorem dX7_isReader_11 : decode cX7_isReader 11 = .ok (.invokestatic 50, 3) := by decide +kernel
theorem dX7_isReader_14 : decode cX7_isReader 14 = .ok (.ireturn, 1) := by decide +kernel
theorem dX7_isBook_0 : decode cX7_isBook 0 = .ok (.iload_n 1, 1) := by decide +kernel
theorem dX7_isBook_1 : decode cX7_isBook 1 = .ok (.iconst 0, 1) := by decide +kernel
theorem dX7_isBook_2 : decode cX7_isBook 2 = .ok (.aload_n 0, 1) := by decide +kernel
theorem dX7_isBook_3 : decode cX7_isBook 3 = .ok (.getfield 9, 3) := by decide +kernel
theorem dX7_isBook_6 : decode cX7_isBook 6 = .ok (.bipush 13, 2) := by decide +kernel
theorem dX7_isBook_8 : decode cX7_isBook 8 = .ok (.iaload, 1) := by decide +kernel
theorem dX7_isBook_9 : decode cX7_isBook 9 = .ok (.iconst 1, 1) := by decide +kernel
theorem dX7_isBook_10 : decode cX7_isBook 10 = .ok (.isub, 1) := by decide +kernel
theorem dX7_isBook_11 : decode cX7_isBook 11 = .ok (.invokestatic 50, 3) := by decide +kernel
theorem dX7_isBook_14 : decode cX7_isBook 14 = .ok (.ireturn, 1) := by decide +kernel
theorem dX7_orNone_0 : decode cX7_orNone 0 = .ok (.iload_n 1, 1) := by decide +kernel
theorem dX7_orNone_1 : decode cX7_orNone 1 = .ok (.iconst (-1), 1) := by decide +kernel
theorem dX7_orNone_2 : decode cX7_orNone 2 = .ok (.if_icmp .ne 8, 3) := by decide +kernel
theorem dX7_orNone_5 : decode cX7_orNone 5 = .ok (.bipush (-5), 2) := by decide +kernel
theorem dX7_orNone_7 : decode cX7_orNone 7 = .ok (.goto 4, 3) := by decide +kernel
theorem dX7_orNone_10 : decode cX7_orNone 10 = .ok (.iload_n 1, 1) := by decide +kernel
theorem dX7_orNone_11 : decode cX7_orNone 11 = .ok (.ireturn, 1) := by decide +kernel
theorem dX7_keeps_0 : decode cX7_keeps 0 = .ok (.iconst 0, 1) := by decide +kernel
theorem dX7_keeps_1 : decode cX7_keeps 1 = .ok (.istore_n 1, 1) := by decide +kernel
theorem dX7_keeps_2 : decode cX7_keeps 2 = .ok (.iload_n 1, 1) := by decide +kernel
theorem dX7_keeps_3 : decode cX7_keeps 3 = .ok (.bipush 12, 2) := by decide +kernel
theorem dX7_keeps_5 : decode cX7_keeps 5 = .ok (.if_icmp .ge 21, 3) := by decide +kernel
theorem dX7_keeps_8 : decode cX7_keeps 8 = .ok (.aload_n 0, 1) := by decide +kernel
theorem dX7_keeps_9 : decode cX7_keeps 9 = .ok (.getfield 18, 3) := by decide +kernel
theorem dX7_keeps_12 : decode cX7_keeps 12 = .ok (.iload_n 1, 1) := by decide +kernel
theorem dX7_keeps_13 : decode cX7_keeps 13 = .ok (.aload_n 0, 1) := by decide +kernel
theorem dX7_keeps_14 : decode cX7_keeps 14 = .ok (.getfield 9, 3) := by decide +kernel
theorem dX7_keeps_17 : decode cX7_keeps 17 = .ok (.iload_n 1, 1) := by decide +kernel
theorem dX7_keeps_18 : decode cX7_keeps 18 = .ok (.iaload, 1) := by decide +kernel
theorem dX7_keeps_19 : decode cX7_keeps 19 = .ok (.iastore, 1) := by decide +kernel
theorem dX7_keeps_20 : decode cX7_keeps 20 = .ok (.iinc 1 1, 3) := by decide +kernel
theorem dX7_keeps_23 : decode cX7_keeps 23 = .ok (.goto (-21), 3) := by decide +kernel
theorem dX7_keeps_26 : decode cX7_keeps 26 = .ok (.return_, 1) := by decide +kernel
theorem dX7_goesBack_0 : decode cX7_goesBack 0 = .ok (.iconst 0, 1) := by decide +kernel
theorem dX7_goesBack_1 : decode cX7_goesBack 1 = .ok (.istore_n 1, 1) := by decide +kernel
theorem dX7_goesBack_2 : decode cX7_goesBack 2 = .ok (.iload_n 1, 1) := by decide +kernel
theorem dX7_goesBack_3 : decode cX7_goesBack 3 = .ok (.bipush 12, 2) := by decide +kernel
theorem dX7_goesBack_5 : decode cX7_goesBack 5 = .ok (.if_icmp .ge 21, 3) := by decide +kernel
theorem dX7_goesBack_8 : decode cX7_goesBack 8 = .ok (.aload_n 0, 1) := by decide +kernel
theorem dX7_goesBack_9 : decode cX7_goesBack 9 = .ok (.getfield 9, 3) := by decide +kernel
theorem dX7_goesBack_12 : decode cX7_goesBack 12 = .ok (.iload_n 1, 1) := by decide +kernel
theorem dX7_goesBack_13 : decode cX7_goesBack 13 = .ok (.aload_n 0, 1) := by decide +kernel
theorem dX7_goesBack_14 : decode cX7_goesBack 14 = .ok (.getfield 18, 3) := by decide +kernel
theorem dX7_goesBack_17 : decode cX7_goesBack 17 = .ok (.iload_n 1, 1) := by decide +kernel
theorem dX7_goesBack_18 : decode cX7_goesBack 18 = .ok (.iaload, 1) := by decide +kernel
theorem dX7_goesBack_19 : decode cX7_goesBack 19 = .ok (.iastore, 1) := by decide +kernel
theorem dX7_goesBack_20 : decode cX7_goesBack 20 = .ok (.iinc 1 1, 3) := by decide +kernel
theorem dX7_goesBack_23 : decode cX7_goesBack 23 = .ok (.goto (-21), 3) := by decide +kernel
theorem dX7_goesBack_26 : decode cX7_goesBack 26 = .ok (.return_, 1) := by decide +kernel
theorem dX7_feed_0 : decode cX7_feed 0 = .ok (.iload_n 1, 1) := by decide +kernel
theorem dX7_feed_1 : decode cX7_feed 1 = .ok (.iconst 0, 1) := by decide +kernel
theorem dX7_feed_2 : decode cX7_feed 2 = .ok (.bipush 127, 2) := by decide +kernel
theorem dX7_feed_4 : decode cX7_feed 4 = .ok (.invokestatic 50, 3) := by decide +kernel
theorem dX7_feed_7 : decode cX7_feed 7 = .ok (.ifCond .ne 6, 3) := by decide +kernel
theorem dX7_feed_10 : decode cX7_feed 10 = .ok (.bipush (-2), 2) := by decide +kernel
theorem dX7_feed_12 : decode cX7_feed 12 = .ok (.ireturn, 1) := by decide +kernel
theorem dX7_feed_13 : decode cX7_feed 13 = .ok (.aload_n 0, 1) := by decide +kernel
theorem dX7_feed_14 : decode cX7_feed 14 = .ok (.getfield 9, 3) := by decide +kernel
theorem dX7_feed_17 : decode cX7_feed 17 = .ok (.bipush 18, 2) := by decide +kernel
theorem dX7_feed_19 : decode cX7_feed 19 = .ok (.iaload, 1) := by decide +kernel
theorem dX7_feed_20 : decode cX7_feed 20 = .ok (.bipush 100, 2) := by decide +kernel
theorem dX7_feed_22 : decode cX7_feed 22 = .ok (.if_icmp .ne 6, 3) := by decide +kernel
theorem dX7_feed_25 : decode cX7_feed 25 = .ok (.bipush (-4), 2) := by decide +kernel
theorem dX7_feed_27 : decode cX7_feed 27 = .ok (.ireturn, 1) := by decide +kernel
theorem dX7_feed_28 : decode cX7_feed 28 = .ok (.aload_n 0, 1) := by decide +kernel
theorem dX7_feed_29 : decode cX7_feed 29 = .ok (.getfield 9, 3) := by decide +kernel
theorem dX7_feed_32 : decode cX7_feed 32 = .ok (.bipush 94, 2) := by decide +kernel
theorem dX7_feed_34 : decode cX7_feed 34 = .ok (.aload_n 0, 1) := by decide +kernel
theorem dX7_feed_35 : decode cX7_feed 35 = .ok (.getfield 9, 3) := by decide +kernel
theorem dX7_feed_38 : decode cX7_feed 38 = .ok (.bipush 18, 2) := by decide +kernel
theorem dX7_feed_40 : decode cX7_feed 40 = .ok (.iaload, 1) := by decide +kernel
theorem dX7_feed_41 : decode cX7_feed 41 = .ok (.iadd, 1) := by decide +kernel
theorem dX7_feed_42 : decode cX7_feed 42 = .ok (.iload_n 1, 1) := by decide +kernel
theorem dX7_feed_43 : decode cX7_feed 43 = .ok (.iastore, 1) := by decide +kernel
theorem dX7_feed_44 : decode cX7_feed 44 = .ok (.aload_n 0, 1) := by decide +kernel
theorem dX7_feed_45 : decode cX7_feed 45 = .ok (.getfield 9, 3) := by decide +kernel
theorem dX7_feed_48 : decode cX7_feed 48 = .ok (.bipush 18, 2) := by decide +kernel
theorem dX7_feed_50 : decode cX7_feed 50 = .ok (.dup2, 1) := by decide +kernel
theorem dX7_feed_51 : decode cX7_feed 51 = .ok (.iaload, 1) := by decide +kernel
theorem dX7_feed_52 : decode cX7_feed 52 = .ok (.iconst 1, 1) := by decide +kernel
theorem dX7_feed_53 : decode cX7_feed 53 = .ok (.iadd, 1) := by decide +kernel
theorem dX7_feed_54 : decode cX7_feed 54 = .ok (.iastore, 1) := by decide +kernel
theorem dX7_feed_55 : decode cX7_feed 55 = .ok (.aload_n 0, 1) := by decide +kernel
theorem dX7_feed_56 : decode cX7_feed 56 = .ok (.getfield 9, 3) := by decide +kernel
theorem dX7_feed_59 : decode cX7_feed 59 = .ok (.bipush 18, 2) := by decide +kernel
theorem dX7_feed_61 : decode cX7_feed 61 = .ok (.iaload, 1) := by decide +kernel
theorem dX7_feed_62 : decode cX7_feed 62 = .ok (.ireturn, 1) := by decide +kernel
theorem dX7_here_0 : decode cX7_here 0 = .ok (.aload_n 0, 1) := by decide +kernel
theorem dX7_here_1 : decode cX7_here 1 = .ok (.getfield 54, 3) := by decide +kernel
theorem dX7_here_4 : decode cX7_here 4 = .ok (.aload_n 0, 1) := by decide +kernel
theorem dX7_here_5 : decode cX7_here 5 = .ok (.getfield 57, 3) := by decide +kernel
theorem dX7_here_8 : decode cX7_here 8 = .ok (.if_icmp .ge 18, 3) := by decide +kernel
theorem dX7_here_11 : decode cX7_here 11 = .ok (.aload_n 0, 1) := by decide +kernel
theorem dX7_here_12 : decode cX7_here 12 = .ok (.getfield 9, 3) := by decide +kernel
theorem dX7_here_15 : decode cX7_here 15 = .ok (.bipush 94, 2) := by decide +kernel
theorem dX7_here_17 : decode cX7_here 17 = .ok (.aload_n 0, 1) := by decide +kernel
theorem dX7_here_18 : decode cX7_here 18 = .ok (.getfield 54, 3) := by decide +kernel
theorem dX7_here_21 : decode cX7_here 21 = .ok (.iadd, 1) := by decide +kernel
theorem dX7_here_22 : decode cX7_here 22 = .ok (.iaload, 1) := by decide +kernel
theorem dX7_here_23 : decode cX7_here 23 = .ok (.goto 4, 3) := by decide +kernel
theorem dX7_here_26 : decode cX7_here 26 = .ok (.iconst (-1), 1) := by decide +kernel
theorem dX7_here_27 : decode cX7_here 27 = .ok (.ireturn, 1) := by decide +kernel
theorem dX7_must_0 : decode cX7_must 0 = .ok (.aload_n 0, 1) := by decide +kernel
theorem dX7_must_1 : decode cX7_must 1 = .ok (.aload_n 0, 1) := by decide +kernel
theorem dX7_must_2 : decode cX7_must 2 = .ok (.getfield 60, 3) := by decide +kernel
theorem dX7_must_5 : decode cX7_must 5 = .ok (.ifCond .ne 11, 3) := by decide +kernel
theorem dX7_must_8 : decode cX7_must 8 = .ok (.aload_n 0, 1) := by decide +kernel
theorem dX7_must_9 : decode cX7_must 9 = .ok (.invokevirtual 64, 3) := by decide +kernel
theorem dX7_must_12 : decode cX7_must 12 = .ok (.iload_n 1, 1) := by decide +kernel
theorem dX7_must_13 : decode cX7_must 13 = .ok (.if_icmp .eq 7, 3) := by decide +kernel
theorem dX7_must_16 : decode cX7_must 16 = .ok (.iconst 1, 1) := by decide +kernel
theorem dX7_must_17 : decode cX7_must 17 = .ok (.goto 4, 3) := by decide +kernel
theorem dX7_must_20 : decode cX7_must 20 = .ok (.iconst 0, 1) := by decide +kernel
theorem dX7_must_21 : decode cX7_must 21 = .ok (.putfield 60, 3) := by decide +kernel
theorem dX7_must_24 : decode cX7_must 24 = .ok (.aload_n 0, 1) := by decide +kernel
theorem dX7_must_25 : decode cX7_must 25 = .ok (.dup, 1) := by decide +kernel
theorem dX7_must_26 : decode cX7_must 26 = .ok (.getfield 54, 3) := by decide +kernel
theorem dX7_must_29 : decode cX7_must 29 = .ok (.aload_n 0, 1) := by decide +kernel
theorem dX7_must_30 : decode cX7_must 30 = .ok (.getfield 60, 3) := by decide +kernel
theorem dX7_must_33 : decode cX7_must 33 = .ok (.ifCond .eq 7, 3) := by decide +kernel
theorem dX7_must_36 : decode cX7_must 36 = .ok (.iconst 0, 1) := by decide +kernel
theorem dX7_must_37 : decode cX7_must 37 = .ok (.goto 4, 3) := by decide +kernel
theorem dX7_must_40 : decode cX7_must 40 = .ok (.iconst 1, 1) := by decide +kernel
theorem dX7_must_41 : decode cX7_must 41 = .ok (.iadd, 1) := by decide +kernel
theorem dX7_must_42 : decode cX7_must 42 = .ok (.putfield 54, 3) := by decide +kernel
theorem dX7_must_45 : decode cX7_must 45 = .ok (.return_, 1) := by decide +kernel
theorem dX7_spells_0 : decode cX7_spells 0 = .ok (.iconst 0, 1) := by decide +kernel
theorem dX7_spells_1 : decode cX7_spells 1 = .ok (.istore_n 2, 1) := by decide +kernel
theorem dX7_spells_2 : decode cX7_spells 2 = .ok (.iload_n 2, 1) := by decide +kernel
theorem dX7_spells_3 : decode cX7_spells 3 = .ok (.aload_n 1, 1) := by decide +kernel
theorem dX7_spells_4 : decode cX7_spells 4 = .ok (.invokevirtual 68, 3) := by decide +kernel
theorem dX7_spells_7 : decode cX7_spells 7 = .ok (.if_icmp .ge 18, 3) := by decide +kernel
theorem dX7_spells_10 : decode cX7_spells 10 = .ok (.aload_n 0, 1) := by decide +kernel
theorem dX7_spells_11 : decode cX7_spells 11 = .ok (.aload_n 1, 1) := by decide +kernel
theorem dX7_spells_12 : decode cX7_spells 12 = .ok (.iload_n 2, 1) := by decide +kernel
theorem dX7_spells_13 : decode cX7_spells 13 = .ok (.invokevirtual 73, 3) := by decide +kernel
theorem dX7_spells_16 : decode cX7_spells 16 = .ok (.invokevirtual 77, 3) := by decide +kernel
theorem dX7_spells_19 : decode cX7_spells 19 = .ok (.iinc 2 1, 3) := by decide +kernel
theorem dX7_spells_22 : decode cX7_spells 22 = .ok (.goto (-20), 3) := by decide +kernel
theorem dX7_spells_25 : decode cX7_spells 25 = .ok (.return_, 1) := by decide +kernel
theorem dX7_figures_0 : decode cX7_figures 0 = .ok (.aload_n 0, 1) := by decide +kernel
theorem dX7_figures_1 : decode cX7_figures 1 = .ok (.aload_n 0, 1) := by decide +kernel
theorem dX7_figures_2 : decode cX7_figures 2 = .ok (.getfield 60, 3) := by decide +kernel
theorem dX7_figures_5 : decode cX7_figures 5 = .ok (.ifCond .ne 17, 3) := by decide +kernel
theorem dX7_figures_8 : decode cX7_figures 8 = .ok (.aload_n 0, 1) := by decide +kernel
theorem dX7_figures_9 : decode cX7_figures 9 = .ok (.invokevirtual 64, 3) := by decide +kernel
theorem dX7_figures_12 : decode cX7_figures 12 = .ok (.bipush 48, 2) := by decide +kernel
theorem dX7_figures_14 : decode cX7_figures 14 = .ok (.bipush 57, 2) := by decide +kernel
theorem dX7_figures_16 : decode cX7_figures 16 = .ok (.invokestatic 50, 3) := by decide +kernel
theorem dX7_figures_19 : decode cX7_figures 19 = .ok (.ifCond .ne 7, 3) := by decide +kernel
theorem dX7_figures_22 : decode cX7_figures 22 = .ok (.iconst 1, 1) := by decide +kernel
theorem dX7_figures_23 : decode cX7_figures 23 = .ok (.goto 4, 3) := by decide +kernel
theorem dX7_figures_26 : decode cX7_figures 26 = .ok (.iconst 0, 1) := by decide +kernel
theorem dX7_figures_27 : decode cX7_figures 27 = .ok (.putfield 60, 3) := by decide +kernel
theorem dX7_figures_30 : decode cX7_figures 30 = .ok (.iconst 0, 1) := by decide +kernel
theorem dX7_figures_31 : decode cX7_figures 31 = .ok (.istore_n 1, 1) := by decide +kernel
theorem dX7_figures_32 : decode cX7_figures 32 = .ok (.iconst 0, 1) := by decide +kernel
theorem dX7_figures_33 : decode cX7_figures 33 = .ok (.istore_n 2, 1) := by decide +kernel
theorem dX7_figures_34 : decode cX7_figures 34 = .ok (.iload_n 2, 1) := by decide +kernel
theorem dX7_figures_35 : decode cX7_figures 35 = .ok (.iconst 2, 1) := by decide +kernel
theorem dX7_figures_36 : decode cX7_figures 36 = .ok (.if_icmp .ge 61, 3) := by decide +kernel
theorem dX7_figures_39 : decode cX7_figures 39 = .ok (.aload_n 0, 1) := by decide +kernel
theorem dX7_figures_40 : decode cX7_figures 40 = .ok (.getfield 60, 3) := by decide +kernel
theorem dX7_figures_43 : decode cX7_figures 43 = .ok (.ifCond .ne 54, 3) := by decide +kernel
theorem dX7_figures_46 : decode cX7_figures 46 = .ok (.aload_n 0, 1) := by decide +kernel
theorem dX7_figures_47 : decode cX7_figures 47 = .ok (.invokevirtual 64, 3) := by decide +kernel
theorem dX7_figures_50 : decode cX7_figures 50 = .ok (.bipush 48, 2) := by decide +kernel
theorem dX7_figures_52 : decode cX7_figures 52 = .ok (.bipush 57, 2) := by decide +kernel
theorem dX7_figures_54 : decode cX7_figures 54 = .ok (.invokestatic 50, 3) := by decide +kernel
theorem dX7_figures_57 : decode cX7_figures 57 = .ok (.ifCond .eq 40, 3) := by decide +kernel
theorem dX7_figures_60 : decode cX7_figures 60 = .ok (.iload_n 2, 1) := by decide +kernel
theorem dX7_figures_61 : decode cX7_figures 61 = .ok (.ifCond .eq 7, 3) := by decide +kernel
theorem dX7_figures_64 : decode cX7_figures 64 = .ok (.iload_n 1, 1) := by decide +kernel
theorem dX7_figures_65 : decode cX7_figures 65 = .ok (.ifCond .le 32, 3) := by decide +kernel
theorem dX7_figures_68 : decode cX7_figures 68 = .ok (.bipush 10, 2) := by decide +kernel
theorem dX7_figures_70 : decode cX7_figures 70 = .ok (.iload_n 1, 1) := by decide +kernel
theorem dX7_figures_71 : decode cX7_figures 71 = .ok (.imul, 1) := by decide +kernel
theorem dX7_figures_72 : decode cX7_figures 72 = .ok (.aload_n 0, 1) := by decide +kernel
theorem dX7_figures_73 : decode cX7_figures 73 = .ok (.invokevirtual 64, 3) := by decide +kernel
theorem dX7_figures_76 : decode cX7_figures 76 = .ok (.iadd, 1) := by decide +kernel
theorem dX7_figures_77 : decode cX7_figures 77 = .ok (.bipush 48, 2) := by decide +kernel
theorem dX7_figures_79 : decode cX7_figures 79 = .ok (.isub, 1) := by decide +kernel
theorem dX7_figures_80 : decode cX7_figures 80 = .ok (.istore_n 1, 1) := by decide +kernel
theorem dX7_figures_81 : decode cX7_figures 81 = .ok (.aload_n 0, 1) := by decide +kernel
theorem dX7_figures_82 : decode cX7_figures 82 = .ok (.dup, 1) := by decide +kernel
theorem dX7_figures_83 : decode cX7_figures 83 = .ok (.getfield 54, 3) := by decide +kernel
theorem dX7_figures_86 : decode cX7_figures 86 = .ok (.iconst 1, 1) := by decide +kernel
theorem dX7_figures_87 : decode cX7_figures 87 = .ok (.iadd, 1) := by decide +kernel
theorem dX7_figures_88 : decode cX7_figures 88 = .ok (.putfield 54, 3) := by decide +kernel
theorem dX7_figures_91 : decode cX7_figures 91 = .ok (.iinc 2 1, 3) := by decide +kernel
theorem dX7_figures_94 : decode cX7_figures 94 = .ok (.goto (-60), 3) := by decide +kernel
theorem dX7_figures_97 : decode cX7_figures 97 = .ok (.iload_n 1, 1) := by decide +kernel
theorem dX7_figures_98 : decode cX7_figures 98 = .ok (.ireturn, 1) := by decide +kernel
theorem dX7_among_0 : decode cX7_among 0 = .ok (.iconst 0, 1) := by decide +kernel
theorem dX7_among_1 : decode cX7_among 1 = .ok (.istore_n 2, 1) := by decide +kernel
theorem dX7_among_2 : decode cX7_among 2 = .ok (.iload_n 2, 1) := by decide +kernel
theorem dX7_among_3 : decode cX7_among 3 = .ok (.aload_n 1, 1) := by decide +kernel
theorem dX7_among_4 : decode cX7_among 4 = .ok (.invokevirtual 68, 3) := by decide +kernel
theorem dX7_among_7 : decode cX7_among 7 = .ok (.if_icmp .ge 33, 3) := by decide +kernel
theorem dX7_among_10 : decode cX7_among 10 = .ok (.aload_n 0, 1) := by decide +kernel
theorem dX7_among_11 : decode cX7_among 11 = .ok (.invokevirtual 64, 3) := by decide +kernel
theorem dX7_among_14 : decode cX7_among 14 = .ok (.aload_n 1, 1) := by decide +kernel
theorem dX7_among_15 : decode cX7_among 15 = .ok (.iload_n 2, 1) := by decide +kernel
theorem dX7_among_16 : decode cX7_among 16 = .ok (.invokevirtual 73, 3) := by decide +kernel
theorem dX7_among_19 : decode cX7_among 19 = .ok (.if_icmp .ne 15, 3) := by decide +kernel
theorem dX7_among_22 : decode cX7_among 22 = .ok (.aload_n 0, 1) := by decide +kernel
theorem dX7_among_23 : decode cX7_among 23 = .ok (.dup, 1) := by decide +kernel
theorem dX7_among_24 : decode cX7_among 24 = .ok (.getfield 54, 3) := by decide +kernel
theorem dX7_among_27 : decode cX7_among 27 = .ok (.iconst 1, 1) := by decide +kernel
theorem dX7_among_28 : decode cX7_among 28 = .ok (.iadd, 1) := by decide +kernel
theorem dX7_among_29 : decode cX7_among 29 = .ok (.putfield 54, 3) := by decide +kernel
theorem dX7_among_32 : decode cX7_among 32 = .ok (.iload_n 2, 1) := by decide +kernel
theorem dX7_among_33 : decode cX7_among 33 = .ok (.ireturn, 1) := by decide +kernel
theorem dX7_among_34 : decode cX7_among 34 = .ok (.iinc 2 1, 3) := by decide +kernel
theorem dX7_among_37 : decode cX7_among 37 = .ok (.goto (-35), 3) := by decide +kernel
theorem dX7_among_40 : decode cX7_among 40 = .ok (.iconst (-1), 1) := by decide +kernel
theorem dX7_among_41 : decode cX7_among 41 = .ok (.ireturn, 1) := by decide +kernel
theorem dX7_emits_0 : decode cX7_emits 0 = .ok (.aload_n 0, 1) := by decide +kernel
theorem dX7_emits_1 : decode cX7_emits 1 = .ok (.getfield 60, 3) := by decide +kernel
theorem dX7_emits_4 : decode cX7_emits 4 = .ok (.ifCond .ne 52, 3) := by decide +kernel
theorem dX7_emits_7 : decode cX7_emits 7 = .ok (.aload_n 0, 1) := by decide +kernel
theorem dX7_emits_8 : decode cX7_emits 8 = .ok (.getfield 9, 3) := by decide +kernel
theorem dX7_emits_11 : decode cX7_emits 11 = .ok (.sipush 209, 3) := by decide +kernel
theorem dX7_emits_14 : decode cX7_emits 14 = .ok (.sipush 140, 3) := by decide +kernel
theorem dX7_emits_17 : decode cX7_emits 17 = .ok (.aload_n 0, 1) := by decide +kernel
theorem dX7_emits_18 : decode cX7_emits 18 = .ok (.getfield 81, 3) := by decide +kernel
theorem dX7_emits_21 : decode cX7_emits 21 = .ok (.imul, 1) := by decide +kernel
theorem dX7_emits_22 : decode cX7_emits 22 = .ok (.iadd, 1) := by decide +kernel
theorem dX7_emits_23 : decode cX7_emits 23 = .ok (.aload_n 0, 1) := by decide +kernel
theorem dX7_emits_24 : decode cX7_emits 24 = .ok (.getfield 9, 3) := by decide +kernel
theorem dX7_emits_27 : decode cX7_emits 27 = .ok (.sipush 204, 3) := by decide +kernel
theorem dX7_emits_30 : decode cX7_emits 30 = .ok (.aload_n 0, 1) := by decide +kernel
theorem dX7_emits_31 : decode cX7_emits 31 = .ok (.getfield 81, 3) := by decide +kernel
theorem dX7_emits_34 : decode cX7_emits 34 = .ok (.iadd, 1) := by decide +kernel
theorem dX7_emits_35 : decode cX7_emits 35 = .ok (.iaload, 1) := by decide +kernel
theorem dX7_emits_36 : decode cX7_emits 36 = .ok (.iadd, 1) := by decide +kernel
theorem dX7_emits_37 : decode cX7_emits 37 = .ok (.iload_n 1, 1) := by decide +kernel
theorem dX7_emits_38 : decode cX7_emits 38 = .ok (.iastore, 1) := by decide +kernel
theorem dX7_emits_39 : decode cX7_emits 39 = .ok (.aload_n 0, 1) := by decide +kernel
theorem dX7_emits_40 : decode cX7_emits 40 = .ok (.getfield 9, 3) := by decide +kernel
theorem dX7_emits_43 : decode cX7_emits 43 = .ok (.sipush 204, 3) := by decide +kernel
theorem dX7_emits_46 : decode cX7_emits 46 = .ok (.aload_n 0, 1) := by decide +kernel
theorem dX7_emits_47 : decode cX7_emits 47 = .ok (.getfield 81, 3) := by decide +kernel
theorem dX7_emits_50 : decode cX7_emits 50 = .ok (.iadd, 1) := by decide +kernel
theorem dX7_emits_51 : decode cX7_emits 51 = .ok (.dup2, 1) := by decide +kernel
theorem dX7_emits_52 : decode cX7_emits 52 = .ok (.iaload, 1) := by decide +kernel
theorem dX7_emits_53 : decode cX7_emits 53 = .ok (.iconst 1, 1) := by decide +kernel
theorem dX7_emits_54 : decode cX7_emits 54 = .ok (.iadd, 1) := by decide +kernel
theorem dX7_emits_55 : decode cX7_emits 55 = .ok (.iastore, 1) := by decide +kernel
theorem dX7_emits_56 : decode cX7_emits 56 = .ok (.return_, 1) := by decide +kernel
theorem dX7_factor_0 : decode cX7_factor 0 = .ok (.aload_n 0, 1) := by decide +kernel
theorem dX7_factor_1 : decode cX7_factor 1 = .ok (.getfield 60, 3) := by decide +kernel
theorem dX7_factor_4 : decode cX7_factor 4 = .ok (.ifCond .eq 4, 3) := by decide +kernel
theorem dX7_factor_7 : decode cX7_factor 7 = .ok (.return_, 1) := by decide +kernel
theorem dX7_factor_8 : decode cX7_factor 8 = .ok (.aload_n 0, 1) := by decide +kernel
theorem dX7_factor_9 : decode cX7_factor 9 = .ok (.invokevirtual 64, 3) := by decide +kernel
theorem dX7_factor_12 : decode cX7_factor 12 = .ok (.istore_n 1, 1) := by decide +kernel
theorem dX7_factor_13 : decode cX7_factor 13 = .ok (.iload_n 1, 1) := by decide +kernel
theorem dX7_factor_14 : decode cX7_factor 14 = .ok (.bipush 33, 2) := by decide +kernel
theorem dX7_factor_16 : decode cX7_factor 16 = .ok (.if_icmp .eq 9, 3) := by decide +kernel
theorem dX7_factor_19 : decode cX7_factor 19 = .ok (.iload_n 1, 1) := by decide +kernel
theorem dX7_factor_20 : decode cX7_factor 20 = .ok (.bipush 40, 2) := by decide +kernel
theorem dX7_factor_22 : decode cX7_factor 22 = .ok (.if_icmp .ne 90, 3) := by decide +kernel
theorem dX7_factor_25 : decode cX7_factor 25 = .ok (.aload_n 0, 1) := by decide +kernel
theorem dX7_factor_26 : decode cX7_factor 26 = .ok (.aload_n 0, 1) := by decide +kernel
theorem dX7_factor_27 : decode cX7_factor 27 = .ok (.getfield 84, 3) := by decide +kernel
theorem dX7_factor_30 : decode cX7_factor 30 = .ok (.iconst 5, 1) := by decide +kernel
theorem dX7_factor_31 : decode cX7_factor 31 = .ok (.if_icmp .ne 7, 3) := by decide +kernel
theorem dX7_factor_34 : decode cX7_factor 34 = .ok (.iconst 1, 1) := by decide +kernel
theorem dX7_factor_35 : decode cX7_factor 35 = .ok (.goto 4, 3) := by decide +kernel
theorem dX7_factor_38 : decode cX7_factor 38 = .ok (.iconst 0, 1) := by decide +kernel
theorem dX7_factor_39 : decode cX7_factor 39 = .ok (.putfield 60, 3) := by decide +kernel
theorem dX7_factor_42 : decode cX7_factor 42 = .ok (.aload_n 0, 1) := by decide +kernel
theorem dX7_factor_43 : decode cX7_factor 43 = .ok (.dup, 1) := by decide +kernel
theorem dX7_factor_44 : decode cX7_factor 44 = .ok (.getfield 84, 3) := by decide +kernel
theorem dX7_factor_47 : decode cX7_factor 47 = .ok (.iconst 1, 1) := by decide +kernel
theorem dX7_factor_48 : decode cX7_factor 48 = .ok (.iadd, 1) := by decide +kernel
theorem dX7_factor_49 : decode cX7_factor 49 = .ok (.putfield 84, 3) := by decide +kernel
theorem dX7_factor_52 : decode cX7_factor 52 = .ok (.aload_n 0, 1) := by decide +kernel
theorem dX7_factor_53 : decode cX7_factor 53 = .ok (.dup, 1) := by decide +kernel
theorem dX7_factor_54 : decode cX7_factor 54 = .ok (.getfield 54, 3) := by decide +kernel
theorem dX7_factor_57 : decode cX7_factor 57 = .ok (.aload_n 0, 1) := by decide +kernel
theorem dX7_factor_58 : decode cX7_factor 58 = .ok (.getfield 60, 3) := by decide +kernel
theorem dX7_factor_61 : decode cX7_factor 61 = .ok (.ifCond .eq 7, 3) := by decide +kernel
theorem dX7_factor_64 : decode cX7_factor 64 = .ok (.iconst 0, 1) := by decide +kernel
theorem dX7_factor_65 : decode cX7_factor 65 = .ok (.goto 4, 3) := by decide +kernel
theorem dX7_factor_68 : decode cX7_factor 68 = .ok (.iconst 1, 1) := by decide +kernel
theorem dX7_factor_69 : decode cX7_factor 69 = .ok (.iadd, 1) := by decide +kernel
theorem dX7_factor_70 : decode cX7_factor 70 = .ok (.putfield 54, 3) := by decide +kernel
theorem dX7_factor_73 : decode cX7_factor 73 = .ok (.iload_n 1, 1) := by decide +kernel
theorem dX7_factor_74 : decode cX7_factor 74 = .ok (.bipush 33, 2) := by decide +kernel
theorem dX7_factor_76 : decode cX7_factor 76 = .ok (.if_icmp .ne 15, 3) := by decide +kernel
theorem dX7_factor_79 : decode cX7_factor 79 = .ok (.aload_n 0, 1) := by decide +kernel
theorem dX7_factor_80 : decode cX7_factor 80 = .ok (.invokevirtual 87, 3) := by decide +kernel
theorem dX7_factor_83 : decode cX7_factor 83 = .ok (.aload_n 0, 1) := by decide +kernel
theorem dX7_factor_84 : decode cX7_factor 84 = .ok (.iconst (-1), 1) := by decide +kernel
theorem dX7_factor_85 : decode cX7_factor 85 = .ok (.invokevirtual 90, 3) := by decide +kernel
theorem dX7_factor_88 : decode cX7_factor 88 = .ok (.goto 13, 3) := by decide +kernel
theorem dX7_factor_91 : decode cX7_factor 91 = .ok (.aload_n 0, 1) := by decide +kernel
theorem dX7_factor_92 : decode cX7_factor 92 = .ok (.invokevirtual 93, 3) := by decide +kernel
theorem dX7_factor_95 : decode cX7_factor 95 = .ok (.aload_n 0, 1) := by decide +kernel
theorem dX7_factor_96 : decode cX7_factor 96 = .ok (.bipush 41, 2) := by decide +kernel
theorem dX7_factor_98 : decode cX7_factor 98 = .ok (.invokevirtual 77, 3) := by decide +kernel
theorem dX7_factor_101 : decode cX7_factor 101 = .ok (.aload_n 0, 1) := by decide +kernel
theorem dX7_factor_102 : decode cX7_factor 102 = .ok (.dup, 1) := by decide +kernel
theorem dX7_factor_103 : decode cX7_factor 103 = .ok (.getfield 84, 3) := by decide +kernel
theorem dX7_factor_106 : decode cX7_factor 106 = .ok (.iconst 1, 1) := by decide +kernel
theorem dX7_factor_107 : decode cX7_factor 107 = .ok (.isub, 1) := by decide +kernel
theorem dX7_factor_108 : decode cX7_factor 108 = .ok (.putfield 84, 3) := by decide +kernel
theorem dX7_factor_111 : decode cX7_factor 111 = .ok (.return_, 1) := by decide +kernel
theorem dX7_factor_112 : decode cX7_factor 112 = .ok (.aload_n 0, 1) := by decide +kernel
theorem dX7_factor_113 : decode cX7_factor 113 = .ok (.ldc 96, 2) := by decide +kernel
theorem dX7_factor_115 : decode cX7_factor 115 = .ok (.invokevirtual 98, 3) := by decide +kernel
theorem dX7_factor_118 : decode cX7_factor 118 = .ok (.istore_n 2, 1) := by decide +kernel
theorem dX7_factor_119 : decode cX7_factor 119 = .ok (.aload_n 0, 1) := by decide +kernel
theorem dX7_factor_120 : decode cX7_factor 120 = .ok (.iload_n 2, 1) := by decide +kernel
theorem dX7_factor_121 : decode cX7_factor 121 = .ok (.iconst (-1), 1) := by decide +kernel
theorem dX7_factor_122 : decode cX7_factor 122 = .ok (.if_icmp .ne 7, 3) := by decide +kernel
theorem dX7_factor_125 : decode cX7_factor 125 = .ok (.iconst 1, 1) := by decide +kernel
theorem dX7_factor_126 : decode cX7_factor 126 = .ok (.goto 4, 3) := by decide +kernel
theorem dX7_factor_129 : decode cX7_factor 129 = .ok (.iconst 0, 1) := by decide +kernel
theorem dX7_factor_130 : decode cX7_factor 130 = .ok (.putfield 60, 3) := by decide +kernel
theorem dX7_factor_133 : decode cX7_factor 133 = .ok (.aload_n 0, 1) := by decide +kernel
theorem dX7_factor_134 : decode cX7_factor 134 = .ok (.getfield 60, 3) := by decide +kernel
theorem dX7_factor_137 : decode cX7_factor 137 = .ok (.ifCond .eq 7, 3) := by decide +kernel
theorem dX7_factor_140 : decode cX7_factor 140 = .ok (.iconst 0, 1) := by decide +kernel
theorem dX7_factor_141 : decode cX7_factor 141 = .ok (.goto 9, 3) := by decide +kernel
theorem dX7_factor_144 : decode cX7_factor 144 = .ok (.aload_n 0, 1) := by decide +kernel
theorem dX7_factor_145 : decode cX7_factor 145 = .ok (.ldc 102, 2) := by decide +kernel
theorem dX7_factor_147 : decode cX7_factor 147 = .ok (.invokevirtual 98, 3) := by decide +kernel
theorem dX7_factor_150 : decode cX7_factor 150 = .ok (.istore_n 3, 1) := by decide +kernel
theorem dX7_factor_151 : decode cX7_factor 151 = .ok (.aload_n 0, 1) := by decide +kernel
theorem dX7_factor_152 : decode cX7_factor 152 = .ok (.aload_n 0, 1) := by decide +kernel
theorem dX7_factor_153 : decode cX7_factor 153 = .ok (.getfield 60, 3) := by decide +kernel
theorem dX7_factor_156 : decode cX7_factor 156 = .ok (.ifCond .ne 8, 3) := by decide +kernel
theorem dX7_factor_159 : decode cX7_factor 159 = .ok (.iload_n 3, 1) := by decide +kernel
theorem dX7_factor_160 : decode cX7_factor 160 = .ok (.iconst (-1), 1) := by decide +kernel
theorem dX7_factor_161 : decode cX7_factor 161 = .ok (.if_icmp .ne 7, 3) := by decide +kernel
theorem dX7_factor_164 : decode cX7_factor 164 = .ok (.iconst 1, 1) := by decide +kernel
theorem dX7_factor_165 : decode cX7_factor 165 = .ok (.goto 4, 3) := by decide +kernel
theorem dX7_factor_168 : decode cX7_factor 168 = .ok (.iconst 0, 1) := by decide +kernel
theorem dX7_factor_169 : decode cX7_factor 169 = .ok (.putfield 60, 3) := by decide +kernel
theorem dX7_factor_172 : decode cX7_factor 172 = .ok (.aload_n 0, 1) := by decide +kernel
theorem dX7_factor_173 : decode cX7_factor 173 = .ok (.invokevirtual 104, 3) := by decide +kernel
theorem dX7_factor_176 : decode cX7_factor 176 = .ok (.istore 4, 2) := by decide +kernel
theorem dX7_factor_178 : decode cX7_factor 178 = .ok (.aload_n 0, 1) := by decide +kernel
theorem dX7_factor_179 : decode cX7_factor 179 = .ok (.iload_n 2, 1) := by decide +kernel
theorem dX7_factor_180 : decode cX7_factor 180 = .ok (.bipush 8, 2) := by decide +kernel
theorem dX7_factor_182 : decode cX7_factor 182 = .ok (.iload_n 3, 1) := by decide +kernel
theorem dX7_factor_183 : decode cX7_factor 183 = .ok (.imul, 1) := by decide +kernel
theorem dX7_factor_184 : decode cX7_factor 184 = .ok (.iadd, 1) := by decide +kernel
theorem dX7_factor_185 : decode cX7_factor 185 = .ok (.bipush 32, 2) := by decide +kernel
theorem dX7_factor_187 : decode cX7_factor 187 = .ok (.iload 4, 2) := by decide +kernel
theorem dX7_factor_189 : decode cX7_factor 189 = .ok (.imul, 1) := by decide +kernel
theorem dX7_factor_190 : decode cX7_factor 190 = .ok (.iadd, 1) := by decide +kernel
theorem dX7_factor_191 : decode cX7_factor 191 = .ok (.invokevirtual 90, 3) := by decide +kernel
theorem dX7_factor_194 : decode cX7_factor 194 = .ok (.return_, 1) := by decide +kernel
theorem dX7_every_0 : decode cX7_every 0 = .ok (.aload_n 0, 1) := by decide +kernel
theorem dX7_every_1 : decode cX7_every 1 = .ok (.invokevirtual 87, 3) := by decide +kernel
theorem dX7_every_4 : decode cX7_every 4 = .ok (.aload_n 0, 1) := by decide +kernel
theorem dX7_every_5 : decode cX7_every 5 = .ok (.getfield 60, 3) := by decide +kernel
theorem dX7_every_8 : decode cX7_every 8 = .ok (.ifCond .ne 35, 3) := by decide +kernel
theorem dX7_every_11 : decode cX7_every 11 = .ok (.aload_n 0, 1) := by decide +kernel
theorem dX7_every_12 : decode cX7_every 12 = .ok (.invokevirtual 64, 3) := by decide +kernel
theorem dX7_every_15 : decode cX7_every 15 = .ok (.bipush 38, 2) := by decide +kernel
theorem dX7_every_17 : decode cX7_every 17 = .ok (.if_icmp .ne 26, 3) := by decide +kernel
theorem dX7_every_20 : decode cX7_every 20 = .ok (.aload_n 0, 1) := by decide +kernel
theorem dX7_every_21 : decode cX7_every 21 = .ok (.dup, 1) := by decide +kernel
theorem dX7_every_22 : decode cX7_every 22 = .ok (.getfield 54, 3) := by decide +kernel
theorem dX7_every_25 : decode cX7_every 25 = .ok (.iconst 1, 1) := by decide +kernel
theorem dX7_every_26 : decode cX7_every 26 = .ok (.iadd, 1) := by decide +kernel
theorem dX7_every_27 : decode cX7_every 27 = .ok (.putfield 54, 3) := by decide +kernel
theorem dX7_every_30 : decode cX7_every 30 = .ok (.aload_n 0, 1) := by decide +kernel
theorem dX7_every_31 : decode cX7_every 31 = .ok (.invokevirtual 87, 3) := by decide +kernel
theorem dX7_every_34 : decode cX7_every 34 = .ok (.aload_n 0, 1) := by decide +kernel
theorem dX7_every_35 : decode cX7_every 35 = .ok (.bipush (-2), 2) := by decide +kernel
theorem dX7_every_37 : decode cX7_every 37 = .ok (.invokevirtual 90, 3) := by decide +kernel
theorem dX7_every_40 : decode cX7_every 40 = .ok (.goto (-36), 3) := by decide +kernel
theorem dX7_every_43 : decode cX7_every 43 = .ok (.return_, 1) := by decide +kernel
theorem dX7_some_0 : decode cX7_some 0 = .ok (.aload_n 0, 1) := by decide +kernel
theorem dX7_some_1 : decode cX7_some 1 = .ok (.invokevirtual 107, 3) := by decide +kernel
theorem dX7_some_4 : decode cX7_some 4 = .ok (.aload_n 0, 1) := by decide +kernel
theorem dX7_some_5 : decode cX7_some 5 = .ok (.getfield 60, 3) := by decide +kernel
theorem dX7_some_8 : decode cX7_some 8 = .ok (.ifCond .ne 35, 3) := by decide +kernel
theorem dX7_some_11 : decode cX7_some 11 = .ok (.aload_n 0, 1) := by decide +kernel
theorem dX7_some_12 : decode cX7_some 12 = .ok (.invokevirtual 64, 3) := by decide +kernel
theorem dX7_some_15 : decode cX7_some 15 = .ok (.bipush 124, 2) := by decide +kernel
theorem dX7_some_17 : decode cX7_some 17 = .ok (.if_icmp .ne 26, 3) := by decide +kernel
theorem dX7_some_20 : decode cX7_some 20 = .ok (.aload_n 0, 1) := by decide +kernel
theorem dX7_some_21 : decode cX7_some 21 = .ok (.dup, 1) := by decide +kernel
theorem dX7_some_22 : decode cX7_some 22 = .ok (.getfield 54, 3) := by decide +kernel
theorem dX7_some_25 : decode cX7_some 25 = .ok (.iconst 1, 1) := by decide +kernel
theorem dX7_some_26 : decode cX7_some 26 = .ok (.iadd, 1) := by decide +kernel
theorem dX7_some_27 : decode cX7_some 27 = .ok (.putfield 54, 3) := by decide +kernel
theorem dX7_some_30 : decode cX7_some 30 = .ok (.aload_n 0, 1) := by decide +kernel
theorem dX7_some_31 : decode cX7_some 31 = .ok (.invokevirtual 107, 3) := by decide +kernel
theorem dX7_some_34 : decode cX7_some 34 = .ok (.aload_n 0, 1) := by decide +kernel
theorem dX7_some_35 : decode cX7_some 35 = .ok (.bipush (-3), 2) := by decide +kernel
theorem dX7_some_37 : decode cX7_some 37 = .ok (.invokevirtual 90, 3) := by decide +kernel
theorem dX7_some_40 : decode cX7_some 40 = .ok (.goto (-36), 3) := by decide +kernel
theorem dX7_some_43 : decode cX7_some 43 = .ok (.return_, 1) := by decide +kernel
theorem dX7_much_0 : decode cX7_much 0 = .ok (.aload_n 0, 1) := by decide +kernel
theorem dX7_much_1 : decode cX7_much 1 = .ok (.aload_n 2, 1) := by decide +kernel
theorem dX7_much_2 : decode cX7_much 2 = .ok (.invokevirtual 110, 3) := by decide +kernel
theorem dX7_much_5 : decode cX7_much 5 = .ok (.aload_n 0, 1) := by decide +kernel
theorem dX7_much_6 : decode cX7_much 6 = .ok (.invokevirtual 104, 3) := by decide +kernel
theorem dX7_much_9 : decode cX7_much 9 = .ok (.istore_n 3, 1) := by decide +kernel
theorem dX7_much_10 : decode cX7_much 10 = .ok (.aload_n 0, 1) := by decide +kernel
theorem dX7_much_11 : decode cX7_much 11 = .ok (.bipush 32, 2) := by decide +kernel
theorem dX7_much_13 : decode cX7_much 13 = .ok (.invokevirtual 77, 3) := by decide +kernel
theorem dX7_much_16 : decode cX7_much 16 = .ok (.aload_n 0, 1) := by decide +kernel
theorem dX7_much_17 : decode cX7_much 17 = .ok (.invokevirtual 93, 3) := by decide +kernel
theorem dX7_much_20 : decode cX7_much 20 = .ok (.aload_n 0, 1) := by decide +kernel
theorem dX7_much_21 : decode cX7_much 21 = .ok (.iload_n 1, 1) := by decide +kernel
theorem dX7_much_22 : decode cX7_much 22 = .ok (.iload_n 3, 1) := by decide +kernel
theorem dX7_much_23 : decode cX7_much 23 = .ok (.isub, 1) := by decide +kernel
theorem dX7_much_24 : decode cX7_much 24 = .ok (.invokevirtual 90, 3) := by decide +kernel
theorem dX7_much_27 : decode cX7_much 27 = .ok (.return_, 1) := by decide +kernel
theorem dX7_tellsHere_0 : decode cX7_tellsHere 0 = .ok (.aload_n 0, 1) := by decide +kernel
theorem dX7_tellsHere_1 : decode cX7_tellsHere 1 = .ok (.aload_n 2, 1) := by decide +kernel
theorem dX7_tellsHere_2 : decode cX7_tellsHere 2 = .ok (.invokevirtual 110, 3) := by decide +kernel
theorem dX7_tellsHere_5 : decode cX7_tellsHere 5 = .ok (.aload_n 0, 1) := by decide +kernel
theorem dX7_tellsHere_6 : decode cX7_tellsHere 6 = .ok (.invokevirtual 104, 3) := by decide +kernel
theorem dX7_tellsHere_9 : decode cX7_tellsHere 9 = .ok (.istore_n 3, 1) := by decide +kernel
theorem dX7_tellsHere_10 : decode cX7_tellsHere 10 = .ok (.aload_n 0, 1) := by decide +kernel
theorem dX7_tellsHere_11 : decode cX7_tellsHere 11 = .ok (.getfield 60, 3) := by decide +kernel
theorem dX7_tellsHere_14 : decode cX7_tellsHere 14 = .ok (.ifCond .ne 15, 3) := by decide +kernel
theorem dX7_tellsHere_17 : decode cX7_tellsHere 17 = .ok (.aload_n 0, 1) := by decide +kernel
theorem dX7_tellsHere_18 : decode cX7_tellsHere 18 = .ok (.getfield 9, 3) := by decide +kernel
theorem dX7_tellsHere_21 : decode cX7_tellsHere 21 = .ok (.iload_n 1, 1) := by decide +kernel
theorem dX7_tellsHere_22 : decode cX7_tellsHere 22 = .ok (.aload_n 0, 1) := by decide +kernel
theorem dX7_tellsHere_23 : decode cX7_tellsHere 23 = .ok (.getfield 81, 3) := by decide +kernel
theorem dX7_tellsHere_26 : decode cX7_tellsHere 26 = .ok (.iadd, 1) := by decide +kernel
theorem dX7_tellsHere_27 : decode cX7_tellsHere 27 = .ok (.iload_n 3, 1) := by decide +kernel
theorem dX7_tellsHere_28 : decode cX7_tellsHere 28 = .ok (.iastore, 1) := by decide +kernel
theorem dX7_tellsHere_29 : decode cX7_tellsHere 29 = .ok (.return_, 1) := by decide +kernel
theorem dX7_clauseHere_0 : decode cX7_clauseHere 0 = .ok (.aload_n 0, 1) := by decide +kernel
theorem dX7_clauseHere_1 : decode cX7_clauseHere 1 = .ok (.invokevirtual 64, 3) := by decide +kernel
theorem dX7_clauseHere_4 : decode cX7_clauseHere 4 = .ok (.lookupswitch 91 #[(98, 79), (103, 44), (108, 68), (112, 56)], 44) := by decide +kernel
theorem dX7_clauseHere_48 : decode cX7_clauseHere 48 = .ok (.aload_n 0, 1) := by decide +kernel
theorem dX7_clauseHere_49 : decode cX7_clauseHere 49 = .ok (.sipush 194, 3) := by decide +kernel
theorem dX7_clauseHere_52 : decode cX7_clauseHere 52 = .ok (.ldc 114, 2) := by decide +kernel
theorem dX7_clauseHere_54 : decode cX7_clauseHere 54 = .ok (.invokevirtual 116, 3) := by decide +kernel
theorem dX7_clauseHere_57 : decode cX7_clauseHere 57 = .ok (.goto 43, 3) := by decide +kernel
theorem dX7_clauseHere_60 : decode cX7_clauseHere 60 = .ok (.aload_n 0, 1) := by decide +kernel
theorem dX7_clauseHere_61 : decode cX7_clauseHere 61 = .ok (.sipush 199, 3) := by decide +kernel
theorem dX7_clauseHere_64 : decode cX7_clauseHere 64 = .ok (.ldc 120, 2) := by decide +kernel
theorem dX7_clauseHere_66 : decode cX7_clauseHere 66 = .ok (.invokevirtual 116, 3) := by decide +kernel
theorem dX7_clauseHere_69 : decode cX7_clauseHere 69 = .ok (.goto 31, 3) := by decide +kernel
theorem dX7_clauseHere_72 : decode cX7_clauseHere 72 = .ok (.aload_n 0, 1) := by decide +kernel
theorem dX7_clauseHere_73 : decode cX7_clauseHere 73 = .ok (.bipush (-10), 2) := by decide +kernel
theorem dX7_clauseHere_75 : decode cX7_clauseHere 75 = .ok (.ldc 122, 2) := by decide +kernel
theorem dX7_clauseHere_77 : decode cX7_clauseHere 77 = .ok (.invokevirtual 124, 3) := by decide +kernel
theorem dX7_clauseHere_80 : decode cX7_clauseHere 80 = .ok (.goto 20, 3) := by decide +kernel
theorem dX7_clauseHere_83 : decode cX7_clauseHere 83 = .ok (.aload_n 0, 1) := by decide +kernel
theorem dX7_clauseHere_84 : decode cX7_clauseHere 84 = .ok (.sipush (-200), 3) := by decide +kernel
theorem dX7_clauseHere_87 : decode cX7_clauseHere 87 = .ok (.ldc 127, 2) := by decide +kernel
theorem dX7_clauseHere_89 : decode cX7_clauseHere 89 = .ok (.invokevirtual 124, 3) := by decide +kernel
theorem dX7_clauseHere_92 : decode cX7_clauseHere 92 = .ok (.goto 8, 3) := by decide +kernel
theorem dX7_clauseHere_95 : decode cX7_clauseHere 95 = .ok (.aload_n 0, 1) := by decide +kernel
theorem dX7_clauseHere_96 : decode cX7_clauseHere 96 = .ok (.iconst 1, 1) := by decide +kernel
theorem dX7_clauseHere_97 : decode cX7_clauseHere 97 = .ok (.putfield 60, 3) := by decide +kernel
theorem dX7_clauseHere_100 : decode cX7_clauseHere 100 = .ok (.return_, 1) := by decide +kernel
theorem dX7_town_0 : decode cX7_town 0 = .ok (.aload_n 0, 1) := by decide +kernel
theorem dX7_town_1 : decode cX7_town 1 = .ok (.getfield 9, 3) := by decide +kernel
theorem dX7_town_4 : decode cX7_town 4 = .ok (.bipush 14, 2) := by decide +kernel
theorem dX7_town_6 : decode cX7_town 6 = .ok (.iaload, 1) := by decide +kernel
theorem dX7_town_7 : decode cX7_town 7 = .ok (.iconst 5, 1) := by decide +kernel
theorem dX7_town_8 : decode cX7_town 8 = .ok (.if_icmp .ne 6, 3) := by decide +kernel
theorem dX7_town_11 : decode cX7_town 11 = .ok (.bipush (-4), 2) := by decide +kernel
theorem dX7_town_13 : decode cX7_town 13 = .ok (.ireturn, 1) := by decide +kernel
theorem dX7_town_14 : decode cX7_town 14 = .ok (.aload_n 0, 1) := by decide +kernel
theorem dX7_town_15 : decode cX7_town 15 = .ok (.aload_n 0, 1) := by decide +kernel
theorem dX7_town_16 : decode cX7_town 16 = .ok (.getfield 9, 3) := by decide +kernel
theorem dX7_town_19 : decode cX7_town 19 = .ok (.bipush 14, 2) := by decide +kernel
theorem dX7_town_21 : decode cX7_town 21 = .ok (.iaload, 1) := by decide +kernel
theorem dX7_town_22 : decode cX7_town 22 = .ok (.putfield 81, 3) := by decide +kernel
theorem dX7_town_25 : decode cX7_town 25 = .ok (.aload_n 0, 1) := by decide +kernel
theorem dX7_town_26 : decode cX7_town 26 = .ok (.aload_n 0, 1) := by decide +kernel
theorem dX7_town_27 : decode cX7_town 27 = .ok (.getfield 9, 3) := by decide +kernel
theorem dX7_town_30 : decode cX7_town 30 = .ok (.bipush 18, 2) := by decide +kernel
theorem dX7_town_32 : decode cX7_town 32 = .ok (.iaload, 1) := by decide +kernel
theorem dX7_town_33 : decode cX7_town 33 = .ok (.putfield 57, 3) := by decide +kernel
theorem dX7_town_36 : decode cX7_town 36 = .ok (.aload_n 0, 1) := by decide +kernel
theorem dX7_town_37 : decode cX7_town 37 = .ok (.getfield 9, 3) := by decide +kernel
theorem dX7_town_40 : decode cX7_town 40 = .ok (.bipush 18, 2) := by decide +kernel
theorem dX7_town_42 : decode cX7_town 42 = .ok (.iconst 0, 1) := by decide +kernel
theorem dX7_town_43 : decode cX7_town 43 = .ok (.iastore, 1) := by decide +kernel
theorem dX7_town_44 : decode cX7_town 44 = .ok (.aload_n 0, 1) := by decide +kernel
theorem dX7_town_45 : decode cX7_town 45 = .ok (.getfield 9, 3) := by decide +kernel
theorem dX7_town_48 : decode cX7_town 48 = .ok (.sipush 194, 3) := by decide +kernel
theorem dX7_town_51 : decode cX7_town 51 = .ok (.aload_n 0, 1) := by decide +kernel
theorem dX7_town_52 : decode cX7_town 52 = .ok (.getfield 81, 3) := by decide +kernel
theorem dX7_town_55 : decode cX7_town 55 = .ok (.iadd, 1) := by decide +kernel
theorem dX7_town_56 : decode cX7_town 56 = .ok (.iconst 1, 1) := by decide +kernel
theorem dX7_town_57 : decode cX7_town 57 = .ok (.iastore, 1) := by decide +kernel
theorem dX7_town_58 : decode cX7_town 58 = .ok (.aload_n 0, 1) := by decide +kernel
theorem dX7_town_59 : decode cX7_town 59 = .ok (.getfield 9, 3) := by decide +kernel
theorem dX7_town_62 : decode cX7_town 62 = .ok (.sipush 199, 3) := by decide +kernel
theorem dX7_town_65 : decode cX7_town 65 = .ok (.aload_n 0, 1) := by decide +kernel
theorem dX7_town_66 : decode cX7_town 66 = .ok (.getfield 81, 3) := by decide +kernel
theorem dX7_town_69 : decode cX7_town 69 = .ok (.iadd, 1) := by decide +kernel
theorem dX7_town_70 : decode cX7_town 70 = .ok (.iconst 5, 1) := by decide +kernel
theorem dX7_town_71 : decode cX7_town 71 = .ok (.iastore, 1) := by decide +kernel
theorem dX7_town_72 : decode cX7_town 72 = .ok (.aload_n 0, 1) := by decide +kernel
theorem dX7_town_73 : decode cX7_town 73 = .ok (.getfield 9, 3) := by decide +kernel
theorem dX7_town_76 : decode cX7_town 76 = .ok (.sipush 204, 3) := by decide +kernel
theorem dX7_town_79 : decode cX7_town 79 = .ok (.aload_n 0, 1) := by decide +kernel
theorem dX7_town_80 : decode cX7_town 80 = .ok (.getfield 81, 3) := by decide +kernel
theorem dX7_town_83 : decode cX7_town 83 = .ok (.iadd, 1) := by decide +kernel
theorem dX7_town_84 : decode cX7_town 84 = .ok (.iconst 0, 1) := by decide +kernel
theorem dX7_town_85 : decode cX7_town 85 = .ok (.iastore, 1) := by decide +kernel
theorem dX7_town_86 : decode cX7_town 86 = .ok (.aload_n 0, 1) := by decide +kernel
theorem dX7_town_87 : decode cX7_town 87 = .ok (.iconst 0, 1) := by decide +kernel
theorem dX7_town_88 : decode cX7_town 88 = .ok (.putfield 54, 3) := by decide +kernel
theorem dX7_town_91 : decode cX7_town 91 = .ok (.aload_n 0, 1) := by decide +kernel
theorem dX7_town_92 : decode cX7_town 92 = .ok (.iconst 0, 1) := by decide +kernel
theorem dX7_town_93 : decode cX7_town 93 = .ok (.putfield 60, 3) := by decide +kernel
theorem dX7_town_96 : decode cX7_town 96 = .ok (.aload_n 0, 1) := by decide +kernel
theorem dX7_town_97 : decode cX7_town 97 = .ok (.iconst 0, 1) := by decide +kernel
theorem dX7_town_98 : decode cX7_town 98 = .ok (.putfield 84, 3) := by decide +kernel
theorem dX7_town_101 : decode cX7_town 101 = .ok (.iconst 1, 1) := by decide +kernel
theorem dX7_town_102 : decode cX7_town 102 = .ok (.istore_n 1, 1) := by decide +kernel
theorem dX7_town_103 : decode cX7_town 103 = .ok (.aload_n 0, 1) := by decide +kernel
theorem dX7_town_104 : decode cX7_town 104 = .ok (.invokevirtual 129, 3) := by decide +kernel
theorem dX7_town_107 : decode cX7_town 107 = .ok (.aload_n 0, 1) := by decide +kernel
theorem dX7_town_108 : decode cX7_town 108 = .ok (.getfield 60, 3) := by decide +kernel
theorem dX7_town_111 : decode cX7_town 111 = .ok (.ifCond .ne 38, 3) := by decide +kernel
theorem dX7_town_114 : decode cX7_town 114 = .ok (.iload_n 1, 1) := by decide +kernel
theorem dX7_town_115 : decode cX7_town 115 = .ok (.bipush 10, 2) := by decide +kernel
theorem dX7_town_117 : decode cX7_town 117 = .ok (.if_icmp .ge 32, 3) := by decide +kernel
theorem dX7_town_120 : decode cX7_town 120 = .ok (.aload_n 0, 1) := by decide +kernel
theorem dX7_town_121 : decode cX7_town 121 = .ok (.invokevirtual 64, 3) := by decide +kernel
theorem dX7_town_124 : decode cX7_town 124 = .ok (.bipush 59, 2) := by decide +kernel
theorem dX7_town_126 : decode cX7_town 126 = .ok (.if_icmp .ne 23, 3) := by decide +kernel
theorem dX7_town_129 : decode cX7_town 129 = .ok (.aload_n 0, 1) := by decide +kernel
theorem dX7_town_130 : decode cX7_town 130 = .ok (.dup, 1) := by decide +kernel
theorem dX7_town_131 : decode cX7_town 131 = .ok (.getfield 54, 3) := by decide +kernel
theorem dX7_town_134 : decode cX7_town 134 = .ok (.iconst 1, 1) := by decide +kernel
theorem dX7_town_135 : decode cX7_town 135 = .ok (.iadd, 1) := by decide +kernel
theorem dX7_town_136 : decode cX7_town 136 = .ok (.putfield 54, 3) := by decide +kernel
theorem dX7_town_139 : decode cX7_town 139 = .ok (.aload_n 0, 1) := by decide +kernel
theorem dX7_town_140 : decode cX7_town 140 = .ok (.invokevirtual 129, 3) := by decide +kernel
theorem dX7_town_143 : decode cX7_town 143 = .ok (.iinc 1 1, 3) := by decide +kernel
theorem dX7_town_146 : decode cX7_town 146 = .ok (.goto (-39), 3) := by decide +kernel
theorem dX7_town_149 : decode cX7_town 149 = .ok (.aload_n 0, 1) := by decide +kernel
theorem dX7_town_150 : decode cX7_town 150 = .ok (.getfield 60, 3) := by decide +kernel
theorem dX7_town_153 : decode cX7_town 153 = .ok (.ifCond .ne 14, 3) := by decide +kernel
theorem dX7_town_156 : decode cX7_town 156 = .ok (.aload_n 0, 1) := by decide +kernel
theorem dX7_town_157 : decode cX7_town 157 = .ok (.getfield 54, 3) := by decide +kernel
theorem dX7_town_160 : decode cX7_town 160 = .ok (.aload_n 0, 1) := by decide +kernel
theorem dX7_town_161 : decode cX7_town 161 = .ok (.getfield 57, 3) := by decide +kernel
theorem dX7_town_164 : decode cX7_town 164 = .ok (.if_icmp .eq 11, 3) := by decide +kernel
theorem dX7_town_167 : decode cX7_town 167 = .ok (.bipush (-10), 2) := by decide +kernel
theorem dX7_town_169 : decode cX7_town 169 = .ok (.aload_n 0, 1) := by decide +kernel
theorem dX7_town_170 : decode cX7_town 170 = .ok (.getfield 54, 3) := by decide +kernel
theorem dX7_town_173 : decode cX7_town 173 = .ok (.isub, 1) := by decide +kernel
theorem dX7_town_174 : decode cX7_town 174 = .ok (.ireturn, 1) := by decide +kernel
theorem dX7_town_175 : decode cX7_town 175 = .ok (.aload_n 0, 1) := by decide +kernel
theorem dX7_town_176 : decode cX7_town 176 = .ok (.getfield 9, 3) := by decide +kernel
theorem dX7_town_179 : decode cX7_town 179 = .ok (.bipush 14, 2) := by decide +kernel
theorem dX7_town_181 : decode cX7_town 181 = .ok (.dup2, 1) := by decide +kernel
theorem dX7_town_182 : decode cX7_town 182 = .ok (.iaload, 1) := by decide +kernel
theorem dX7_town_183 : decode cX7_town 183 = .ok (.iconst 1, 1) := by decide +kernel
theorem dX7_town_184 : decode cX7_town 184 = .ok (.iadd, 1) := by decide +kernel
theorem dX7_town_185 : decode cX7_town 185 = .ok (.iastore, 1) := by decide +kernel
theorem dX7_town_186 : decode cX7_town 186 = .ok (.aload_n 0, 1) := by decide +kernel
theorem dX7_town_187 : decode cX7_town 187 = .ok (.getfield 9, 3) := by decide +kernel
theorem dX7_town_190 : decode cX7_town 190 = .ok (.bipush 19, 2) := by decide +kernel
theorem dX7_town_192 : decode cX7_town 192 = .ok (.aload_n 0, 1) := by decide +kernel
theorem dX7_town_193 : decode cX7_town 193 = .ok (.getfield 81, 3) := by decide +kernel
theorem dX7_town_196 : decode cX7_town 196 = .ok (.iastore, 1) := by decide +kernel
theorem dX7_town_197 : decode cX7_town 197 = .ok (.aload_n 0, 1) := by decide +kernel
theorem dX7_town_198 : decode cX7_town 198 = .ok (.getfield 81, 3) := by decide +kernel
theorem dX7_town_201 : decode cX7_town 201 = .ok (.ireturn, 1) := by decide +kernel
theorem dX7_tellsOf_0 : decode cX7_tellsOf 0 = .ok (.aload_n 0, 1) := by decide +kernel
theorem dX7_tellsOf_1 : decode cX7_tellsOf 1 = .ok (.getfield 9, 3) := by decide +kernel
theorem dX7_tellsOf_4 : decode cX7_tellsOf 4 = .ok (.bipush 19, 2) := by decide +kernel
theorem dX7_tellsOf_6 : decode cX7_tellsOf 6 = .ok (.iaload, 1) := by decide +kernel
theorem dX7_tellsOf_7 : decode cX7_tellsOf 7 = .ok (.iconst (-1), 1) := by decide +kernel
theorem dX7_tellsOf_8 : decode cX7_tellsOf 8 = .ok (.if_icmp .ne 7, 3) := by decide +kernel
theorem dX7_tellsOf_11 : decode cX7_tellsOf 11 = .ok (.iload_n 2, 1) := by decide +kernel
theorem dX7_tellsOf_12 : decode cX7_tellsOf 12 = .ok (.goto 17, 3) := by decide +kernel
theorem dX7_tellsOf_15 : decode cX7_tellsOf 15 = .ok (.aload_n 0, 1) := by decide +kernel
theorem dX7_tellsOf_16 : decode cX7_tellsOf 16 = .ok (.getfield 9, 3) := by decide +kernel
theorem dX7_tellsOf_19 : decode cX7_tellsOf 19 = .ok (.iload_n 1, 1) := by decide +kernel
theorem dX7_tellsOf_20 : decode cX7_tellsOf 20 = .ok (.aload_n 0, 1) := by decide +kernel
theorem dX7_tellsOf_21 : decode cX7_tellsOf 21 = .ok (.getfield 9, 3) := by decide +kernel
theorem dX7_tellsOf_24 : decode cX7_tellsOf 24 = .ok (.bipush 19, 2) := by decide +kernel
theorem dX7_tellsOf_26 : decode cX7_tellsOf 26 = .ok (.iaload, 1) := by decide +kernel
theorem dX7_tellsOf_27 : decode cX7_tellsOf 27 = .ok (.iadd, 1) := by decide +kernel
theorem dX7_tellsOf_28 : decode cX7_tellsOf 28 = .ok (.iaload, 1) := by decide +kernel
theorem dX7_tellsOf_29 : decode cX7_tellsOf 29 = .ok (.ireturn, 1) := by decide +kernel
theorem dX7_gapNow_0 : decode cX7_gapNow 0 = .ok (.aload_n 0, 1) := by decide +kernel
theorem dX7_gapNow_1 : decode cX7_gapNow 1 = .ok (.sipush 194, 3) := by decide +kernel
theorem dX7_gapNow_4 : decode cX7_gapNow 4 = .ok (.iconst 1, 1) := by decide +kernel
theorem dX7_gapNow_5 : decode cX7_gapNow 5 = .ok (.invokevirtual 132, 3) := by decide +kernel
theorem dX7_gapNow_8 : decode cX7_gapNow 8 = .ok (.ireturn, 1) := by decide +kernel
theorem dX7_pasteNow_0 : decode cX7_pasteNow 0 = .ok (.aload_n 0, 1) := by decide +kernel
theorem dX7_pasteNow_1 : decode cX7_pasteNow 1 = .ok (.sipush 199, 3) := by decide +kernel
theorem dX7_pasteNow_4 : decode cX7_pasteNow 4 = .ok (.iconst 5, 1) := by decide +kernel
theorem dX7_pasteNow_5 : decode cX7_pasteNow 5 = .ok (.invokevirtual 132, 3) := by decide +kernel
theorem dX7_pasteNow_8 : decode cX7_pasteNow 8 = .ok (.istore_n 1, 1) := by decide +kernel
theorem dX7_pasteNow_9 : decode cX7_pasteNow 9 = .ok (.iload_n 1, 1) := by decide +kernel
theorem dX7_pasteNow_10 : decode cX7_pasteNow 10 = .ok (.iconst 1, 1) := by decide +kernel
theorem dX7_pasteNow_11 : decode cX7_pasteNow 11 = .ok (.if_icmp .ge 7, 3) := by decide +kernel
theorem dX7_pasteNow_14 : decode cX7_pasteNow 14 = .ok (.iconst 1, 1) := by decide +kernel
theorem dX7_pasteNow_15 : decode cX7_pasteNow 15 = .ok (.goto 4, 3) := by decide +kernel
theorem dX7_pasteNow_18 : decode cX7_pasteNow 18 = .ok (.iload_n 1, 1) := by decide +kernel
theorem dX7_pasteNow_19 : decode cX7_pasteNow 19 = .ok (.ireturn, 1) := by decide +kernel
theorem dX7_looks_0 : decode cX7_looks 0 = .ok (.aload_n 0, 1) := by decide +kernel
theorem dX7_looks_1 : decode cX7_looks 1 = .ok (.getfield 21, 3) := by decide +kernel
theorem dX7_looks_4 : decode cX7_looks 4 = .ok (.iconst 0, 1) := by decide +kernel
theorem dX7_looks_5 : decode cX7_looks 5 = .ok (.iload_n 1, 1) := by decide +kernel
theorem dX7_looks_6 : decode cX7_looks 6 = .ok (.iastore, 1) := by decide +kernel
theorem dX7_looks_7 : decode cX7_looks 7 = .ok (.aload_n 0, 1) := by decide +kernel
theorem dX7_looks_8 : decode cX7_looks 8 = .ok (.getfield 21, 3) := by decide +kernel
theorem dX7_looks_11 : decode cX7_looks 11 = .ok (.iconst 1, 1) := by decide +kernel
theorem dX7_looks_12 : decode cX7_looks 12 = .ok (.aload_n 0, 1) := by decide +kernel
theorem dX7_looks_13 : decode cX7_looks 13 = .ok (.getfield 9, 3) := by decide +kernel
theorem dX7_looks_16 : decode cX7_looks 16 = .ok (.bipush 20, 2) := by decide +kernel
theorem dX7_looks_18 : decode cX7_looks 18 = .ok (.iload_n 1, 1) := by decide +kernel
theorem dX7_looks_19 : decode cX7_looks 19 = .ok (.iadd, 1) := by decide +kernel
theorem dX7_looks_20 : decode cX7_looks 20 = .ok (.iaload, 1) := by decide +kernel
theorem dX7_looks_21 : decode cX7_looks 21 = .ok (.iastore, 1) := by decide +kernel
theorem dX7_looks_22 : decode cX7_looks 22 = .ok (.aload_n 0, 1) := by decide +kernel
theorem dX7_looks_23 : decode cX7_looks 23 = .ok (.getfield 21, 3) := by decide +kernel
theorem dX7_looks_26 : decode cX7_looks 26 = .ok (.iconst 2, 1) := by decide +kernel
theorem dX7_looks_27 : decode cX7_looks 27 = .ok (.aload_n 0, 1) := by decide +kernel
theorem dX7_looks_28 : decode cX7_looks 28 = .ok (.getfield 9, 3) := by decide +kernel
theorem dX7_looks_31 : decode cX7_looks 31 = .ok (.bipush 24, 2) := by decide +kernel
theorem dX7_looks_33 : decode cX7_looks 33 = .ok (.iload_n 1, 1) := by decide +kernel
theorem dX7_looks_34 : decode cX7_looks 34 = .ok (.iadd, 1) := by decide +kernel
theorem dX7_looks_35 : decode cX7_looks 35 = .ok (.iaload, 1) := by decide +kernel
theorem dX7_looks_36 : decode cX7_looks 36 = .ok (.iastore, 1) := by decide +kernel
theorem dX7_looks_37 : decode cX7_looks 37 = .ok (.aload_n 0, 1) := by decide +kernel
theorem dX7_looks_38 : decode cX7_looks 38 = .ok (.getfield 21, 3) := by decide +kernel
theorem dX7_looks_41 : decode cX7_looks 41 = .ok (.iconst 3, 1) := by decide +kernel
theorem dX7_looks_42 : decode cX7_looks 42 = .ok (.iload_n 2, 1) := by decide +kernel
theorem dX7_looks_43 : decode cX7_looks 43 = .ok (.iastore, 1) := by decide +kernel
theorem dX7_looks_44 : decode cX7_looks 44 = .ok (.aload_n 0, 1) := by decide +kernel
theorem dX7_looks_45 : decode cX7_looks 45 = .ok (.getfield 21, 3) := by decide +kernel
theorem dX7_looks_48 : decode cX7_looks 48 = .ok (.iconst 4, 1) := by decide +kernel
theorem dX7_looks_49 : decode cX7_looks 49 = .ok (.aload_n 0, 1) := by decide +kernel
theorem dX7_looks_50 : decode cX7_looks 50 = .ok (.getfield 9, 3) := by decide +kernel
theorem dX7_looks_53 : decode cX7_looks 53 = .ok (.iconst 5, 1) := by decide +kernel
theorem dX7_looks_54 : decode cX7_looks 54 = .ok (.iload_n 2, 1) := by decide +kernel
theorem dX7_looks_55 : decode cX7_looks 55 = .ok (.iadd, 1) := by decide +kernel
theorem dX7_looks_56 : decode cX7_looks 56 = .ok (.iaload, 1) := by decide +kernel
theorem dX7_looks_57 : decode cX7_looks 57 = .ok (.bipush 10, 2) := by decide +kernel
theorem dX7_looks_59 : decode cX7_looks 59 = .ok (.idiv, 1) := by decide +kernel
theorem dX7_looks_60 : decode cX7_looks 60 = .ok (.iastore, 1) := by decide +kernel
theorem dX7_looks_61 : decode cX7_looks 61 = .ok (.aload_n 0, 1) := by decide +kernel
theorem dX7_looks_62 : decode cX7_looks 62 = .ok (.getfield 21, 3) := by decide +kernel
theorem dX7_looks_65 : decode cX7_looks 65 = .ok (.iconst 5, 1) := by decide +kernel
theorem dX7_looks_66 : decode cX7_looks 66 = .ok (.aload_n 0, 1) := by decide +kernel
theorem dX7_looks_67 : decode cX7_looks 67 = .ok (.getfield 9, 3) := by decide +kernel
theorem dX7_looks_70 : decode cX7_looks 70 = .ok (.iconst 0, 1) := by decide +kernel
theorem dX7_looks_71 : decode cX7_looks 71 = .ok (.iaload, 1) := by decide +kernel
theorem dX7_looks_72 : decode cX7_looks 72 = .ok (.bipush 10, 2) := by decide +kernel
theorem dX7_looks_74 : decode cX7_looks 74 = .ok (.irem, 1) := by decide +kernel
theorem dX7_looks_75 : decode cX7_looks 75 = .ok (.iastore, 1) := by decide +kernel
theorem dX7_looks_76 : decode cX7_looks 76 = .ok (.iconst 0, 1) := by decide +kernel
theorem dX7_looks_77 : decode cX7_looks 77 = .ok (.istore_n 3, 1) := by decide +kernel
theorem dX7_looks_78 : decode cX7_looks 78 = .ok (.aload_n 0, 1) := by decide +kernel
theorem dX7_looks_79 : decode cX7_looks 79 = .ok (.sipush 204, 3) := by decide +kernel
theorem dX7_looks_82 : decode cX7_looks 82 = .ok (.iconst 0, 1) := by decide +kernel
theorem dX7_looks_83 : decode cX7_looks 83 = .ok (.invokevirtual 132, 3) := by decide +kernel
theorem dX7_looks_86 : decode cX7_looks 86 = .ok (.istore 4, 2) := by decide +kernel
theorem dX7_looks_88 : decode cX7_looks 88 = .ok (.sipush 209, 3) := by decide +kernel
theorem dX7_looks_91 : decode cX7_looks 91 = .ok (.sipush 140, 3) := by decide +kernel
theorem dX7_looks_94 : decode cX7_looks 94 = .ok (.aload_n 0, 1) := by decide +kernel
theorem dX7_looks_95 : decode cX7_looks 95 = .ok (.getfield 9, 3) := by decide +kernel
theorem dX7_looks_98 : decode cX7_looks 98 = .ok (.bipush 19, 2) := by decide +kernel
theorem dX7_looks_100 : decode cX7_looks 100 = .ok (.iaload, 1) := by decide +kernel
theorem dX7_looks_101 : decode cX7_looks 101 = .ok (.imul, 1) := by decide +kernel
theorem dX7_looks_102 : decode cX7_looks 102 = .ok (.iadd, 1) := by decide +kernel
theorem dX7_looks_103 : decode cX7_looks 103 = .ok (.istore 5, 2) := by decide +kernel
theorem dX7_looks_105 : decode cX7_looks 105 = .ok (.iconst 0, 1) := by decide +kernel
theorem dX7_looks_106 : decode cX7_looks 106 = .ok (.istore 6, 2) := by decide +kernel
theorem dX7_looks_108 : decode cX7_looks 108 = .ok (.iload 5, 2) := by decide +kernel
theorem dX7_looks_110 : decode cX7_looks 110 = .ok (.istore 7, 2) := by decide +kernel
theorem dX7_looks_112 : decode cX7_looks 112 = .ok (.iload 7, 2) := by decide +kernel
theorem dX7_looks_114 : decode cX7_looks 114 = .ok (.iload 5, 2) := by decide +kernel
theorem dX7_looks_116 : decode cX7_looks 116 = .ok (.iload 4, 2) := by decide +kernel
theorem dX7_looks_118 : decode cX7_looks 118 = .ok (.iadd, 1) := by decide +kernel
theorem dX7_looks_119 : decode cX7_looks 119 = .ok (.if_icmp .ge 300, 3) := by decide +kernel
theorem dX7_looks_122 : decode cX7_looks 122 = .ok (.aload_n 0, 1) := by decide +kernel
theorem dX7_looks_123 : decode cX7_looks 123 = .ok (.getfield 9, 3) := by decide +kernel
theorem dX7_looks_126 : decode cX7_looks 126 = .ok (.iload 7, 2) := by decide +kernel
theorem dX7_looks_128 : decode cX7_looks 128 = .ok (.iaload, 1) := by decide +kernel
theorem dX7_looks_129 : decode cX7_looks 129 = .ok (.istore 8, 2) := by decide +kernel
theorem dX7_looks_131 : decode cX7_looks 131 = .ok (.iload 8, 2) := by decide +kernel
theorem dX7_looks_133 : decode cX7_looks 133 = .ok (.ifCond .lt 97, 3) := by decide +kernel
theorem dX7_looks_136 : decode cX7_looks 136 = .ok (.aload_n 0, 1) := by decide +kernel
theorem dX7_looks_137 : decode cX7_looks 137 = .ok (.getfield 21, 3) := by decide +kernel
theorem dX7_looks_140 : decode cX7_looks 140 = .ok (.iload 8, 2) := by decide +kernel
theorem dX7_looks_142 : decode cX7_looks 142 = .ok (.bipush 8, 2) := by decide +kernel
theorem dX7_looks_144 : decode cX7_looks 144 = .ok (.irem, 1) := by decide +kernel
theorem dX7_looks_145 : decode cX7_looks 145 = .ok (.iaload, 1) := by decide +kernel
theorem dX7_looks_146 : decode cX7_looks 146 = .ok (.istore 9, 2) := by decide +kernel
theorem dX7_looks_148 : decode cX7_looks 148 = .ok (.iload 8, 2) := by decide +kernel
theorem dX7_looks_150 : decode cX7_looks 150 = .ok (.bipush 8, 2) := by decide +kernel
theorem dX7_looks_152 : decode cX7_looks 152 = .ok (.idiv, 1) := by decide +kernel
theorem dX7_looks_153 : decode cX7_looks 153 = .ok (.iconst 4, 1) := by decide +kernel
theorem dX7_looks_154 : decode cX7_looks 154 = .ok (.irem, 1) := by decide +kernel
theorem dX7_looks_155 : decode cX7_looks 155 = .ok (.istore 10, 2) := by decide +kernel
theorem dX7_looks_157 : decode cX7_looks 157 = .ok (.iload 8, 2) := by decide +kernel
theorem dX7_looks_159 : decode cX7_looks 159 = .ok (.bipush 32, 2) := by decide +kernel
theorem dX7_looks_161 : decode cX7_looks 161 = .ok (.idiv, 1) := by decide +kernel
theorem dX7_looks_162 : decode cX7_looks 162 = .ok (.istore 11, 2) := by decide +kernel
theorem dX7_looks_164 : decode cX7_looks 164 = .ok (.aload_n 0, 1) := by decide +kernel
theorem dX7_looks_165 : decode cX7_looks 165 = .ok (.getfield 24, 3) := by decide +kernel
theorem dX7_looks_168 : decode cX7_looks 168 = .ok (.iload 6, 2) := by decide +kernel
theorem dX7_looks_170 : decode cX7_looks 170 = .ok (.iload 10, 2) := by decide +kernel
theorem dX7_looks_172 : decode cX7_looks 172 = .ok (.ifCond .ne 18, 3) := by decide +kernel
theorem dX7_looks_175 : decode cX7_looks 175 = .ok (.iload 9, 2) := by decide +kernel
theorem dX7_looks_177 : decode cX7_looks 177 = .ok (.iload 11, 2) := by decide +kernel
theorem dX7_looks_179 : decode cX7_looks 179 = .ok (.if_icmp .ge 7, 3) := by decide +kernel
theorem dX7_looks_182 : decode cX7_looks 182 = .ok (.iconst 1, 1) := by decide +kernel
theorem dX7_looks_183 : decode cX7_looks 183 = .ok (.goto 40, 3) := by decide +kernel
theorem dX7_looks_186 : decode cX7_looks 186 = .ok (.iconst 0, 1) := by decide +kernel
theorem dX7_looks_187 : decode cX7_looks 187 = .ok (.goto 36, 3) := by decide +kernel
theorem dX7_looks_190 : decode cX7_looks 190 = .ok (.iload 10, 2) := by decide +kernel
theorem dX7_looks_192 : decode cX7_looks 192 = .ok (.iconst 1, 1) := by decide +kernel
theorem dX7_looks_193 : decode cX7_looks 193 = .ok (.if_icmp .ne 18, 3) := by decide +kernel
theorem dX7_looks_196 : decode cX7_looks 196 = .ok (.iload 9, 2) := by decide +kernel
theorem dX7_looks_198 : decode cX7_looks 198 = .ok (.iload 11, 2) := by decide +kernel
theorem dX7_looks_200 : decode cX7_looks 200 = .ok (.if_icmp .ne 7, 3) := by decide +kernel
theorem dX7_looks_203 : decode cX7_looks 203 = .ok (.iconst 1, 1) := by decide +kernel
theorem dX7_looks_204 : decode cX7_looks 204 = .ok (.goto 19, 3) := by decide +kernel
theorem dX7_looks_207 : decode cX7_looks 207 = .ok (.iconst 0, 1) := by decide +kernel
theorem dX7_looks_208 : decode cX7_looks 208 = .ok (.goto 15, 3) := by decide +kernel
theorem dX7_looks_211 : decode cX7_looks 211 = .ok (.iload 9, 2) := by decide +kernel
theorem dX7_looks_213 : decode cX7_looks 213 = .ok (.iload 11, 2) := by decide +kernel
theorem dX7_looks_215 : decode cX7_looks 215 = .ok (.if_icmp .le 7, 3) := by decide +kernel
theorem dX7_looks_218 : decode cX7_looks 218 = .ok (.iconst 1, 1) := by decide +kernel
theorem dX7_looks_219 : decode cX7_looks 219 = .ok (.goto 4, 3) := by decide +kernel
theorem dX7_looks_222 : decode cX7_looks 222 = .ok (.iconst 0, 1) := by decide +kernel
theorem dX7_looks_223 : decode cX7_looks 223 = .ok (.bastore, 1) := by decide +kernel
theorem dX7_looks_224 : decode cX7_looks 224 = .ok (.iinc 6 1, 3) := by decide +kernel
theorem dX7_looks_227 : decode cX7_looks 227 = .ok (.goto 186, 3) := by decide +kernel
theorem dX7_looks_230 : decode cX7_looks 230 = .ok (.iload 8, 2) := by decide +kernel
theorem dX7_looks_232 : decode cX7_looks 232 = .ok (.iconst (-1), 1) := by decide +kernel
theorem dX7_looks_233 : decode cX7_looks 233 = .ok (.if_icmp .ne 32, 3) := by decide +kernel
theorem dX7_looks_236 : decode cX7_looks 236 = .ok (.aload_n 0, 1) := by decide +kernel
theorem dX7_looks_237 : decode cX7_looks 237 = .ok (.getfield 24, 3) := by decide +kernel
theorem dX7_looks_240 : decode cX7_looks 240 = .ok (.iload 6, 2) := by decide +kernel
theorem dX7_looks_242 : decode cX7_looks 242 = .ok (.iconst 1, 1) := by decide +kernel
theorem dX7_looks_243 : decode cX7_looks 243 = .ok (.isub, 1) := by decide +kernel
theorem dX7_looks_244 : decode cX7_looks 244 = .ok (.aload_n 0, 1) := by decide +kernel
theorem dX7_looks_245 : decode cX7_looks 245 = .ok (.getfield 24, 3) := by decide +kernel
theorem dX7_looks_248 : decode cX7_looks 248 = .ok (.iload 6, 2) := by decide +kernel
theorem dX7_looks_250 : decode cX7_looks 250 = .ok (.iconst 1, 1) := by decide +kernel
theorem dX7_looks_251 : decode cX7_looks 251 = .ok (.isub, 1) := by decide +kernel
theorem dX7_looks_252 : decode cX7_looks 252 = .ok (.baload, 1) := by decide +kernel
theorem dX7_looks_253 : decode cX7_looks 253 = .ok (.ifCond .ne 7, 3) := by decide +kernel
theorem dX7_looks_256 : decode cX7_looks 256 = .ok (.iconst 1, 1) := by decide +kernel
theorem dX7_looks_257 : decode cX7_looks 257 = .ok (.goto 4, 3) := by decide +kernel
theorem dX7_looks_260 : decode cX7_looks 260 = .ok (.iconst 0, 1) := by decide +kernel
theorem dX7_looks_261 : decode cX7_looks 261 = .ok (.bastore, 1) := by decide +kernel
theorem dX7_looks_262 : decode cX7_looks 262 = .ok (.goto 151, 3) := by decide +kernel
theorem dX7_looks_265 : decode cX7_looks 265 = .ok (.iload 8, 2) := by decide +kernel
theorem dX7_looks_267 : decode cX7_looks 267 = .ok (.bipush (-10), 2) := by decide +kernel
theorem dX7_looks_269 : decode cX7_looks 269 = .ok (.if_icmp .le 82, 3) := by decide +kernel
theorem dX7_looks_272 : decode cX7_looks 272 = .ok (.iinc 6 (-1), 3) := by decide +kernel
theorem dX7_looks_275 : decode cX7_looks 275 = .ok (.aload_n 0, 1) := by decide +kernel
theorem dX7_looks_276 : decode cX7_looks 276 = .ok (.getfield 24, 3) := by decide +kernel
theorem dX7_looks_279 : decode cX7_looks 279 = .ok (.iload 6, 2) := by decide +kernel
theorem dX7_looks_281 : decode cX7_looks 281 = .ok (.iconst 1, 1) := by decide +kernel
theorem dX7_looks_282 : decode cX7_looks 282 = .ok (.isub, 1) := by decide +kernel
theorem dX7_looks_283 : decode cX7_looks 283 = .ok (.iload 8, 2) := by decide +kernel
theorem dX7_looks_285 : decode cX7_looks 285 = .ok (.bipush (-2), 2) := by decide +kernel
theorem dX7_looks_287 : decode cX7_looks 287 = .ok (.if_icmp .ne 33, 3) := by decide +kernel
theorem dX7_looks_290 : decode cX7_looks 290 = .ok (.aload_n 0, 1) := by decide +kernel
theorem dX7_looks_291 : decode cX7_looks 291 = .ok (.getfield 24, 3) := by decide +kernel
theorem dX7_looks_294 : decode cX7_looks 294 = .ok (.iload 6, 2) := by decide +kernel
theorem dX7_looks_296 : decode cX7_looks 296 = .ok (.iconst 1, 1) := by decide +kernel
theorem dX7_looks_297 : decode cX7_looks 297 = .ok (.isub, 1) := by decide +kernel
theorem dX7_looks_298 : decode cX7_looks 298 = .ok (.baload, 1) := by decide +kernel
theorem dX7_looks_299 : decode cX7_looks 299 = .ok (.ifCond .eq 17, 3) := by decide +kernel
theorem dX7_looks_302 : decode cX7_looks 302 = .ok (.aload_n 0, 1) := by decide +kernel
theorem dX7_looks_303 : decode cX7_looks 303 = .ok (.getfield 24, 3) := by decide +kernel
theorem dX7_looks_306 : decode cX7_looks 306 = .ok (.iload 6, 2) := by decide +kernel
theorem dX7_looks_308 : decode cX7_looks 308 = .ok (.baload, 1) := by decide +kernel
theorem dX7_looks_309 : decode cX7_looks 309 = .ok (.ifCond .eq 7, 3) := by decide +kernel
theorem dX7_looks_312 : decode cX7_looks 312 = .ok (.iconst 1, 1) := by decide +kernel
theorem dX7_looks_313 : decode cX7_looks 313 = .ok (.goto 34, 3) := by decide +kernel
theorem dX7_looks_316 : decode cX7_looks 316 = .ok (.iconst 0, 1) := by decide +kernel
theorem dX7_looks_317 : decode cX7_looks 317 = .ok (.goto 30, 3) := by decide +kernel
theorem dX7_looks_320 : decode cX7_looks 320 = .ok (.aload_n 0, 1) := by decide +kernel
theorem dX7_looks_321 : decode cX7_looks 321 = .ok (.getfield 24, 3) := by decide +kernel
theorem dX7_looks_324 : decode cX7_looks 324 = .ok (.iload 6, 2) := by decide +kernel
theorem dX7_looks_326 : decode cX7_looks 326 = .ok (.iconst 1, 1) := by decide +kernel
theorem dX7_looks_327 : decode cX7_looks 327 = .ok (.isub, 1) := by decide +kernel
theorem dX7_looks_328 : decode cX7_looks 328 = .ok (.baload, 1) := by decide +kernel
theorem dX7_looks_329 : decode cX7_looks 329 = .ok (.ifCond .ne 13, 3) := by decide +kernel
theorem dX7_looks_332 : decode cX7_looks 332 = .ok (.aload_n 0, 1) := by decide +kernel
theorem dX7_looks_333 : decode cX7_looks 333 = .ok (.getfield 24, 3) := by decide +kernel
theorem dX7_looks_336 : decode cX7_looks 336 = .ok (.iload 6, 2) := by decide +kernel
theorem dX7_looks_338 : decode cX7_looks 338 = .ok (.baload, 1) := by decide +kernel
theorem dX7_looks_339 : decode cX7_looks 339 = .ok (.ifCond .eq 7, 3) := by decide +kernel
theorem dX7_looks_342 : decode cX7_looks 342 = .ok (.iconst 1, 1) := by decide +kernel
theorem dX7_looks_343 : decode cX7_looks 343 = .ok (.goto 4, 3) := by decide +kernel
theorem dX7_looks_346 : decode cX7_looks 346 = .ok (.iconst 0, 1) := by decide +kernel
theorem dX7_looks_347 : decode cX7_looks 347 = .ok (.bastore, 1) := by decide +kernel
theorem dX7_looks_348 : decode cX7_looks 348 = .ok (.goto 65, 3) := by decide +kernel
theorem dX7_looks_351 : decode cX7_looks 351 = .ok (.iconst 0, 1) := by decide +kernel
theorem dX7_looks_352 : decode cX7_looks 352 = .ok (.istore 6, 2) := by decide +kernel
theorem dX7_looks_354 : decode cX7_looks 354 = .ok (.aload_n 0, 1) := by decide +kernel
theorem dX7_looks_355 : decode cX7_looks 355 = .ok (.getfield 24, 3) := by decide +kernel
theorem dX7_looks_358 : decode cX7_looks 358 = .ok (.iconst 0, 1) := by decide +kernel
theorem dX7_looks_359 : decode cX7_looks 359 = .ok (.baload, 1) := by decide +kernel
theorem dX7_looks_360 : decode cX7_looks 360 = .ok (.istore 9, 2) := by decide +kernel
theorem dX7_looks_362 : decode cX7_looks 362 = .ok (.iload_n 3, 1) := by decide +kernel
theorem dX7_looks_363 : decode cX7_looks 363 = .ok (.iload 9, 2) := by decide +kernel
theorem dX7_looks_365 : decode cX7_looks 365 = .ok (.ifCond .eq 19, 3) := by decide +kernel
theorem dX7_looks_368 : decode cX7_looks 368 = .ok (.iload 8, 2) := by decide +kernel
theorem dX7_looks_370 : decode cX7_looks 370 = .ok (.sipush (-200), 3) := by decide +kernel
theorem dX7_looks_373 : decode cX7_looks 373 = .ok (.if_icmp .le 11, 3) := by decide +kernel
theorem dX7_looks_376 : decode cX7_looks 376 = .ok (.bipush (-10), 2) := by decide +kernel
theorem dX7_looks_378 : decode cX7_looks 378 = .ok (.iload 8, 2) := by decide +kernel
theorem dX7_looks_380 : decode cX7_looks 380 = .ok (.isub, 1) := by decide +kernel
theorem dX7_looks_381 : decode cX7_looks 381 = .ok (.goto 4, 3) := by decide +kernel
theorem dX7_looks_384 : decode cX7_looks 384 = .ok (.iconst 0, 1) := by decide +kernel
theorem dX7_looks_385 : decode cX7_looks 385 = .ok (.iadd, 1) := by decide +kernel
theorem dX7_looks_386 : decode cX7_looks 386 = .ok (.istore_n 3, 1) := by decide +kernel
theorem dX7_looks_387 : decode cX7_looks 387 = .ok (.iload_n 3, 1) := by decide +kernel
theorem dX7_looks_388 : decode cX7_looks 388 = .ok (.iload 9, 2) := by decide +kernel
theorem dX7_looks_390 : decode cX7_looks 390 = .ok (.ifCond .eq 20, 3) := by decide +kernel
theorem dX7_looks_393 : decode cX7_looks 393 = .ok (.iload 8, 2) := by decide +kernel
theorem dX7_looks_395 : decode cX7_looks 395 = .ok (.sipush (-200), 3) := by decide +kernel
theorem dX7_looks_398 : decode cX7_looks 398 = .ok (.if_icmp .gt 12, 3) := by decide +kernel
theorem dX7_looks_401 : decode cX7_looks 401 = .ok (.sipush (-200), 3) := by decide +kernel
theorem dX7_looks_404 : decode cX7_looks 404 = .ok (.iload 8, 2) := by decide +kernel
theorem dX7_looks_406 : decode cX7_looks 406 = .ok (.isub, 1) := by decide +kernel
theorem dX7_looks_407 : decode cX7_looks 407 = .ok (.goto 4, 3) := by decide +kernel
theorem dX7_looks_410 : decode cX7_looks 410 = .ok (.iconst 0, 1) := by decide +kernel
theorem dX7_looks_411 : decode cX7_looks 411 = .ok (.isub, 1) := by decide +kernel
theorem dX7_looks_412 : decode cX7_looks 412 = .ok (.istore_n 3, 1) := by decide +kernel
theorem dX7_looks_413 : decode cX7_looks 413 = .ok (.iinc 7 1, 3) := by decide +kernel
theorem dX7_looks_416 : decode cX7_looks 416 = .ok (.goto (-304), 3) := by decide +kernel
theorem dX7_looks_419 : decode cX7_looks 419 = .ok (.iload_n 3, 1) := by decide +kernel
theorem dX7_looks_420 : decode cX7_looks 420 = .ok (.ireturn, 1) := by decide +kernel
theorem dX7_likingBy_0 : decode cX7_likingBy 0 = .ok (.aload_n 0, 1) := by decide +kernel
theorem dX7_likingBy_1 : decode cX7_likingBy 1 = .ok (.getfield 9, 3) := by decide +kernel
theorem dX7_likingBy_4 : decode cX7_likingBy 4 = .ok (.iconst 5, 1) := by decide +kernel
theorem dX7_likingBy_5 : decode cX7_likingBy 5 = .ok (.iload_n 2, 1) := by decide +kernel
theorem dX7_likingBy_6 : decode cX7_likingBy 6 = .ok (.iadd, 1) := by decide +kernel
theorem dX7_likingBy_7 : decode cX7_likingBy 7 = .ok (.iaload, 1) := by decide +kernel
theorem dX7_likingBy_8 : decode cX7_likingBy 8 = .ok (.istore 4, 2) := by decide +kernel
theorem dX7_likingBy_10 : decode cX7_likingBy 10 = .ok (.aload_n 0, 1) := by decide +kernel
theorem dX7_likingBy_11 : decode cX7_likingBy 11 = .ok (.getfield 9, 3) := by decide +kernel
theorem dX7_likingBy_14 : decode cX7_likingBy 14 = .ok (.iconst 1, 1) := by decide +kernel
theorem dX7_likingBy_15 : decode cX7_likingBy 15 = .ok (.iload_n 1, 1) := by decide +kernel
theorem dX7_likingBy_16 : decode cX7_likingBy 16 = .ok (.iadd, 1) := by decide +kernel
theorem dX7_likingBy_17 : decode cX7_likingBy 17 = .ok (.iaload, 1) := by decide +kernel
theorem dX7_likingBy_18 : decode cX7_likingBy 18 = .ok (.iload_n 2, 1) := by decide +kernel
theorem dX7_likingBy_19 : decode cX7_likingBy 19 = .ok (.if_icmp .ne 15, 3) := by decide +kernel
theorem dX7_likingBy_22 : decode cX7_likingBy 22 = .ok (.aload_n 0, 1) := by decide +kernel
theorem dX7_likingBy_23 : decode cX7_likingBy 23 = .ok (.getfield 9, 3) := by decide +kernel
theorem dX7_likingBy_26 : decode cX7_likingBy 26 = .ok (.bipush 24, 2) := by decide +kernel
theorem dX7_likingBy_28 : decode cX7_likingBy 28 = .ok (.iload_n 1, 1) := by decide +kernel
theorem dX7_likingBy_29 : decode cX7_likingBy 29 = .ok (.iadd, 1) := by decide +kernel
theorem dX7_likingBy_30 : decode cX7_likingBy 30 = .ok (.iaload, 1) := by decide +kernel
theorem dX7_likingBy_31 : decode cX7_likingBy 31 = .ok (.goto 4, 3) := by decide +kernel
theorem dX7_likingBy_34 : decode cX7_likingBy 34 = .ok (.iconst 0, 1) := by decide +kernel
theorem dX7_likingBy_35 : decode cX7_likingBy 35 = .ok (.istore 5, 2) := by decide +kernel
theorem dX7_likingBy_37 : decode cX7_likingBy 37 = .ok (.aload_n 0, 1) := by decide +kernel
theorem dX7_likingBy_38 : decode cX7_likingBy 38 = .ok (.getfield 9, 3) := by decide +kernel
theorem dX7_likingBy_41 : decode cX7_likingBy 41 = .ok (.bipush 20, 2) := by decide +kernel
theorem dX7_likingBy_43 : decode cX7_likingBy 43 = .ok (.iload_n 1, 1) := by decide +kernel
theorem dX7_likingBy_44 : decode cX7_likingBy 44 = .ok (.iadd, 1) := by decide +kernel
theorem dX7_likingBy_45 : decode cX7_likingBy 45 = .ok (.iaload, 1) := by decide +kernel
theorem dX7_likingBy_46 : decode cX7_likingBy 46 = .ok (.tableswitch 103 1 6 #[38, 45, 49, 54, 71, 81], 38) := by decide +kernel
theorem dX7_likingBy_84 : decode cX7_likingBy 84 = .ok (.iload_n 3, 1) := by decide +kernel
theorem dX7_likingBy_85 : decode cX7_likingBy 85 = .ok (.iload 4, 2) := by decide +kernel
theorem dX7_likingBy_87 : decode cX7_likingBy 87 = .ok (.iconst 5, 1) := by decide +kernel
theorem dX7_likingBy_88 : decode cX7_likingBy 88 = .ok (.idiv, 1) := by decide +kernel
theorem dX7_likingBy_89 : decode cX7_likingBy 89 = .ok (.isub, 1) := by decide +kernel
theorem dX7_likingBy_90 : decode cX7_likingBy 90 = .ok (.ireturn, 1) := by decide +kernel
theorem dX7_likingBy_91 : decode cX7_likingBy 91 = .ok (.iconst 2, 1) := by decide +kernel
theorem dX7_likingBy_92 : decode cX7_likingBy 92 = .ok (.iload_n 3, 1) := by decide +kernel
theorem dX7_likingBy_93 : decode cX7_likingBy 93 = .ok (.imul, 1) := by decide +kernel
theorem dX7_likingBy_94 : decode cX7_likingBy 94 = .ok (.ireturn, 1) := by decide +kernel
theorem dX7_likingBy_95 : decode cX7_likingBy 95 = .ok (.iload_n 3, 1) := by decide +kernel
theorem dX7_likingBy_96 : decode cX7_likingBy 96 = .ok (.iload 5, 2) := by decide +kernel
theorem dX7_likingBy_98 : decode cX7_likingBy 98 = .ok (.iadd, 1) := by decide +kernel
theorem dX7_likingBy_99 : decode cX7_likingBy 99 = .ok (.ireturn, 1) := by decide +kernel
theorem dX7_likingBy_100 : decode cX7_likingBy 100 = .ok (.iload_n 3, 1) := by decide +kernel
theorem dX7_likingBy_101 : decode cX7_likingBy 101 = .ok (.iload 4, 2) := by decide +kernel
theorem dX7_likingBy_103 : decode cX7_likingBy 103 = .ok (.iconst 5, 1) := by decide +kernel
theorem dX7_likingBy_104 : decode cX7_likingBy 104 = .ok (.idiv, 1) := by decide +kernel
theorem dX7_likingBy_105 : decode cX7_likingBy 105 = .ok (.isub, 1) := by decide +kernel
theorem dX7_likingBy_106 : decode cX7_likingBy 106 = .ok (.aload_n 0, 1) := by decide +kernel
theorem dX7_likingBy_107 : decode cX7_likingBy 107 = .ok (.getfield 9, 3) := by decide +kernel
theorem dX7_likingBy_110 : decode cX7_likingBy 110 = .ok (.bipush 24, 2) := by decide +kernel
theorem dX7_likingBy_112 : decode cX7_likingBy 112 = .ok (.iload_n 1, 1) := by decide +kernel
theorem dX7_likingBy_113 : decode cX7_likingBy 113 = .ok (.iadd, 1) := by decide +kernel
theorem dX7_likingBy_114 : decode cX7_likingBy 114 = .ok (.iaload, 1) := by decide +kernel
theorem dX7_likingBy_115 : decode cX7_likingBy 115 = .ok (.iadd, 1) := by decide +kernel
theorem dX7_likingBy_116 : decode cX7_likingBy 116 = .ok (.ireturn, 1) := by decide +kernel
theorem dX7_likingBy_117 : decode cX7_likingBy 117 = .ok (.iconst 2, 1) := by decide +kernel
theorem dX7_likingBy_118 : decode cX7_likingBy 118 = .ok (.iload_n 3, 1) := by decide +kernel
theorem dX7_likingBy_119 : decode cX7_likingBy 119 = .ok (.imul, 1) := by decide +kernel
theorem dX7_likingBy_120 : decode cX7_likingBy 120 = .ok (.iload 4, 2) := by decide +kernel
theorem dX7_likingBy_122 : decode cX7_likingBy 122 = .ok (.bipush 10, 2) := by decide +kernel
theorem dX7_likingBy_124 : decode cX7_likingBy 124 = .ok (.idiv, 1) := by decide +kernel
theorem dX7_likingBy_125 : decode cX7_likingBy 125 = .ok (.iadd, 1) := by decide +kernel
theorem dX7_likingBy_126 : decode cX7_likingBy 126 = .ok (.ireturn, 1) := by decide +kernel
theorem dX7_likingBy_127 : decode cX7_likingBy 127 = .ok (.iload_n 3, 1) := by decide +kernel
theorem dX7_likingBy_128 : decode cX7_likingBy 128 = .ok (.iload 5, 2) := by decide +kernel
theorem dX7_likingBy_130 : decode cX7_likingBy 130 = .ok (.iadd, 1) := by decide +kernel
theorem dX7_likingBy_131 : decode cX7_likingBy 131 = .ok (.aload_n 0, 1) := by decide +kernel
theorem dX7_likingBy_132 : decode cX7_likingBy 132 = .ok (.getfield 9, 3) := by decide +kernel
theorem dX7_likingBy_135 : decode cX7_likingBy 135 = .ok (.bipush 28, 2) := by decide +kernel
theorem dX7_likingBy_137 : decode cX7_likingBy 137 = .ok (.iconst 4, 1) := by decide +kernel
theorem dX7_likingBy_138 : decode cX7_likingBy 138 = .ok (.iload_n 1, 1) := by decide +kernel
theorem dX7_likingBy_139 : decode cX7_likingBy 139 = .ok (.imul, 1) := by decide +kernel
theorem dX7_likingBy_140 : decode cX7_likingBy 140 = .ok (.iadd, 1) := by decide +kernel
theorem dX7_likingBy_141 : decode cX7_likingBy 141 = .ok (.iload 4, 2) := by decide +kernel
theorem dX7_likingBy_143 : decode cX7_likingBy 143 = .ok (.iconst 4, 1) := by decide +kernel
theorem dX7_likingBy_144 : decode cX7_likingBy 144 = .ok (.irem, 1) := by decide +kernel
theorem dX7_likingBy_145 : decode cX7_likingBy 145 = .ok (.iadd, 1) := by decide +kernel
theorem dX7_likingBy_146 : decode cX7_likingBy 146 = .ok (.iaload, 1) := by decide +kernel
theorem dX7_likingBy_147 : decode cX7_likingBy 147 = .ok (.iadd, 1) := by decide +kernel
theorem dX7_likingBy_148 : decode cX7_likingBy 148 = .ok (.ireturn, 1) := by decide +kernel
theorem dX7_likingBy_149 : decode cX7_likingBy 149 = .ok (.iload_n 3, 1) := by decide +kernel
theorem dX7_likingBy_150 : decode cX7_likingBy 150 = .ok (.ireturn, 1) := by decide +kernel
theorem dX7_likingOf_0 : decode cX7_likingOf 0 = .ok (.aload_n 0, 1) := by decide +kernel
theorem dX7_likingOf_1 : decode cX7_likingOf 1 = .ok (.iload_n 1, 1) := by decide +kernel
theorem dX7_likingOf_2 : decode cX7_likingOf 2 = .ok (.iload_n 2, 1) := by decide +kernel
theorem dX7_likingOf_3 : decode cX7_likingOf 3 = .ok (.aload_n 0, 1) := by decide +kernel
theorem dX7_likingOf_4 : decode cX7_likingOf 4 = .ok (.iload_n 1, 1) := by decide +kernel
theorem dX7_likingOf_5 : decode cX7_likingOf 5 = .ok (.iload_n 2, 1) := by decide +kernel
theorem dX7_likingOf_6 : decode cX7_likingOf 6 = .ok (.invokevirtual 136, 3) := by decide +kernel
theorem dX7_likingOf_9 : decode cX7_likingOf 9 = .ok (.invokevirtual 139, 3) := by decide +kernel
theorem dX7_likingOf_12 : decode cX7_likingOf 12 = .ok (.ireturn, 1) := by decide +kernel
theorem dX7_holderOf_0 : decode cX7_holderOf 0 = .ok (.iconst 0, 1) := by decide +kernel
theorem dX7_holderOf_1 : decode cX7_holderOf 1 = .ok (.istore_n 2, 1) := by decide +kernel
theorem dX7_holderOf_2 : decode cX7_holderOf 2 = .ok (.iload_n 2, 1) := by decide +kernel
theorem dX7_holderOf_3 : decode cX7_holderOf 3 = .ok (.aload_n 0, 1) := by decide +kernel
theorem dX7_holderOf_4 : decode cX7_holderOf 4 = .ok (.getfield 9, 3) := by decide +kernel
theorem dX7_holderOf_7 : decode cX7_holderOf 7 = .ok (.bipush 12, 2) := by decide +kernel
theorem dX7_holderOf_9 : decode cX7_holderOf 9 = .ok (.iaload, 1) := by decide +kernel
theorem dX7_holderOf_10 : decode cX7_holderOf 10 = .ok (.if_icmp .ge 23, 3) := by decide +kernel
theorem dX7_holderOf_13 : decode cX7_holderOf 13 = .ok (.aload_n 0, 1) := by decide +kernel
theorem dX7_holderOf_14 : decode cX7_holderOf 14 = .ok (.getfield 9, 3) := by decide +kernel
theorem dX7_holderOf_17 : decode cX7_holderOf 17 = .ok (.iconst 1, 1) := by decide +kernel
theorem dX7_holderOf_18 : decode cX7_holderOf 18 = .ok (.iload_n 2, 1) := by decide +kernel
theorem dX7_holderOf_19 : decode cX7_holderOf 19 = .ok (.iadd, 1) := by decide +kernel
theorem dX7_holderOf_20 : decode cX7_holderOf 20 = .ok (.iaload, 1) := by decide +kernel
theorem dX7_holderOf_21 : decode cX7_holderOf 21 = .ok (.iload_n 1, 1) := by decide +kernel
theorem dX7_holderOf_22 : decode cX7_holderOf 22 = .ok (.if_icmp .ne 5, 3) := by decide +kernel
theorem dX7_holderOf_25 : decode cX7_holderOf 25 = .ok (.iload_n 2, 1) := by decide +kernel
theorem dX7_holderOf_26 : decode cX7_holderOf 26 = .ok (.ireturn, 1) := by decide +kernel
theorem dX7_holderOf_27 : decode cX7_holderOf 27 = .ok (.iinc 2 1, 3) := by decide +kernel
theorem dX7_holderOf_30 : decode cX7_holderOf 30 = .ok (.goto (-28), 3) := by decide +kernel
theorem dX7_holderOf_33 : decode cX7_holderOf 33 = .ok (.iconst (-1), 1) := by decide +kernel
theorem dX7_holderOf_34 : decode cX7_holderOf 34 = .ok (.ireturn, 1) := by decide +kernel
theorem dX7_isOn_0 : decode cX7_isOn 0 = .ok (.aload_n 0, 1) := by decide +kernel
theorem dX7_isOn_1 : decode cX7_isOn 1 = .ok (.iload_n 1, 1) := by decide +kernel
theorem dX7_isOn_2 : decode cX7_isOn 2 = .ok (.invokevirtual 143, 3) := by decide +kernel
theorem dX7_isOn_5 : decode cX7_isOn 5 = .ok (.iconst (-1), 1) := by decide +kernel
theorem dX7_isOn_6 : decode cX7_isOn 6 = .ok (.if_icmp .ne 7, 3) := by decide +kernel
theorem dX7_isOn_9 : decode cX7_isOn 9 = .ok (.iconst 1, 1) := by decide +kernel
theorem dX7_isOn_10 : decode cX7_isOn 10 = .ok (.goto 4, 3) := by decide +kernel
theorem dX7_isOn_13 : decode cX7_isOn 13 = .ok (.iconst 0, 1) := by decide +kernel
theorem dX7_isOn_14 : decode cX7_isOn 14 = .ok (.ireturn, 1) := by decide +kernel
theorem dX7_may_0 : decode cX7_may 0 = .ok (.aload_n 0, 1) := by decide +kernel
theorem dX7_may_1 : decode cX7_may 1 = .ok (.getfield 9, 3) := by decide +kernel
theorem dX7_may_4 : decode cX7_may 4 = .ok (.iconst 1, 1) := by decide +kernel
theorem dX7_may_5 : decode cX7_may 5 = .ok (.iload_n 1, 1) := by decide +kernel
theorem dX7_may_6 : decode cX7_may 6 = .ok (.iadd, 1) := by decide +kernel
theorem dX7_may_7 : decode cX7_may 7 = .ok (.iaload, 1) := by decide +kernel
theorem dX7_may_8 : decode cX7_may 8 = .ok (.istore_n 3, 1) := by decide +kernel
theorem dX7_may_9 : decode cX7_may 9 = .ok (.iload_n 3, 1) := by decide +kernel
theorem dX7_may_10 : decode cX7_may 10 = .ok (.iconst (-1), 1) := by decide +kernel
theorem dX7_may_11 : decode cX7_may 11 = .ok (.if_icmp .ne 7, 3) := by decide +kernel
theorem dX7_may_14 : decode cX7_may 14 = .ok (.iconst 0, 1) := by decide +kernel
theorem dX7_may_15 : decode cX7_may 15 = .ok (.goto 20, 3) := by decide +kernel
theorem dX7_may_18 : decode cX7_may 18 = .ok (.aload_n 0, 1) := by decide +kernel
theorem dX7_may_19 : decode cX7_may 19 = .ok (.getfield 9, 3) := by decide +kernel
theorem dX7_may_22 : decode cX7_may 22 = .ok (.iconst 5, 1) := by decide +kernel
theorem dX7_may_23 : decode cX7_may 23 = .ok (.iload_n 3, 1) := by decide +kernel
theorem dX7_may_24 : decode cX7_may 24 = .ok (.iadd, 1) := by decide +kernel
theorem dX7_may_25 : decode cX7_may 25 = .ok (.iaload, 1) := by decide +kernel
theorem dX7_may_26 : decode cX7_may 26 = .ok (.aload_n 0, 1) := by decide +kernel
theorem dX7_may_27 : decode cX7_may 27 = .ok (.getfield 9, 3) := by decide +kernel
theorem dX7_may_30 : decode cX7_may 30 = .ok (.iconst 5, 1) := by decide +kernel
theorem dX7_may_31 : decode cX7_may 31 = .ok (.iload_n 2, 1) := by decide +kernel
theorem dX7_may_32 : decode cX7_may 32 = .ok (.iadd, 1) := by decide +kernel
theorem dX7_may_33 : decode cX7_may 33 = .ok (.iaload, 1) := by decide +kernel
theorem dX7_may_34 : decode cX7_may 34 = .ok (.isub, 1) := by decide +kernel
theorem dX7_may_35 : decode cX7_may 35 = .ok (.istore 4, 2) := by decide +kernel
theorem dX7_may_37 : decode cX7_may 37 = .ok (.aload_n 0, 1) := by decide +kernel
theorem dX7_may_38 : decode cX7_may 38 = .ok (.iload_n 2, 1) := by decide +kernel
theorem dX7_may_39 : decode cX7_may 39 = .ok (.invokevirtual 147, 3) := by decide +kernel
theorem dX7_may_42 : decode cX7_may 42 = .ok (.ifCond .eq 22, 3) := by decide +kernel
theorem dX7_may_45 : decode cX7_may 45 = .ok (.iload 4, 2) := by decide +kernel
theorem dX7_may_47 : decode cX7_may 47 = .ok (.iconst 1, 1) := by decide +kernel
theorem dX7_may_48 : decode cX7_may 48 = .ok (.if_icmp .lt 16, 3) := by decide +kernel
theorem dX7_may_51 : decode cX7_may 51 = .ok (.iload 4, 2) := by decide +kernel
theorem dX7_may_53 : decode cX7_may 53 = .ok (.aload_n 0, 1) := by decide +kernel
theorem dX7_may_54 : decode cX7_may 54 = .ok (.invokevirtual 151, 3) := by decide +kernel
theorem dX7_may_57 : decode cX7_may 57 = .ok (.if_icmp .lt 7, 3) := by decide +kernel
theorem dX7_may_60 : decode cX7_may 60 = .ok (.iconst 1, 1) := by decide +kernel
theorem dX7_may_61 : decode cX7_may 61 = .ok (.goto 4, 3) := by decide +kernel
theorem dX7_may_64 : decode cX7_may 64 = .ok (.iconst 0, 1) := by decide +kernel
theorem dX7_may_65 : decode cX7_may 65 = .ok (.ireturn, 1) := by decide +kernel
theorem dX7_mayTake_0 : decode cX7_mayTake 0 = .ok (.iconst 0, 1) := by decide +kernel
theorem dX7_mayTake_1 : decode cX7_mayTake 1 = .ok (.istore_n 2, 1) := by decide +kernel
theorem dX7_mayTake_2 : decode cX7_mayTake 2 = .ok (.iconst 0, 1) := by decide +kernel
theorem dX7_mayTake_3 : decode cX7_mayTake 3 = .ok (.istore_n 3, 1) := by decide +kernel
theorem dX7_mayTake_4 : decode cX7_mayTake 4 = .ok (.iload_n 3, 1) := by decide +kernel
theorem dX7_mayTake_5 : decode cX7_mayTake 5 = .ok (.aload_n 0, 1) := by decide +kernel
theorem dX7_mayTake_6 : decode cX7_mayTake 6 = .ok (.getfield 9, 3) := by decide +kernel
theorem dX7_mayTake_9 : decode cX7_mayTake 9 = .ok (.bipush 13, 2) := by decide +kernel
theorem dX7_mayTake_11 : decode cX7_mayTake 11 = .ok (.iaload, 1) := by decide +kernel
theorem dX7_mayTake_12 : decode cX7_mayTake 12 = .ok (.if_icmp .ge 28, 3) := by decide +kernel
theorem dX7_mayTake_15 : decode cX7_mayTake 15 = .ok (.iload_n 2, 1) := by decide +kernel
theorem dX7_mayTake_16 : decode cX7_mayTake 16 = .ok (.aload_n 0, 1) := by decide +kernel
theorem dX7_mayTake_17 : decode cX7_mayTake 17 = .ok (.iload_n 1, 1) := by decide +kernel
theorem dX7_mayTake_18 : decode cX7_mayTake 18 = .ok (.iload_n 3, 1) := by decide +kernel
theorem dX7_mayTake_19 : decode cX7_mayTake 19 = .ok (.invokevirtual 154, 3) := by decide +kernel
theorem dX7_mayTake_22 : decode cX7_mayTake 22 = .ok (.ifCond .eq 9, 3) := by decide +kernel
theorem dX7_mayTake_25 : decode cX7_mayTake 25 = .ok (.iconst 1, 1) := by decide +kernel
theorem dX7_mayTake_26 : decode cX7_mayTake 26 = .ok (.iload_n 3, 1) := by decide +kernel
theorem dX7_mayTake_27 : decode cX7_mayTake 27 = .ok (.ishl, 1) := by decide +kernel
theorem dX7_mayTake_28 : decode cX7_mayTake 28 = .ok (.goto 4, 3) := by decide +kernel
theorem dX7_mayTake_31 : decode cX7_mayTake 31 = .ok (.iconst 0, 1) := by decide +kernel
theorem dX7_mayTake_32 : decode cX7_mayTake 32 = .ok (.ior, 1) := by decide +kernel
theorem dX7_mayTake_33 : decode cX7_mayTake 33 = .ok (.istore_n 2, 1) := by decide +kernel
theorem dX7_mayTake_34 : decode cX7_mayTake 34 = .ok (.iinc 3 1, 3) := by decide +kernel
theorem dX7_mayTake_37 : decode cX7_mayTake 37 = .ok (.goto (-33), 3) := by decide +kernel
theorem dX7_mayTake_40 : decode cX7_mayTake 40 = .ok (.iload_n 2, 1) := by decide +kernel
theorem dX7_mayTake_41 : decode cX7_mayTake 41 = .ok (.ireturn, 1) := by decide +kernel
theorem dX7_isThin_0 : decode cX7_isThin 0 = .ok (.aload_n 0, 1) := by decide +kernel
theorem dX7_isThin_1 : decode cX7_isThin 1 = .ok (.getfield 9, 3) := by decide +kernel
theorem dX7_isThin_4 : decode cX7_isThin 4 = .ok (.bipush 20, 2) := by decide +kernel
theorem dX7_isThin_6 : decode cX7_isThin 6 = .ok (.iload_n 1, 1) := by decide +kernel
theorem dX7_isThin_7 : decode cX7_isThin 7 = .ok (.iadd, 1) := by decide +kernel
theorem dX7_isThin_8 : decode cX7_isThin 8 = .ok (.iaload, 1) := by decide +kernel
theorem dX7_isThin_9 : decode cX7_isThin 9 = .ok (.iconst 1, 1) := by decide +kernel
theorem dX7_isThin_10 : decode cX7_isThin 10 = .ok (.if_icmp .eq 16, 3) := by decide +kernel
theorem dX7_isThin_13 : decode cX7_isThin 13 = .ok (.aload_n 0, 1) := by decide +kernel
theorem dX7_isThin_14 : decode cX7_isThin 14 = .ok (.getfield 9, 3) := by decide +kernel
theorem dX7_isThin_17 : decode cX7_isThin 17 = .ok (.bipush 20, 2) := by decide +kernel
theorem dX7_isThin_19 : decode cX7_isThin 19 = .ok (.iload_n 1, 1) := by decide +kernel
theorem dX7_isThin_20 : decode cX7_isThin 20 = .ok (.iadd, 1) := by decide +kernel
theorem dX7_isThin_21 : decode cX7_isThin 21 = .ok (.iaload, 1) := by decide +kernel
theorem dX7_isThin_22 : decode cX7_isThin 22 = .ok (.iconst 4, 1) := by decide +kernel
theorem dX7_isThin_23 : decode cX7_isThin 23 = .ok (.if_icmp .ne 7, 3) := by decide +kernel
theorem dX7_isThin_26 : decode cX7_isThin 26 = .ok (.iconst 1, 1) := by decide +kernel
theorem dX7_isThin_27 : decode cX7_isThin 27 = .ok (.goto 4, 3) := by decide +kernel
theorem dX7_isThin_30 : decode cX7_isThin 30 = .ok (.iconst 0, 1) := by decide +kernel
theorem dX7_isThin_31 : decode cX7_isThin 31 = .ok (.ireturn, 1) := by decide +kernel
theorem dX7_choiceOf_0 : decode cX7_choiceOf 0 = .ok (.iconst (-1), 1) := by decide +kernel
theorem dX7_choiceOf_1 : decode cX7_choiceOf 1 = .ok (.istore_n 2, 1) := by decide +kernel
theorem dX7_choiceOf_2 : decode cX7_choiceOf 2 = .ok (.ldc 158, 2) := by decide +kernel
theorem dX7_choiceOf_4 : decode cX7_choiceOf 4 = .ok (.istore_n 3, 1) := by decide +kernel
theorem dX7_choiceOf_5 : decode cX7_choiceOf 5 = .ok (.aload_n 0, 1) := by decide +kernel
theorem dX7_choiceOf_6 : decode cX7_choiceOf 6 = .ok (.getfield 9, 3) := by decide +kernel
theorem dX7_choiceOf_9 : decode cX7_choiceOf 9 = .ok (.iconst 1, 1) := by decide +kernel
theorem dX7_choiceOf_10 : decode cX7_choiceOf 10 = .ok (.iload_n 1, 1) := by decide +kernel
theorem dX7_choiceOf_11 : decode cX7_choiceOf 11 = .ok (.iadd, 1) := by decide +kernel
theorem dX7_choiceOf_12 : decode cX7_choiceOf 12 = .ok (.iaload, 1) := by decide +kernel
theorem dX7_choiceOf_13 : decode cX7_choiceOf 13 = .ok (.iconst (-1), 1) := by decide +kernel
theorem dX7_choiceOf_14 : decode cX7_choiceOf 14 = .ok (.if_icmp .eq 25, 3) := by decide +kernel
theorem dX7_choiceOf_17 : decode cX7_choiceOf 17 = .ok (.aload_n 0, 1) := by decide +kernel
theorem dX7_choiceOf_18 : decode cX7_choiceOf 18 = .ok (.iload_n 1, 1) := by decide +kernel
theorem dX7_choiceOf_19 : decode cX7_choiceOf 19 = .ok (.invokevirtual 159, 3) := by decide +kernel
theorem dX7_choiceOf_22 : decode cX7_choiceOf 22 = .ok (.ifCond .ne 17, 3) := by decide +kernel
theorem dX7_choiceOf_25 : decode cX7_choiceOf 25 = .ok (.aload_n 0, 1) := by decide +kernel
theorem dX7_choiceOf_26 : decode cX7_choiceOf 26 = .ok (.iload_n 1, 1) := by decide +kernel
theorem dX7_choiceOf_27 : decode cX7_choiceOf 27 = .ok (.aload_n 0, 1) := by decide +kernel
theorem dX7_choiceOf_28 : decode cX7_choiceOf 28 = .ok (.getfield 9, 3) := by decide +kernel
theorem dX7_choiceOf_31 : decode cX7_choiceOf 31 = .ok (.iconst 1, 1) := by decide +kernel
theorem dX7_choiceOf_32 : decode cX7_choiceOf 32 = .ok (.iload_n 1, 1) := by decide +kernel
theorem dX7_choiceOf_33 : decode cX7_choiceOf 33 = .ok (.iadd, 1) := by decide +kernel
theorem dX7_choiceOf_34 : decode cX7_choiceOf 34 = .ok (.iaload, 1) := by decide +kernel
theorem dX7_choiceOf_35 : decode cX7_choiceOf 35 = .ok (.invokevirtual 162, 3) := by decide +kernel
theorem dX7_choiceOf_38 : decode cX7_choiceOf 38 = .ok (.istore_n 3, 1) := by decide +kernel
theorem dX7_choiceOf_39 : decode cX7_choiceOf 39 = .ok (.iconst 0, 1) := by decide +kernel
theorem dX7_choiceOf_40 : decode cX7_choiceOf 40 = .ok (.istore 4, 2) := by decide +kernel
theorem dX7_choiceOf_42 : decode cX7_choiceOf 42 = .ok (.iload 4, 2) := by decide +kernel
theorem dX7_choiceOf_44 : decode cX7_choiceOf 44 = .ok (.aload_n 0, 1) := by decide +kernel
theorem dX7_choiceOf_45 : decode cX7_choiceOf 45 = .ok (.getfield 9, 3) := by decide +kernel
theorem dX7_choiceOf_48 : decode cX7_choiceOf 48 = .ok (.bipush 13, 2) := by decide +kernel
theorem dX7_choiceOf_50 : decode cX7_choiceOf 50 = .ok (.iaload, 1) := by decide +kernel
theorem dX7_choiceOf_51 : decode cX7_choiceOf 51 = .ok (.if_icmp .ge 75, 3) := by decide +kernel
theorem dX7_choiceOf_54 : decode cX7_choiceOf 54 = .ok (.aload_n 0, 1) := by decide +kernel
theorem dX7_choiceOf_55 : decode cX7_choiceOf 55 = .ok (.iload_n 1, 1) := by decide +kernel
theorem dX7_choiceOf_56 : decode cX7_choiceOf 56 = .ok (.iload 4, 2) := by decide +kernel
theorem dX7_choiceOf_58 : decode cX7_choiceOf 58 = .ok (.invokevirtual 154, 3) := by decide +kernel
theorem dX7_choiceOf_61 : decode cX7_choiceOf 61 = .ok (.ifCond .eq 59, 3) := by decide +kernel
theorem dX7_choiceOf_64 : decode cX7_choiceOf 64 = .ok (.aload_n 0, 1) := by decide +kernel
theorem dX7_choiceOf_65 : decode cX7_choiceOf 65 = .ok (.iload_n 1, 1) := by decide +kernel
theorem dX7_choiceOf_66 : decode cX7_choiceOf 66 = .ok (.invokevirtual 159, 3) := by decide +kernel
theorem dX7_choiceOf_69 : decode cX7_choiceOf 69 = .ok (.ifCond .eq 16, 3) := by decide +kernel
theorem dX7_choiceOf_72 : decode cX7_choiceOf 72 = .ok (.aload_n 0, 1) := by decide +kernel
theorem dX7_choiceOf_73 : decode cX7_choiceOf 73 = .ok (.getfield 9, 3) := by decide +kernel
theorem dX7_choiceOf_76 : decode cX7_choiceOf 76 = .ok (.iconst 5, 1) := by decide +kernel
theorem dX7_choiceOf_77 : decode cX7_choiceOf 77 = .ok (.iload 4, 2) := by decide +kernel
theorem dX7_choiceOf_79 : decode cX7_choiceOf 79 = .ok (.iadd, 1) := by decide +kernel
theorem dX7_choiceOf_80 : decode cX7_choiceOf 80 = .ok (.iaload, 1) := by decide +kernel
theorem dX7_choiceOf_81 : decode cX7_choiceOf 81 = .ok (.ineg, 1) := by decide +kernel
theorem dX7_choiceOf_82 : decode cX7_choiceOf 82 = .ok (.goto 10, 3) := by decide +kernel
theorem dX7_choiceOf_85 : decode cX7_choiceOf 85 = .ok (.aload_n 0, 1) := by decide +kernel
theorem dX7_choiceOf_86 : decode cX7_choiceOf 86 = .ok (.iload_n 1, 1) := by decide +kernel
theorem dX7_choiceOf_87 : decode cX7_choiceOf 87 = .ok (.iload 4, 2) := by decide +kernel
theorem dX7_choiceOf_89 : decode cX7_choiceOf 89 = .ok (.invokevirtual 162, 3) := by decide +kernel
theorem dX7_choiceOf_92 : decode cX7_choiceOf 92 = .ok (.istore 5, 2) := by decide +kernel
theorem dX7_choiceOf_94 : decode cX7_choiceOf 94 = .ok (.iload 5, 2) := by decide +kernel
theorem dX7_choiceOf_96 : decode cX7_choiceOf 96 = .ok (.iload_n 3, 1) := by decide +kernel
theorem dX7_choiceOf_97 : decode cX7_choiceOf 97 = .ok (.if_icmp .le 8, 3) := by decide +kernel
theorem dX7_choiceOf_100 : decode cX7_choiceOf 100 = .ok (.iload 4, 2) := by decide +kernel
theorem dX7_choiceOf_102 : decode cX7_choiceOf 102 = .ok (.goto 4, 3) := by decide +kernel
theorem dX7_choiceOf_105 : decode cX7_choiceOf 105 = .ok (.iload_n 2, 1) := by decide +kernel
theorem dX7_choiceOf_106 : decode cX7_choiceOf 106 = .ok (.istore_n 2, 1) := by decide +kernel
theorem dX7_choiceOf_107 : decode cX7_choiceOf 107 = .ok (.iload 5, 2) := by decide +kernel
theorem dX7_choiceOf_109 : decode cX7_choiceOf 109 = .ok (.iload_n 3, 1) := by decide +kernel
theorem dX7_choiceOf_110 : decode cX7_choiceOf 110 = .ok (.if_icmp .le 8, 3) := by decide +kernel
theorem dX7_choiceOf_113 : decode cX7_choiceOf 113 = .ok (.iload 5, 2) := by decide +kernel
theorem dX7_choiceOf_115 : decode cX7_choiceOf 115 = .ok (.goto 4, 3) := by decide +kernel
theorem dX7_choiceOf_118 : decode cX7_choiceOf 118 = .ok (.iload_n 3, 1) := by decide +kernel
theorem dX7_choiceOf_119 : decode cX7_choiceOf 119 = .ok (.istore_n 3, 1) := by decide +kernel
theorem dX7_choiceOf_120 : decode cX7_choiceOf 120 = .ok (.iinc 4 1, 3) := by decide +kernel
theorem dX7_choiceOf_123 : decode cX7_choiceOf 123 = .ok (.goto (-81), 3) := by decide +kernel
theorem dX7_choiceOf_126 : decode cX7_choiceOf 126 = .ok (.iload_n 2, 1) := by decide +kernel
theorem dX7_choiceOf_127 : decode cX7_choiceOf 127 = .ok (.ireturn, 1) := by decide +kernel
theorem dX7_book_0 : decode cX7_book 0 = .ok (.iload_n 1, 1) := by decide +kernel
theorem dX7_book_1 : decode cX7_book 1 = .ok (.iconst 1, 1) := by decide +kernel
theorem dX7_book_2 : decode cX7_book 2 = .ok (.bipush 99, 2) := by decide +kernel
theorem dX7_book_4 : decode cX7_book 4 = .ok (.invokestatic 50, 3) := by decide +kernel
theorem dX7_book_7 : decode cX7_book 7 = .ok (.ifCond .ne 6, 3) := by decide +kernel
theorem dX7_book_10 : decode cX7_book 10 = .ok (.bipush (-2), 2) := by decide +kernel
theorem dX7_book_12 : decode cX7_book 12 = .ok (.ireturn, 1) := by decide +kernel
theorem dX7_book_13 : decode cX7_book 13 = .ok (.aload_n 0, 1) := by decide +kernel
theorem dX7_book_14 : decode cX7_book 14 = .ok (.getfield 9, 3) := by decide +kernel
theorem dX7_book_17 : decode cX7_book 17 = .ok (.bipush 13, 2) := by decide +kernel
theorem dX7_book_19 : decode cX7_book 19 = .ok (.iaload, 1) := by decide +kernel
theorem dX7_book_20 : decode cX7_book 20 = .ok (.bipush 7, 2) := by decide +kernel
theorem dX7_book_22 : decode cX7_book 22 = .ok (.if_icmp .ne 6, 3) := by decide +kernel
theorem dX7_book_25 : decode cX7_book 25 = .ok (.bipush (-4), 2) := by decide +kernel
theorem dX7_book_27 : decode cX7_book 27 = .ok (.ireturn, 1) := by decide +kernel
theorem dX7_book_28 : decode cX7_book 28 = .ok (.aload_n 0, 1) := by decide +kernel
theorem dX7_book_29 : decode cX7_book 29 = .ok (.getfield 9, 3) := by decide +kernel
theorem dX7_book_32 : decode cX7_book 32 = .ok (.iconst 5, 1) := by decide +kernel
theorem dX7_book_33 : decode cX7_book 33 = .ok (.aload_n 0, 1) := by decide +kernel
theorem dX7_book_34 : decode cX7_book 34 = .ok (.getfield 9, 3) := by decide +kernel
theorem dX7_book_37 : decode cX7_book 37 = .ok (.bipush 13, 2) := by decide +kernel
theorem dX7_book_39 : decode cX7_book 39 = .ok (.iaload, 1) := by decide +kernel
theorem dX7_book_40 : decode cX7_book 40 = .ok (.iadd, 1) := by decide +kernel
theorem dX7_book_41 : decode cX7_book 41 = .ok (.iload_n 1, 1) := by decide +kernel
theorem dX7_book_42 : decode cX7_book 42 = .ok (.iastore, 1) := by decide +kernel
theorem dX7_book_43 : decode cX7_book 43 = .ok (.aload_n 0, 1) := by decide +kernel
theorem dX7_book_44 : decode cX7_book 44 = .ok (.getfield 9, 3) := by decide +kernel
theorem dX7_book_47 : decode cX7_book 47 = .ok (.bipush 13, 2) := by decide +kernel
theorem dX7_book_49 : decode cX7_book 49 = .ok (.dup2, 1) := by decide +kernel
theorem dX7_book_50 : decode cX7_book 50 = .ok (.iaload, 1) := by decide +kernel
theorem dX7_book_51 : decode cX7_book 51 = .ok (.iconst 1, 1) := by decide +kernel
theorem dX7_book_52 : decode cX7_book 52 = .ok (.iadd, 1) := by decide +kernel
theorem dX7_book_53 : decode cX7_book 53 = .ok (.iastore, 1) := by decide +kernel
theorem dX7_book_54 : decode cX7_book 54 = .ok (.aload_n 0, 1) := by decide +kernel
theorem dX7_book_55 : decode cX7_book 55 = .ok (.getfield 9, 3) := by decide +kernel
theorem dX7_book_58 : decode cX7_book 58 = .ok (.bipush 13, 2) := by decide +kernel
theorem dX7_book_60 : decode cX7_book 60 = .ok (.iaload, 1) := by decide +kernel
theorem dX7_book_61 : decode cX7_book 61 = .ok (.iconst 1, 1) := by decide +kernel
theorem dX7_book_62 : decode cX7_book 62 = .ok (.isub, 1) := by decide +kernel
theorem dX7_book_63 : decode cX7_book 63 = .ok (.ireturn, 1) := by decide +kernel
theorem dX7_reader_0 : decode cX7_reader 0 = .ok (.iload_n 1, 1) := by decide +kernel
theorem dX7_reader_1 : decode cX7_reader 1 = .ok (.iconst 0, 1) := by decide +kernel
theorem dX7_reader_2 : decode cX7_reader 2 = .ok (.bipush 6, 2) := by decide +kernel
theorem dX7_reader_4 : decode cX7_reader 4 = .ok (.invokestatic 50, 3) := by decide +kernel
theorem dX7_reader_7 : decode cX7_reader 7 = .ok (.ifCond .ne 5, 3) := by decide +kernel
theorem dX7_reader_10 : decode cX7_reader 10 = .ok (.iconst (-1), 1) := by decide +kernel
theorem dX7_reader_11 : decode cX7_reader 11 = .ok (.ireturn, 1) := by decide +kernel
theorem dX7_reader_12 : decode cX7_reader 12 = .ok (.iload_n 2, 1) := by decide +kernel
theorem dX7_reader_13 : decode cX7_reader 13 = .ok (.iconst 0, 1) := by decide +kernel
theorem dX7_reader_14 : decode cX7_reader 14 = .ok (.bipush 9, 2) := by decide +kernel
theorem dX7_reader_16 : decode cX7_reader 16 = .ok (.invokestatic 50, 3) := by decide +kernel
theorem dX7_reader_19 : decode cX7_reader 19 = .ok (.ifCond .ne 6, 3) := by decide +kernel
theorem dX7_reader_22 : decode cX7_reader 22 = .ok (.bipush (-2), 2) := by decide +kernel
theorem dX7_reader_24 : decode cX7_reader 24 = .ok (.ireturn, 1) := by decide +kernel
theorem dX7_reader_25 : decode cX7_reader 25 = .ok (.aload_n 0, 1) := by decide +kernel
theorem dX7_reader_26 : decode cX7_reader 26 = .ok (.getfield 9, 3) := by decide +kernel
theorem dX7_reader_29 : decode cX7_reader 29 = .ok (.bipush 12, 2) := by decide +kernel
theorem dX7_reader_31 : decode cX7_reader 31 = .ok (.iaload, 1) := by decide +kernel
theorem dX7_reader_32 : decode cX7_reader 32 = .ok (.iconst 4, 1) := by decide +kernel
theorem dX7_reader_33 : decode cX7_reader 33 = .ok (.if_icmp .ne 6, 3) := by decide +kernel
theorem dX7_reader_36 : decode cX7_reader 36 = .ok (.bipush (-4), 2) := by decide +kernel
theorem dX7_reader_38 : decode cX7_reader 38 = .ok (.ireturn, 1) := by decide +kernel
theorem dX7_reader_39 : decode cX7_reader 39 = .ok (.aload_n 0, 1) := by decide +kernel
theorem dX7_reader_40 : decode cX7_reader 40 = .ok (.getfield 9, 3) := by decide +kernel
theorem dX7_reader_43 : decode cX7_reader 43 = .ok (.bipush 12, 2) := by decide +kernel
theorem dX7_reader_45 : decode cX7_reader 45 = .ok (.iaload, 1) := by decide +kernel
theorem dX7_reader_46 : decode cX7_reader 46 = .ok (.istore_n 3, 1) := by decide +kernel
theorem dX7_reader_47 : decode cX7_reader 47 = .ok (.aload_n 0, 1) := by decide +kernel
theorem dX7_reader_48 : decode cX7_reader 48 = .ok (.getfield 9, 3) := by decide +kernel
theorem dX7_reader_51 : decode cX7_reader 51 = .ok (.bipush 20, 2) := by decide +kernel
theorem dX7_reader_53 : decode cX7_reader 53 = .ok (.iload_n 3, 1) := by decide +kernel
theorem dX7_reader_54 : decode cX7_reader 54 = .ok (.iadd, 1) := by decide +kernel
theorem dX7_reader_55 : decode cX7_reader 55 = .ok (.iload_n 1, 1) := by decide +kernel
theorem dX7_reader_56 : decode cX7_reader 56 = .ok (.iastore, 1) := by decide +kernel
theorem dX7_reader_57 : decode cX7_reader 57 = .ok (.aload_n 0, 1) := by decide +kernel
theorem dX7_reader_58 : decode cX7_reader 58 = .ok (.getfield 9, 3) := by decide +kernel
theorem dX7_reader_61 : decode cX7_reader 61 = .ok (.bipush 24, 2) := by decide +kernel
theorem dX7_reader_63 : decode cX7_reader 63 = .ok (.iload_n 3, 1) := by decide +kernel
theorem dX7_reader_64 : decode cX7_reader 64 = .ok (.iadd, 1) := by decide +kernel
theorem dX7_reader_65 : decode cX7_reader 65 = .ok (.iload_n 2, 1) := by decide +kernel
theorem dX7_reader_66 : decode cX7_reader 66 = .ok (.iastore, 1) := by decide +kernel
theorem dX7_reader_67 : decode cX7_reader 67 = .ok (.aload_n 0, 1) := by decide +kernel
theorem dX7_reader_68 : decode cX7_reader 68 = .ok (.getfield 9, 3) := by decide +kernel
theorem dX7_reader_71 : decode cX7_reader 71 = .ok (.iconst 1, 1) := by decide +kernel
theorem dX7_reader_72 : decode cX7_reader 72 = .ok (.iload_n 3, 1) := by decide +kernel
theorem dX7_reader_73 : decode cX7_reader 73 = .ok (.iadd, 1) := by decide +kernel
theorem dX7_reader_74 : decode cX7_reader 74 = .ok (.iconst (-1), 1) := by decide +kernel
theorem dX7_reader_75 : decode cX7_reader 75 = .ok (.iastore, 1) := by decide +kernel
theorem dX7_reader_76 : decode cX7_reader 76 = .ok (.iconst 0, 1) := by decide +kernel
theorem dX7_reader_77 : decode cX7_reader 77 = .ok (.istore 4, 2) := by decide +kernel
theorem dX7_reader_79 : decode cX7_reader 79 = .ok (.iload 4, 2) := by decide +kernel
theorem dX7_reader_81 : decode cX7_reader 81 = .ok (.iconst 4, 1) := by decide +kernel
theorem dX7_reader_82 : decode cX7_reader 82 = .ok (.if_icmp .ge 24, 3) := by decide +kernel
theorem dX7_reader_85 : decode cX7_reader 85 = .ok (.aload_n 0, 1) := by decide +kernel
theorem dX7_reader_86 : decode cX7_reader 86 = .ok (.getfield 9, 3) := by decide +kernel
theorem dX7_reader_89 : decode cX7_reader 89 = .ok (.bipush 28, 2) := by decide +kernel
theorem dX7_reader_91 : decode cX7_reader 91 = .ok (.iconst 4, 1) := by decide +kernel
theorem dX7_reader_92 : decode cX7_reader 92 = .ok (.iload_n 3, 1) := by decide +kernel
theorem dX7_reader_93 : decode cX7_reader 93 = .ok (.imul, 1) := by decide +kernel
theorem dX7_reader_94 : decode cX7_reader 94 = .ok (.iadd, 1) := by decide +kernel
theorem dX7_reader_95 : decode cX7_reader 95 = .ok (.iload 4, 2) := by decide +kernel
theorem dX7_reader_97 : decode cX7_reader 97 = .ok (.iadd, 1) := by decide +kernel
theorem dX7_reader_98 : decode cX7_reader 98 = .ok (.iconst 0, 1) := by decide +kernel
theorem dX7_reader_99 : decode cX7_reader 99 = .ok (.iastore, 1) := by decide +kernel
theorem dX7_reader_100 : decode cX7_reader 100 = .ok (.iinc 4 1, 3) := by decide +kernel
theorem dX7_reader_103 : decode cX7_reader 103 = .ok (.goto (-24), 3) := by decide +kernel
theorem dX7_reader_106 : decode cX7_reader 106 = .ok (.aload_n 0, 1) := by decide +kernel
theorem dX7_reader_107 : decode cX7_reader 107 = .ok (.getfield 9, 3) := by decide +kernel
theorem dX7_reader_110 : decode cX7_reader 110 = .ok (.bipush 12, 2) := by decide +kernel
theorem dX7_reader_112 : decode cX7_reader 112 = .ok (.dup2, 1) := by decide +kernel
theorem dX7_reader_113 : decode cX7_reader 113 = .ok (.iaload, 1) := by decide +kernel
theorem dX7_reader_114 : decode cX7_reader 114 = .ok (.iconst 1, 1) := by decide +kernel
theorem dX7_reader_115 : decode cX7_reader 115 = .ok (.iadd, 1) := by decide +kernel
theorem dX7_reader_116 : decode cX7_reader 116 = .ok (.iastore, 1) := by decide +kernel
theorem dX7_reader_117 : decode cX7_reader 117 = .ok (.iload_n 3, 1) := by decide +kernel
theorem dX7_reader_118 : decode cX7_reader 118 = .ok (.ireturn, 1) := by decide +kernel
theorem dX7_of_0 : decode cX7_of 0 = .ok (.aload_n 0, 1) := by decide +kernel
theorem dX7_of_1 : decode cX7_of 1 = .ok (.iload_n 1, 1) := by decide +kernel
theorem dX7_of_2 : decode cX7_of 2 = .ok (.invokevirtual 165, 3) := by decide +kernel
theorem dX7_of_5 : decode cX7_of 5 = .ok (.ifCond .eq 12, 3) := by decide +kernel
theorem dX7_of_8 : decode cX7_of 8 = .ok (.iload_n 2, 1) := by decide +kernel
theorem dX7_of_9 : decode cX7_of 9 = .ok (.iconst 0, 1) := by decide +kernel
theorem dX7_of_10 : decode cX7_of 10 = .ok (.iconst 4, 1) := by decide +kernel
theorem dX7_of_11 : decode cX7_of 11 = .ok (.invokestatic 50, 3) := by decide +kernel
theorem dX7_of_14 : decode cX7_of 14 = .ok (.ifCond .ne 5, 3) := by decide +kernel
theorem dX7_of_17 : decode cX7_of 17 = .ok (.iconst (-1), 1) := by decide +kernel
theorem dX7_of_18 : decode cX7_of 18 = .ok (.ireturn, 1) := by decide +kernel
theorem dX7_of_19 : decode cX7_of 19 = .ok (.iload_n 2, 1) := by decide +kernel
theorem dX7_of_20 : decode cX7_of 20 = .ok (.tableswitch 75 0 3 #[32, 42, 52, 65], 32) := by decide +kernel
theorem dX7_of_52 : decode cX7_of 52 = .ok (.aload_n 0, 1) := by decide +kernel
theorem dX7_of_53 : decode cX7_of 53 = .ok (.getfield 9, 3) := by decide +kernel
theorem dX7_of_56 : decode cX7_of 56 = .ok (.bipush 20, 2) := by decide +kernel
theorem dX7_of_58 : decode cX7_of 58 = .ok (.iload_n 1, 1) := by decide +kernel
theorem dX7_of_59 : decode cX7_of 59 = .ok (.iadd, 1) := by decide +kernel
theorem dX7_of_60 : decode cX7_of 60 = .ok (.iaload, 1) := by decide +kernel
theorem dX7_of_61 : decode cX7_of 61 = .ok (.ireturn, 1) := by decide +kernel
theorem dX7_of_62 : decode cX7_of 62 = .ok (.aload_n 0, 1) := by decide +kernel
theorem dX7_of_63 : decode cX7_of 63 = .ok (.getfield 9, 3) := by decide +kernel
theorem dX7_of_66 : decode cX7_of 66 = .ok (.bipush 24, 2) := by decide +kernel
theorem dX7_of_68 : decode cX7_of 68 = .ok (.iload_n 1, 1) := by decide +kernel
theorem dX7_of_69 : decode cX7_of 69 = .ok (.iadd, 1) := by decide +kernel
theorem dX7_of_70 : decode cX7_of 70 = .ok (.iaload, 1) := by decide +kernel
theorem dX7_of_71 : decode cX7_of 71 = .ok (.ireturn, 1) := by decide +kernel
theorem dX7_of_72 : decode cX7_of 72 = .ok (.aload_n 0, 1) := by decide +kernel
theorem dX7_of_73 : decode cX7_of 73 = .ok (.aload_n 0, 1) := by decide +kernel
theorem dX7_of_74 : decode cX7_of 74 = .ok (.getfield 9, 3) := by decide +kernel
theorem dX7_of_77 : decode cX7_of 77 = .ok (.iconst 1, 1) := by decide +kernel
theorem dX7_of_78 : decode cX7_of 78 = .ok (.iload_n 1, 1) := by decide +kernel
theorem dX7_of_79 : decode cX7_of 79 = .ok (.iadd, 1) := by decide +kernel
theorem dX7_of_80 : decode cX7_of 80 = .ok (.iaload, 1) := by decide +kernel
theorem dX7_of_81 : decode cX7_of 81 = .ok (.invokevirtual 168, 3) := by decide +kernel
theorem dX7_of_84 : decode cX7_of 84 = .ok (.ireturn, 1) := by decide +kernel
theorem dX7_of_85 : decode cX7_of 85 = .ok (.aload_n 0, 1) := by decide +kernel
theorem dX7_of_86 : decode cX7_of 86 = .ok (.aload_n 0, 1) := by decide +kernel
theorem dX7_of_87 : decode cX7_of 87 = .ok (.iload_n 1, 1) := by decide +kernel
theorem dX7_of_88 : decode cX7_of 88 = .ok (.invokevirtual 171, 3) := by decide +kernel
theorem dX7_of_91 : decode cX7_of 91 = .ok (.invokevirtual 168, 3) := by decide +kernel
theorem dX7_of_94 : decode cX7_of 94 = .ok (.ireturn, 1) := by decide +kernel
theorem dX7_of_95 : decode cX7_of 95 = .ok (.aload_n 0, 1) := by decide +kernel
theorem dX7_of_96 : decode cX7_of 96 = .ok (.iload_n 1, 1) := by decide +kernel
theorem dX7_of_97 : decode cX7_of 97 = .ok (.invokevirtual 174, 3) := by decide +kernel
theorem dX7_of_100 : decode cX7_of 100 = .ok (.ireturn, 1) := by decide +kernel
theorem dX7_likes_0 : decode cX7_likes 0 = .ok (.aload_n 0, 1) := by decide +kernel
theorem dX7_likes_1 : decode cX7_likes 1 = .ok (.iload_n 1, 1) := by decide +kernel
theorem dX7_likes_2 : decode cX7_likes 2 = .ok (.invokevirtual 165, 3) := by decide +kernel
theorem dX7_likes_5 : decode cX7_likes 5 = .ok (.ifCond .eq 20, 3) := by decide +kernel
theorem dX7_likes_8 : decode cX7_likes 8 = .ok (.aload_n 0, 1) := by decide +kernel
theorem dX7_likes_9 : decode cX7_likes 9 = .ok (.iload_n 2, 1) := by decide +kernel
theorem dX7_likes_10 : decode cX7_likes 10 = .ok (.invokevirtual 177, 3) := by decide +kernel
theorem dX7_likes_13 : decode cX7_likes 13 = .ok (.ifCond .eq 12, 3) := by decide +kernel
theorem dX7_likes_16 : decode cX7_likes 16 = .ok (.aload_n 0, 1) := by decide +kernel
theorem dX7_likes_17 : decode cX7_likes 17 = .ok (.iload_n 1, 1) := by decide +kernel
theorem dX7_likes_18 : decode cX7_likes 18 = .ok (.iload_n 2, 1) := by decide +kernel
theorem dX7_likes_19 : decode cX7_likes 19 = .ok (.invokevirtual 162, 3) := by decide +kernel
theorem dX7_likes_22 : decode cX7_likes 22 = .ok (.goto 6, 3) := by decide +kernel
theorem dX7_likes_25 : decode cX7_likes 25 = .ok (.sipush (-10001), 3) := by decide +kernel
theorem dX7_likes_28 : decode cX7_likes 28 = .ok (.ireturn, 1) := by decide +kernel
theorem dX7_at_0 : decode cX7_at 0 = .ok (.aload_n 0, 1) := by decide +kernel
theorem dX7_at_1 : decode cX7_at 1 = .ok (.iload_n 1, 1) := by decide +kernel
theorem dX7_at_2 : decode cX7_at 2 = .ok (.invokevirtual 177, 3) := by decide +kernel
theorem dX7_at_5 : decode cX7_at 5 = .ok (.ifCond .eq 12, 3) := by decide +kernel
theorem dX7_at_8 : decode cX7_at 8 = .ok (.iload_n 2, 1) := by decide +kernel
theorem dX7_at_9 : decode cX7_at 9 = .ok (.iconst 0, 1) := by decide +kernel
theorem dX7_at_10 : decode cX7_at 10 = .ok (.iconst 1, 1) := by decide +kernel
theorem dX7_at_11 : decode cX7_at 11 = .ok (.invokestatic 50, 3) := by decide +kernel
theorem dX7_at_14 : decode cX7_at 14 = .ok (.ifCond .ne 5, 3) := by decide +kernel
theorem dX7_at_17 : decode cX7_at 17 = .ok (.iconst (-1), 1) := by decide +kernel
theorem dX7_at_18 : decode cX7_at 18 = .ok (.ireturn, 1) := by decide +kernel
theorem dX7_at_19 : decode cX7_at 19 = .ok (.iload_n 2, 1) := by decide +kernel
theorem dX7_at_20 : decode cX7_at 20 = .ok (.ifCond .ne 14, 3) := by decide +kernel
theorem dX7_at_23 : decode cX7_at 23 = .ok (.aload_n 0, 1) := by decide +kernel
theorem dX7_at_24 : decode cX7_at 24 = .ok (.getfield 9, 3) := by decide +kernel
theorem dX7_at_27 : decode cX7_at 27 = .ok (.iconst 5, 1) := by decide +kernel
theorem dX7_at_28 : decode cX7_at 28 = .ok (.iload_n 1, 1) := by decide +kernel
theorem dX7_at_29 : decode cX7_at 29 = .ok (.iadd, 1) := by decide +kernel
theorem dX7_at_30 : decode cX7_at 30 = .ok (.iaload, 1) := by decide +kernel
theorem dX7_at_31 : decode cX7_at 31 = .ok (.goto 12, 3) := by decide +kernel
theorem dX7_at_34 : decode cX7_at 34 = .ok (.aload_n 0, 1) := by decide +kernel
theorem dX7_at_35 : decode cX7_at 35 = .ok (.aload_n 0, 1) := by decide +kernel
theorem dX7_at_36 : decode cX7_at 36 = .ok (.iload_n 1, 1) := by decide +kernel
theorem dX7_at_37 : decode cX7_at 37 = .ok (.invokevirtual 143, 3) := by decide +kernel
theorem dX7_at_40 : decode cX7_at 40 = .ok (.invokevirtual 168, 3) := by decide +kernel
theorem dX7_at_43 : decode cX7_at 43 = .ok (.ireturn, 1) := by decide +kernel
theorem dX7_row_0 : decode cX7_row 0 = .ok (.aload_n 0, 1) := by decide +kernel
theorem dX7_row_1 : decode cX7_row 1 = .ok (.iload_n 1, 1) := by decide +kernel
theorem dX7_row_2 : decode cX7_row 2 = .ok (.invokevirtual 165, 3) := by decide +kernel
theorem dX7_row_5 : decode cX7_row 5 = .ok (.ifCond .eq 12, 3) := by decide +kernel
theorem dX7_row_8 : decode cX7_row 8 = .ok (.iload_n 2, 1) := by decide +kernel
theorem dX7_row_9 : decode cX7_row 9 = .ok (.iconst 0, 1) := by decide +kernel
theorem dX7_row_10 : decode cX7_row 10 = .ok (.iconst 3, 1) := by decide +kernel
theorem dX7_row_11 : decode cX7_row 11 = .ok (.invokestatic 50, 3) := by decide +kernel
theorem dX7_row_14 : decode cX7_row 14 = .ok (.ifCond .ne 5, 3) := by decide +kernel
theorem dX7_row_17 : decode cX7_row 17 = .ok (.iconst (-1), 1) := by decide +kernel
theorem dX7_row_18 : decode cX7_row 18 = .ok (.ireturn, 1) := by decide +kernel
theorem dX7_row_19 : decode cX7_row 19 = .ok (.iload_n 3, 1) := by decide +kernel
theorem dX7_row_20 : decode cX7_row 20 = .ok (.iconst 0, 1) := by decide +kernel
theorem dX7_row_21 : decode cX7_row 21 = .ok (.bipush 9, 2) := by decide +kernel
theorem dX7_row_23 : decode cX7_row 23 = .ok (.invokestatic 50, 3) := by decide +kernel
theorem dX7_row_26 : decode cX7_row 26 = .ok (.ifCond .ne 6, 3) := by decide +kernel
theorem dX7_row_29 : decode cX7_row 29 = .ok (.bipush (-2), 2) := by decide +kernel
theorem dX7_row_31 : decode cX7_row 31 = .ok (.ireturn, 1) := by decide +kernel
theorem dX7_row_32 : decode cX7_row 32 = .ok (.aload_n 0, 1) := by decide +kernel
theorem dX7_row_33 : decode cX7_row 33 = .ok (.getfield 9, 3) := by decide +kernel
theorem dX7_row_36 : decode cX7_row 36 = .ok (.bipush 20, 2) := by decide +kernel
theorem dX7_row_38 : decode cX7_row 38 = .ok (.iload_n 1, 1) := by decide +kernel
theorem dX7_row_39 : decode cX7_row 39 = .ok (.iadd, 1) := by decide +kernel
theorem dX7_row_40 : decode cX7_row 40 = .ok (.iaload, 1) := by decide +kernel
theorem dX7_row_41 : decode cX7_row 41 = .ok (.bipush 6, 2) := by decide +kernel
theorem dX7_row_43 : decode cX7_row 43 = .ok (.if_icmp .eq 6, 3) := by decide +kernel
theorem dX7_row_46 : decode cX7_row 46 = .ok (.bipush (-3), 2) := by decide +kernel
theorem dX7_row_48 : decode cX7_row 48 = .ok (.ireturn, 1) := by decide +kernel
theorem dX7_row_49 : decode cX7_row 49 = .ok (.aload_n 0, 1) := by decide +kernel
theorem dX7_row_50 : decode cX7_row 50 = .ok (.getfield 9, 3) := by decide +kernel
theorem dX7_row_53 : decode cX7_row 53 = .ok (.bipush 28, 2) := by decide +kernel
theorem dX7_row_55 : decode cX7_row 55 = .ok (.iconst 4, 1) := by decide +kernel
theorem dX7_row_56 : decode cX7_row 56 = .ok (.iload_n 1, 1) := by decide +kernel
theorem dX7_row_57 : decode cX7_row 57 = .ok (.imul, 1) := by decide +kernel
theorem dX7_row_58 : decode cX7_row 58 = .ok (.iadd, 1) := by decide +kernel
theorem dX7_row_59 : decode cX7_row 59 = .ok (.iload_n 2, 1) := by decide +kernel
theorem dX7_row_60 : decode cX7_row 60 = .ok (.iadd, 1) := by decide +kernel
theorem dX7_row_61 : decode cX7_row 61 = .ok (.iaload, 1) := by decide +kernel
theorem dX7_row_62 : decode cX7_row 62 = .ok (.istore 4, 2) := by decide +kernel
theorem dX7_row_64 : decode cX7_row 64 = .ok (.aload_n 0, 1) := by decide +kernel
theorem dX7_row_65 : decode cX7_row 65 = .ok (.getfield 9, 3) := by decide +kernel
theorem dX7_row_68 : decode cX7_row 68 = .ok (.bipush 28, 2) := by decide +kernel
theorem dX7_row_70 : decode cX7_row 70 = .ok (.iconst 4, 1) := by decide +kernel
theorem dX7_row_71 : decode cX7_row 71 = .ok (.iload_n 1, 1) := by decide +kernel
theorem dX7_row_72 : decode cX7_row 72 = .ok (.imul, 1) := by decide +kernel
theorem dX7_row_73 : decode cX7_row 73 = .ok (.iadd, 1) := by decide +kernel
theorem dX7_row_74 : decode cX7_row 74 = .ok (.iload_n 2, 1) := by decide +kernel
theorem dX7_row_75 : decode cX7_row 75 = .ok (.iadd, 1) := by decide +kernel
theorem dX7_row_76 : decode cX7_row 76 = .ok (.iload_n 3, 1) := by decide +kernel
theorem dX7_row_77 : decode cX7_row 77 = .ok (.iastore, 1) := by decide +kernel
theorem dX7_row_78 : decode cX7_row 78 = .ok (.iload 4, 2) := by decide +kernel
theorem dX7_row_80 : decode cX7_row 80 = .ok (.ireturn, 1) := by decide +kernel
theorem dX7_lend_0 : decode cX7_lend 0 = .ok (.aload_n 0, 1) := by decide +kernel
theorem dX7_lend_1 : decode cX7_lend 1 = .ok (.iload_n 1, 1) := by decide +kernel
theorem dX7_lend_2 : decode cX7_lend 2 = .ok (.invokevirtual 165, 3) := by decide +kernel
theorem dX7_lend_5 : decode cX7_lend 5 = .ok (.ifCond .eq 16, 3) := by decide +kernel
theorem dX7_lend_8 : decode cX7_lend 8 = .ok (.iload_n 2, 1) := by decide +kernel
theorem dX7_lend_9 : decode cX7_lend 9 = .ok (.iconst (-1), 1) := by decide +kernel
theorem dX7_lend_10 : decode cX7_lend 10 = .ok (.if_icmp .eq 13, 3) := by decide +kernel
theorem dX7_lend_13 : decode cX7_lend 13 = .ok (.aload_n 0, 1) := by decide +kernel
theorem dX7_lend_14 : decode cX7_lend 14 = .ok (.iload_n 2, 1) := by decide +kernel
theorem dX7_lend_15 : decode cX7_lend 15 = .ok (.invokevirtual 177, 3) := by decide +kernel
theorem dX7_lend_18 : decode cX7_lend 18 = .ok (.ifCond .ne 5, 3) := by decide +kernel
theorem dX7_lend_21 : decode cX7_lend 21 = .ok (.iconst (-1), 1) := by decide +kernel
theorem dX7_lend_22 : decode cX7_lend 22 = .ok (.ireturn, 1) := by decide +kernel
theorem dX7_lend_23 : decode cX7_lend 23 = .ok (.iload_n 2, 1) := by decide +kernel
theorem dX7_lend_24 : decode cX7_lend 24 = .ok (.iconst (-1), 1) := by decide +kernel
theorem dX7_lend_25 : decode cX7_lend 25 = .ok (.if_icmp .ne 7, 3) := by decide +kernel
theorem dX7_lend_28 : decode cX7_lend 28 = .ok (.iconst (-1), 1) := by decide +kernel
theorem dX7_lend_29 : decode cX7_lend 29 = .ok (.goto 8, 3) := by decide +kernel
theorem dX7_lend_32 : decode cX7_lend 32 = .ok (.aload_n 0, 1) := by decide +kernel
theorem dX7_lend_33 : decode cX7_lend 33 = .ok (.iload_n 2, 1) := by decide +kernel
theorem dX7_lend_34 : decode cX7_lend 34 = .ok (.invokevirtual 143, 3) := by decide +kernel
theorem dX7_lend_37 : decode cX7_lend 37 = .ok (.istore_n 3, 1) := by decide +kernel
theorem dX7_lend_38 : decode cX7_lend 38 = .ok (.iload_n 3, 1) := by decide +kernel
theorem dX7_lend_39 : decode cX7_lend 39 = .ok (.iconst (-1), 1) := by decide +kernel
theorem dX7_lend_40 : decode cX7_lend 40 = .ok (.if_icmp .eq 11, 3) := by decide +kernel
theorem dX7_lend_43 : decode cX7_lend 43 = .ok (.iload_n 3, 1) := by decide +kernel
theorem dX7_lend_44 : decode cX7_lend 44 = .ok (.iload_n 1, 1) := by decide +kernel
theorem dX7_lend_45 : decode cX7_lend 45 = .ok (.if_icmp .eq 6, 3) := by decide +kernel
theorem dX7_lend_48 : decode cX7_lend 48 = .ok (.bipush (-3), 2) := by decide +kernel
theorem dX7_lend_50 : decode cX7_lend 50 = .ok (.ireturn, 1) := by decide +kernel
theorem dX7_lend_51 : decode cX7_lend 51 = .ok (.aload_n 0, 1) := by decide +kernel
theorem dX7_lend_52 : decode cX7_lend 52 = .ok (.aload_n 0, 1) := by decide +kernel
theorem dX7_lend_53 : decode cX7_lend 53 = .ok (.getfield 9, 3) := by decide +kernel
theorem dX7_lend_56 : decode cX7_lend 56 = .ok (.iconst 1, 1) := by decide +kernel
theorem dX7_lend_57 : decode cX7_lend 57 = .ok (.iload_n 1, 1) := by decide +kernel
theorem dX7_lend_58 : decode cX7_lend 58 = .ok (.iadd, 1) := by decide +kernel
theorem dX7_lend_59 : decode cX7_lend 59 = .ok (.iaload, 1) := by decide +kernel
theorem dX7_lend_60 : decode cX7_lend 60 = .ok (.invokevirtual 168, 3) := by decide +kernel
theorem dX7_lend_63 : decode cX7_lend 63 = .ok (.istore 4, 2) := by decide +kernel
theorem dX7_lend_65 : decode cX7_lend 65 = .ok (.aload_n 0, 1) := by decide +kernel
theorem dX7_lend_66 : decode cX7_lend 66 = .ok (.getfield 9, 3) := by decide +kernel
theorem dX7_lend_69 : decode cX7_lend 69 = .ok (.iconst 1, 1) := by decide +kernel
theorem dX7_lend_70 : decode cX7_lend 70 = .ok (.iload_n 1, 1) := by decide +kernel
theorem dX7_lend_71 : decode cX7_lend 71 = .ok (.iadd, 1) := by decide +kernel
theorem dX7_lend_72 : decode cX7_lend 72 = .ok (.iload_n 2, 1) := by decide +kernel
theorem dX7_lend_73 : decode cX7_lend 73 = .ok (.iastore, 1) := by decide +kernel
theorem dX7_lend_74 : decode cX7_lend 74 = .ok (.iload 4, 2) := by decide +kernel
theorem dX7_lend_76 : decode cX7_lend 76 = .ok (.ireturn, 1) := by decide +kernel
theorem dX7_totalNow_0 : decode cX7_totalNow 0 = .ok (.iconst 0, 1) := by decide +kernel
theorem dX7_totalNow_1 : decode cX7_totalNow 1 = .ok (.istore_n 1, 1) := by decide +kernel
theorem dX7_totalNow_2 : decode cX7_totalNow 2 = .ok (.iconst 0, 1) := by decide +kernel
theorem dX7_totalNow_3 : decode cX7_totalNow 3 = .ok (.istore_n 2, 1) := by decide +kernel
theorem dX7_totalNow_4 : decode cX7_totalNow 4 = .ok (.iload_n 2, 1) := by decide +kernel
theorem dX7_totalNow_5 : decode cX7_totalNow 5 = .ok (.aload_n 0, 1) := by decide +kernel
theorem dX7_totalNow_6 : decode cX7_totalNow 6 = .ok (.getfield 9, 3) := by decide +kernel
theorem dX7_totalNow_9 : decode cX7_totalNow 9 = .ok (.bipush 12, 2) := by decide +kernel
theorem dX7_totalNow_11 : decode cX7_totalNow 11 = .ok (.iaload, 1) := by decide +kernel
theorem dX7_totalNow_12 : decode cX7_totalNow 12 = .ok (.if_icmp .ge 41, 3) := by decide +kernel
theorem dX7_totalNow_15 : decode cX7_totalNow 15 = .ok (.iload_n 1, 1) := by decide +kernel
theorem dX7_totalNow_16 : decode cX7_totalNow 16 = .ok (.aload_n 0, 1) := by decide +kernel
theorem dX7_totalNow_17 : decode cX7_totalNow 17 = .ok (.getfield 9, 3) := by decide +kernel
theorem dX7_totalNow_20 : decode cX7_totalNow 20 = .ok (.iconst 1, 1) := by decide +kernel
theorem dX7_totalNow_21 : decode cX7_totalNow 21 = .ok (.iload_n 2, 1) := by decide +kernel
theorem dX7_totalNow_22 : decode cX7_totalNow 22 = .ok (.iadd, 1) := by decide +kernel
theorem dX7_totalNow_23 : decode cX7_totalNow 23 = .ok (.iaload, 1) := by decide +kernel
theorem dX7_totalNow_24 : decode cX7_totalNow 24 = .ok (.iconst (-1), 1) := by decide +kernel
theorem dX7_totalNow_25 : decode cX7_totalNow 25 = .ok (.if_icmp .ne 7, 3) := by decide +kernel
theorem dX7_totalNow_28 : decode cX7_totalNow 28 = .ok (.iconst 0, 1) := by decide +kernel
theorem dX7_totalNow_29 : decode cX7_totalNow 29 = .ok (.goto 16, 3) := by decide +kernel
theorem dX7_totalNow_32 : decode cX7_totalNow 32 = .ok (.aload_n 0, 1) := by decide +kernel
theorem dX7_totalNow_33 : decode cX7_totalNow 33 = .ok (.iload_n 2, 1) := by decide +kernel
theorem dX7_totalNow_34 : decode cX7_totalNow 34 = .ok (.aload_n 0, 1) := by decide +kernel
theorem dX7_totalNow_35 : decode cX7_totalNow 35 = .ok (.getfield 9, 3) := by decide +kernel
theorem dX7_totalNow_38 : decode cX7_totalNow 38 = .ok (.iconst 1, 1) := by decide +kernel
theorem dX7_totalNow_39 : decode cX7_totalNow 39 = .ok (.iload_n 2, 1) := by decide +kernel
theorem dX7_totalNow_40 : decode cX7_totalNow 40 = .ok (.iadd, 1) := by decide +kernel
theorem dX7_totalNow_41 : decode cX7_totalNow 41 = .ok (.iaload, 1) := by decide +kernel
theorem dX7_totalNow_42 : decode cX7_totalNow 42 = .ok (.invokevirtual 162, 3) := by decide +kernel
theorem dX7_totalNow_45 : decode cX7_totalNow 45 = .ok (.iadd, 1) := by decide +kernel
theorem dX7_totalNow_46 : decode cX7_totalNow 46 = .ok (.istore_n 1, 1) := by decide +kernel
theorem dX7_totalNow_47 : decode cX7_totalNow 47 = .ok (.iinc 2 1, 3) := by decide +kernel
theorem dX7_totalNow_50 : decode cX7_totalNow 50 = .ok (.goto (-46), 3) := by decide +kernel
theorem dX7_totalNow_53 : decode cX7_totalNow 53 = .ok (.iload_n 1, 1) := by decide +kernel
theorem dX7_totalNow_54 : decode cX7_totalNow 54 = .ok (.ireturn, 1) := by decide +kernel
theorem dX7_shelf_0 : decode cX7_shelf 0 = .ok (.iconst 0, 1) := by decide +kernel
theorem dX7_shelf_1 : decode cX7_shelf 1 = .ok (.istore_n 1, 1) := by decide +kernel
theorem dX7_shelf_2 : decode cX7_shelf 2 = .ok (.iconst 0, 1) := by decide +kernel
theorem dX7_shelf_3 : decode cX7_shelf 3 = .ok (.istore_n 2, 1) := by decide +kernel
theorem dX7_shelf_4 : decode cX7_shelf 4 = .ok (.iload_n 2, 1) := by decide +kernel
theorem dX7_shelf_5 : decode cX7_shelf 5 = .ok (.aload_n 0, 1) := by decide +kernel
theorem dX7_shelf_6 : decode cX7_shelf 6 = .ok (.getfield 9, 3) := by decide +kernel
theorem dX7_shelf_9 : decode cX7_shelf 9 = .ok (.bipush 13, 2) := by decide +kernel
theorem dX7_shelf_11 : decode cX7_shelf 11 = .ok (.iaload, 1) := by decide +kernel
theorem dX7_shelf_12 : decode cX7_shelf 12 = .ok (.if_icmp .ge 27, 3) := by decide +kernel
theorem dX7_shelf_15 : decode cX7_shelf 15 = .ok (.iload_n 1, 1) := by decide +kernel
theorem dX7_shelf_16 : decode cX7_shelf 16 = .ok (.aload_n 0, 1) := by decide +kernel
theorem dX7_shelf_17 : decode cX7_shelf 17 = .ok (.iload_n 2, 1) := by decide +kernel
theorem dX7_shelf_18 : decode cX7_shelf 18 = .ok (.invokevirtual 147, 3) := by decide +kernel
theorem dX7_shelf_21 : decode cX7_shelf 21 = .ok (.ifCond .eq 9, 3) := by decide +kernel
theorem dX7_shelf_24 : decode cX7_shelf 24 = .ok (.iconst 1, 1) := by decide +kernel
theorem dX7_shelf_25 : decode cX7_shelf 25 = .ok (.iload_n 2, 1) := by decide +kernel
theorem dX7_shelf_26 : decode cX7_shelf 26 = .ok (.ishl, 1) := by decide +kernel
theorem dX7_shelf_27 : decode cX7_shelf 27 = .ok (.goto 4, 3) := by decide +kernel
theorem dX7_shelf_30 : decode cX7_shelf 30 = .ok (.iconst 0, 1) := by decide +kernel
theorem dX7_shelf_31 : decode cX7_shelf 31 = .ok (.ior, 1) := by decide +kernel
theorem dX7_shelf_32 : decode cX7_shelf 32 = .ok (.istore_n 1, 1) := by decide +kernel
theorem dX7_shelf_33 : decode cX7_shelf 33 = .ok (.iinc 2 1, 3) := by decide +kernel
theorem dX7_shelf_36 : decode cX7_shelf 36 = .ok (.goto (-32), 3) := by decide +kernel
theorem dX7_shelf_39 : decode cX7_shelf 39 = .ok (.iload_n 1, 1) := by decide +kernel
theorem dX7_shelf_40 : decode cX7_shelf 40 = .ok (.ireturn, 1) := by decide +kernel
theorem dX7_told_0 : decode cX7_told 0 = .ok (.iload_n 1, 1) := by decide +kernel
theorem dX7_told_1 : decode cX7_told 1 = .ok (.tableswitch 62 0 4 #[35, 42, 47, 52, 57], 35) := by decide +kernel
theorem dX7_told_36 : decode cX7_told 36 = .ok (.aload_n 0, 1) := by decide +kernel
theorem dX7_told_37 : decode cX7_told 37 = .ok (.getfield 9, 3) := by decide +kernel
theorem dX7_told_40 : decode cX7_told 40 = .ok (.iconst 0, 1) := by decide +kernel
theorem dX7_told_41 : decode cX7_told 41 = .ok (.iaload, 1) := by decide +kernel
theorem dX7_told_42 : decode cX7_told 42 = .ok (.ireturn, 1) := by decide +kernel
theorem dX7_told_43 : decode cX7_told 43 = .ok (.aload_n 0, 1) := by decide +kernel
theorem dX7_told_44 : decode cX7_told 44 = .ok (.invokevirtual 151, 3) := by decide +kernel
theorem dX7_told_47 : decode cX7_told 47 = .ok (.ireturn, 1) := by decide +kernel
theorem dX7_told_48 : decode cX7_told 48 = .ok (.aload_n 0, 1) := by decide +kernel
theorem dX7_told_49 : decode cX7_told 49 = .ok (.invokevirtual 180, 3) := by decide +kernel
theorem dX7_told_52 : decode cX7_told 52 = .ok (.ireturn, 1) := by decide +kernel
theorem dX7_told_53 : decode cX7_told 53 = .ok (.aload_n 0, 1) := by decide +kernel
theorem dX7_told_54 : decode cX7_told 54 = .ok (.invokevirtual 183, 3) := by decide +kernel
theorem dX7_told_57 : decode cX7_told 57 = .ok (.ireturn, 1) := by decide +kernel
theorem dX7_told_58 : decode cX7_told 58 = .ok (.aload_n 0, 1) := by decide +kernel
theorem dX7_told_59 : decode cX7_told 59 = .ok (.invokevirtual 186, 3) := by decide +kernel
theorem dX7_told_62 : decode cX7_told 62 = .ok (.ireturn, 1) := by decide +kernel
theorem dX7_told_63 : decode cX7_told 63 = .ok (.iconst (-1), 1) := by decide +kernel
theorem dX7_told_64 : decode cX7_told 64 = .ok (.ireturn, 1) := by decide +kernel
theorem dX7_comes_0 : decode cX7_comes 0 = .ok (.aload_n 0, 1) := by decide +kernel
theorem dX7_comes_1 : decode cX7_comes 1 = .ok (.iload_n 1, 1) := by decide +kernel
theorem dX7_comes_2 : decode cX7_comes 2 = .ok (.invokevirtual 171, 3) := by decide +kernel
theorem dX7_comes_5 : decode cX7_comes 5 = .ok (.istore_n 2, 1) := by decide +kernel
theorem dX7_comes_6 : decode cX7_comes 6 = .ok (.aload_n 0, 1) := by decide +kernel
theorem dX7_comes_7 : decode cX7_comes 7 = .ok (.getfield 9, 3) := by decide +kernel
theorem dX7_comes_10 : decode cX7_comes 10 = .ok (.iconst 1, 1) := by decide +kernel
theorem dX7_comes_11 : decode cX7_comes 11 = .ok (.iload_n 1, 1) := by decide +kernel
theorem dX7_comes_12 : decode cX7_comes 12 = .ok (.iadd, 1) := by decide +kernel
theorem dX7_comes_13 : decode cX7_comes 13 = .ok (.iload_n 2, 1) := by decide +kernel
theorem dX7_comes_14 : decode cX7_comes 14 = .ok (.iconst (-1), 1) := by decide +kernel
theorem dX7_comes_15 : decode cX7_comes 15 = .ok (.if_icmp .ne 14, 3) := by decide +kernel
theorem dX7_comes_18 : decode cX7_comes 18 = .ok (.aload_n 0, 1) := by decide +kernel
theorem dX7_comes_19 : decode cX7_comes 19 = .ok (.getfield 9, 3) := by decide +kernel
theorem dX7_comes_22 : decode cX7_comes 22 = .ok (.iconst 1, 1) := by decide +kernel
theorem dX7_comes_23 : decode cX7_comes 23 = .ok (.iload_n 1, 1) := by decide +kernel
theorem dX7_comes_24 : decode cX7_comes 24 = .ok (.iadd, 1) := by decide +kernel
theorem dX7_comes_25 : decode cX7_comes 25 = .ok (.iaload, 1) := by decide +kernel
theorem dX7_comes_26 : decode cX7_comes 26 = .ok (.goto 4, 3) := by decide +kernel
theorem dX7_comes_29 : decode cX7_comes 29 = .ok (.iload_n 2, 1) := by decide +kernel
theorem dX7_comes_30 : decode cX7_comes 30 = .ok (.iastore, 1) := by decide +kernel
theorem dX7_comes_31 : decode cX7_comes 31 = .ok (.iload_n 2, 1) := by decide +kernel
theorem dX7_comes_32 : decode cX7_comes 32 = .ok (.iconst (-1), 1) := by decide +kernel
theorem dX7_comes_33 : decode cX7_comes 33 = .ok (.if_icmp .eq 7, 3) := by decide +kernel
theorem dX7_comes_36 : decode cX7_comes 36 = .ok (.iconst 1, 1) := by decide +kernel
theorem dX7_comes_37 : decode cX7_comes 37 = .ok (.goto 4, 3) := by decide +kernel
theorem dX7_comes_40 : decode cX7_comes 40 = .ok (.iconst 0, 1) := by decide +kernel
theorem dX7_comes_41 : decode cX7_comes 41 = .ok (.ireturn, 1) := by decide +kernel
theorem dX7_goes_0 : decode cX7_goes 0 = .ok (.iconst 0, 1) := by decide +kernel
theorem dX7_goes_1 : decode cX7_goes 1 = .ok (.istore_n 1, 1) := by decide +kernel
theorem dX7_goes_2 : decode cX7_goes 2 = .ok (.iconst 0, 1) := by decide +kernel
theorem dX7_goes_3 : decode cX7_goes 3 = .ok (.istore_n 2, 1) := by decide +kernel
theorem dX7_goes_4 : decode cX7_goes 4 = .ok (.iload_n 2, 1) := by decide +kernel
theorem dX7_goes_5 : decode cX7_goes 5 = .ok (.aload_n 0, 1) := by decide +kernel
theorem dX7_goes_6 : decode cX7_goes 6 = .ok (.getfield 9, 3) := by decide +kernel
theorem dX7_goes_9 : decode cX7_goes 9 = .ok (.bipush 12, 2) := by decide +kernel
theorem dX7_goes_11 : decode cX7_goes 11 = .ok (.iaload, 1) := by decide +kernel
theorem dX7_goes_12 : decode cX7_goes 12 = .ok (.if_icmp .ge 25, 3) := by decide +kernel
theorem dX7_goes_15 : decode cX7_goes 15 = .ok (.iload_n 1, 1) := by decide +kernel
theorem dX7_goes_16 : decode cX7_goes 16 = .ok (.aload_n 0, 1) := by decide +kernel
theorem dX7_goes_17 : decode cX7_goes 17 = .ok (.iload_n 2, 1) := by decide +kernel
theorem dX7_goes_18 : decode cX7_goes 18 = .ok (.invokevirtual 189, 3) := by decide +kernel
theorem dX7_goes_21 : decode cX7_goes 21 = .ok (.ifCond .eq 7, 3) := by decide +kernel
theorem dX7_goes_24 : decode cX7_goes 24 = .ok (.iconst 1, 1) := by decide +kernel
theorem dX7_goes_25 : decode cX7_goes 25 = .ok (.goto 4, 3) := by decide +kernel
theorem dX7_goes_28 : decode cX7_goes 28 = .ok (.iconst 0, 1) := by decide +kernel
theorem dX7_goes_29 : decode cX7_goes 29 = .ok (.iadd, 1) := by decide +kernel
theorem dX7_goes_30 : decode cX7_goes 30 = .ok (.istore_n 1, 1) := by decide +kernel
theorem dX7_goes_31 : decode cX7_goes 31 = .ok (.iinc 2 1, 3) := by decide +kernel
theorem dX7_goes_34 : decode cX7_goes 34 = .ok (.goto (-30), 3) := by decide +kernel
theorem dX7_goes_37 : decode cX7_goes 37 = .ok (.aload_n 0, 1) := by decide +kernel
theorem dX7_goes_38 : decode cX7_goes 38 = .ok (.getfield 9, 3) := by decide +kernel
theorem dX7_goes_41 : decode cX7_goes 41 = .ok (.iconst 0, 1) := by decide +kernel
theorem dX7_goes_42 : decode cX7_goes 42 = .ok (.dup2, 1) := by decide +kernel
theorem dX7_goes_43 : decode cX7_goes 43 = .ok (.iaload, 1) := by decide +kernel
theorem dX7_goes_44 : decode cX7_goes 44 = .ok (.iconst 1, 1) := by decide +kernel
theorem dX7_goes_45 : decode cX7_goes 45 = .ok (.iadd, 1) := by decide +kernel
theorem dX7_goes_46 : decode cX7_goes 46 = .ok (.iastore, 1) := by decide +kernel
theorem dX7_goes_47 : decode cX7_goes 47 = .ok (.iload_n 1, 1) := by decide +kernel
theorem dX7_goes_48 : decode cX7_goes 48 = .ok (.ireturn, 1) := by decide +kernel
theorem dX7_pastes_0 : decode cX7_pastes 0 = .ok (.aload_n 0, 1) := by decide +kernel
theorem dX7_pastes_1 : decode cX7_pastes 1 = .ok (.getfield 9, 3) := by decide +kernel
theorem dX7_pastes_4 : decode cX7_pastes 4 = .ok (.iconst 1, 1) := by decide +kernel
theorem dX7_pastes_5 : decode cX7_pastes 5 = .ok (.iload_n 1, 1) := by decide +kernel
theorem dX7_pastes_6 : decode cX7_pastes 6 = .ok (.iadd, 1) := by decide +kernel
theorem dX7_pastes_7 : decode cX7_pastes 7 = .ok (.iaload, 1) := by decide +kernel
theorem dX7_pastes_8 : decode cX7_pastes 8 = .ok (.istore_n 3, 1) := by decide +kernel
theorem dX7_pastes_9 : decode cX7_pastes 9 = .ok (.iload_n 3, 1) := by decide +kernel
theorem dX7_pastes_10 : decode cX7_pastes 10 = .ok (.iconst (-1), 1) := by decide +kernel
theorem dX7_pastes_11 : decode cX7_pastes 11 = .ok (.if_icmp .eq 42, 3) := by decide +kernel
theorem dX7_pastes_14 : decode cX7_pastes 14 = .ok (.aload_n 0, 1) := by decide +kernel
theorem dX7_pastes_15 : decode cX7_pastes 15 = .ok (.getfield 9, 3) := by decide +kernel
theorem dX7_pastes_18 : decode cX7_pastes 18 = .ok (.iconst 5, 1) := by decide +kernel
theorem dX7_pastes_19 : decode cX7_pastes 19 = .ok (.iload_n 3, 1) := by decide +kernel
theorem dX7_pastes_20 : decode cX7_pastes 20 = .ok (.iadd, 1) := by decide +kernel
theorem dX7_pastes_21 : decode cX7_pastes 21 = .ok (.aload_n 0, 1) := by decide +kernel
theorem dX7_pastes_22 : decode cX7_pastes 22 = .ok (.getfield 9, 3) := by decide +kernel
theorem dX7_pastes_25 : decode cX7_pastes 25 = .ok (.iconst 5, 1) := by decide +kernel
theorem dX7_pastes_26 : decode cX7_pastes 26 = .ok (.iload_n 3, 1) := by decide +kernel
theorem dX7_pastes_27 : decode cX7_pastes 27 = .ok (.iadd, 1) := by decide +kernel
theorem dX7_pastes_28 : decode cX7_pastes 28 = .ok (.iaload, 1) := by decide +kernel
theorem dX7_pastes_29 : decode cX7_pastes 29 = .ok (.iload_n 2, 1) := by decide +kernel
theorem dX7_pastes_30 : decode cX7_pastes 30 = .ok (.ifCond .eq 10, 3) := by decide +kernel
theorem dX7_pastes_33 : decode cX7_pastes 33 = .ok (.aload_n 0, 1) := by decide +kernel
theorem dX7_pastes_34 : decode cX7_pastes 34 = .ok (.invokevirtual 180, 3) := by decide +kernel
theorem dX7_pastes_37 : decode cX7_pastes 37 = .ok (.goto 8, 3) := by decide +kernel
theorem dX7_pastes_40 : decode cX7_pastes 40 = .ok (.aload_n 0, 1) := by decide +kernel
theorem dX7_pastes_41 : decode cX7_pastes 41 = .ok (.invokevirtual 180, 3) := by decide +kernel
theorem dX7_pastes_44 : decode cX7_pastes 44 = .ok (.ineg, 1) := by decide +kernel
theorem dX7_pastes_45 : decode cX7_pastes 45 = .ok (.iadd, 1) := by decide +kernel
theorem dX7_pastes_46 : decode cX7_pastes 46 = .ok (.iconst 1, 1) := by decide +kernel
theorem dX7_pastes_47 : decode cX7_pastes 47 = .ok (.bipush 99, 2) := by decide +kernel
theorem dX7_pastes_49 : decode cX7_pastes 49 = .ok (.invokestatic 192, 3) := by decide +kernel
theorem dX7_pastes_52 : decode cX7_pastes 52 = .ok (.iastore, 1) := by decide +kernel
theorem dX7_pastes_53 : decode cX7_pastes 53 = .ok (.return_, 1) := by decide +kernel
theorem dX7_come_0 : decode cX7_come 0 = .ok (.aload_n 0, 1) := by decide +kernel
theorem dX7_come_1 : decode cX7_come 1 = .ok (.iload_n 1, 1) := by decide +kernel
theorem dX7_come_2 : decode cX7_come 2 = .ok (.invokevirtual 165, 3) := by decide +kernel
theorem dX7_come_5 : decode cX7_come 5 = .ok (.ifCond .ne 5, 3) := by decide +kernel
theorem dX7_come_8 : decode cX7_come 8 = .ok (.iconst (-1), 1) := by decide +kernel
theorem dX7_come_9 : decode cX7_come 9 = .ok (.ireturn, 1) := by decide +kernel
theorem dX7_come_10 : decode cX7_come 10 = .ok (.aload_n 0, 1) := by decide +kernel
theorem dX7_come_11 : decode cX7_come 11 = .ok (.iload_n 1, 1) := by decide +kernel
theorem dX7_come_12 : decode cX7_come 12 = .ok (.invokevirtual 189, 3) := by decide +kernel
theorem dX7_come_15 : decode cX7_come 15 = .ok (.pop, 1) := by decide +kernel
theorem dX7_come_16 : decode cX7_come 16 = .ok (.aload_n 0, 1) := by decide +kernel
theorem dX7_come_17 : decode cX7_come 17 = .ok (.aload_n 0, 1) := by decide +kernel
theorem dX7_come_18 : decode cX7_come 18 = .ok (.getfield 9, 3) := by decide +kernel
theorem dX7_come_21 : decode cX7_come 21 = .ok (.iconst 1, 1) := by decide +kernel
theorem dX7_come_22 : decode cX7_come 22 = .ok (.iload_n 1, 1) := by decide +kernel
theorem dX7_come_23 : decode cX7_come 23 = .ok (.iadd, 1) := by decide +kernel
theorem dX7_come_24 : decode cX7_come 24 = .ok (.iaload, 1) := by decide +kernel
theorem dX7_come_25 : decode cX7_come 25 = .ok (.invokevirtual 168, 3) := by decide +kernel
theorem dX7_come_28 : decode cX7_come 28 = .ok (.ireturn, 1) := by decide +kernel
theorem dX7_paste_0 : decode cX7_paste 0 = .ok (.aload_n 0, 1) := by decide +kernel
theorem dX7_paste_1 : decode cX7_paste 1 = .ok (.iload_n 1, 1) := by decide +kernel
theorem dX7_paste_2 : decode cX7_paste 2 = .ok (.invokevirtual 165, 3) := by decide +kernel
theorem dX7_paste_5 : decode cX7_paste 5 = .ok (.ifCond .ne 5, 3) := by decide +kernel
theorem dX7_paste_8 : decode cX7_paste 8 = .ok (.iconst (-1), 1) := by decide +kernel
theorem dX7_paste_9 : decode cX7_paste 9 = .ok (.ireturn, 1) := by decide +kernel
theorem dX7_paste_10 : decode cX7_paste 10 = .ok (.aload_n 0, 1) := by decide +kernel
theorem dX7_paste_11 : decode cX7_paste 11 = .ok (.getfield 9, 3) := by decide +kernel
theorem dX7_paste_14 : decode cX7_paste 14 = .ok (.iconst 1, 1) := by decide +kernel
theorem dX7_paste_15 : decode cX7_paste 15 = .ok (.iload_n 1, 1) := by decide +kernel
theorem dX7_paste_16 : decode cX7_paste 16 = .ok (.iadd, 1) := by decide +kernel
theorem dX7_paste_17 : decode cX7_paste 17 = .ok (.iaload, 1) := by decide +kernel
theorem dX7_paste_18 : decode cX7_paste 18 = .ok (.iconst (-1), 1) := by decide +kernel
theorem dX7_paste_19 : decode cX7_paste 19 = .ok (.if_icmp .ne 6, 3) := by decide +kernel
theorem dX7_paste_22 : decode cX7_paste 22 = .ok (.bipush (-3), 2) := by decide +kernel
theorem dX7_paste_24 : decode cX7_paste 24 = .ok (.ireturn, 1) := by decide +kernel
theorem dX7_paste_25 : decode cX7_paste 25 = .ok (.aload_n 0, 1) := by decide +kernel
theorem dX7_paste_26 : decode cX7_paste 26 = .ok (.iload_n 1, 1) := by decide +kernel
theorem dX7_paste_27 : decode cX7_paste 27 = .ok (.iload_n 2, 1) := by decide +kernel
theorem dX7_paste_28 : decode cX7_paste 28 = .ok (.invokevirtual 195, 3) := by decide +kernel
theorem dX7_paste_31 : decode cX7_paste 31 = .ok (.aload_n 0, 1) := by decide +kernel
theorem dX7_paste_32 : decode cX7_paste 32 = .ok (.getfield 9, 3) := by decide +kernel
theorem dX7_paste_35 : decode cX7_paste 35 = .ok (.iconst 5, 1) := by decide +kernel
theorem dX7_paste_36 : decode cX7_paste 36 = .ok (.aload_n 0, 1) := by decide +kernel
theorem dX7_paste_37 : decode cX7_paste 37 = .ok (.getfield 9, 3) := by decide +kernel
theorem dX7_paste_40 : decode cX7_paste 40 = .ok (.iconst 1, 1) := by decide +kernel
theorem dX7_paste_41 : decode cX7_paste 41 = .ok (.iload_n 1, 1) := by decide +kernel
theorem dX7_paste_42 : decode cX7_paste 42 = .ok (.iadd, 1) := by decide +kernel
theorem dX7_paste_43 : decode cX7_paste 43 = .ok (.iaload, 1) := by decide +kernel
theorem dX7_paste_44 : decode cX7_paste 44 = .ok (.iadd, 1) := by decide +kernel
theorem dX7_paste_45 : decode cX7_paste 45 = .ok (.iaload, 1) := by decide +kernel
theorem dX7_paste_46 : decode cX7_paste 46 = .ok (.ireturn, 1) := by decide +kernel
theorem dX7_pass_0 : decode cX7_pass 0 = .ok (.iload_n 1, 1) := by decide +kernel
theorem dX7_pass_1 : decode cX7_pass 1 = .ok (.iconst 0, 1) := by decide +kernel
theorem dX7_pass_2 : decode cX7_pass 2 = .ok (.bipush 40, 2) := by decide +kernel
theorem dX7_pass_4 : decode cX7_pass 4 = .ok (.invokestatic 50, 3) := by decide +kernel
theorem dX7_pass_7 : decode cX7_pass 7 = .ok (.ifCond .ne 6, 3) := by decide +kernel
theorem dX7_pass_10 : decode cX7_pass 10 = .ok (.bipush (-2), 2) := by decide +kernel
theorem dX7_pass_12 : decode cX7_pass 12 = .ok (.ireturn, 1) := by decide +kernel
theorem dX7_pass_13 : decode cX7_pass 13 = .ok (.aload_n 0, 1) := by decide +kernel
theorem dX7_pass_14 : decode cX7_pass 14 = .ok (.getfield 9, 3) := by decide +kernel
theorem dX7_pass_17 : decode cX7_pass 17 = .ok (.iconst 0, 1) := by decide +kernel
theorem dX7_pass_18 : decode cX7_pass 18 = .ok (.iaload, 1) := by decide +kernel
theorem dX7_pass_19 : decode cX7_pass 19 = .ok (.iload_n 1, 1) := by decide +kernel
theorem dX7_pass_20 : decode cX7_pass 20 = .ok (.iadd, 1) := by decide +kernel
theorem dX7_pass_21 : decode cX7_pass 21 = .ok (.sipush 9999, 3) := by decide +kernel
theorem dX7_pass_24 : decode cX7_pass 24 = .ok (.if_icmp .le 6, 3) := by decide +kernel
theorem dX7_pass_27 : decode cX7_pass 27 = .ok (.bipush (-3), 2) := by decide +kernel
theorem dX7_pass_29 : decode cX7_pass 29 = .ok (.ireturn, 1) := by decide +kernel
theorem dX7_pass_30 : decode cX7_pass 30 = .ok (.iconst 0, 1) := by decide +kernel
theorem dX7_pass_31 : decode cX7_pass 31 = .ok (.istore_n 2, 1) := by decide +kernel
theorem dX7_pass_32 : decode cX7_pass 32 = .ok (.iload_n 2, 1) := by decide +kernel
theorem dX7_pass_33 : decode cX7_pass 33 = .ok (.iload_n 1, 1) := by decide +kernel
theorem dX7_pass_34 : decode cX7_pass 34 = .ok (.if_icmp .ge 14, 3) := by decide +kernel
theorem dX7_pass_37 : decode cX7_pass 37 = .ok (.aload_n 0, 1) := by decide +kernel
theorem dX7_pass_38 : decode cX7_pass 38 = .ok (.invokevirtual 199, 3) := by decide +kernel
theorem dX7_pass_41 : decode cX7_pass 41 = .ok (.pop, 1) := by decide +kernel
theorem dX7_pass_42 : decode cX7_pass 42 = .ok (.iinc 2 1, 3) := by decide +kernel
theorem dX7_pass_45 : decode cX7_pass 45 = .ok (.goto (-13), 3) := by decide +kernel
theorem dX7_pass_48 : decode cX7_pass 48 = .ok (.aload_n 0, 1) := by decide +kernel
theorem dX7_pass_49 : decode cX7_pass 49 = .ok (.getfield 9, 3) := by decide +kernel
theorem dX7_pass_52 : decode cX7_pass 52 = .ok (.iconst 0, 1) := by decide +kernel
theorem dX7_pass_53 : decode cX7_pass 53 = .ok (.iaload, 1) := by decide +kernel
theorem dX7_pass_54 : decode cX7_pass 54 = .ok (.ireturn, 1) := by decide +kernel
theorem dX7_on_0 : decode cX7_on 0 = .ok (.iload_n 2, 1) := by decide +kernel
theorem dX7_on_1 : decode cX7_on 1 = .ok (.iconst 0, 1) := by decide +kernel
theorem dX7_on_2 : decode cX7_on 2 = .ok (.iconst 1, 1) := by decide +kernel
theorem dX7_on_3 : decode cX7_on 3 = .ok (.invokestatic 50, 3) := by decide +kernel
theorem dX7_on_6 : decode cX7_on 6 = .ok (.ifCond .ne 18, 3) := by decide +kernel
theorem dX7_on_9 : decode cX7_on 9 = .ok (.aload_n 0, 1) := by decide +kernel
theorem dX7_on_10 : decode cX7_on 10 = .ok (.iload_n 2, 1) := by decide +kernel
theorem dX7_on_11 : decode cX7_on 11 = .ok (.bipush 10, 2) := by decide +kernel
theorem dX7_on_13 : decode cX7_on 13 = .ok (.isub, 1) := by decide +kernel
theorem dX7_on_14 : decode cX7_on 14 = .ok (.invokevirtual 165, 3) := by decide +kernel
theorem dX7_on_17 : decode cX7_on 17 = .ok (.ifCond .ne 7, 3) := by decide +kernel
theorem dX7_on_20 : decode cX7_on 20 = .ok (.sipush (-10001), 3) := by decide +kernel
theorem dX7_on_23 : decode cX7_on 23 = .ok (.ireturn, 1) := by decide +kernel
theorem dX7_on_24 : decode cX7_on 24 = .ok (.iload_n 1, 1) := by decide +kernel
theorem dX7_on_25 : decode cX7_on 25 = .ok (.iconst 0, 1) := by decide +kernel
theorem dX7_on_26 : decode cX7_on 26 = .ok (.bipush 40, 2) := by decide +kernel
theorem dX7_on_28 : decode cX7_on 28 = .ok (.invokestatic 50, 3) := by decide +kernel
theorem dX7_on_31 : decode cX7_on 31 = .ok (.ifCond .ne 7, 3) := by decide +kernel
theorem dX7_on_34 : decode cX7_on 34 = .ok (.sipush (-10002), 3) := by decide +kernel
theorem dX7_on_37 : decode cX7_on 37 = .ok (.ireturn, 1) := by decide +kernel
theorem dX7_on_38 : decode cX7_on 38 = .ok (.aload_n 0, 1) := by decide +kernel
theorem dX7_on_39 : decode cX7_on 39 = .ok (.invokevirtual 202, 3) := by decide +kernel
theorem dX7_on_42 : decode cX7_on 42 = .ok (.iconst 0, 1) := by decide +kernel
theorem dX7_on_43 : decode cX7_on 43 = .ok (.istore_n 3, 1) := by decide +kernel
theorem dX7_on_44 : decode cX7_on 44 = .ok (.iconst 0, 1) := by decide +kernel
theorem dX7_on_45 : decode cX7_on 45 = .ok (.istore 4, 2) := by decide +kernel
theorem dX7_on_47 : decode cX7_on 47 = .ok (.iload 4, 2) := by decide +kernel
theorem dX7_on_49 : decode cX7_on 49 = .ok (.iload_n 1, 1) := by decide +kernel
theorem dX7_on_50 : decode cX7_on 50 = .ok (.if_icmp .ge 16, 3) := by decide +kernel
theorem dX7_on_53 : decode cX7_on 53 = .ok (.iload_n 3, 1) := by decide +kernel
theorem dX7_on_54 : decode cX7_on 54 = .ok (.aload_n 0, 1) := by decide +kernel
theorem dX7_on_55 : decode cX7_on 55 = .ok (.invokevirtual 199, 3) := by decide +kernel
theorem dX7_on_58 : decode cX7_on 58 = .ok (.iadd, 1) := by decide +kernel
theorem dX7_on_59 : decode cX7_on 59 = .ok (.istore_n 3, 1) := by decide +kernel
theorem dX7_on_60 : decode cX7_on 60 = .ok (.iinc 4 1, 3) := by decide +kernel
theorem dX7_on_63 : decode cX7_on 63 = .ok (.goto (-16), 3) := by decide +kernel
theorem dX7_on_66 : decode cX7_on 66 = .ok (.iload_n 2, 1) := by decide +kernel
theorem dX7_on_67 : decode cX7_on 67 = .ok (.ifCond .ne 7, 3) := by decide +kernel
theorem dX7_on_70 : decode cX7_on 70 = .ok (.iload_n 3, 1) := by decide +kernel
theorem dX7_on_71 : decode cX7_on 71 = .ok (.goto 30, 3) := by decide +kernel
theorem dX7_on_74 : decode cX7_on 74 = .ok (.iload_n 2, 1) := by decide +kernel
theorem dX7_on_75 : decode cX7_on 75 = .ok (.iconst 1, 1) := by decide +kernel
theorem dX7_on_76 : decode cX7_on 76 = .ok (.if_icmp .ne 10, 3) := by decide +kernel
theorem dX7_on_79 : decode cX7_on 79 = .ok (.aload_n 0, 1) := by decide +kernel
theorem dX7_on_80 : decode cX7_on 80 = .ok (.invokevirtual 183, 3) := by decide +kernel
theorem dX7_on_83 : decode cX7_on 83 = .ok (.goto 18, 3) := by decide +kernel
theorem dX7_on_86 : decode cX7_on 86 = .ok (.aload_n 0, 1) := by decide +kernel
theorem dX7_on_87 : decode cX7_on 87 = .ok (.aload_n 0, 1) := by decide +kernel
theorem dX7_on_88 : decode cX7_on 88 = .ok (.getfield 9, 3) := by decide +kernel
theorem dX7_on_91 : decode cX7_on 91 = .ok (.iconst 1, 1) := by decide +kernel
theorem dX7_on_92 : decode cX7_on 92 = .ok (.iload_n 2, 1) := by decide +kernel
theorem dX7_on_93 : decode cX7_on 93 = .ok (.iadd, 1) := by decide +kernel
theorem dX7_on_94 : decode cX7_on 94 = .ok (.bipush 10, 2) := by decide +kernel
theorem dX7_on_96 : decode cX7_on 96 = .ok (.isub, 1) := by decide +kernel
theorem dX7_on_97 : decode cX7_on 97 = .ok (.iaload, 1) := by decide +kernel
theorem dX7_on_98 : decode cX7_on 98 = .ok (.invokevirtual 168, 3) := by decide +kernel
theorem dX7_on_101 : decode cX7_on 101 = .ok (.istore 4, 2) := by decide +kernel
theorem dX7_on_103 : decode cX7_on 103 = .ok (.aload_n 0, 1) := by decide +kernel
theorem dX7_on_104 : decode cX7_on 104 = .ok (.invokevirtual 205, 3) := by decide +kernel
theorem dX7_on_107 : decode cX7_on 107 = .ok (.iload 4, 2) := by decide +kernel
theorem dX7_on_109 : decode cX7_on 109 = .ok (.ireturn, 1) := by decide +kernel
theorem dX7_isOver_0 : decode cX7_isOver 0 = .ok (.iconst 1, 1) := by decide +kernel
theorem dX7_isOver_1 : decode cX7_isOver 1 = .ok (.istore_n 2, 1) := by decide +kernel
theorem dX7_isOver_2 : decode cX7_isOver 2 = .ok (.iconst 0, 1) := by decide +kernel
theorem dX7_isOver_3 : decode cX7_isOver 3 = .ok (.istore_n 3, 1) := by decide +kernel
theorem dX7_isOver_4 : decode cX7_isOver 4 = .ok (.iload_n 3, 1) := by decide +kernel
theorem dX7_isOver_5 : decode cX7_isOver 5 = .ok (.aload_n 0, 1) := by decide +kernel
theorem dX7_isOver_6 : decode cX7_isOver 6 = .ok (.getfield 9, 3) := by decide +kernel
theorem dX7_isOver_9 : decode cX7_isOver 9 = .ok (.bipush 12, 2) := by decide +kernel
theorem dX7_isOver_11 : decode cX7_isOver 11 = .ok (.iaload, 1) := by decide +kernel
theorem dX7_isOver_12 : decode cX7_isOver 12 = .ok (.if_icmp .ge 48, 3) := by decide +kernel
theorem dX7_isOver_15 : decode cX7_isOver 15 = .ok (.iload_n 2, 1) := by decide +kernel
theorem dX7_isOver_16 : decode cX7_isOver 16 = .ok (.ifCond .eq 44, 3) := by decide +kernel
theorem dX7_isOver_19 : decode cX7_isOver 19 = .ok (.iload_n 1, 1) := by decide +kernel
theorem dX7_isOver_20 : decode cX7_isOver 20 = .ok (.ifCond .ne 20, 3) := by decide +kernel
theorem dX7_isOver_23 : decode cX7_isOver 23 = .ok (.aload_n 0, 1) := by decide +kernel
theorem dX7_isOver_24 : decode cX7_isOver 24 = .ok (.iload_n 3, 1) := by decide +kernel
theorem dX7_isOver_25 : decode cX7_isOver 25 = .ok (.invokevirtual 171, 3) := by decide +kernel
theorem dX7_isOver_28 : decode cX7_isOver 28 = .ok (.iconst (-1), 1) := by decide +kernel
theorem dX7_isOver_29 : decode cX7_isOver 29 = .ok (.if_icmp .ne 7, 3) := by decide +kernel
theorem dX7_isOver_32 : decode cX7_isOver 32 = .ok (.iconst 1, 1) := by decide +kernel
theorem dX7_isOver_33 : decode cX7_isOver 33 = .ok (.goto 20, 3) := by decide +kernel
theorem dX7_isOver_36 : decode cX7_isOver 36 = .ok (.iconst 0, 1) := by decide +kernel
theorem dX7_isOver_37 : decode cX7_isOver 37 = .ok (.goto 16, 3) := by decide +kernel
theorem dX7_isOver_40 : decode cX7_isOver 40 = .ok (.aload_n 0, 1) := by decide +kernel
theorem dX7_isOver_41 : decode cX7_isOver 41 = .ok (.iload_n 3, 1) := by decide +kernel
theorem dX7_isOver_42 : decode cX7_isOver 42 = .ok (.invokevirtual 174, 3) := by decide +kernel
theorem dX7_isOver_45 : decode cX7_isOver 45 = .ok (.ifCond .ne 7, 3) := by decide +kernel
theorem dX7_isOver_48 : decode cX7_isOver 48 = .ok (.iconst 1, 1) := by decide +kernel
theorem dX7_isOver_49 : decode cX7_isOver 49 = .ok (.goto 4, 3) := by decide +kernel
theorem dX7_isOver_52 : decode cX7_isOver 52 = .ok (.iconst 0, 1) := by decide +kernel
theorem dX7_isOver_53 : decode cX7_isOver 53 = .ok (.istore_n 2, 1) := by decide +kernel
theorem dX7_isOver_54 : decode cX7_isOver 54 = .ok (.iinc 3 1, 3) := by decide +kernel
theorem dX7_isOver_57 : decode cX7_isOver 57 = .ok (.goto (-53), 3) := by decide +kernel
theorem dX7_isOver_60 : decode cX7_isOver 60 = .ok (.iload_n 2, 1) := by decide +kernel
theorem dX7_isOver_61 : decode cX7_isOver 61 = .ok (.ireturn, 1) := by decide +kernel
theorem dX7_until_0 : decode cX7_until 0 = .ok (.iload_n 1, 1) := by decide +kernel
theorem dX7_until_1 : decode cX7_until 1 = .ok (.iconst 0, 1) := by decide +kernel
theorem dX7_until_2 : decode cX7_until 2 = .ok (.iconst 1, 1) := by decide +kernel
theorem dX7_until_3 : decode cX7_until 3 = .ok (.invokestatic 50, 3) := by decide +kernel
theorem dX7_until_6 : decode cX7_until 6 = .ok (.ifCond .ne 5, 3) := by decide +kernel
theorem dX7_until_9 : decode cX7_until 9 = .ok (.iconst (-1), 1) := by decide +kernel
theorem dX7_until_10 : decode cX7_until 10 = .ok (.ireturn, 1) := by decide +kernel
theorem dX7_until_11 : decode cX7_until 11 = .ok (.aload_n 0, 1) := by decide +kernel
theorem dX7_until_12 : decode cX7_until 12 = .ok (.invokevirtual 202, 3) := by decide +kernel
theorem dX7_until_15 : decode cX7_until 15 = .ok (.bipush (-5), 2) := by decide +kernel
theorem dX7_until_17 : decode cX7_until 17 = .ok (.istore_n 2, 1) := by decide +kernel
theorem dX7_until_18 : decode cX7_until 18 = .ok (.iconst 0, 1) := by decide +kernel
theorem dX7_until_19 : decode cX7_until 19 = .ok (.istore_n 3, 1) := by decide +kernel
theorem dX7_until_20 : decode cX7_until 20 = .ok (.iload_n 3, 1) := by decide +kernel
theorem dX7_until_21 : decode cX7_until 21 = .ok (.bipush 40, 2) := by decide +kernel
theorem dX7_until_23 : decode cX7_until 23 = .ok (.if_icmp .gt 35, 3) := by decide +kernel
theorem dX7_until_26 : decode cX7_until 26 = .ok (.iload_n 2, 1) := by decide +kernel
theorem dX7_until_27 : decode cX7_until 27 = .ok (.bipush (-5), 2) := by decide +kernel
theorem dX7_until_29 : decode cX7_until 29 = .ok (.if_icmp .ne 29, 3) := by decide +kernel
theorem dX7_until_32 : decode cX7_until 32 = .ok (.aload_n 0, 1) := by decide +kernel
theorem dX7_until_33 : decode cX7_until 33 = .ok (.iload_n 1, 1) := by decide +kernel
theorem dX7_until_34 : decode cX7_until 34 = .ok (.invokevirtual 208, 3) := by decide +kernel
theorem dX7_until_37 : decode cX7_until 37 = .ok (.ifCond .eq 7, 3) := by decide +kernel
theorem dX7_until_40 : decode cX7_until 40 = .ok (.iload_n 3, 1) := by decide +kernel
theorem dX7_until_41 : decode cX7_until 41 = .ok (.goto 5, 3) := by decide +kernel
theorem dX7_until_44 : decode cX7_until 44 = .ok (.bipush (-5), 2) := by decide +kernel
theorem dX7_until_46 : decode cX7_until 46 = .ok (.istore_n 2, 1) := by decide +kernel
theorem dX7_until_47 : decode cX7_until 47 = .ok (.aload_n 0, 1) := by decide +kernel
theorem dX7_until_48 : decode cX7_until 48 = .ok (.invokevirtual 199, 3) := by decide +kernel
theorem dX7_until_51 : decode cX7_until 51 = .ok (.pop, 1) := by decide +kernel
theorem dX7_until_52 : decode cX7_until 52 = .ok (.iinc 3 1, 3) := by decide +kernel
theorem dX7_until_55 : decode cX7_until 55 = .ok (.goto (-35), 3) := by decide +kernel
theorem dX7_until_58 : decode cX7_until 58 = .ok (.aload_n 0, 1) := by decide +kernel
theorem dX7_until_59 : decode cX7_until 59 = .ok (.invokevirtual 205, 3) := by decide +kernel
theorem dX7_until_62 : decode cX7_until 62 = .ok (.iload_n 2, 1) := by decide +kernel
theorem dX7_until_63 : decode cX7_until 63 = .ok (.ireturn, 1) := by decide +kernel
theorem dX7_looksForPlains_0 : decode cX7_looksForPlains 0 = .ok (.iconst 0, 1) := by decide +kernel
theorem dX7_looksForPlains_1 : decode cX7_looksForPlains 1 = .ok (.istore_n 1, 1) := by decide +kernel
theorem dX7_looksForPlains_2 : decode cX7_looksForPlains 2 = .ok (.iload_n 1, 1) := by decide +kernel
theorem dX7_looksForPlains_3 : decode cX7_looksForPlains 3 = .ok (.aload_n 0, 1) := by decide +kernel
theorem dX7_looksForPlains_4 : decode cX7_looksForPlains 4 = .ok (.getfield 9, 3) := by decide +kernel
theorem dX7_looksForPlains_7 : decode cX7_looksForPlains 7 = .ok (.bipush 12, 2) := by decide +kernel
theorem dX7_looksForPlains_9 : decode cX7_looksForPlains 9 = .ok (.iaload, 1) := by decide +kernel
theorem dX7_looksForPlains_10 : decode cX7_looksForPlains 10 = .ok (.if_icmp .ge 45, 3) := by decide +kernel
theorem dX7_looksForPlains_13 : decode cX7_looksForPlains 13 = .ok (.iconst 0, 1) := by decide +kernel
theorem dX7_looksForPlains_14 : decode cX7_looksForPlains 14 = .ok (.istore_n 2, 1) := by decide +kernel
theorem dX7_looksForPlains_15 : decode cX7_looksForPlains 15 = .ok (.iload_n 2, 1) := by decide +kernel
theorem dX7_looksForPlains_16 : decode cX7_looksForPlains 16 = .ok (.aload_n 0, 1) := by decide +kernel
theorem dX7_looksForPlains_17 : decode cX7_looksForPlains 17 = .ok (.getfield 9, 3) := by decide +kernel
theorem dX7_looksForPlains_20 : decode cX7_looksForPlains 20 = .ok (.bipush 13, 2) := by decide +kernel
theorem dX7_looksForPlains_22 : decode cX7_looksForPlains 22 = .ok (.iaload, 1) := by decide +kernel
theorem dX7_looksForPlains_23 : decode cX7_looksForPlains 23 = .ok (.if_icmp .ge 26, 3) := by decide +kernel
theorem dX7_looksForPlains_26 : decode cX7_looksForPlains 26 = .ok (.aload_n 0, 1) := by decide +kernel
theorem dX7_looksForPlains_27 : decode cX7_looksForPlains 27 = .ok (.getfield 28, 3) := by decide +kernel
theorem dX7_looksForPlains_30 : decode cX7_looksForPlains 30 = .ok (.bipush 7, 2) := by decide +kernel
theorem dX7_looksForPlains_32 : decode cX7_looksForPlains 32 = .ok (.iload_n 1, 1) := by decide +kernel
theorem dX7_looksForPlains_33 : decode cX7_looksForPlains 33 = .ok (.imul, 1) := by decide +kernel
theorem dX7_looksForPlains_34 : decode cX7_looksForPlains 34 = .ok (.iload_n 2, 1) := by decide +kernel
theorem dX7_looksForPlains_35 : decode cX7_looksForPlains 35 = .ok (.iadd, 1) := by decide +kernel
theorem dX7_looksForPlains_36 : decode cX7_looksForPlains 36 = .ok (.aload_n 0, 1) := by decide +kernel
theorem dX7_looksForPlains_37 : decode cX7_looksForPlains 37 = .ok (.iload_n 1, 1) := by decide +kernel
theorem dX7_looksForPlains_38 : decode cX7_looksForPlains 38 = .ok (.iload_n 2, 1) := by decide +kernel
theorem dX7_looksForPlains_39 : decode cX7_looksForPlains 39 = .ok (.invokevirtual 136, 3) := by decide +kernel
theorem dX7_looksForPlains_42 : decode cX7_looksForPlains 42 = .ok (.iastore, 1) := by decide +kernel
theorem dX7_looksForPlains_43 : decode cX7_looksForPlains 43 = .ok (.iinc 2 1, 3) := by decide +kernel
theorem dX7_looksForPlains_46 : decode cX7_looksForPlains 46 = .ok (.goto (-31), 3) := by decide +kernel
theorem dX7_looksForPlains_49 : decode cX7_looksForPlains 49 = .ok (.iinc 1 1, 3) := by decide +kernel
theorem dX7_looksForPlains_52 : decode cX7_looksForPlains 52 = .ok (.goto (-50), 3) := by decide +kernel
theorem dX7_looksForPlains_55 : decode cX7_looksForPlains 55 = .ok (.return_, 1) := by decide +kernel
theorem dX7_wayNow_0 : decode cX7_wayNow 0 = .ok (.iconst 0, 1) := by decide +kernel
theorem dX7_wayNow_1 : decode cX7_wayNow 1 = .ok (.istore_n 1, 1) := by decide +kernel
theorem dX7_wayNow_2 : decode cX7_wayNow 2 = .ok (.iconst 0, 1) := by decide +kernel
theorem dX7_wayNow_3 : decode cX7_wayNow 3 = .ok (.istore_n 2, 1) := by decide +kernel
theorem dX7_wayNow_4 : decode cX7_wayNow 4 = .ok (.iload_n 2, 1) := by decide +kernel
theorem dX7_wayNow_5 : decode cX7_wayNow 5 = .ok (.iconst 4, 1) := by decide +kernel
theorem dX7_wayNow_6 : decode cX7_wayNow 6 = .ok (.if_icmp .ge 51, 3) := by decide +kernel
theorem dX7_wayNow_9 : decode cX7_wayNow 9 = .ok (.bipush 8, 2) := by decide +kernel
theorem dX7_wayNow_11 : decode cX7_wayNow 11 = .ok (.iload_n 1, 1) := by decide +kernel
theorem dX7_wayNow_12 : decode cX7_wayNow 12 = .ok (.imul, 1) := by decide +kernel
theorem dX7_wayNow_13 : decode cX7_wayNow 13 = .ok (.iload_n 2, 1) := by decide +kernel
theorem dX7_wayNow_14 : decode cX7_wayNow 14 = .ok (.aload_n 0, 1) := by decide +kernel
theorem dX7_wayNow_15 : decode cX7_wayNow 15 = .ok (.getfield 9, 3) := by decide +kernel
theorem dX7_wayNow_18 : decode cX7_wayNow 18 = .ok (.bipush 12, 2) := by decide +kernel
theorem dX7_wayNow_20 : decode cX7_wayNow 20 = .ok (.iaload, 1) := by decide +kernel
theorem dX7_wayNow_21 : decode cX7_wayNow 21 = .ok (.if_icmp .ge 26, 3) := by decide +kernel
theorem dX7_wayNow_24 : decode cX7_wayNow 24 = .ok (.aload_n 0, 1) := by decide +kernel
theorem dX7_wayNow_25 : decode cX7_wayNow 25 = .ok (.getfield 9, 3) := by decide +kernel
theorem dX7_wayNow_28 : decode cX7_wayNow 28 = .ok (.iconst 1, 1) := by decide +kernel
theorem dX7_wayNow_29 : decode cX7_wayNow 29 = .ok (.iload_n 2, 1) := by decide +kernel
theorem dX7_wayNow_30 : decode cX7_wayNow 30 = .ok (.iadd, 1) := by decide +kernel
theorem dX7_wayNow_31 : decode cX7_wayNow 31 = .ok (.iaload, 1) := by decide +kernel
theorem dX7_wayNow_32 : decode cX7_wayNow 32 = .ok (.iconst (-1), 1) := by decide +kernel
theorem dX7_wayNow_33 : decode cX7_wayNow 33 = .ok (.if_icmp .eq 14, 3) := by decide +kernel
theorem dX7_wayNow_36 : decode cX7_wayNow 36 = .ok (.aload_n 0, 1) := by decide +kernel
theorem dX7_wayNow_37 : decode cX7_wayNow 37 = .ok (.getfield 9, 3) := by decide +kernel
theorem dX7_wayNow_40 : decode cX7_wayNow 40 = .ok (.iconst 1, 1) := by decide +kernel
theorem dX7_wayNow_41 : decode cX7_wayNow 41 = .ok (.iload_n 2, 1) := by decide +kernel
theorem dX7_wayNow_42 : decode cX7_wayNow 42 = .ok (.iadd, 1) := by decide +kernel
theorem dX7_wayNow_43 : decode cX7_wayNow 43 = .ok (.iaload, 1) := by decide +kernel
theorem dX7_wayNow_44 : decode cX7_wayNow 44 = .ok (.goto 5, 3) := by decide +kernel
theorem dX7_wayNow_47 : decode cX7_wayNow 47 = .ok (.bipush 7, 2) := by decide +kernel
theorem dX7_wayNow_49 : decode cX7_wayNow 49 = .ok (.iadd, 1) := by decide +kernel
theorem dX7_wayNow_50 : decode cX7_wayNow 50 = .ok (.istore_n 1, 1) := by decide +kernel
theorem dX7_wayNow_51 : decode cX7_wayNow 51 = .ok (.iinc 2 1, 3) := by decide +kernel
theorem dX7_wayNow_54 : decode cX7_wayNow 54 = .ok (.goto (-50), 3) := by decide +kernel
theorem dX7_wayNow_57 : decode cX7_wayNow 57 = .ok (.iload_n 1, 1) := by decide +kernel
theorem dX7_wayNow_58 : decode cX7_wayNow 58 = .ok (.ireturn, 1) := by decide +kernel
theorem dX7_hasIn_0 : decode cX7_hasIn 0 = .ok (.iload_n 0, 1) := by decide +kernel
theorem dX7_hasIn_1 : decode cX7_hasIn 1 = .ok (.iconst 3, 1) := by decide +kernel
theorem dX7_hasIn_2 : decode cX7_hasIn 2 = .ok (.iconst 3, 1) := by decide +kernel
theorem dX7_hasIn_3 : decode cX7_hasIn 3 = .ok (.iload_n 1, 1) := by decide +kernel
theorem dX7_hasIn_4 : decode cX7_hasIn 4 = .ok (.isub, 1) := by decide +kernel
theorem dX7_hasIn_5 : decode cX7_hasIn 5 = .ok (.imul, 1) := by decide +kernel
theorem dX7_hasIn_6 : decode cX7_hasIn 6 = .ok (.ishr, 1) := by decide +kernel
theorem dX7_hasIn_7 : decode cX7_hasIn 7 = .ok (.bipush 7, 2) := by decide +kernel
theorem dX7_hasIn_9 : decode cX7_hasIn 9 = .ok (.iand, 1) := by decide +kernel
theorem dX7_hasIn_10 : decode cX7_hasIn 10 = .ok (.istore_n 2, 1) := by decide +kernel
theorem dX7_hasIn_11 : decode cX7_hasIn 11 = .ok (.iload_n 2, 1) := by decide +kernel
theorem dX7_hasIn_12 : decode cX7_hasIn 12 = .ok (.bipush 7, 2) := by decide +kernel
theorem dX7_hasIn_14 : decode cX7_hasIn 14 = .ok (.if_icmp .ne 7, 3) := by decide +kernel
theorem dX7_hasIn_17 : decode cX7_hasIn 17 = .ok (.iconst (-1), 1) := by decide +kernel
theorem dX7_hasIn_18 : decode cX7_hasIn 18 = .ok (.goto 4, 3) := by decide +kernel
theorem dX7_hasIn_21 : decode cX7_hasIn 21 = .ok (.iload_n 2, 1) := by decide +kernel
theorem dX7_hasIn_22 : decode cX7_hasIn 22 = .ok (.ireturn, 1) := by decide +kernel
theorem dX7_goesTo_0 : decode cX7_goesTo 0 = .ok (.iconst 0, 1) := by decide +kernel
