theorem dX6_init_0 : decode cX6_init 0 = .ok (.aload_n 0, 1) := by decide +kernel
theorem dX6_init_1 : decode cX6_init 1 = .ok (.invokespecial 3, 3) := by decide +kernel
theorem dX6_init_4 : decode cX6_init 4 = .ok (.aload_n 0, 1) := by decide +kernel
theorem dX6_init_5 : decode cX6_init 5 = .ok (.new 9, 3) := by decide +kernel
theorem dX6_init_8 : decode cX6_init 8 = .ok (.dup, 1) := by decide +kernel
theorem dX6_init_9 : decode cX6_init 9 = .ok (.invokespecial 11, 3) := by decide +kernel
theorem dX6_init_12 : decode cX6_init 12 = .ok (.putfield 12, 3) := by decide +kernel
theorem dX6_init_15 : decode cX6_init 15 = .ok (.aload_n 0, 1) := by decide +kernel
theorem dX6_init_16 : decode cX6_init 16 = .ok (.new 9, 3) := by decide +kernel
theorem dX6_init_19 : decode cX6_init 19 = .ok (.dup, 1) := by decide +kernel
theorem dX6_init_20 : decode cX6_init 20 = .ok (.invokespecial 11, 3) := by decide +kernel
theorem dX6_init_23 : decode cX6_init 23 = .ok (.putfield 18, 3) := by decide +kernel
theorem dX6_init_26 : decode cX6_init 26 = .ok (.aload_n 0, 1) := by decide +kernel
theorem dX6_init_27 : decode cX6_init 27 = .ok (.new 9, 3) := by decide +kernel
theorem dX6_init_30 : decode cX6_init 30 = .ok (.dup, 1) := by decide +kernel
theorem dX6_init_31 : decode cX6_init 31 = .ok (.invokespecial 11, 3) := by decide +kernel
theorem dX6_init_34 : decode cX6_init 34 = .ok (.putfield 21, 3) := by decide +kernel
theorem dX6_init_37 : decode cX6_init 37 = .ok (.aload_n 0, 1) := by decide +kernel
theorem dX6_init_38 : decode cX6_init 38 = .ok (.new 24, 3) := by decide +kernel
theorem dX6_init_41 : decode cX6_init 41 = .ok (.dup, 1) := by decide +kernel
theorem dX6_init_42 : decode cX6_init 42 = .ok (.invokespecial 26, 3) := by decide +kernel
theorem dX6_init_45 : decode cX6_init 45 = .ok (.putfield 27, 3) := by decide +kernel
theorem dX6_init_48 : decode cX6_init 48 = .ok (.aload_n 0, 1) := by decide +kernel
theorem dX6_init_49 : decode cX6_init 49 = .ok (.new 24, 3) := by decide +kernel
theorem dX6_init_52 : decode cX6_init 52 = .ok (.dup, 1) := by decide +kernel
theorem dX6_init_53 : decode cX6_init 53 = .ok (.invokespecial 26, 3) := by decide +kernel
theorem dX6_init_56 : decode cX6_init 56 = .ok (.putfield 31, 3) := by decide +kernel
theorem dX6_init_59 : decode cX6_init 59 = .ok (.aload_n 0, 1) := by decide +kernel
theorem dX6_init_60 : decode cX6_init 60 = .ok (.new 34, 3) := by decide +kernel
theorem dX6_init_63 : decode cX6_init 63 = .ok (.dup, 1) := by decide +kernel
theorem dX6_init_64 : decode cX6_init 64 = .ok (.invokespecial 36, 3) := by decide +kernel
theorem dX6_init_67 : decode cX6_init 67 = .ok (.putfield 37, 3) := by decide +kernel
theorem dX6_init_70 : decode cX6_init 70 = .ok (.aload_n 0, 1) := by decide +kernel
theorem dX6_init_71 : decode cX6_init 71 = .ok (.new 41, 3) := by decide +kernel
theorem dX6_init_74 : decode cX6_init 74 = .ok (.dup, 1) := by decide +kernel
theorem dX6_init_75 : decode cX6_init 75 = .ok (.invokespecial 43, 3) := by decide +kernel
theorem dX6_init_78 : decode cX6_init 78 = .ok (.putfield 44, 3) := by decide +kernel
theorem dX6_init_81 : decode cX6_init 81 = .ok (.aload_n 0, 1) := by decide +kernel
theorem dX6_init_82 : decode cX6_init 82 = .ok (.iconst 0, 1) := by decide +kernel
theorem dX6_init_83 : decode cX6_init 83 = .ok (.putfield 48, 3) := by decide +kernel
theorem dX6_init_86 : decode cX6_init 86 = .ok (.return_, 1) := by decide +kernel
theorem dX6_feed_0 : decode cX6_feed 0 = .ok (.iload_n 1, 1) := by decide +kernel
theorem dX6_feed_1 : decode cX6_feed 1 = .ok (.ifCond .lt 9, 3) := by decide +kernel
theorem dX6_feed_4 : decode cX6_feed 4 = .ok (.iload_n 1, 1) := by decide +kernel
theorem dX6_feed_5 : decode cX6_feed 5 = .ok (.bipush 127, 2) := by decide +kernel
theorem dX6_feed_7 : decode cX6_feed 7 = .ok (.if_icmp .le 6, 3) := by decide +kernel
theorem dX6_feed_10 : decode cX6_feed 10 = .ok (.bipush (-2), 2) := by decide +kernel
theorem dX6_feed_12 : decode cX6_feed 12 = .ok (.ireturn, 1) := by decide +kernel
theorem dX6_feed_13 : decode cX6_feed 13 = .ok (.aload_n 0, 1) := by decide +kernel
theorem dX6_feed_14 : decode cX6_feed 14 = .ok (.getfield 27, 3) := by decide +kernel
theorem dX6_feed_17 : decode cX6_feed 17 = .ok (.getfield 52, 3) := by decide +kernel
theorem dX6_feed_20 : decode cX6_feed 20 = .ok (.bipush 100, 2) := by decide +kernel
theorem dX6_feed_22 : decode cX6_feed 22 = .ok (.if_icmp .lt 6, 3) := by decide +kernel
theorem dX6_feed_25 : decode cX6_feed 25 = .ok (.bipush (-4), 2) := by decide +kernel
theorem dX6_feed_27 : decode cX6_feed 27 = .ok (.ireturn, 1) := by decide +kernel
theorem dX6_feed_28 : decode cX6_feed 28 = .ok (.aload_n 0, 1) := by decide +kernel
theorem dX6_feed_29 : decode cX6_feed 29 = .ok (.getfield 27, 3) := by decide +kernel
theorem dX6_feed_32 : decode cX6_feed 32 = .ok (.getfield 56, 3) := by decide +kernel
theorem dX6_feed_35 : decode cX6_feed 35 = .ok (.aload_n 0, 1) := by decide +kernel
theorem dX6_feed_36 : decode cX6_feed 36 = .ok (.getfield 27, 3) := by decide +kernel
theorem dX6_feed_39 : decode cX6_feed 39 = .ok (.getfield 52, 3) := by decide +kernel
theorem dX6_feed_42 : decode cX6_feed 42 = .ok (.iload_n 1, 1) := by decide +kernel
theorem dX6_feed_43 : decode cX6_feed 43 = .ok (.invokestatic 60, 3) := by decide +kernel
theorem dX6_feed_46 : decode cX6_feed 46 = .ok (.aload_n 0, 1) := by decide +kernel
theorem dX6_feed_47 : decode cX6_feed 47 = .ok (.getfield 27, 3) := by decide +kernel
theorem dX6_feed_50 : decode cX6_feed 50 = .ok (.dup, 1) := by decide +kernel
theorem dX6_feed_51 : decode cX6_feed 51 = .ok (.getfield 52, 3) := by decide +kernel
theorem dX6_feed_54 : decode cX6_feed 54 = .ok (.iconst 1, 1) := by decide +kernel
theorem dX6_feed_55 : decode cX6_feed 55 = .ok (.iadd, 1) := by decide +kernel
theorem dX6_feed_56 : decode cX6_feed 56 = .ok (.putfield 52, 3) := by decide +kernel
theorem dX6_feed_59 : decode cX6_feed 59 = .ok (.aload_n 0, 1) := by decide +kernel
theorem dX6_feed_60 : decode cX6_feed 60 = .ok (.getfield 27, 3) := by decide +kernel
theorem dX6_feed_63 : decode cX6_feed 63 = .ok (.getfield 52, 3) := by decide +kernel
theorem dX6_feed_66 : decode cX6_feed 66 = .ok (.ireturn, 1) := by decide +kernel
theorem dX6_town_0 : decode cX6_town 0 = .ok (.aload_n 0, 1) := by decide +kernel
theorem dX6_town_1 : decode cX6_town 1 = .ok (.getfield 12, 3) := by decide +kernel
theorem dX6_town_4 : decode cX6_town 4 = .ok (.getfield 64, 3) := by decide +kernel
theorem dX6_town_7 : decode cX6_town 7 = .ok (.iconst 5, 1) := by decide +kernel
theorem dX6_town_8 : decode cX6_town 8 = .ok (.if_icmp .lt 6, 3) := by decide +kernel
theorem dX6_town_11 : decode cX6_town 11 = .ok (.bipush (-4), 2) := by decide +kernel
theorem dX6_town_13 : decode cX6_town 13 = .ok (.ireturn, 1) := by decide +kernel
theorem dX6_town_14 : decode cX6_town 14 = .ok (.new 67, 3) := by decide +kernel
theorem dX6_town_17 : decode cX6_town 17 = .ok (.dup, 1) := by decide +kernel
theorem dX6_town_18 : decode cX6_town 18 = .ok (.invokespecial 69, 3) := by decide +kernel
theorem dX6_town_21 : decode cX6_town 21 = .ok (.astore_n 1, 1) := by decide +kernel
theorem dX6_town_22 : decode cX6_town 22 = .ok (.new 70, 3) := by decide +kernel
theorem dX6_town_25 : decode cX6_town 25 = .ok (.dup, 1) := by decide +kernel
theorem dX6_town_26 : decode cX6_town 26 = .ok (.aload_n 0, 1) := by decide +kernel
theorem dX6_town_27 : decode cX6_town 27 = .ok (.getfield 27, 3) := by decide +kernel
theorem dX6_town_30 : decode cX6_town 30 = .ok (.getfield 56, 3) := by decide +kernel
theorem dX6_town_33 : decode cX6_town 33 = .ok (.aload_n 0, 1) := by decide +kernel
theorem dX6_town_34 : decode cX6_town 34 = .ok (.getfield 27, 3) := by decide +kernel
theorem dX6_town_37 : decode cX6_town 37 = .ok (.getfield 52, 3) := by decide +kernel
theorem dX6_town_40 : decode cX6_town 40 = .ok (.aload_n 1, 1) := by decide +kernel
theorem dX6_town_41 : decode cX6_town 41 = .ok (.invokespecial 72, 3) := by decide +kernel
theorem dX6_town_44 : decode cX6_town 44 = .ok (.astore_n 2, 1) := by decide +kernel
theorem dX6_town_45 : decode cX6_town 45 = .ok (.aload_n 2, 1) := by decide +kernel
theorem dX6_town_46 : decode cX6_town 46 = .ok (.invokevirtual 75, 3) := by decide +kernel
theorem dX6_town_49 : decode cX6_town 49 = .ok (.istore_n 3, 1) := by decide +kernel
theorem dX6_town_50 : decode cX6_town 50 = .ok (.aload_n 0, 1) := by decide +kernel
theorem dX6_town_51 : decode cX6_town 51 = .ok (.getfield 27, 3) := by decide +kernel
theorem dX6_town_54 : decode cX6_town 54 = .ok (.iconst 0, 1) := by decide +kernel
theorem dX6_town_55 : decode cX6_town 55 = .ok (.putfield 52, 3) := by decide +kernel
theorem dX6_town_58 : decode cX6_town 58 = .ok (.iload_n 3, 1) := by decide +kernel
theorem dX6_town_59 : decode cX6_town 59 = .ok (.ifCond .ne 11, 3) := by decide +kernel
theorem dX6_town_62 : decode cX6_town 62 = .ok (.bipush (-10), 2) := by decide +kernel
theorem dX6_town_64 : decode cX6_town 64 = .ok (.aload_n 2, 1) := by decide +kernel
theorem dX6_town_65 : decode cX6_town 65 = .ok (.getfield 79, 3) := by decide +kernel
theorem dX6_town_68 : decode cX6_town 68 = .ok (.isub, 1) := by decide +kernel
theorem dX6_town_69 : decode cX6_town 69 = .ok (.ireturn, 1) := by decide +kernel
theorem dX6_town_70 : decode cX6_town 70 = .ok (.aload_n 0, 1) := by decide +kernel
theorem dX6_town_71 : decode cX6_town 71 = .ok (.getfield 12, 3) := by decide +kernel
theorem dX6_town_74 : decode cX6_town 74 = .ok (.aload_n 1, 1) := by decide +kernel
theorem dX6_town_75 : decode cX6_town 75 = .ok (.putfield 82, 3) := by decide +kernel
theorem dX6_town_78 : decode cX6_town 78 = .ok (.aload_n 0, 1) := by decide +kernel
theorem dX6_town_79 : decode cX6_town 79 = .ok (.getfield 12, 3) := by decide +kernel
theorem dX6_town_82 : decode cX6_town 82 = .ok (.dup, 1) := by decide +kernel
theorem dX6_town_83 : decode cX6_town 83 = .ok (.getfield 64, 3) := by decide +kernel
theorem dX6_town_86 : decode cX6_town 86 = .ok (.iconst 1, 1) := by decide +kernel
theorem dX6_town_87 : decode cX6_town 87 = .ok (.iadd, 1) := by decide +kernel
theorem dX6_town_88 : decode cX6_town 88 = .ok (.putfield 64, 3) := by decide +kernel
theorem dX6_town_91 : decode cX6_town 91 = .ok (.aload_n 0, 1) := by decide +kernel
theorem dX6_town_92 : decode cX6_town 92 = .ok (.getfield 12, 3) := by decide +kernel
theorem dX6_town_95 : decode cX6_town 95 = .ok (.getfield 64, 3) := by decide +kernel
theorem dX6_town_98 : decode cX6_town 98 = .ok (.iconst 1, 1) := by decide +kernel
theorem dX6_town_99 : decode cX6_town 99 = .ok (.isub, 1) := by decide +kernel
theorem dX6_town_100 : decode cX6_town 100 = .ok (.ireturn, 1) := by decide +kernel
theorem dX6_book_0 : decode cX6_book 0 = .ok (.iload_n 1, 1) := by decide +kernel
theorem dX6_book_1 : decode cX6_book 1 = .ok (.iconst 1, 1) := by decide +kernel
theorem dX6_book_2 : decode cX6_book 2 = .ok (.if_icmp .lt 9, 3) := by decide +kernel
theorem dX6_book_5 : decode cX6_book 5 = .ok (.iload_n 1, 1) := by decide +kernel
theorem dX6_book_6 : decode cX6_book 6 = .ok (.bipush 99, 2) := by decide +kernel
theorem dX6_book_8 : decode cX6_book 8 = .ok (.if_icmp .le 6, 3) := by decide +kernel
theorem dX6_book_11 : decode cX6_book 11 = .ok (.bipush (-2), 2) := by decide +kernel
theorem dX6_book_13 : decode cX6_book 13 = .ok (.ireturn, 1) := by decide +kernel
theorem dX6_book_14 : decode cX6_book 14 = .ok (.aload_n 0, 1) := by decide +kernel
theorem dX6_book_15 : decode cX6_book 15 = .ok (.getfield 12, 3) := by decide +kernel
theorem dX6_book_18 : decode cX6_book 18 = .ok (.getfield 86, 3) := by decide +kernel
theorem dX6_book_21 : decode cX6_book 21 = .ok (.bipush 7, 2) := by decide +kernel
theorem dX6_book_23 : decode cX6_book 23 = .ok (.if_icmp .lt 6, 3) := by decide +kernel
theorem dX6_book_26 : decode cX6_book 26 = .ok (.bipush (-4), 2) := by decide +kernel
theorem dX6_book_28 : decode cX6_book 28 = .ok (.ireturn, 1) := by decide +kernel
theorem dX6_book_29 : decode cX6_book 29 = .ok (.aload_n 0, 1) := by decide +kernel
theorem dX6_book_30 : decode cX6_book 30 = .ok (.getfield 12, 3) := by decide +kernel
theorem dX6_book_33 : decode cX6_book 33 = .ok (.getfield 89, 3) := by decide +kernel
theorem dX6_book_36 : decode cX6_book 36 = .ok (.aload_n 0, 1) := by decide +kernel
theorem dX6_book_37 : decode cX6_book 37 = .ok (.getfield 12, 3) := by decide +kernel
theorem dX6_book_40 : decode cX6_book 40 = .ok (.getfield 86, 3) := by decide +kernel
theorem dX6_book_43 : decode cX6_book 43 = .ok (.iload_n 1, 1) := by decide +kernel
theorem dX6_book_44 : decode cX6_book 44 = .ok (.invokestatic 60, 3) := by decide +kernel
theorem dX6_book_47 : decode cX6_book 47 = .ok (.aload_n 0, 1) := by decide +kernel
theorem dX6_book_48 : decode cX6_book 48 = .ok (.getfield 12, 3) := by decide +kernel
theorem dX6_book_51 : decode cX6_book 51 = .ok (.dup, 1) := by decide +kernel
theorem dX6_book_52 : decode cX6_book 52 = .ok (.getfield 86, 3) := by decide +kernel
theorem dX6_book_55 : decode cX6_book 55 = .ok (.iconst 1, 1) := by decide +kernel
theorem dX6_book_56 : decode cX6_book 56 = .ok (.iadd, 1) := by decide +kernel
theorem dX6_book_57 : decode cX6_book 57 = .ok (.putfield 86, 3) := by decide +kernel
theorem dX6_book_60 : decode cX6_book 60 = .ok (.aload_n 0, 1) := by decide +kernel
theorem dX6_book_61 : decode cX6_book 61 = .ok (.getfield 12, 3) := by decide +kernel
theorem dX6_book_64 : decode cX6_book 64 = .ok (.getfield 86, 3) := by decide +kernel
theorem dX6_book_67 : decode cX6_book 67 = .ok (.iconst 1, 1) := by decide +kernel
theorem dX6_book_68 : decode cX6_book 68 = .ok (.isub, 1) := by decide +kernel
theorem dX6_book_69 : decode cX6_book 69 = .ok (.ireturn, 1) := by decide +kernel
theorem dX6_reader_0 : decode cX6_reader 0 = .ok (.iload_n 1, 1) := by decide +kernel
theorem dX6_reader_1 : decode cX6_reader 1 = .ok (.ifCond .lt 9, 3) := by decide +kernel
theorem dX6_reader_4 : decode cX6_reader 4 = .ok (.iload_n 1, 1) := by decide +kernel
theorem dX6_reader_5 : decode cX6_reader 5 = .ok (.bipush 7, 2) := by decide +kernel
theorem dX6_reader_7 : decode cX6_reader 7 = .ok (.if_icmp .lt 5, 3) := by decide +kernel
theorem dX6_reader_10 : decode cX6_reader 10 = .ok (.iconst (-1), 1) := by decide +kernel
theorem dX6_reader_11 : decode cX6_reader 11 = .ok (.ireturn, 1) := by decide +kernel
theorem dX6_reader_12 : decode cX6_reader 12 = .ok (.iload_n 2, 1) := by decide +kernel
theorem dX6_reader_13 : decode cX6_reader 13 = .ok (.ifCond .lt 9, 3) := by decide +kernel
theorem dX6_reader_16 : decode cX6_reader 16 = .ok (.iload_n 2, 1) := by decide +kernel
theorem dX6_reader_17 : decode cX6_reader 17 = .ok (.bipush 9, 2) := by decide +kernel
theorem dX6_reader_19 : decode cX6_reader 19 = .ok (.if_icmp .le 6, 3) := by decide +kernel
theorem dX6_reader_22 : decode cX6_reader 22 = .ok (.bipush (-2), 2) := by decide +kernel
theorem dX6_reader_24 : decode cX6_reader 24 = .ok (.ireturn, 1) := by decide +kernel
theorem dX6_reader_25 : decode cX6_reader 25 = .ok (.aload_n 0, 1) := by decide +kernel
theorem dX6_reader_26 : decode cX6_reader 26 = .ok (.getfield 12, 3) := by decide +kernel
theorem dX6_reader_29 : decode cX6_reader 29 = .ok (.getfield 92, 3) := by decide +kernel
theorem dX6_reader_32 : decode cX6_reader 32 = .ok (.iconst 4, 1) := by decide +kernel
theorem dX6_reader_33 : decode cX6_reader 33 = .ok (.if_icmp .lt 6, 3) := by decide +kernel
theorem dX6_reader_36 : decode cX6_reader 36 = .ok (.bipush (-4), 2) := by decide +kernel
theorem dX6_reader_38 : decode cX6_reader 38 = .ok (.ireturn, 1) := by decide +kernel
theorem dX6_reader_39 : decode cX6_reader 39 = .ok (.aload_n 0, 1) := by decide +kernel
theorem dX6_reader_40 : decode cX6_reader 40 = .ok (.getfield 12, 3) := by decide +kernel
theorem dX6_reader_43 : decode cX6_reader 43 = .ok (.iload_n 1, 1) := by decide +kernel
theorem dX6_reader_44 : decode cX6_reader 44 = .ok (.iload_n 2, 1) := by decide +kernel
theorem dX6_reader_45 : decode cX6_reader 45 = .ok (.invokevirtual 95, 3) := by decide +kernel
theorem dX6_reader_48 : decode cX6_reader 48 = .ok (.aload_n 0, 1) := by decide +kernel
theorem dX6_reader_49 : decode cX6_reader 49 = .ok (.getfield 12, 3) := by decide +kernel
theorem dX6_reader_52 : decode cX6_reader 52 = .ok (.getfield 92, 3) := by decide +kernel
theorem dX6_reader_55 : decode cX6_reader 55 = .ok (.iconst 1, 1) := by decide +kernel
theorem dX6_reader_56 : decode cX6_reader 56 = .ok (.isub, 1) := by decide +kernel
theorem dX6_reader_57 : decode cX6_reader 57 = .ok (.ireturn, 1) := by decide +kernel
theorem dX6_of_0 : decode cX6_of 0 = .ok (.aload_n 0, 1) := by decide +kernel
theorem dX6_of_1 : decode cX6_of 1 = .ok (.getfield 12, 3) := by decide +kernel
theorem dX6_of_4 : decode cX6_of 4 = .ok (.iload_n 1, 1) := by decide +kernel
theorem dX6_of_5 : decode cX6_of 5 = .ok (.invokevirtual 99, 3) := by decide +kernel
theorem dX6_of_8 : decode cX6_of 8 = .ok (.ifCond .ne 5, 3) := by decide +kernel
theorem dX6_of_11 : decode cX6_of 11 = .ok (.iconst (-1), 1) := by decide +kernel
theorem dX6_of_12 : decode cX6_of 12 = .ok (.ireturn, 1) := by decide +kernel
theorem dX6_of_13 : decode cX6_of 13 = .ok (.iload_n 2, 1) := by decide +kernel
theorem dX6_of_14 : decode cX6_of 14 = .ok (.tableswitch 92 0 4 #[34, 46, 58, 70, 83], 34) := by decide +kernel
theorem dX6_of_48 : decode cX6_of 48 = .ok (.aload_n 0, 1) := by decide +kernel
theorem dX6_of_49 : decode cX6_of 49 = .ok (.getfield 12, 3) := by decide +kernel
theorem dX6_of_52 : decode cX6_of 52 = .ok (.getfield 103, 3) := by decide +kernel
theorem dX6_of_55 : decode cX6_of 55 = .ok (.iload_n 1, 1) := by decide +kernel
theorem dX6_of_56 : decode cX6_of 56 = .ok (.invokestatic 106, 3) := by decide +kernel
theorem dX6_of_59 : decode cX6_of 59 = .ok (.ireturn, 1) := by decide +kernel
theorem dX6_of_60 : decode cX6_of 60 = .ok (.aload_n 0, 1) := by decide +kernel
theorem dX6_of_61 : decode cX6_of 61 = .ok (.getfield 12, 3) := by decide +kernel
theorem dX6_of_64 : decode cX6_of 64 = .ok (.getfield 110, 3) := by decide +kernel
theorem dX6_of_67 : decode cX6_of 67 = .ok (.iload_n 1, 1) := by decide +kernel
theorem dX6_of_68 : decode cX6_of 68 = .ok (.invokestatic 106, 3) := by decide +kernel
theorem dX6_of_71 : decode cX6_of 71 = .ok (.ireturn, 1) := by decide +kernel
theorem dX6_of_72 : decode cX6_of 72 = .ok (.aload_n 0, 1) := by decide +kernel
theorem dX6_of_73 : decode cX6_of 73 = .ok (.getfield 12, 3) := by decide +kernel
theorem dX6_of_76 : decode cX6_of 76 = .ok (.getfield 113, 3) := by decide +kernel
theorem dX6_of_79 : decode cX6_of 79 = .ok (.iload_n 1, 1) := by decide +kernel
theorem dX6_of_80 : decode cX6_of 80 = .ok (.invokestatic 106, 3) := by decide +kernel
theorem dX6_of_83 : decode cX6_of 83 = .ok (.ireturn, 1) := by decide +kernel
theorem dX6_of_84 : decode cX6_of 84 = .ok (.aload_n 0, 1) := by decide +kernel
theorem dX6_of_85 : decode cX6_of 85 = .ok (.invokevirtual 116, 3) := by decide +kernel
theorem dX6_of_88 : decode cX6_of 88 = .ok (.aload_n 0, 1) := by decide +kernel
theorem dX6_of_89 : decode cX6_of 89 = .ok (.getfield 18, 3) := by decide +kernel
theorem dX6_of_92 : decode cX6_of 92 = .ok (.iload_n 1, 1) := by decide +kernel
theorem dX6_of_93 : decode cX6_of 93 = .ok (.invokevirtual 119, 3) := by decide +kernel
theorem dX6_of_96 : decode cX6_of 96 = .ok (.ireturn, 1) := by decide +kernel
theorem dX6_of_97 : decode cX6_of 97 = .ok (.aload_n 0, 1) := by decide +kernel
theorem dX6_of_98 : decode cX6_of 98 = .ok (.getfield 12, 3) := by decide +kernel
theorem dX6_of_101 : decode cX6_of 101 = .ok (.iload_n 1, 1) := by decide +kernel
theorem dX6_of_102 : decode cX6_of 102 = .ok (.invokevirtual 123, 3) := by decide +kernel
theorem dX6_of_105 : decode cX6_of 105 = .ok (.ireturn, 1) := by decide +kernel
theorem dX6_of_106 : decode cX6_of 106 = .ok (.iconst (-1), 1) := by decide +kernel
theorem dX6_of_107 : decode cX6_of 107 = .ok (.ireturn, 1) := by decide +kernel
theorem dX6_likes_0 : decode cX6_likes 0 = .ok (.aload_n 0, 1) := by decide +kernel
theorem dX6_likes_1 : decode cX6_likes 1 = .ok (.getfield 12, 3) := by decide +kernel
theorem dX6_likes_4 : decode cX6_likes 4 = .ok (.iload_n 1, 1) := by decide +kernel
theorem dX6_likes_5 : decode cX6_likes 5 = .ok (.invokevirtual 99, 3) := by decide +kernel
theorem dX6_likes_8 : decode cX6_likes 8 = .ok (.ifCond .eq 14, 3) := by decide +kernel
theorem dX6_likes_11 : decode cX6_likes 11 = .ok (.aload_n 0, 1) := by decide +kernel
theorem dX6_likes_12 : decode cX6_likes 12 = .ok (.getfield 12, 3) := by decide +kernel
theorem dX6_likes_15 : decode cX6_likes 15 = .ok (.iload_n 2, 1) := by decide +kernel
theorem dX6_likes_16 : decode cX6_likes 16 = .ok (.invokevirtual 126, 3) := by decide +kernel
theorem dX6_likes_19 : decode cX6_likes 19 = .ok (.ifCond .ne 7, 3) := by decide +kernel
theorem dX6_likes_22 : decode cX6_likes 22 = .ok (.sipush (-10001), 3) := by decide +kernel
theorem dX6_likes_25 : decode cX6_likes 25 = .ok (.ireturn, 1) := by decide +kernel
theorem dX6_likes_26 : decode cX6_likes 26 = .ok (.aload_n 0, 1) := by decide +kernel
theorem dX6_likes_27 : decode cX6_likes 27 = .ok (.invokevirtual 116, 3) := by decide +kernel
theorem dX6_likes_30 : decode cX6_likes 30 = .ok (.aload_n 0, 1) := by decide +kernel
theorem dX6_likes_31 : decode cX6_likes 31 = .ok (.getfield 18, 3) := by decide +kernel
theorem dX6_likes_34 : decode cX6_likes 34 = .ok (.iload_n 1, 1) := by decide +kernel
theorem dX6_likes_35 : decode cX6_likes 35 = .ok (.iload_n 2, 1) := by decide +kernel
theorem dX6_likes_36 : decode cX6_likes 36 = .ok (.invokevirtual 129, 3) := by decide +kernel
theorem dX6_likes_39 : decode cX6_likes 39 = .ok (.ireturn, 1) := by decide +kernel
theorem dX6_at_0 : decode cX6_at 0 = .ok (.aload_n 0, 1) := by decide +kernel
theorem dX6_at_1 : decode cX6_at 1 = .ok (.getfield 12, 3) := by decide +kernel
theorem dX6_at_4 : decode cX6_at 4 = .ok (.iload_n 1, 1) := by decide +kernel
theorem dX6_at_5 : decode cX6_at 5 = .ok (.invokevirtual 126, 3) := by decide +kernel
theorem dX6_at_8 : decode cX6_at 8 = .ok (.ifCond .eq 12, 3) := by decide +kernel
theorem dX6_at_11 : decode cX6_at 11 = .ok (.iload_n 2, 1) := by decide +kernel
theorem dX6_at_12 : decode cX6_at 12 = .ok (.ifCond .lt 8, 3) := by decide +kernel
theorem dX6_at_15 : decode cX6_at 15 = .ok (.iload_n 2, 1) := by decide +kernel
theorem dX6_at_16 : decode cX6_at 16 = .ok (.iconst 1, 1) := by decide +kernel
theorem dX6_at_17 : decode cX6_at 17 = .ok (.if_icmp .le 5, 3) := by decide +kernel
theorem dX6_at_20 : decode cX6_at 20 = .ok (.iconst (-1), 1) := by decide +kernel
theorem dX6_at_21 : decode cX6_at 21 = .ok (.ireturn, 1) := by decide +kernel
theorem dX6_at_22 : decode cX6_at 22 = .ok (.iload_n 2, 1) := by decide +kernel
theorem dX6_at_23 : decode cX6_at 23 = .ok (.ifCond .ne 17, 3) := by decide +kernel
theorem dX6_at_26 : decode cX6_at 26 = .ok (.aload_n 0, 1) := by decide +kernel
theorem dX6_at_27 : decode cX6_at 27 = .ok (.getfield 12, 3) := by decide +kernel
theorem dX6_at_30 : decode cX6_at 30 = .ok (.getfield 89, 3) := by decide +kernel
theorem dX6_at_33 : decode cX6_at 33 = .ok (.iload_n 1, 1) := by decide +kernel
theorem dX6_at_34 : decode cX6_at 34 = .ok (.invokestatic 106, 3) := by decide +kernel
theorem dX6_at_37 : decode cX6_at 37 = .ok (.goto 11, 3) := by decide +kernel
theorem dX6_at_40 : decode cX6_at 40 = .ok (.aload_n 0, 1) := by decide +kernel
theorem dX6_at_41 : decode cX6_at 41 = .ok (.getfield 12, 3) := by decide +kernel
theorem dX6_at_44 : decode cX6_at 44 = .ok (.iload_n 1, 1) := by decide +kernel
theorem dX6_at_45 : decode cX6_at 45 = .ok (.invokevirtual 133, 3) := by decide +kernel
theorem dX6_at_48 : decode cX6_at 48 = .ok (.ireturn, 1) := by decide +kernel
theorem dX6_row_0 : decode cX6_row 0 = .ok (.aload_n 0, 1) := by decide +kernel
theorem dX6_row_1 : decode cX6_row 1 = .ok (.getfield 12, 3) := by decide +kernel
theorem dX6_row_4 : decode cX6_row 4 = .ok (.iload_n 1, 1) := by decide +kernel
theorem dX6_row_5 : decode cX6_row 5 = .ok (.invokevirtual 99, 3) := by decide +kernel
theorem dX6_row_8 : decode cX6_row 8 = .ok (.ifCond .eq 12, 3) := by decide +kernel
theorem dX6_row_11 : decode cX6_row 11 = .ok (.iload_n 2, 1) := by decide +kernel
theorem dX6_row_12 : decode cX6_row 12 = .ok (.ifCond .lt 8, 3) := by decide +kernel
theorem dX6_row_15 : decode cX6_row 15 = .ok (.iload_n 2, 1) := by decide +kernel
theorem dX6_row_16 : decode cX6_row 16 = .ok (.iconst 4, 1) := by decide +kernel
theorem dX6_row_17 : decode cX6_row 17 = .ok (.if_icmp .lt 5, 3) := by decide +kernel
theorem dX6_row_20 : decode cX6_row 20 = .ok (.iconst (-1), 1) := by decide +kernel
theorem dX6_row_21 : decode cX6_row 21 = .ok (.ireturn, 1) := by decide +kernel
theorem dX6_row_22 : decode cX6_row 22 = .ok (.iload_n 3, 1) := by decide +kernel
theorem dX6_row_23 : decode cX6_row 23 = .ok (.ifCond .lt 9, 3) := by decide +kernel
theorem dX6_row_26 : decode cX6_row 26 = .ok (.iload_n 3, 1) := by decide +kernel
theorem dX6_row_27 : decode cX6_row 27 = .ok (.bipush 9, 2) := by decide +kernel
theorem dX6_row_29 : decode cX6_row 29 = .ok (.if_icmp .le 6, 3) := by decide +kernel
theorem dX6_row_32 : decode cX6_row 32 = .ok (.bipush (-2), 2) := by decide +kernel
theorem dX6_row_34 : decode cX6_row 34 = .ok (.ireturn, 1) := by decide +kernel
theorem dX6_row_35 : decode cX6_row 35 = .ok (.aload_n 0, 1) := by decide +kernel
theorem dX6_row_36 : decode cX6_row 36 = .ok (.getfield 12, 3) := by decide +kernel
theorem dX6_row_39 : decode cX6_row 39 = .ok (.getfield 103, 3) := by decide +kernel
theorem dX6_row_42 : decode cX6_row 42 = .ok (.iload_n 1, 1) := by decide +kernel
theorem dX6_row_43 : decode cX6_row 43 = .ok (.invokestatic 106, 3) := by decide +kernel
theorem dX6_row_46 : decode cX6_row 46 = .ok (.bipush 6, 2) := by decide +kernel
theorem dX6_row_48 : decode cX6_row 48 = .ok (.if_icmp .eq 6, 3) := by decide +kernel
theorem dX6_row_51 : decode cX6_row 51 = .ok (.bipush (-3), 2) := by decide +kernel
theorem dX6_row_53 : decode cX6_row 53 = .ok (.ireturn, 1) := by decide +kernel
theorem dX6_row_54 : decode cX6_row 54 = .ok (.aload_n 0, 1) := by decide +kernel
theorem dX6_row_55 : decode cX6_row 55 = .ok (.getfield 12, 3) := by decide +kernel
theorem dX6_row_58 : decode cX6_row 58 = .ok (.getfield 136, 3) := by decide +kernel
theorem dX6_row_61 : decode cX6_row 61 = .ok (.iload_n 1, 1) := by decide +kernel
theorem dX6_row_62 : decode cX6_row 62 = .ok (.iconst 4, 1) := by decide +kernel
theorem dX6_row_63 : decode cX6_row 63 = .ok (.imul, 1) := by decide +kernel
theorem dX6_row_64 : decode cX6_row 64 = .ok (.iload_n 2, 1) := by decide +kernel
theorem dX6_row_65 : decode cX6_row 65 = .ok (.iadd, 1) := by decide +kernel
theorem dX6_row_66 : decode cX6_row 66 = .ok (.invokestatic 106, 3) := by decide +kernel
theorem dX6_row_69 : decode cX6_row 69 = .ok (.istore 4, 2) := by decide +kernel
theorem dX6_row_71 : decode cX6_row 71 = .ok (.aload_n 0, 1) := by decide +kernel
theorem dX6_row_72 : decode cX6_row 72 = .ok (.getfield 12, 3) := by decide +kernel
theorem dX6_row_75 : decode cX6_row 75 = .ok (.getfield 136, 3) := by decide +kernel
theorem dX6_row_78 : decode cX6_row 78 = .ok (.iload_n 1, 1) := by decide +kernel
theorem dX6_row_79 : decode cX6_row 79 = .ok (.iconst 4, 1) := by decide +kernel
theorem dX6_row_80 : decode cX6_row 80 = .ok (.imul, 1) := by decide +kernel
theorem dX6_row_81 : decode cX6_row 81 = .ok (.iload_n 2, 1) := by decide +kernel
theorem dX6_row_82 : decode cX6_row 82 = .ok (.iadd, 1) := by decide +kernel
theorem dX6_row_83 : decode cX6_row 83 = .ok (.iload_n 3, 1) := by decide +kernel
theorem dX6_row_84 : decode cX6_row 84 = .ok (.invokestatic 60, 3) := by decide +kernel
theorem dX6_row_87 : decode cX6_row 87 = .ok (.iload 4, 2) := by decide +kernel
theorem dX6_row_89 : decode cX6_row 89 = .ok (.ireturn, 1) := by decide +kernel
theorem dX6_lend_0 : decode cX6_lend 0 = .ok (.aload_n 0, 1) := by decide +kernel
theorem dX6_lend_1 : decode cX6_lend 1 = .ok (.getfield 12, 3) := by decide +kernel
theorem dX6_lend_4 : decode cX6_lend 4 = .ok (.iload_n 1, 1) := by decide +kernel
theorem dX6_lend_5 : decode cX6_lend 5 = .ok (.invokevirtual 99, 3) := by decide +kernel
theorem dX6_lend_8 : decode cX6_lend 8 = .ok (.ifCond .eq 19, 3) := by decide +kernel
theorem dX6_lend_11 : decode cX6_lend 11 = .ok (.iload_n 2, 1) := by decide +kernel
theorem dX6_lend_12 : decode cX6_lend 12 = .ok (.iconst (-1), 1) := by decide +kernel
theorem dX6_lend_13 : decode cX6_lend 13 = .ok (.if_icmp .eq 16, 3) := by decide +kernel
theorem dX6_lend_16 : decode cX6_lend 16 = .ok (.aload_n 0, 1) := by decide +kernel
theorem dX6_lend_17 : decode cX6_lend 17 = .ok (.getfield 12, 3) := by decide +kernel
theorem dX6_lend_20 : decode cX6_lend 20 = .ok (.iload_n 2, 1) := by decide +kernel
theorem dX6_lend_21 : decode cX6_lend 21 = .ok (.invokevirtual 126, 3) := by decide +kernel
theorem dX6_lend_24 : decode cX6_lend 24 = .ok (.ifCond .ne 5, 3) := by decide +kernel
theorem dX6_lend_27 : decode cX6_lend 27 = .ok (.iconst (-1), 1) := by decide +kernel
theorem dX6_lend_28 : decode cX6_lend 28 = .ok (.ireturn, 1) := by decide +kernel
theorem dX6_lend_29 : decode cX6_lend 29 = .ok (.iload_n 2, 1) := by decide +kernel
theorem dX6_lend_30 : decode cX6_lend 30 = .ok (.iconst (-1), 1) := by decide +kernel
theorem dX6_lend_31 : decode cX6_lend 31 = .ok (.if_icmp .ne 8, 3) := by decide +kernel
theorem dX6_lend_34 : decode cX6_lend 34 = .ok (.bipush (-5), 2) := by decide +kernel
theorem dX6_lend_36 : decode cX6_lend 36 = .ok (.goto 11, 3) := by decide +kernel
theorem dX6_lend_39 : decode cX6_lend 39 = .ok (.aload_n 0, 1) := by decide +kernel
theorem dX6_lend_40 : decode cX6_lend 40 = .ok (.getfield 12, 3) := by decide +kernel
theorem dX6_lend_43 : decode cX6_lend 43 = .ok (.iload_n 2, 1) := by decide +kernel
theorem dX6_lend_44 : decode cX6_lend 44 = .ok (.invokevirtual 133, 3) := by decide +kernel
theorem dX6_lend_47 : decode cX6_lend 47 = .ok (.istore_n 3, 1) := by decide +kernel
theorem dX6_lend_48 : decode cX6_lend 48 = .ok (.iload_n 3, 1) := by decide +kernel
theorem dX6_lend_49 : decode cX6_lend 49 = .ok (.bipush (-5), 2) := by decide +kernel
theorem dX6_lend_51 : decode cX6_lend 51 = .ok (.if_icmp .eq 11, 3) := by decide +kernel
theorem dX6_lend_54 : decode cX6_lend 54 = .ok (.iload_n 3, 1) := by decide +kernel
theorem dX6_lend_55 : decode cX6_lend 55 = .ok (.iload_n 1, 1) := by decide +kernel
theorem dX6_lend_56 : decode cX6_lend 56 = .ok (.if_icmp .eq 6, 3) := by decide +kernel
theorem dX6_lend_59 : decode cX6_lend 59 = .ok (.bipush (-3), 2) := by decide +kernel
theorem dX6_lend_61 : decode cX6_lend 61 = .ok (.ireturn, 1) := by decide +kernel
theorem dX6_lend_62 : decode cX6_lend 62 = .ok (.aload_n 0, 1) := by decide +kernel
theorem dX6_lend_63 : decode cX6_lend 63 = .ok (.getfield 12, 3) := by decide +kernel
theorem dX6_lend_66 : decode cX6_lend 66 = .ok (.getfield 113, 3) := by decide +kernel
theorem dX6_lend_69 : decode cX6_lend 69 = .ok (.iload_n 1, 1) := by decide +kernel
theorem dX6_lend_70 : decode cX6_lend 70 = .ok (.invokestatic 106, 3) := by decide +kernel
theorem dX6_lend_73 : decode cX6_lend 73 = .ok (.istore 4, 2) := by decide +kernel
theorem dX6_lend_75 : decode cX6_lend 75 = .ok (.aload_n 0, 1) := by decide +kernel
theorem dX6_lend_76 : decode cX6_lend 76 = .ok (.getfield 12, 3) := by decide +kernel
theorem dX6_lend_79 : decode cX6_lend 79 = .ok (.getfield 113, 3) := by decide +kernel
theorem dX6_lend_82 : decode cX6_lend 82 = .ok (.iload_n 1, 1) := by decide +kernel
theorem dX6_lend_83 : decode cX6_lend 83 = .ok (.iload_n 2, 1) := by decide +kernel
theorem dX6_lend_84 : decode cX6_lend 84 = .ok (.iconst (-1), 1) := by decide +kernel
theorem dX6_lend_85 : decode cX6_lend 85 = .ok (.if_icmp .ne 8, 3) := by decide +kernel
theorem dX6_lend_88 : decode cX6_lend 88 = .ok (.bipush (-5), 2) := by decide +kernel
theorem dX6_lend_90 : decode cX6_lend 90 = .ok (.goto 4, 3) := by decide +kernel
theorem dX6_lend_93 : decode cX6_lend 93 = .ok (.iload_n 2, 1) := by decide +kernel
theorem dX6_lend_94 : decode cX6_lend 94 = .ok (.invokestatic 60, 3) := by decide +kernel
theorem dX6_lend_97 : decode cX6_lend 97 = .ok (.iload 4, 2) := by decide +kernel
theorem dX6_lend_99 : decode cX6_lend 99 = .ok (.ireturn, 1) := by decide +kernel
theorem dX6_told_0 : decode cX6_told 0 = .ok (.iload_n 1, 1) := by decide +kernel
theorem dX6_told_1 : decode cX6_told 1 = .ok (.tableswitch 85 0 4 #[35, 43, 54, 65, 77], 35) := by decide +kernel
theorem dX6_told_36 : decode cX6_told 36 = .ok (.aload_n 0, 1) := by decide +kernel
theorem dX6_told_37 : decode cX6_told 37 = .ok (.getfield 12, 3) := by decide +kernel
theorem dX6_told_40 : decode cX6_told 40 = .ok (.getfield 139, 3) := by decide +kernel
theorem dX6_told_43 : decode cX6_told 43 = .ok (.ireturn, 1) := by decide +kernel
theorem dX6_told_44 : decode cX6_told 44 = .ok (.aload_n 0, 1) := by decide +kernel
theorem dX6_told_45 : decode cX6_told 45 = .ok (.getfield 12, 3) := by decide +kernel
theorem dX6_told_48 : decode cX6_told 48 = .ok (.getfield 82, 3) := by decide +kernel
theorem dX6_told_51 : decode cX6_told 51 = .ok (.getfield 142, 3) := by decide +kernel
theorem dX6_told_54 : decode cX6_told 54 = .ok (.ireturn, 1) := by decide +kernel
theorem dX6_told_55 : decode cX6_told 55 = .ok (.aload_n 0, 1) := by decide +kernel
theorem dX6_told_56 : decode cX6_told 56 = .ok (.getfield 12, 3) := by decide +kernel
theorem dX6_told_59 : decode cX6_told 59 = .ok (.getfield 82, 3) := by decide +kernel
theorem dX6_told_62 : decode cX6_told 62 = .ok (.getfield 145, 3) := by decide +kernel
theorem dX6_told_65 : decode cX6_told 65 = .ok (.ireturn, 1) := by decide +kernel
theorem dX6_told_66 : decode cX6_told 66 = .ok (.aload_n 0, 1) := by decide +kernel
theorem dX6_told_67 : decode cX6_told 67 = .ok (.invokevirtual 116, 3) := by decide +kernel
theorem dX6_told_70 : decode cX6_told 70 = .ok (.aload_n 0, 1) := by decide +kernel
theorem dX6_told_71 : decode cX6_told 71 = .ok (.getfield 18, 3) := by decide +kernel
theorem dX6_told_74 : decode cX6_told 74 = .ok (.invokevirtual 148, 3) := by decide +kernel
theorem dX6_told_77 : decode cX6_told 77 = .ok (.ireturn, 1) := by decide +kernel
theorem dX6_told_78 : decode cX6_told 78 = .ok (.aload_n 0, 1) := by decide +kernel
theorem dX6_told_79 : decode cX6_told 79 = .ok (.getfield 12, 3) := by decide +kernel
theorem dX6_told_82 : decode cX6_told 82 = .ok (.invokevirtual 152, 3) := by decide +kernel
theorem dX6_told_85 : decode cX6_told 85 = .ok (.ireturn, 1) := by decide +kernel
theorem dX6_told_86 : decode cX6_told 86 = .ok (.iconst (-1), 1) := by decide +kernel
theorem dX6_told_87 : decode cX6_told 87 = .ok (.ireturn, 1) := by decide +kernel
theorem dX6_come_0 : decode cX6_come 0 = .ok (.aload_n 0, 1) := by decide +kernel
theorem dX6_come_1 : decode cX6_come 1 = .ok (.getfield 12, 3) := by decide +kernel
theorem dX6_come_4 : decode cX6_come 4 = .ok (.iload_n 1, 1) := by decide +kernel
theorem dX6_come_5 : decode cX6_come 5 = .ok (.invokevirtual 99, 3) := by decide +kernel
theorem dX6_come_8 : decode cX6_come 8 = .ok (.ifCond .ne 5, 3) := by decide +kernel
theorem dX6_come_11 : decode cX6_come 11 = .ok (.iconst (-1), 1) := by decide +kernel
theorem dX6_come_12 : decode cX6_come 12 = .ok (.ireturn, 1) := by decide +kernel
theorem dX6_come_13 : decode cX6_come 13 = .ok (.aload_n 0, 1) := by decide +kernel
theorem dX6_come_14 : decode cX6_come 14 = .ok (.getfield 12, 3) := by decide +kernel
theorem dX6_come_17 : decode cX6_come 17 = .ok (.invokevirtual 155, 3) := by decide +kernel
theorem dX6_come_20 : decode cX6_come 20 = .ok (.aload_n 0, 1) := by decide +kernel
theorem dX6_come_21 : decode cX6_come 21 = .ok (.getfield 12, 3) := by decide +kernel
theorem dX6_come_24 : decode cX6_come 24 = .ok (.iload_n 1, 1) := by decide +kernel
theorem dX6_come_25 : decode cX6_come 25 = .ok (.invokevirtual 158, 3) := by decide +kernel
theorem dX6_come_28 : decode cX6_come 28 = .ok (.pop, 1) := by decide +kernel
theorem dX6_come_29 : decode cX6_come 29 = .ok (.aload_n 0, 1) := by decide +kernel
theorem dX6_come_30 : decode cX6_come 30 = .ok (.getfield 12, 3) := by decide +kernel
theorem dX6_come_33 : decode cX6_come 33 = .ok (.getfield 113, 3) := by decide +kernel
theorem dX6_come_36 : decode cX6_come 36 = .ok (.iload_n 1, 1) := by decide +kernel
theorem dX6_come_37 : decode cX6_come 37 = .ok (.invokestatic 106, 3) := by decide +kernel
theorem dX6_come_40 : decode cX6_come 40 = .ok (.ireturn, 1) := by decide +kernel
theorem dX6_paste_0 : decode cX6_paste 0 = .ok (.aload_n 0, 1) := by decide +kernel
theorem dX6_paste_1 : decode cX6_paste 1 = .ok (.getfield 12, 3) := by decide +kernel
theorem dX6_paste_4 : decode cX6_paste 4 = .ok (.iload_n 1, 1) := by decide +kernel
theorem dX6_paste_5 : decode cX6_paste 5 = .ok (.invokevirtual 99, 3) := by decide +kernel
theorem dX6_paste_8 : decode cX6_paste 8 = .ok (.ifCond .ne 5, 3) := by decide +kernel
theorem dX6_paste_11 : decode cX6_paste 11 = .ok (.iconst (-1), 1) := by decide +kernel
theorem dX6_paste_12 : decode cX6_paste 12 = .ok (.ireturn, 1) := by decide +kernel
theorem dX6_paste_13 : decode cX6_paste 13 = .ok (.aload_n 0, 1) := by decide +kernel
theorem dX6_paste_14 : decode cX6_paste 14 = .ok (.getfield 12, 3) := by decide +kernel
theorem dX6_paste_17 : decode cX6_paste 17 = .ok (.getfield 113, 3) := by decide +kernel
theorem dX6_paste_20 : decode cX6_paste 20 = .ok (.iload_n 1, 1) := by decide +kernel
theorem dX6_paste_21 : decode cX6_paste 21 = .ok (.invokestatic 106, 3) := by decide +kernel
theorem dX6_paste_24 : decode cX6_paste 24 = .ok (.bipush (-5), 2) := by decide +kernel
theorem dX6_paste_26 : decode cX6_paste 26 = .ok (.if_icmp .ne 6, 3) := by decide +kernel
theorem dX6_paste_29 : decode cX6_paste 29 = .ok (.bipush (-3), 2) := by decide +kernel
theorem dX6_paste_31 : decode cX6_paste 31 = .ok (.ireturn, 1) := by decide +kernel
theorem dX6_paste_32 : decode cX6_paste 32 = .ok (.aload_n 0, 1) := by decide +kernel
theorem dX6_paste_33 : decode cX6_paste 33 = .ok (.getfield 12, 3) := by decide +kernel
theorem dX6_paste_36 : decode cX6_paste 36 = .ok (.iload_n 1, 1) := by decide +kernel
theorem dX6_paste_37 : decode cX6_paste 37 = .ok (.iload_n 2, 1) := by decide +kernel
theorem dX6_paste_38 : decode cX6_paste 38 = .ok (.invokevirtual 161, 3) := by decide +kernel
theorem dX6_paste_41 : decode cX6_paste 41 = .ok (.aload_n 0, 1) := by decide +kernel
theorem dX6_paste_42 : decode cX6_paste 42 = .ok (.getfield 12, 3) := by decide +kernel
theorem dX6_paste_45 : decode cX6_paste 45 = .ok (.getfield 89, 3) := by decide +kernel
theorem dX6_paste_48 : decode cX6_paste 48 = .ok (.aload_n 0, 1) := by decide +kernel
theorem dX6_paste_49 : decode cX6_paste 49 = .ok (.getfield 12, 3) := by decide +kernel
theorem dX6_paste_52 : decode cX6_paste 52 = .ok (.getfield 113, 3) := by decide +kernel
theorem dX6_paste_55 : decode cX6_paste 55 = .ok (.iload_n 1, 1) := by decide +kernel
theorem dX6_paste_56 : decode cX6_paste 56 = .ok (.invokestatic 106, 3) := by decide +kernel
theorem dX6_paste_59 : decode cX6_paste 59 = .ok (.invokestatic 106, 3) := by decide +kernel
theorem dX6_paste_62 : decode cX6_paste 62 = .ok (.ireturn, 1) := by decide +kernel
theorem dX6_pass_0 : decode cX6_pass 0 = .ok (.iload_n 1, 1) := by decide +kernel
theorem dX6_pass_1 : decode cX6_pass 1 = .ok (.invokestatic 165, 3) := by decide +kernel
theorem dX6_pass_4 : decode cX6_pass 4 = .ok (.ifCond .ne 6, 3) := by decide +kernel
theorem dX6_pass_7 : decode cX6_pass 7 = .ok (.bipush (-2), 2) := by decide +kernel
theorem dX6_pass_9 : decode cX6_pass 9 = .ok (.ireturn, 1) := by decide +kernel
theorem dX6_pass_10 : decode cX6_pass 10 = .ok (.aload_n 0, 1) := by decide +kernel
theorem dX6_pass_11 : decode cX6_pass 11 = .ok (.getfield 12, 3) := by decide +kernel
theorem dX6_pass_14 : decode cX6_pass 14 = .ok (.getfield 139, 3) := by decide +kernel
theorem dX6_pass_17 : decode cX6_pass 17 = .ok (.iload_n 1, 1) := by decide +kernel
theorem dX6_pass_18 : decode cX6_pass 18 = .ok (.iadd, 1) := by decide +kernel
theorem dX6_pass_19 : decode cX6_pass 19 = .ok (.sipush 9999, 3) := by decide +kernel
theorem dX6_pass_22 : decode cX6_pass 22 = .ok (.if_icmp .le 6, 3) := by decide +kernel
theorem dX6_pass_25 : decode cX6_pass 25 = .ok (.bipush (-3), 2) := by decide +kernel
theorem dX6_pass_27 : decode cX6_pass 27 = .ok (.ireturn, 1) := by decide +kernel
theorem dX6_pass_28 : decode cX6_pass 28 = .ok (.aload_n 0, 1) := by decide +kernel
theorem dX6_pass_29 : decode cX6_pass 29 = .ok (.getfield 12, 3) := by decide +kernel
theorem dX6_pass_32 : decode cX6_pass 32 = .ok (.invokevirtual 155, 3) := by decide +kernel
theorem dX6_pass_35 : decode cX6_pass 35 = .ok (.iconst 0, 1) := by decide +kernel
theorem dX6_pass_36 : decode cX6_pass 36 = .ok (.istore_n 2, 1) := by decide +kernel
theorem dX6_pass_37 : decode cX6_pass 37 = .ok (.iload_n 2, 1) := by decide +kernel
theorem dX6_pass_38 : decode cX6_pass 38 = .ok (.iload_n 1, 1) := by decide +kernel
theorem dX6_pass_39 : decode cX6_pass 39 = .ok (.if_icmp .ge 17, 3) := by decide +kernel
theorem dX6_pass_42 : decode cX6_pass 42 = .ok (.aload_n 0, 1) := by decide +kernel
theorem dX6_pass_43 : decode cX6_pass 43 = .ok (.getfield 12, 3) := by decide +kernel
theorem dX6_pass_46 : decode cX6_pass 46 = .ok (.invokevirtual 168, 3) := by decide +kernel
theorem dX6_pass_49 : decode cX6_pass 49 = .ok (.pop, 1) := by decide +kernel
theorem dX6_pass_50 : decode cX6_pass 50 = .ok (.iinc 2 1, 3) := by decide +kernel
theorem dX6_pass_53 : decode cX6_pass 53 = .ok (.goto (-16), 3) := by decide +kernel
theorem dX6_pass_56 : decode cX6_pass 56 = .ok (.aload_n 0, 1) := by decide +kernel
theorem dX6_pass_57 : decode cX6_pass 57 = .ok (.getfield 12, 3) := by decide +kernel
theorem dX6_pass_60 : decode cX6_pass 60 = .ok (.getfield 139, 3) := by decide +kernel
theorem dX6_pass_63 : decode cX6_pass 63 = .ok (.ireturn, 1) := by decide +kernel
theorem dX6_on_0 : decode cX6_on 0 = .ok (.iload_n 2, 1) := by decide +kernel
theorem dX6_on_1 : decode cX6_on 1 = .ok (.bipush 10, 2) := by decide +kernel
theorem dX6_on_3 : decode cX6_on 3 = .ok (.isub, 1) := by decide +kernel
theorem dX6_on_4 : decode cX6_on 4 = .ok (.istore_n 3, 1) := by decide +kernel
theorem dX6_on_5 : decode cX6_on 5 = .ok (.iload_n 2, 1) := by decide +kernel
theorem dX6_on_6 : decode cX6_on 6 = .ok (.ifCond .eq 23, 3) := by decide +kernel
theorem dX6_on_9 : decode cX6_on 9 = .ok (.iload_n 2, 1) := by decide +kernel
theorem dX6_on_10 : decode cX6_on 10 = .ok (.iconst 1, 1) := by decide +kernel
theorem dX6_on_11 : decode cX6_on 11 = .ok (.if_icmp .eq 18, 3) := by decide +kernel
theorem dX6_on_14 : decode cX6_on 14 = .ok (.aload_n 0, 1) := by decide +kernel
theorem dX6_on_15 : decode cX6_on 15 = .ok (.getfield 12, 3) := by decide +kernel
theorem dX6_on_18 : decode cX6_on 18 = .ok (.iload_n 3, 1) := by decide +kernel
theorem dX6_on_19 : decode cX6_on 19 = .ok (.invokevirtual 99, 3) := by decide +kernel
theorem dX6_on_22 : decode cX6_on 22 = .ok (.ifCond .ne 7, 3) := by decide +kernel
theorem dX6_on_25 : decode cX6_on 25 = .ok (.sipush (-10001), 3) := by decide +kernel
theorem dX6_on_28 : decode cX6_on 28 = .ok (.ireturn, 1) := by decide +kernel
theorem dX6_on_29 : decode cX6_on 29 = .ok (.iload_n 1, 1) := by decide +kernel
theorem dX6_on_30 : decode cX6_on 30 = .ok (.invokestatic 165, 3) := by decide +kernel
theorem dX6_on_33 : decode cX6_on 33 = .ok (.ifCond .ne 7, 3) := by decide +kernel
theorem dX6_on_36 : decode cX6_on 36 = .ok (.sipush (-10002), 3) := by decide +kernel
theorem dX6_on_39 : decode cX6_on 39 = .ok (.ireturn, 1) := by decide +kernel
theorem dX6_on_40 : decode cX6_on 40 = .ok (.aload_n 0, 1) := by decide +kernel
theorem dX6_on_41 : decode cX6_on 41 = .ok (.iload_n 1, 1) := by decide +kernel
theorem dX6_on_42 : decode cX6_on 42 = .ok (.invokevirtual 171, 3) := by decide +kernel
theorem dX6_on_45 : decode cX6_on 45 = .ok (.istore 4, 2) := by decide +kernel
theorem dX6_on_47 : decode cX6_on 47 = .ok (.iload_n 2, 1) := by decide +kernel
theorem dX6_on_48 : decode cX6_on 48 = .ok (.ifCond .ne 6, 3) := by decide +kernel
theorem dX6_on_51 : decode cX6_on 51 = .ok (.iload 4, 2) := by decide +kernel
theorem dX6_on_53 : decode cX6_on 53 = .ok (.ireturn, 1) := by decide +kernel
theorem dX6_on_54 : decode cX6_on 54 = .ok (.iload_n 2, 1) := by decide +kernel
theorem dX6_on_55 : decode cX6_on 55 = .ok (.iconst 1, 1) := by decide +kernel
theorem dX6_on_56 : decode cX6_on 56 = .ok (.if_icmp .ne 13, 3) := by decide +kernel
theorem dX6_on_59 : decode cX6_on 59 = .ok (.aload_n 0, 1) := by decide +kernel
theorem dX6_on_60 : decode cX6_on 60 = .ok (.getfield 18, 3) := by decide +kernel
theorem dX6_on_63 : decode cX6_on 63 = .ok (.invokevirtual 148, 3) := by decide +kernel
theorem dX6_on_66 : decode cX6_on 66 = .ok (.goto 14, 3) := by decide +kernel
theorem dX6_on_69 : decode cX6_on 69 = .ok (.aload_n 0, 1) := by decide +kernel
theorem dX6_on_70 : decode cX6_on 70 = .ok (.getfield 18, 3) := by decide +kernel
theorem dX6_on_73 : decode cX6_on 73 = .ok (.getfield 113, 3) := by decide +kernel
theorem dX6_on_76 : decode cX6_on 76 = .ok (.iload_n 3, 1) := by decide +kernel
theorem dX6_on_77 : decode cX6_on 77 = .ok (.invokestatic 106, 3) := by decide +kernel
theorem dX6_on_80 : decode cX6_on 80 = .ok (.ireturn, 1) := by decide +kernel
theorem dX6_until_0 : decode cX6_until 0 = .ok (.iload_n 1, 1) := by decide +kernel
theorem dX6_until_1 : decode cX6_until 1 = .ok (.ifCond .lt 8, 3) := by decide +kernel
theorem dX6_until_4 : decode cX6_until 4 = .ok (.iload_n 1, 1) := by decide +kernel
theorem dX6_until_5 : decode cX6_until 5 = .ok (.iconst 1, 1) := by decide +kernel
theorem dX6_until_6 : decode cX6_until 6 = .ok (.if_icmp .le 5, 3) := by decide +kernel
theorem dX6_until_9 : decode cX6_until 9 = .ok (.iconst (-1), 1) := by decide +kernel
theorem dX6_until_10 : decode cX6_until 10 = .ok (.ireturn, 1) := by decide +kernel
theorem dX6_until_11 : decode cX6_until 11 = .ok (.aload_n 0, 1) := by decide +kernel
theorem dX6_until_12 : decode cX6_until 12 = .ok (.invokevirtual 116, 3) := by decide +kernel
theorem dX6_until_15 : decode cX6_until 15 = .ok (.iconst 0, 1) := by decide +kernel
theorem dX6_until_16 : decode cX6_until 16 = .ok (.istore_n 2, 1) := by decide +kernel
theorem dX6_until_17 : decode cX6_until 17 = .ok (.iload_n 2, 1) := by decide +kernel
theorem dX6_until_18 : decode cX6_until 18 = .ok (.bipush 40, 2) := by decide +kernel
theorem dX6_until_20 : decode cX6_until 20 = .ok (.if_icmp .gt 46, 3) := by decide +kernel
theorem dX6_until_23 : decode cX6_until 23 = .ok (.iload_n 1, 1) := by decide +kernel
theorem dX6_until_24 : decode cX6_until 24 = .ok (.ifCond .ne 16, 3) := by decide +kernel
theorem dX6_until_27 : decode cX6_until 27 = .ok (.aload_n 0, 1) := by decide +kernel
theorem dX6_until_28 : decode cX6_until 28 = .ok (.getfield 18, 3) := by decide +kernel
theorem dX6_until_31 : decode cX6_until 31 = .ok (.invokevirtual 174, 3) := by decide +kernel
theorem dX6_until_34 : decode cX6_until 34 = .ok (.ifCond .eq 18, 3) := by decide +kernel
theorem dX6_until_37 : decode cX6_until 37 = .ok (.goto 13, 3) := by decide +kernel
theorem dX6_until_40 : decode cX6_until 40 = .ok (.aload_n 0, 1) := by decide +kernel
theorem dX6_until_41 : decode cX6_until 41 = .ok (.getfield 18, 3) := by decide +kernel
theorem dX6_until_44 : decode cX6_until 44 = .ok (.invokevirtual 177, 3) := by decide +kernel
theorem dX6_until_47 : decode cX6_until 47 = .ok (.ifCond .eq 5, 3) := by decide +kernel
theorem dX6_until_50 : decode cX6_until 50 = .ok (.iload_n 2, 1) := by decide +kernel
theorem dX6_until_51 : decode cX6_until 51 = .ok (.ireturn, 1) := by decide +kernel
theorem dX6_until_52 : decode cX6_until 52 = .ok (.aload_n 0, 1) := by decide +kernel
theorem dX6_until_53 : decode cX6_until 53 = .ok (.getfield 18, 3) := by decide +kernel
theorem dX6_until_56 : decode cX6_until 56 = .ok (.invokevirtual 168, 3) := by decide +kernel
theorem dX6_until_59 : decode cX6_until 59 = .ok (.pop, 1) := by decide +kernel
theorem dX6_until_60 : decode cX6_until 60 = .ok (.iinc 2 1, 3) := by decide +kernel
theorem dX6_until_63 : decode cX6_until 63 = .ok (.goto (-46), 3) := by decide +kernel
theorem dX6_until_66 : decode cX6_until 66 = .ok (.bipush (-5), 2) := by decide +kernel
theorem dX6_until_68 : decode cX6_until 68 = .ok (.ireturn, 1) := by decide +kernel
theorem dX6_few_0 : decode cX6_few 0 = .ok (.aload_n 0, 1) := by decide +kernel
theorem dX6_few_1 : decode cX6_few 1 = .ok (.getfield 12, 3) := by decide +kernel
theorem dX6_few_4 : decode cX6_few 4 = .ok (.iload_n 1, 1) := by decide +kernel
theorem dX6_few_5 : decode cX6_few 5 = .ok (.invokevirtual 99, 3) := by decide +kernel
theorem dX6_few_8 : decode cX6_few 8 = .ok (.ifCond .eq 14, 3) := by decide +kernel
theorem dX6_few_11 : decode cX6_few 11 = .ok (.aload_n 0, 1) := by decide +kernel
theorem dX6_few_12 : decode cX6_few 12 = .ok (.getfield 12, 3) := by decide +kernel
theorem dX6_few_15 : decode cX6_few 15 = .ok (.iload_n 2, 1) := by decide +kernel
theorem dX6_few_16 : decode cX6_few 16 = .ok (.invokevirtual 126, 3) := by decide +kernel
theorem dX6_few_19 : decode cX6_few 19 = .ok (.ifCond .ne 5, 3) := by decide +kernel
theorem dX6_few_22 : decode cX6_few 22 = .ok (.iconst (-1), 1) := by decide +kernel
theorem dX6_few_23 : decode cX6_few 23 = .ok (.ireturn, 1) := by decide +kernel
theorem dX6_few_24 : decode cX6_few 24 = .ok (.aload_n 0, 1) := by decide +kernel
theorem dX6_few_25 : decode cX6_few 25 = .ok (.invokevirtual 116, 3) := by decide +kernel
theorem dX6_few_28 : decode cX6_few 28 = .ok (.aload_n 0, 1) := by decide +kernel
theorem dX6_few_29 : decode cX6_few 29 = .ok (.getfield 37, 3) := by decide +kernel
theorem dX6_few_32 : decode cX6_few 32 = .ok (.aload_n 0, 1) := by decide +kernel
theorem dX6_few_33 : decode cX6_few 33 = .ok (.getfield 18, 3) := by decide +kernel
theorem dX6_few_36 : decode cX6_few 36 = .ok (.invokevirtual 180, 3) := by decide +kernel
theorem dX6_few_39 : decode cX6_few 39 = .ok (.aload_n 0, 1) := by decide +kernel
theorem dX6_few_40 : decode cX6_few 40 = .ok (.getfield 37, 3) := by decide +kernel
theorem dX6_few_43 : decode cX6_few 43 = .ok (.iload_n 1, 1) := by decide +kernel
theorem dX6_few_44 : decode cX6_few 44 = .ok (.iload_n 2, 1) := by decide +kernel
theorem dX6_few_45 : decode cX6_few 45 = .ok (.invokevirtual 184, 3) := by decide +kernel
theorem dX6_few_48 : decode cX6_few 48 = .ok (.ireturn, 1) := by decide +kernel
theorem dX6_reach_0 : decode cX6_reach 0 = .ok (.aload_n 0, 1) := by decide +kernel
theorem dX6_reach_1 : decode cX6_reach 1 = .ok (.getfield 12, 3) := by decide +kernel
theorem dX6_reach_4 : decode cX6_reach 4 = .ok (.iload_n 1, 1) := by decide +kernel
theorem dX6_reach_5 : decode cX6_reach 5 = .ok (.invokevirtual 99, 3) := by decide +kernel
theorem dX6_reach_8 : decode cX6_reach 8 = .ok (.ifCond .ne 5, 3) := by decide +kernel
theorem dX6_reach_11 : decode cX6_reach 11 = .ok (.iconst (-1), 1) := by decide +kernel
theorem dX6_reach_12 : decode cX6_reach 12 = .ok (.ireturn, 1) := by decide +kernel
theorem dX6_reach_13 : decode cX6_reach 13 = .ok (.aload_n 0, 1) := by decide +kernel
theorem dX6_reach_14 : decode cX6_reach 14 = .ok (.invokevirtual 116, 3) := by decide +kernel
theorem dX6_reach_17 : decode cX6_reach 17 = .ok (.aload_n 0, 1) := by decide +kernel
theorem dX6_reach_18 : decode cX6_reach 18 = .ok (.getfield 37, 3) := by decide +kernel
theorem dX6_reach_21 : decode cX6_reach 21 = .ok (.aload_n 0, 1) := by decide +kernel
theorem dX6_reach_22 : decode cX6_reach 22 = .ok (.getfield 18, 3) := by decide +kernel
theorem dX6_reach_25 : decode cX6_reach 25 = .ok (.invokevirtual 180, 3) := by decide +kernel
theorem dX6_reach_28 : decode cX6_reach 28 = .ok (.aload_n 0, 1) := by decide +kernel
theorem dX6_reach_29 : decode cX6_reach 29 = .ok (.getfield 37, 3) := by decide +kernel
theorem dX6_reach_32 : decode cX6_reach 32 = .ok (.iload_n 1, 1) := by decide +kernel
theorem dX6_reach_33 : decode cX6_reach 33 = .ok (.invokevirtual 187, 3) := by decide +kernel
theorem dX6_reach_36 : decode cX6_reach 36 = .ok (.ireturn, 1) := by decide +kernel
theorem dX6_never_0 : decode cX6_never 0 = .ok (.aload_n 0, 1) := by decide +kernel
theorem dX6_never_1 : decode cX6_never 1 = .ok (.invokevirtual 116, 3) := by decide +kernel
theorem dX6_never_4 : decode cX6_never 4 = .ok (.aload_n 0, 1) := by decide +kernel
theorem dX6_never_5 : decode cX6_never 5 = .ok (.getfield 37, 3) := by decide +kernel
theorem dX6_never_8 : decode cX6_never 8 = .ok (.aload_n 0, 1) := by decide +kernel
theorem dX6_never_9 : decode cX6_never 9 = .ok (.getfield 18, 3) := by decide +kernel
theorem dX6_never_12 : decode cX6_never 12 = .ok (.invokevirtual 180, 3) := by decide +kernel
theorem dX6_never_15 : decode cX6_never 15 = .ok (.aload_n 0, 1) := by decide +kernel
theorem dX6_never_16 : decode cX6_never 16 = .ok (.getfield 12, 3) := by decide +kernel
theorem dX6_never_19 : decode cX6_never 19 = .ok (.invokevirtual 190, 3) := by decide +kernel
theorem dX6_never_22 : decode cX6_never 22 = .ok (.istore_n 1, 1) := by decide +kernel
theorem dX6_never_23 : decode cX6_never 23 = .ok (.iconst 0, 1) := by decide +kernel
theorem dX6_never_24 : decode cX6_never 24 = .ok (.istore_n 2, 1) := by decide +kernel
theorem dX6_never_25 : decode cX6_never 25 = .ok (.iload_n 2, 1) := by decide +kernel
theorem dX6_never_26 : decode cX6_never 26 = .ok (.aload_n 0, 1) := by decide +kernel
theorem dX6_never_27 : decode cX6_never 27 = .ok (.getfield 12, 3) := by decide +kernel
theorem dX6_never_30 : decode cX6_never 30 = .ok (.getfield 92, 3) := by decide +kernel
theorem dX6_never_33 : decode cX6_never 33 = .ok (.if_icmp .ge 22, 3) := by decide +kernel
theorem dX6_never_36 : decode cX6_never 36 = .ok (.iload_n 1, 1) := by decide +kernel
theorem dX6_never_37 : decode cX6_never 37 = .ok (.aload_n 0, 1) := by decide +kernel
theorem dX6_never_38 : decode cX6_never 38 = .ok (.getfield 37, 3) := by decide +kernel
theorem dX6_never_41 : decode cX6_never 41 = .ok (.iload_n 2, 1) := by decide +kernel
theorem dX6_never_42 : decode cX6_never 42 = .ok (.invokevirtual 187, 3) := by decide +kernel
theorem dX6_never_45 : decode cX6_never 45 = .ok (.iconst (-1), 1) := by decide +kernel
theorem dX6_never_46 : decode cX6_never 46 = .ok (.ixor, 1) := by decide +kernel
theorem dX6_never_47 : decode cX6_never 47 = .ok (.iand, 1) := by decide +kernel
theorem dX6_never_48 : decode cX6_never 48 = .ok (.istore_n 1, 1) := by decide +kernel
theorem dX6_never_49 : decode cX6_never 49 = .ok (.iinc 2 1, 3) := by decide +kernel
theorem dX6_never_52 : decode cX6_never 52 = .ok (.goto (-27), 3) := by decide +kernel
theorem dX6_never_55 : decode cX6_never 55 = .ok (.iload_n 1, 1) := by decide +kernel
theorem dX6_never_56 : decode cX6_never 56 = .ok (.ireturn, 1) := by decide +kernel
theorem dX6_most_0 : decode cX6_most 0 = .ok (.iload_n 1, 1) := by decide +kernel
theorem dX6_most_1 : decode cX6_most 1 = .ok (.bipush 10, 2) := by decide +kernel
theorem dX6_most_3 : decode cX6_most 3 = .ok (.isub, 1) := by decide +kernel
theorem dX6_most_4 : decode cX6_most 4 = .ok (.istore_n 2, 1) := by decide +kernel
theorem dX6_most_5 : decode cX6_most 5 = .ok (.iload_n 1, 1) := by decide +kernel
theorem dX6_most_6 : decode cX6_most 6 = .ok (.ifCond .eq 23, 3) := by decide +kernel
theorem dX6_most_9 : decode cX6_most 9 = .ok (.iload_n 1, 1) := by decide +kernel
theorem dX6_most_10 : decode cX6_most 10 = .ok (.iconst 1, 1) := by decide +kernel
theorem dX6_most_11 : decode cX6_most 11 = .ok (.if_icmp .eq 18, 3) := by decide +kernel
theorem dX6_most_14 : decode cX6_most 14 = .ok (.aload_n 0, 1) := by decide +kernel
theorem dX6_most_15 : decode cX6_most 15 = .ok (.getfield 12, 3) := by decide +kernel
theorem dX6_most_18 : decode cX6_most 18 = .ok (.iload_n 2, 1) := by decide +kernel
theorem dX6_most_19 : decode cX6_most 19 = .ok (.invokevirtual 99, 3) := by decide +kernel
theorem dX6_most_22 : decode cX6_most 22 = .ok (.ifCond .ne 7, 3) := by decide +kernel
theorem dX6_most_25 : decode cX6_most 25 = .ok (.sipush (-10001), 3) := by decide +kernel
theorem dX6_most_28 : decode cX6_most 28 = .ok (.ireturn, 1) := by decide +kernel
theorem dX6_most_29 : decode cX6_most 29 = .ok (.aload_n 0, 1) := by decide +kernel
theorem dX6_most_30 : decode cX6_most 30 = .ok (.invokevirtual 116, 3) := by decide +kernel
theorem dX6_most_33 : decode cX6_most 33 = .ok (.aload_n 0, 1) := by decide +kernel
theorem dX6_most_34 : decode cX6_most 34 = .ok (.getfield 37, 3) := by decide +kernel
theorem dX6_most_37 : decode cX6_most 37 = .ok (.aload_n 0, 1) := by decide +kernel
theorem dX6_most_38 : decode cX6_most 38 = .ok (.getfield 18, 3) := by decide +kernel
theorem dX6_most_41 : decode cX6_most 41 = .ok (.invokevirtual 180, 3) := by decide +kernel
theorem dX6_most_44 : decode cX6_most 44 = .ok (.aload_n 0, 1) := by decide +kernel
theorem dX6_most_45 : decode cX6_most 45 = .ok (.getfield 37, 3) := by decide +kernel
theorem dX6_most_48 : decode cX6_most 48 = .ok (.aload_n 0, 1) := by decide +kernel
theorem dX6_most_49 : decode cX6_most 49 = .ok (.getfield 18, 3) := by decide +kernel
theorem dX6_most_52 : decode cX6_most 52 = .ok (.invokevirtual 193, 3) := by decide +kernel
theorem dX6_most_55 : decode cX6_most 55 = .ok (.istore_n 3, 1) := by decide +kernel
theorem dX6_most_56 : decode cX6_most 56 = .ok (.iload_n 1, 1) := by decide +kernel
theorem dX6_most_57 : decode cX6_most 57 = .ok (.iconst 1, 1) := by decide +kernel
theorem dX6_most_58 : decode cX6_most 58 = .ok (.if_icmp .ne 15, 3) := by decide +kernel
theorem dX6_most_61 : decode cX6_most 61 = .ok (.aload_n 0, 1) := by decide +kernel
theorem dX6_most_62 : decode cX6_most 62 = .ok (.getfield 37, 3) := by decide +kernel
theorem dX6_most_65 : decode cX6_most 65 = .ok (.getfield 197, 3) := by decide +kernel
theorem dX6_most_68 : decode cX6_most 68 = .ok (.iload_n 3, 1) := by decide +kernel
theorem dX6_most_69 : decode cX6_most 69 = .ok (.invokestatic 106, 3) := by decide +kernel
theorem dX6_most_72 : decode cX6_most 72 = .ok (.ireturn, 1) := by decide +kernel
theorem dX6_most_73 : decode cX6_most 73 = .ok (.aload_n 0, 1) := by decide +kernel
theorem dX6_most_74 : decode cX6_most 74 = .ok (.getfield 18, 3) := by decide +kernel
theorem dX6_most_77 : decode cX6_most 77 = .ok (.iload_n 3, 1) := by decide +kernel
theorem dX6_most_78 : decode cX6_most 78 = .ok (.invokevirtual 200, 3) := by decide +kernel
theorem dX6_most_81 : decode cX6_most 81 = .ok (.iload_n 1, 1) := by decide +kernel
theorem dX6_most_82 : decode cX6_most 82 = .ok (.ifCond .ne 13, 3) := by decide +kernel
theorem dX6_most_85 : decode cX6_most 85 = .ok (.aload_n 0, 1) := by decide +kernel
theorem dX6_most_86 : decode cX6_most 86 = .ok (.getfield 18, 3) := by decide +kernel
theorem dX6_most_89 : decode cX6_most 89 = .ok (.invokevirtual 148, 3) := by decide +kernel
theorem dX6_most_92 : decode cX6_most 92 = .ok (.goto 14, 3) := by decide +kernel
theorem dX6_most_95 : decode cX6_most 95 = .ok (.aload_n 0, 1) := by decide +kernel
theorem dX6_most_96 : decode cX6_most 96 = .ok (.getfield 18, 3) := by decide +kernel
theorem dX6_most_99 : decode cX6_most 99 = .ok (.getfield 113, 3) := by decide +kernel
theorem dX6_most_102 : decode cX6_most 102 = .ok (.iload_n 2, 1) := by decide +kernel
theorem dX6_most_103 : decode cX6_most 103 = .ok (.invokestatic 106, 3) := by decide +kernel
theorem dX6_most_106 : decode cX6_most 106 = .ok (.ireturn, 1) := by decide +kernel
theorem dX6_order_0 : decode cX6_order 0 = .ok (.iload_n 1, 1) := by decide +kernel
theorem dX6_order_1 : decode cX6_order 1 = .ok (.iconst (-1), 1) := by decide +kernel
theorem dX6_order_2 : decode cX6_order 2 = .ok (.if_icmp .lt 8, 3) := by decide +kernel
theorem dX6_order_5 : decode cX6_order 5 = .ok (.iload_n 1, 1) := by decide +kernel
theorem dX6_order_6 : decode cX6_order 6 = .ok (.iconst 4, 1) := by decide +kernel
theorem dX6_order_7 : decode cX6_order 7 = .ok (.if_icmp .lt 7, 3) := by decide +kernel
theorem dX6_order_10 : decode cX6_order 10 = .ok (.sipush (-10001), 3) := by decide +kernel
theorem dX6_order_13 : decode cX6_order 13 = .ok (.ireturn, 1) := by decide +kernel
theorem dX6_order_14 : decode cX6_order 14 = .ok (.iload_n 1, 1) := by decide +kernel
theorem dX6_order_15 : decode cX6_order 15 = .ok (.aload_n 0, 1) := by decide +kernel
theorem dX6_order_16 : decode cX6_order 16 = .ok (.getfield 12, 3) := by decide +kernel
theorem dX6_order_19 : decode cX6_order 19 = .ok (.getfield 92, 3) := by decide +kernel
theorem dX6_order_22 : decode cX6_order 22 = .ok (.if_icmp .lt 6, 3) := by decide +kernel
theorem dX6_order_25 : decode cX6_order 25 = .ok (.bipush (-5), 2) := by decide +kernel
theorem dX6_order_27 : decode cX6_order 27 = .ok (.ireturn, 1) := by decide +kernel
theorem dX6_order_28 : decode cX6_order 28 = .ok (.aload_n 0, 1) := by decide +kernel
theorem dX6_order_29 : decode cX6_order 29 = .ok (.invokevirtual 116, 3) := by decide +kernel
theorem dX6_order_32 : decode cX6_order 32 = .ok (.aload_n 0, 1) := by decide +kernel
theorem dX6_order_33 : decode cX6_order 33 = .ok (.invokevirtual 204, 3) := by decide +kernel
theorem dX6_order_36 : decode cX6_order 36 = .ok (.istore_n 2, 1) := by decide +kernel
theorem dX6_order_37 : decode cX6_order 37 = .ok (.iload_n 1, 1) := by decide +kernel
theorem dX6_order_38 : decode cX6_order 38 = .ok (.iconst (-1), 1) := by decide +kernel
theorem dX6_order_39 : decode cX6_order 39 = .ok (.if_icmp .ne 11, 3) := by decide +kernel
theorem dX6_order_42 : decode cX6_order 42 = .ok (.aload_n 0, 1) := by decide +kernel
theorem dX6_order_43 : decode cX6_order 43 = .ok (.iload_n 2, 1) := by decide +kernel
theorem dX6_order_44 : decode cX6_order 44 = .ok (.invokevirtual 207, 3) := by decide +kernel
theorem dX6_order_47 : decode cX6_order 47 = .ok (.goto 9, 3) := by decide +kernel
theorem dX6_order_50 : decode cX6_order 50 = .ok (.aload_n 0, 1) := by decide +kernel
theorem dX6_order_51 : decode cX6_order 51 = .ok (.iload_n 2, 1) := by decide +kernel
theorem dX6_order_52 : decode cX6_order 52 = .ok (.iload_n 1, 1) := by decide +kernel
theorem dX6_order_53 : decode cX6_order 53 = .ok (.invokevirtual 210, 3) := by decide +kernel
theorem dX6_order_56 : decode cX6_order 56 = .ok (.ireturn, 1) := by decide +kernel
theorem dX6_glues_0 : decode cX6_glues 0 = .ok (.aload_n 0, 1) := by decide +kernel
theorem dX6_glues_1 : decode cX6_glues 1 = .ok (.getfield 12, 3) := by decide +kernel
theorem dX6_glues_4 : decode cX6_glues 4 = .ok (.iload_n 1, 1) := by decide +kernel
theorem dX6_glues_5 : decode cX6_glues 5 = .ok (.invokevirtual 99, 3) := by decide +kernel
theorem dX6_glues_8 : decode cX6_glues 8 = .ok (.ifCond .eq 14, 3) := by decide +kernel
theorem dX6_glues_11 : decode cX6_glues 11 = .ok (.aload_n 0, 1) := by decide +kernel
theorem dX6_glues_12 : decode cX6_glues 12 = .ok (.getfield 12, 3) := by decide +kernel
theorem dX6_glues_15 : decode cX6_glues 15 = .ok (.iload_n 2, 1) := by decide +kernel
theorem dX6_glues_16 : decode cX6_glues 16 = .ok (.invokevirtual 126, 3) := by decide +kernel
theorem dX6_glues_19 : decode cX6_glues 19 = .ok (.ifCond .ne 5, 3) := by decide +kernel
theorem dX6_glues_22 : decode cX6_glues 22 = .ok (.iconst (-1), 1) := by decide +kernel
theorem dX6_glues_23 : decode cX6_glues 23 = .ok (.ireturn, 1) := by decide +kernel
theorem dX6_glues_24 : decode cX6_glues 24 = .ok (.aload_n 0, 1) := by decide +kernel
theorem dX6_glues_25 : decode cX6_glues 25 = .ok (.getfield 12, 3) := by decide +kernel
theorem dX6_glues_28 : decode cX6_glues 28 = .ok (.getfield 113, 3) := by decide +kernel
theorem dX6_glues_31 : decode cX6_glues 31 = .ok (.iload_n 1, 1) := by decide +kernel
theorem dX6_glues_32 : decode cX6_glues 32 = .ok (.invokestatic 106, 3) := by decide +kernel
theorem dX6_glues_35 : decode cX6_glues 35 = .ok (.istore_n 3, 1) := by decide +kernel
theorem dX6_glues_36 : decode cX6_glues 36 = .ok (.iload_n 3, 1) := by decide +kernel
theorem dX6_glues_37 : decode cX6_glues 37 = .ok (.bipush (-5), 2) := by decide +kernel
theorem dX6_glues_39 : decode cX6_glues 39 = .ok (.if_icmp .eq 16, 3) := by decide +kernel
theorem dX6_glues_42 : decode cX6_glues 42 = .ok (.aload_n 0, 1) := by decide +kernel
theorem dX6_glues_43 : decode cX6_glues 43 = .ok (.getfield 12, 3) := by decide +kernel
theorem dX6_glues_46 : decode cX6_glues 46 = .ok (.iload_n 2, 1) := by decide +kernel
theorem dX6_glues_47 : decode cX6_glues 47 = .ok (.invokevirtual 133, 3) := by decide +kernel
theorem dX6_glues_50 : decode cX6_glues 50 = .ok (.bipush (-5), 2) := by decide +kernel
theorem dX6_glues_52 : decode cX6_glues 52 = .ok (.if_icmp .eq 6, 3) := by decide +kernel
theorem dX6_glues_55 : decode cX6_glues 55 = .ok (.bipush (-5), 2) := by decide +kernel
theorem dX6_glues_57 : decode cX6_glues 57 = .ok (.ireturn, 1) := by decide +kernel
theorem dX6_glues_58 : decode cX6_glues 58 = .ok (.iconst 0, 1) := by decide +kernel
theorem dX6_glues_59 : decode cX6_glues 59 = .ok (.istore 4, 2) := by decide +kernel
theorem dX6_glues_61 : decode cX6_glues 61 = .ok (.iload 4, 2) := by decide +kernel
theorem dX6_glues_63 : decode cX6_glues 63 = .ok (.bipush 20, 2) := by decide +kernel
theorem dX6_glues_65 : decode cX6_glues 65 = .ok (.if_icmp .gt 67, 3) := by decide +kernel
theorem dX6_glues_68 : decode cX6_glues 68 = .ok (.bipush 99, 2) := by decide +kernel
theorem dX6_glues_70 : decode cX6_glues 70 = .ok (.aload_n 0, 1) := by decide +kernel
theorem dX6_glues_71 : decode cX6_glues 71 = .ok (.getfield 12, 3) := by decide +kernel
theorem dX6_glues_74 : decode cX6_glues 74 = .ok (.getfield 89, 3) := by decide +kernel
theorem dX6_glues_77 : decode cX6_glues 77 = .ok (.iload_n 3, 1) := by decide +kernel
theorem dX6_glues_78 : decode cX6_glues 78 = .ok (.invokestatic 106, 3) := by decide +kernel
theorem dX6_glues_81 : decode cX6_glues 81 = .ok (.iload 4, 2) := by decide +kernel
theorem dX6_glues_83 : decode cX6_glues 83 = .ok (.aload_n 0, 1) := by decide +kernel
theorem dX6_glues_84 : decode cX6_glues 84 = .ok (.getfield 12, 3) := by decide +kernel
theorem dX6_glues_87 : decode cX6_glues 87 = .ok (.getfield 82, 3) := by decide +kernel
theorem dX6_glues_90 : decode cX6_glues 90 = .ok (.getfield 145, 3) := by decide +kernel
theorem dX6_glues_93 : decode cX6_glues 93 = .ok (.imul, 1) := by decide +kernel
theorem dX6_glues_94 : decode cX6_glues 94 = .ok (.iadd, 1) := by decide +kernel
theorem dX6_glues_95 : decode cX6_glues 95 = .ok (.invokestatic 213, 3) := by decide +kernel
theorem dX6_glues_98 : decode cX6_glues 98 = .ok (.istore 5, 2) := by decide +kernel
theorem dX6_glues_100 : decode cX6_glues 100 = .ok (.aload_n 0, 1) := by decide +kernel
theorem dX6_glues_101 : decode cX6_glues 101 = .ok (.getfield 12, 3) := by decide +kernel
theorem dX6_glues_104 : decode cX6_glues 104 = .ok (.iload 5, 2) := by decide +kernel
theorem dX6_glues_106 : decode cX6_glues 106 = .ok (.aload_n 0, 1) := by decide +kernel
theorem dX6_glues_107 : decode cX6_glues 107 = .ok (.getfield 12, 3) := by decide +kernel
theorem dX6_glues_110 : decode cX6_glues 110 = .ok (.getfield 89, 3) := by decide +kernel
theorem dX6_glues_113 : decode cX6_glues 113 = .ok (.iload_n 2, 1) := by decide +kernel
theorem dX6_glues_114 : decode cX6_glues 114 = .ok (.invokestatic 106, 3) := by decide +kernel
theorem dX6_glues_117 : decode cX6_glues 117 = .ok (.invokevirtual 218, 3) := by decide +kernel
theorem dX6_glues_120 : decode cX6_glues 120 = .ok (.ifCond .eq 6, 3) := by decide +kernel
theorem dX6_glues_123 : decode cX6_glues 123 = .ok (.iload 4, 2) := by decide +kernel
theorem dX6_glues_125 : decode cX6_glues 125 = .ok (.ireturn, 1) := by decide +kernel
theorem dX6_glues_126 : decode cX6_glues 126 = .ok (.iinc 4 1, 3) := by decide +kernel
theorem dX6_glues_129 : decode cX6_glues 129 = .ok (.goto (-68), 3) := by decide +kernel
theorem dX6_glues_132 : decode cX6_glues 132 = .ok (.bipush (-5), 2) := by decide +kernel
theorem dX6_glues_134 : decode cX6_glues 134 = .ok (.ireturn, 1) := by decide +kernel
theorem dX6_tears_0 : decode cX6_tears 0 = .ok (.aload_n 0, 1) := by decide +kernel
theorem dX6_tears_1 : decode cX6_tears 1 = .ok (.getfield 12, 3) := by decide +kernel
theorem dX6_tears_4 : decode cX6_tears 4 = .ok (.iload_n 1, 1) := by decide +kernel
theorem dX6_tears_5 : decode cX6_tears 5 = .ok (.invokevirtual 99, 3) := by decide +kernel
theorem dX6_tears_8 : decode cX6_tears 8 = .ok (.ifCond .eq 14, 3) := by decide +kernel
theorem dX6_tears_11 : decode cX6_tears 11 = .ok (.aload_n 0, 1) := by decide +kernel
theorem dX6_tears_12 : decode cX6_tears 12 = .ok (.getfield 12, 3) := by decide +kernel
theorem dX6_tears_15 : decode cX6_tears 15 = .ok (.iload_n 2, 1) := by decide +kernel
theorem dX6_tears_16 : decode cX6_tears 16 = .ok (.invokevirtual 99, 3) := by decide +kernel
theorem dX6_tears_19 : decode cX6_tears 19 = .ok (.ifCond .ne 5, 3) := by decide +kernel
theorem dX6_tears_22 : decode cX6_tears 22 = .ok (.iconst (-1), 1) := by decide +kernel
theorem dX6_tears_23 : decode cX6_tears 23 = .ok (.ireturn, 1) := by decide +kernel
theorem dX6_tears_24 : decode cX6_tears 24 = .ok (.iload_n 1, 1) := by decide +kernel
theorem dX6_tears_25 : decode cX6_tears 25 = .ok (.iload_n 2, 1) := by decide +kernel
theorem dX6_tears_26 : decode cX6_tears 26 = .ok (.if_icmp .ne 6, 3) := by decide +kernel
theorem dX6_tears_29 : decode cX6_tears 29 = .ok (.bipush (-2), 2) := by decide +kernel
theorem dX6_tears_31 : decode cX6_tears 31 = .ok (.ireturn, 1) := by decide +kernel
theorem dX6_tears_32 : decode cX6_tears 32 = .ok (.aload_n 0, 1) := by decide +kernel
theorem dX6_tears_33 : decode cX6_tears 33 = .ok (.getfield 12, 3) := by decide +kernel
theorem dX6_tears_36 : decode cX6_tears 36 = .ok (.getfield 113, 3) := by decide +kernel
theorem dX6_tears_39 : decode cX6_tears 39 = .ok (.iload_n 1, 1) := by decide +kernel
theorem dX6_tears_40 : decode cX6_tears 40 = .ok (.invokestatic 106, 3) := by decide +kernel
theorem dX6_tears_43 : decode cX6_tears 43 = .ok (.istore_n 3, 1) := by decide +kernel
theorem dX6_tears_44 : decode cX6_tears 44 = .ok (.aload_n 0, 1) := by decide +kernel
theorem dX6_tears_45 : decode cX6_tears 45 = .ok (.getfield 12, 3) := by decide +kernel
theorem dX6_tears_48 : decode cX6_tears 48 = .ok (.getfield 113, 3) := by decide +kernel
theorem dX6_tears_51 : decode cX6_tears 51 = .ok (.iload_n 2, 1) := by decide +kernel
theorem dX6_tears_52 : decode cX6_tears 52 = .ok (.invokestatic 106, 3) := by decide +kernel
theorem dX6_tears_55 : decode cX6_tears 55 = .ok (.istore 4, 2) := by decide +kernel
theorem dX6_tears_57 : decode cX6_tears 57 = .ok (.iload_n 3, 1) := by decide +kernel
theorem dX6_tears_58 : decode cX6_tears 58 = .ok (.bipush (-5), 2) := by decide +kernel
theorem dX6_tears_60 : decode cX6_tears 60 = .ok (.if_icmp .eq 10, 3) := by decide +kernel
theorem dX6_tears_63 : decode cX6_tears 63 = .ok (.iload 4, 2) := by decide +kernel
theorem dX6_tears_65 : decode cX6_tears 65 = .ok (.bipush (-5), 2) := by decide +kernel
theorem dX6_tears_67 : decode cX6_tears 67 = .ok (.if_icmp .ne 6, 3) := by decide +kernel
theorem dX6_tears_70 : decode cX6_tears 70 = .ok (.bipush (-5), 2) := by decide +kernel
theorem dX6_tears_72 : decode cX6_tears 72 = .ok (.ireturn, 1) := by decide +kernel
theorem dX6_tears_73 : decode cX6_tears 73 = .ok (.iconst 0, 1) := by decide +kernel
theorem dX6_tears_74 : decode cX6_tears 74 = .ok (.istore 5, 2) := by decide +kernel
theorem dX6_tears_76 : decode cX6_tears 76 = .ok (.iload 5, 2) := by decide +kernel
theorem dX6_tears_78 : decode cX6_tears 78 = .ok (.bipush 20, 2) := by decide +kernel
theorem dX6_tears_80 : decode cX6_tears 80 = .ok (.if_icmp .gt 67, 3) := by decide +kernel
theorem dX6_tears_83 : decode cX6_tears 83 = .ok (.iconst 1, 1) := by decide +kernel
theorem dX6_tears_84 : decode cX6_tears 84 = .ok (.aload_n 0, 1) := by decide +kernel
theorem dX6_tears_85 : decode cX6_tears 85 = .ok (.getfield 12, 3) := by decide +kernel
theorem dX6_tears_88 : decode cX6_tears 88 = .ok (.getfield 89, 3) := by decide +kernel
theorem dX6_tears_91 : decode cX6_tears 91 = .ok (.iload_n 3, 1) := by decide +kernel
theorem dX6_tears_92 : decode cX6_tears 92 = .ok (.invokestatic 106, 3) := by decide +kernel
theorem dX6_tears_95 : decode cX6_tears 95 = .ok (.iload 5, 2) := by decide +kernel
theorem dX6_tears_97 : decode cX6_tears 97 = .ok (.aload_n 0, 1) := by decide +kernel
theorem dX6_tears_98 : decode cX6_tears 98 = .ok (.getfield 12, 3) := by decide +kernel
theorem dX6_tears_101 : decode cX6_tears 101 = .ok (.getfield 82, 3) := by decide +kernel
theorem dX6_tears_104 : decode cX6_tears 104 = .ok (.getfield 145, 3) := by decide +kernel
theorem dX6_tears_107 : decode cX6_tears 107 = .ok (.imul, 1) := by decide +kernel
theorem dX6_tears_108 : decode cX6_tears 108 = .ok (.isub, 1) := by decide +kernel
theorem dX6_tears_109 : decode cX6_tears 109 = .ok (.invokestatic 222, 3) := by decide +kernel
theorem dX6_tears_112 : decode cX6_tears 112 = .ok (.istore 6, 2) := by decide +kernel
theorem dX6_tears_114 : decode cX6_tears 114 = .ok (.aload_n 0, 1) := by decide +kernel
theorem dX6_tears_115 : decode cX6_tears 115 = .ok (.getfield 12, 3) := by decide +kernel
theorem dX6_tears_118 : decode cX6_tears 118 = .ok (.aload_n 0, 1) := by decide +kernel
theorem dX6_tears_119 : decode cX6_tears 119 = .ok (.getfield 12, 3) := by decide +kernel
theorem dX6_tears_122 : decode cX6_tears 122 = .ok (.getfield 89, 3) := by decide +kernel
theorem dX6_tears_125 : decode cX6_tears 125 = .ok (.iload 4, 2) := by decide +kernel
theorem dX6_tears_127 : decode cX6_tears 127 = .ok (.invokestatic 106, 3) := by decide +kernel
theorem dX6_tears_130 : decode cX6_tears 130 = .ok (.iload 6, 2) := by decide +kernel
theorem dX6_tears_132 : decode cX6_tears 132 = .ok (.invokevirtual 218, 3) := by decide +kernel
theorem dX6_tears_135 : decode cX6_tears 135 = .ok (.ifCond .eq 6, 3) := by decide +kernel
theorem dX6_tears_138 : decode cX6_tears 138 = .ok (.iload 5, 2) := by decide +kernel
theorem dX6_tears_140 : decode cX6_tears 140 = .ok (.ireturn, 1) := by decide +kernel
theorem dX6_tears_141 : decode cX6_tears 141 = .ok (.iinc 5 1, 3) := by decide +kernel
theorem dX6_tears_144 : decode cX6_tears 144 = .ok (.goto (-68), 3) := by decide +kernel
theorem dX6_tears_147 : decode cX6_tears 147 = .ok (.bipush (-5), 2) := by decide +kernel
theorem dX6_tears_149 : decode cX6_tears 149 = .ok (.ireturn, 1) := by decide +kernel
theorem dX6_wanted_0 : decode cX6_wanted 0 = .ok (.aload_n 0, 1) := by decide +kernel
theorem dX6_wanted_1 : decode cX6_wanted 1 = .ok (.getfield 12, 3) := by decide +kernel
theorem dX6_wanted_4 : decode cX6_wanted 4 = .ok (.iload_n 1, 1) := by decide +kernel
theorem dX6_wanted_5 : decode cX6_wanted 5 = .ok (.invokevirtual 126, 3) := by decide +kernel
theorem dX6_wanted_8 : decode cX6_wanted 8 = .ok (.ifCond .ne 5, 3) := by decide +kernel
theorem dX6_wanted_11 : decode cX6_wanted 11 = .ok (.iconst (-1), 1) := by decide +kernel
theorem dX6_wanted_12 : decode cX6_wanted 12 = .ok (.ireturn, 1) := by decide +kernel
theorem dX6_wanted_13 : decode cX6_wanted 13 = .ok (.aload_n 0, 1) := by decide +kernel
theorem dX6_wanted_14 : decode cX6_wanted 14 = .ok (.invokevirtual 116, 3) := by decide +kernel
theorem dX6_wanted_17 : decode cX6_wanted 17 = .ok (.iconst 0, 1) := by decide +kernel
theorem dX6_wanted_18 : decode cX6_wanted 18 = .ok (.istore_n 2, 1) := by decide +kernel
theorem dX6_wanted_19 : decode cX6_wanted 19 = .ok (.iconst 0, 1) := by decide +kernel
theorem dX6_wanted_20 : decode cX6_wanted 20 = .ok (.istore_n 3, 1) := by decide +kernel
theorem dX6_wanted_21 : decode cX6_wanted 21 = .ok (.iload_n 3, 1) := by decide +kernel
theorem dX6_wanted_22 : decode cX6_wanted 22 = .ok (.aload_n 0, 1) := by decide +kernel
theorem dX6_wanted_23 : decode cX6_wanted 23 = .ok (.getfield 12, 3) := by decide +kernel
theorem dX6_wanted_26 : decode cX6_wanted 26 = .ok (.getfield 92, 3) := by decide +kernel
theorem dX6_wanted_29 : decode cX6_wanted 29 = .ok (.if_icmp .ge 27, 3) := by decide +kernel
theorem dX6_wanted_32 : decode cX6_wanted 32 = .ok (.aload_n 0, 1) := by decide +kernel
theorem dX6_wanted_33 : decode cX6_wanted 33 = .ok (.getfield 18, 3) := by decide +kernel
theorem dX6_wanted_36 : decode cX6_wanted 36 = .ok (.iload_n 3, 1) := by decide +kernel
theorem dX6_wanted_37 : decode cX6_wanted 37 = .ok (.iload_n 1, 1) := by decide +kernel
theorem dX6_wanted_38 : decode cX6_wanted 38 = .ok (.invokevirtual 225, 3) := by decide +kernel
theorem dX6_wanted_41 : decode cX6_wanted 41 = .ok (.ifCond .eq 9, 3) := by decide +kernel
theorem dX6_wanted_44 : decode cX6_wanted 44 = .ok (.iload_n 2, 1) := by decide +kernel
theorem dX6_wanted_45 : decode cX6_wanted 45 = .ok (.iconst 1, 1) := by decide +kernel
theorem dX6_wanted_46 : decode cX6_wanted 46 = .ok (.iload_n 3, 1) := by decide +kernel
theorem dX6_wanted_47 : decode cX6_wanted 47 = .ok (.ishl, 1) := by decide +kernel
theorem dX6_wanted_48 : decode cX6_wanted 48 = .ok (.ior, 1) := by decide +kernel
theorem dX6_wanted_49 : decode cX6_wanted 49 = .ok (.istore_n 2, 1) := by decide +kernel
theorem dX6_wanted_50 : decode cX6_wanted 50 = .ok (.iinc 3 1, 3) := by decide +kernel
theorem dX6_wanted_53 : decode cX6_wanted 53 = .ok (.goto (-32), 3) := by decide +kernel
theorem dX6_wanted_56 : decode cX6_wanted 56 = .ok (.iload_n 2, 1) := by decide +kernel
theorem dX6_wanted_57 : decode cX6_wanted 57 = .ok (.ireturn, 1) := by decide +kernel
theorem dX6_swells_0 : decode cX6_swells 0 = .ok (.iload_n 1, 1) := by decide +kernel
theorem dX6_swells_1 : decode cX6_swells 1 = .ok (.invokestatic 165, 3) := by decide +kernel
theorem dX6_swells_4 : decode cX6_swells 4 = .ok (.ifCond .ne 7, 3) := by decide +kernel
theorem dX6_swells_7 : decode cX6_swells 7 = .ok (.sipush (-10002), 3) := by decide +kernel
theorem dX6_swells_10 : decode cX6_swells 10 = .ok (.ireturn, 1) := by decide +kernel
theorem dX6_swells_11 : decode cX6_swells 11 = .ok (.aload_n 0, 1) := by decide +kernel
theorem dX6_swells_12 : decode cX6_swells 12 = .ok (.iload_n 1, 1) := by decide +kernel
theorem dX6_swells_13 : decode cX6_swells 13 = .ok (.invokevirtual 171, 3) := by decide +kernel
theorem dX6_swells_16 : decode cX6_swells 16 = .ok (.pop, 1) := by decide +kernel
theorem dX6_swells_17 : decode cX6_swells 17 = .ok (.aload_n 0, 1) := by decide +kernel
theorem dX6_swells_18 : decode cX6_swells 18 = .ok (.getfield 18, 3) := by decide +kernel
theorem dX6_swells_21 : decode cX6_swells 21 = .ok (.invokevirtual 228, 3) := by decide +kernel
theorem dX6_swells_24 : decode cX6_swells 24 = .ok (.aload_n 0, 1) := by decide +kernel
theorem dX6_swells_25 : decode cX6_swells 25 = .ok (.getfield 12, 3) := by decide +kernel
theorem dX6_swells_28 : decode cX6_swells 28 = .ok (.invokevirtual 228, 3) := by decide +kernel
theorem dX6_swells_31 : decode cX6_swells 31 = .ok (.isub, 1) := by decide +kernel
theorem dX6_swells_32 : decode cX6_swells 32 = .ok (.ireturn, 1) := by decide +kernel
theorem dX6_see_0 : decode cX6_see 0 = .ok (.iload_n 1, 1) := by decide +kernel
theorem dX6_see_1 : decode cX6_see 1 = .ok (.iconst (-1), 1) := by decide +kernel
theorem dX6_see_2 : decode cX6_see 2 = .ok (.if_icmp .ne 13, 3) := by decide +kernel
theorem dX6_see_5 : decode cX6_see 5 = .ok (.aload_n 0, 1) := by decide +kernel
theorem dX6_see_6 : decode cX6_see 6 = .ok (.getfield 27, 3) := by decide +kernel
theorem dX6_see_9 : decode cX6_see 9 = .ok (.iconst 0, 1) := by decide +kernel
theorem dX6_see_10 : decode cX6_see 10 = .ok (.putfield 231, 3) := by decide +kernel
theorem dX6_see_13 : decode cX6_see 13 = .ok (.iconst 0, 1) := by decide +kernel
theorem dX6_see_14 : decode cX6_see 14 = .ok (.ireturn, 1) := by decide +kernel
theorem dX6_see_15 : decode cX6_see 15 = .ok (.aload_n 0, 1) := by decide +kernel
theorem dX6_see_16 : decode cX6_see 16 = .ok (.getfield 12, 3) := by decide +kernel
theorem dX6_see_19 : decode cX6_see 19 = .ok (.iload_n 1, 1) := by decide +kernel
theorem dX6_see_20 : decode cX6_see 20 = .ok (.invokevirtual 126, 3) := by decide +kernel
theorem dX6_see_23 : decode cX6_see 23 = .ok (.ifCond .ne 5, 3) := by decide +kernel
theorem dX6_see_26 : decode cX6_see 26 = .ok (.iconst (-1), 1) := by decide +kernel
theorem dX6_see_27 : decode cX6_see 27 = .ok (.ireturn, 1) := by decide +kernel
theorem dX6_see_28 : decode cX6_see 28 = .ok (.iload_n 2, 1) := by decide +kernel
theorem dX6_see_29 : decode cX6_see 29 = .ok (.ifCond .lt 9, 3) := by decide +kernel
theorem dX6_see_32 : decode cX6_see 32 = .ok (.iload_n 2, 1) := by decide +kernel
theorem dX6_see_33 : decode cX6_see 33 = .ok (.bipush 20, 2) := by decide +kernel
theorem dX6_see_35 : decode cX6_see 35 = .ok (.if_icmp .le 6, 3) := by decide +kernel
theorem dX6_see_38 : decode cX6_see 38 = .ok (.bipush (-2), 2) := by decide +kernel
theorem dX6_see_40 : decode cX6_see 40 = .ok (.ireturn, 1) := by decide +kernel
theorem dX6_see_41 : decode cX6_see 41 = .ok (.aload_n 0, 1) := by decide +kernel
theorem dX6_see_42 : decode cX6_see 42 = .ok (.getfield 27, 3) := by decide +kernel
theorem dX6_see_45 : decode cX6_see 45 = .ok (.getfield 231, 3) := by decide +kernel
theorem dX6_see_48 : decode cX6_see 48 = .ok (.bipush 6, 2) := by decide +kernel
theorem dX6_see_50 : decode cX6_see 50 = .ok (.if_icmp .lt 6, 3) := by decide +kernel
theorem dX6_see_53 : decode cX6_see 53 = .ok (.bipush (-4), 2) := by decide +kernel
theorem dX6_see_55 : decode cX6_see 55 = .ok (.ireturn, 1) := by decide +kernel
theorem dX6_see_56 : decode cX6_see 56 = .ok (.aload_n 0, 1) := by decide +kernel
theorem dX6_see_57 : decode cX6_see 57 = .ok (.getfield 27, 3) := by decide +kernel
theorem dX6_see_60 : decode cX6_see 60 = .ok (.getfield 234, 3) := by decide +kernel
theorem dX6_see_63 : decode cX6_see 63 = .ok (.aload_n 0, 1) := by decide +kernel
theorem dX6_see_64 : decode cX6_see 64 = .ok (.getfield 27, 3) := by decide +kernel
theorem dX6_see_67 : decode cX6_see 67 = .ok (.getfield 231, 3) := by decide +kernel
theorem dX6_see_70 : decode cX6_see 70 = .ok (.iload_n 1, 1) := by decide +kernel
theorem dX6_see_71 : decode cX6_see 71 = .ok (.invokestatic 60, 3) := by decide +kernel
theorem dX6_see_74 : decode cX6_see 74 = .ok (.aload_n 0, 1) := by decide +kernel
theorem dX6_see_75 : decode cX6_see 75 = .ok (.getfield 27, 3) := by decide +kernel
theorem dX6_see_78 : decode cX6_see 78 = .ok (.getfield 237, 3) := by decide +kernel
theorem dX6_see_81 : decode cX6_see 81 = .ok (.aload_n 0, 1) := by decide +kernel
theorem dX6_see_82 : decode cX6_see 82 = .ok (.getfield 27, 3) := by decide +kernel
theorem dX6_see_85 : decode cX6_see 85 = .ok (.getfield 231, 3) := by decide +kernel
theorem dX6_see_88 : decode cX6_see 88 = .ok (.iload_n 2, 1) := by decide +kernel
theorem dX6_see_89 : decode cX6_see 89 = .ok (.invokestatic 60, 3) := by decide +kernel
theorem dX6_see_92 : decode cX6_see 92 = .ok (.aload_n 0, 1) := by decide +kernel
theorem dX6_see_93 : decode cX6_see 93 = .ok (.getfield 27, 3) := by decide +kernel
theorem dX6_see_96 : decode cX6_see 96 = .ok (.getfield 240, 3) := by decide +kernel
theorem dX6_see_99 : decode cX6_see 99 = .ok (.aload_n 0, 1) := by decide +kernel
theorem dX6_see_100 : decode cX6_see 100 = .ok (.getfield 27, 3) := by decide +kernel
theorem dX6_see_103 : decode cX6_see 103 = .ok (.getfield 231, 3) := by decide +kernel
theorem dX6_see_106 : decode cX6_see 106 = .ok (.iload_n 3, 1) := by decide +kernel
theorem dX6_see_107 : decode cX6_see 107 = .ok (.ifCond .eq 7, 3) := by decide +kernel
theorem dX6_see_110 : decode cX6_see 110 = .ok (.iconst 1, 1) := by decide +kernel
theorem dX6_see_111 : decode cX6_see 111 = .ok (.goto 4, 3) := by decide +kernel
theorem dX6_see_114 : decode cX6_see 114 = .ok (.iconst 0, 1) := by decide +kernel
theorem dX6_see_115 : decode cX6_see 115 = .ok (.invokestatic 60, 3) := by decide +kernel
theorem dX6_see_118 : decode cX6_see 118 = .ok (.aload_n 0, 1) := by decide +kernel
theorem dX6_see_119 : decode cX6_see 119 = .ok (.getfield 27, 3) := by decide +kernel
theorem dX6_see_122 : decode cX6_see 122 = .ok (.dup, 1) := by decide +kernel
theorem dX6_see_123 : decode cX6_see 123 = .ok (.getfield 231, 3) := by decide +kernel
theorem dX6_see_126 : decode cX6_see 126 = .ok (.iconst 1, 1) := by decide +kernel
theorem dX6_see_127 : decode cX6_see 127 = .ok (.iadd, 1) := by decide +kernel
theorem dX6_see_128 : decode cX6_see 128 = .ok (.putfield 231, 3) := by decide +kernel
theorem dX6_see_131 : decode cX6_see 131 = .ok (.aload_n 0, 1) := by decide +kernel
theorem dX6_see_132 : decode cX6_see 132 = .ok (.getfield 27, 3) := by decide +kernel
theorem dX6_see_135 : decode cX6_see 135 = .ok (.getfield 231, 3) := by decide +kernel
theorem dX6_see_138 : decode cX6_see 138 = .ok (.ireturn, 1) := by decide +kernel
theorem dX6_had_0 : decode cX6_had 0 = .ok (.aload_n 0, 1) := by decide +kernel
theorem dX6_had_1 : decode cX6_had 1 = .ok (.getfield 12, 3) := by decide +kernel
theorem dX6_had_4 : decode cX6_had 4 = .ok (.iload_n 1, 1) := by decide +kernel
theorem dX6_had_5 : decode cX6_had 5 = .ok (.invokevirtual 99, 3) := by decide +kernel
theorem dX6_had_8 : decode cX6_had 8 = .ok (.ifCond .ne 5, 3) := by decide +kernel
theorem dX6_had_11 : decode cX6_had 11 = .ok (.iconst (-1), 1) := by decide +kernel
theorem dX6_had_12 : decode cX6_had 12 = .ok (.ireturn, 1) := by decide +kernel
theorem dX6_had_13 : decode cX6_had 13 = .ok (.aload_n 0, 1) := by decide +kernel
theorem dX6_had_14 : decode cX6_had 14 = .ok (.invokevirtual 116, 3) := by decide +kernel
theorem dX6_had_17 : decode cX6_had 17 = .ok (.iconst 0, 1) := by decide +kernel
theorem dX6_had_18 : decode cX6_had 18 = .ok (.istore_n 2, 1) := by decide +kernel
theorem dX6_had_19 : decode cX6_had 19 = .ok (.iconst 0, 1) := by decide +kernel
theorem dX6_had_20 : decode cX6_had 20 = .ok (.istore_n 3, 1) := by decide +kernel
theorem dX6_had_21 : decode cX6_had 21 = .ok (.iload_n 3, 1) := by decide +kernel
theorem dX6_had_22 : decode cX6_had 22 = .ok (.aload_n 0, 1) := by decide +kernel
theorem dX6_had_23 : decode cX6_had 23 = .ok (.getfield 12, 3) := by decide +kernel
theorem dX6_had_26 : decode cX6_had 26 = .ok (.getfield 86, 3) := by decide +kernel
theorem dX6_had_29 : decode cX6_had 29 = .ok (.if_icmp .ge 42, 3) := by decide +kernel
theorem dX6_had_32 : decode cX6_had 32 = .ok (.aload_n 0, 1) := by decide +kernel
theorem dX6_had_33 : decode cX6_had 33 = .ok (.getfield 18, 3) := by decide +kernel
theorem dX6_had_36 : decode cX6_had 36 = .ok (.aload_n 0, 1) := by decide +kernel
theorem dX6_had_37 : decode cX6_had 37 = .ok (.getfield 12, 3) := by decide +kernel
theorem dX6_had_40 : decode cX6_had 40 = .ok (.invokevirtual 243, 3) := by decide +kernel
theorem dX6_had_43 : decode cX6_had 43 = .ok (.aload_n 0, 1) := by decide +kernel
theorem dX6_had_44 : decode cX6_had 44 = .ok (.getfield 18, 3) := by decide +kernel
theorem dX6_had_47 : decode cX6_had 47 = .ok (.iload_n 1, 1) := by decide +kernel
theorem dX6_had_48 : decode cX6_had 48 = .ok (.iload_n 3, 1) := by decide +kernel
theorem dX6_had_49 : decode cX6_had 49 = .ok (.invokevirtual 246, 3) := by decide +kernel
theorem dX6_had_52 : decode cX6_had 52 = .ok (.aload_n 0, 1) := by decide +kernel
theorem dX6_had_53 : decode cX6_had 53 = .ok (.invokevirtual 249, 3) := by decide +kernel
theorem dX6_had_56 : decode cX6_had 56 = .ok (.ifCond .eq 9, 3) := by decide +kernel
theorem dX6_had_59 : decode cX6_had 59 = .ok (.iload_n 2, 1) := by decide +kernel
theorem dX6_had_60 : decode cX6_had 60 = .ok (.iconst 1, 1) := by decide +kernel
theorem dX6_had_61 : decode cX6_had 61 = .ok (.iload_n 3, 1) := by decide +kernel
theorem dX6_had_62 : decode cX6_had 62 = .ok (.ishl, 1) := by decide +kernel
theorem dX6_had_63 : decode cX6_had 63 = .ok (.ior, 1) := by decide +kernel
theorem dX6_had_64 : decode cX6_had 64 = .ok (.istore_n 2, 1) := by decide +kernel
theorem dX6_had_65 : decode cX6_had 65 = .ok (.iinc 3 1, 3) := by decide +kernel
theorem dX6_had_68 : decode cX6_had 68 = .ok (.goto (-47), 3) := by decide +kernel
theorem dX6_had_71 : decode cX6_had 71 = .ok (.iload_n 2, 1) := by decide +kernel
theorem dX6_had_72 : decode cX6_had 72 = .ok (.ireturn, 1) := by decide +kernel
theorem dX6_firm_0 : decode cX6_firm 0 = .ok (.aload_n 0, 1) := by decide +kernel
theorem dX6_firm_1 : decode cX6_firm 1 = .ok (.getfield 12, 3) := by decide +kernel
theorem dX6_firm_4 : decode cX6_firm 4 = .ok (.iload_n 1, 1) := by decide +kernel
theorem dX6_firm_5 : decode cX6_firm 5 = .ok (.invokevirtual 99, 3) := by decide +kernel
theorem dX6_firm_8 : decode cX6_firm 8 = .ok (.ifCond .eq 12, 3) := by decide +kernel
theorem dX6_firm_11 : decode cX6_firm 11 = .ok (.iload_n 2, 1) := by decide +kernel
theorem dX6_firm_12 : decode cX6_firm 12 = .ok (.ifCond .lt 8, 3) := by decide +kernel
theorem dX6_firm_15 : decode cX6_firm 15 = .ok (.iload_n 2, 1) := by decide +kernel
theorem dX6_firm_16 : decode cX6_firm 16 = .ok (.iconst 1, 1) := by decide +kernel
theorem dX6_firm_17 : decode cX6_firm 17 = .ok (.if_icmp .le 5, 3) := by decide +kernel
theorem dX6_firm_20 : decode cX6_firm 20 = .ok (.iconst (-1), 1) := by decide +kernel
theorem dX6_firm_21 : decode cX6_firm 21 = .ok (.ireturn, 1) := by decide +kernel
theorem dX6_firm_22 : decode cX6_firm 22 = .ok (.aload_n 0, 1) := by decide +kernel
theorem dX6_firm_23 : decode cX6_firm 23 = .ok (.invokevirtual 116, 3) := by decide +kernel
theorem dX6_firm_26 : decode cX6_firm 26 = .ok (.iconst 0, 1) := by decide +kernel
theorem dX6_firm_27 : decode cX6_firm 27 = .ok (.istore_n 3, 1) := by decide +kernel
theorem dX6_firm_28 : decode cX6_firm 28 = .ok (.bipush (-5), 2) := by decide +kernel
theorem dX6_firm_30 : decode cX6_firm 30 = .ok (.istore 4, 2) := by decide +kernel
theorem dX6_firm_32 : decode cX6_firm 32 = .ok (.bipush 9, 2) := by decide +kernel
theorem dX6_firm_34 : decode cX6_firm 34 = .ok (.istore 5, 2) := by decide +kernel
theorem dX6_firm_36 : decode cX6_firm 36 = .ok (.iload 5, 2) := by decide +kernel
theorem dX6_firm_38 : decode cX6_firm 38 = .ok (.ifCond .lt 54, 3) := by decide +kernel
theorem dX6_firm_41 : decode cX6_firm 41 = .ok (.aload_n 0, 1) := by decide +kernel
theorem dX6_firm_42 : decode cX6_firm 42 = .ok (.getfield 18, 3) := by decide +kernel
theorem dX6_firm_45 : decode cX6_firm 45 = .ok (.aload_n 0, 1) := by decide +kernel
theorem dX6_firm_46 : decode cX6_firm 46 = .ok (.getfield 12, 3) := by decide +kernel
theorem dX6_firm_49 : decode cX6_firm 49 = .ok (.invokevirtual 243, 3) := by decide +kernel
theorem dX6_firm_52 : decode cX6_firm 52 = .ok (.aload_n 0, 1) := by decide +kernel
theorem dX6_firm_53 : decode cX6_firm 53 = .ok (.getfield 18, 3) := by decide +kernel
theorem dX6_firm_56 : decode cX6_firm 56 = .ok (.getfield 110, 3) := by decide +kernel
theorem dX6_firm_59 : decode cX6_firm 59 = .ok (.iload_n 1, 1) := by decide +kernel
theorem dX6_firm_60 : decode cX6_firm 60 = .ok (.iload 5, 2) := by decide +kernel
theorem dX6_firm_62 : decode cX6_firm 62 = .ok (.invokestatic 60, 3) := by decide +kernel
theorem dX6_firm_65 : decode cX6_firm 65 = .ok (.aload_n 0, 1) := by decide +kernel
theorem dX6_firm_66 : decode cX6_firm 66 = .ok (.getfield 18, 3) := by decide +kernel
theorem dX6_firm_69 : decode cX6_firm 69 = .ok (.invokevirtual 155, 3) := by decide +kernel
theorem dX6_firm_72 : decode cX6_firm 72 = .ok (.aload_n 0, 1) := by decide +kernel
theorem dX6_firm_73 : decode cX6_firm 73 = .ok (.invokevirtual 249, 3) := by decide +kernel
theorem dX6_firm_76 : decode cX6_firm 76 = .ok (.ifCond .eq 10, 3) := by decide +kernel
theorem dX6_firm_79 : decode cX6_firm 79 = .ok (.iinc 3 1, 3) := by decide +kernel
theorem dX6_firm_82 : decode cX6_firm 82 = .ok (.iload 5, 2) := by decide +kernel
theorem dX6_firm_84 : decode cX6_firm 84 = .ok (.istore 4, 2) := by decide +kernel
theorem dX6_firm_86 : decode cX6_firm 86 = .ok (.iinc 5 (-1), 3) := by decide +kernel
theorem dX6_firm_89 : decode cX6_firm 89 = .ok (.goto (-53), 3) := by decide +kernel
theorem dX6_firm_92 : decode cX6_firm 92 = .ok (.iload_n 2, 1) := by decide +kernel
theorem dX6_firm_93 : decode cX6_firm 93 = .ok (.ifCond .ne 7, 3) := by decide +kernel
theorem dX6_firm_96 : decode cX6_firm 96 = .ok (.iload_n 3, 1) := by decide +kernel
theorem dX6_firm_97 : decode cX6_firm 97 = .ok (.goto 5, 3) := by decide +kernel
theorem dX6_firm_100 : decode cX6_firm 100 = .ok (.iload 4, 2) := by decide +kernel
theorem dX6_firm_102 : decode cX6_firm 102 = .ok (.ireturn, 1) := by decide +kernel
theorem dX6_odds_0 : decode cX6_odds 0 = .ok (.aload_n 0, 1) := by decide +kernel
theorem dX6_odds_1 : decode cX6_odds 1 = .ok (.getfield 12, 3) := by decide +kernel
theorem dX6_odds_4 : decode cX6_odds 4 = .ok (.iload_n 1, 1) := by decide +kernel
theorem dX6_odds_5 : decode cX6_odds 5 = .ok (.invokevirtual 126, 3) := by decide +kernel
theorem dX6_odds_8 : decode cX6_odds 8 = .ok (.ifCond .eq 22, 3) := by decide +kernel
theorem dX6_odds_11 : decode cX6_odds 11 = .ok (.iload_n 2, 1) := by decide +kernel
theorem dX6_odds_12 : decode cX6_odds 12 = .ok (.ifCond .lt 18, 3) := by decide +kernel
theorem dX6_odds_15 : decode cX6_odds 15 = .ok (.iload_n 2, 1) := by decide +kernel
theorem dX6_odds_16 : decode cX6_odds 16 = .ok (.iconst 1, 1) := by decide +kernel
theorem dX6_odds_17 : decode cX6_odds 17 = .ok (.if_icmp .gt 13, 3) := by decide +kernel
theorem dX6_odds_20 : decode cX6_odds 20 = .ok (.aload_n 0, 1) := by decide +kernel
theorem dX6_odds_21 : decode cX6_odds 21 = .ok (.getfield 12, 3) := by decide +kernel
theorem dX6_odds_24 : decode cX6_odds 24 = .ok (.getfield 92, 3) := by decide +kernel
theorem dX6_odds_27 : decode cX6_odds 27 = .ok (.ifCond .ne 7, 3) := by decide +kernel
theorem dX6_odds_30 : decode cX6_odds 30 = .ok (.ldc2_w 252, 3) := by decide +kernel
theorem dX6_odds_33 : decode cX6_odds 33 = .ok (.lreturn, 1) := by decide +kernel
theorem dX6_odds_34 : decode cX6_odds 34 = .ok (.aload_n 0, 1) := by decide +kernel
theorem dX6_odds_35 : decode cX6_odds 35 = .ok (.invokevirtual 116, 3) := by decide +kernel
theorem dX6_odds_38 : decode cX6_odds 38 = .ok (.iconst 0, 1) := by decide +kernel
theorem dX6_odds_39 : decode cX6_odds 39 = .ok (.istore_n 3, 1) := by decide +kernel
theorem dX6_odds_40 : decode cX6_odds 40 = .ok (.iconst 0, 1) := by decide +kernel
theorem dX6_odds_41 : decode cX6_odds 41 = .ok (.istore 4, 2) := by decide +kernel
theorem dX6_odds_43 : decode cX6_odds 43 = .ok (.iload 4, 2) := by decide +kernel
theorem dX6_odds_45 : decode cX6_odds 45 = .ok (.aload_n 0, 1) := by decide +kernel
theorem dX6_odds_46 : decode cX6_odds 46 = .ok (.getfield 12, 3) := by decide +kernel
theorem dX6_odds_49 : decode cX6_odds 49 = .ok (.getfield 92, 3) := by decide +kernel
theorem dX6_odds_52 : decode cX6_odds 52 = .ok (.if_icmp .ge 46, 3) := by decide +kernel
theorem dX6_odds_55 : decode cX6_odds 55 = .ok (.aload_n 0, 1) := by decide +kernel
theorem dX6_odds_56 : decode cX6_odds 56 = .ok (.getfield 18, 3) := by decide +kernel
theorem dX6_odds_59 : decode cX6_odds 59 = .ok (.aload_n 0, 1) := by decide +kernel
theorem dX6_odds_60 : decode cX6_odds 60 = .ok (.getfield 12, 3) := by decide +kernel
theorem dX6_odds_63 : decode cX6_odds 63 = .ok (.invokevirtual 243, 3) := by decide +kernel
theorem dX6_odds_66 : decode cX6_odds 66 = .ok (.aload_n 0, 1) := by decide +kernel
theorem dX6_odds_67 : decode cX6_odds 67 = .ok (.getfield 18, 3) := by decide +kernel
theorem dX6_odds_70 : decode cX6_odds 70 = .ok (.iload 4, 2) := by decide +kernel
theorem dX6_odds_72 : decode cX6_odds 72 = .ok (.invokevirtual 158, 3) := by decide +kernel
theorem dX6_odds_75 : decode cX6_odds 75 = .ok (.pop, 1) := by decide +kernel
theorem dX6_odds_76 : decode cX6_odds 76 = .ok (.aload_n 0, 1) := by decide +kernel
theorem dX6_odds_77 : decode cX6_odds 77 = .ok (.getfield 18, 3) := by decide +kernel
theorem dX6_odds_80 : decode cX6_odds 80 = .ok (.iload_n 1, 1) := by decide +kernel
theorem dX6_odds_81 : decode cX6_odds 81 = .ok (.invokevirtual 133, 3) := by decide +kernel
theorem dX6_odds_84 : decode cX6_odds 84 = .ok (.bipush (-5), 2) := by decide +kernel
theorem dX6_odds_86 : decode cX6_odds 86 = .ok (.if_icmp .ne 6, 3) := by decide +kernel
theorem dX6_odds_89 : decode cX6_odds 89 = .ok (.iinc 3 1, 3) := by decide +kernel
theorem dX6_odds_92 : decode cX6_odds 92 = .ok (.iinc 4 1, 3) := by decide +kernel
theorem dX6_odds_95 : decode cX6_odds 95 = .ok (.goto (-52), 3) := by decide +kernel
theorem dX6_odds_98 : decode cX6_odds 98 = .ok (.iload_n 3, 1) := by decide +kernel
theorem dX6_odds_99 : decode cX6_odds 99 = .ok (.aload_n 0, 1) := by decide +kernel
theorem dX6_odds_100 : decode cX6_odds 100 = .ok (.getfield 12, 3) := by decide +kernel
theorem dX6_odds_103 : decode cX6_odds 103 = .ok (.getfield 92, 3) := by decide +kernel
theorem dX6_odds_106 : decode cX6_odds 106 = .ok (.iload_n 2, 1) := by decide +kernel
theorem dX6_odds_107 : decode cX6_odds 107 = .ok (.invokestatic 254, 3) := by decide +kernel
theorem dX6_odds_110 : decode cX6_odds 110 = .ok (.lreturn, 1) := by decide +kernel
theorem dX6_mean_0 : decode cX6_mean 0 = .ok (.iload_n 1, 1) := by decide +kernel
theorem dX6_mean_1 : decode cX6_mean 1 = .ok (.invokestatic 165, 3) := by decide +kernel
theorem dX6_mean_4 : decode cX6_mean 4 = .ok (.ifCond .eq 12, 3) := by decide +kernel
theorem dX6_mean_7 : decode cX6_mean 7 = .ok (.iload_n 2, 1) := by decide +kernel
theorem dX6_mean_8 : decode cX6_mean 8 = .ok (.ifCond .lt 8, 3) := by decide +kernel
theorem dX6_mean_11 : decode cX6_mean 11 = .ok (.iload_n 2, 1) := by decide +kernel
theorem dX6_mean_12 : decode cX6_mean 12 = .ok (.iconst 1, 1) := by decide +kernel
theorem dX6_mean_13 : decode cX6_mean 13 = .ok (.if_icmp .le 7, 3) := by decide +kernel
theorem dX6_mean_16 : decode cX6_mean 16 = .ok (.ldc2_w 252, 3) := by decide +kernel
theorem dX6_mean_19 : decode cX6_mean 19 = .ok (.lreturn, 1) := by decide +kernel
theorem dX6_mean_20 : decode cX6_mean 20 = .ok (.aload_n 0, 1) := by decide +kernel
theorem dX6_mean_21 : decode cX6_mean 21 = .ok (.iload_n 1, 1) := by decide +kernel
theorem dX6_mean_22 : decode cX6_mean 22 = .ok (.invokevirtual 171, 3) := by decide +kernel
theorem dX6_mean_25 : decode cX6_mean 25 = .ok (.pop, 1) := by decide +kernel
theorem dX6_mean_26 : decode cX6_mean 26 = .ok (.aload_n 0, 1) := by decide +kernel
theorem dX6_mean_27 : decode cX6_mean 27 = .ok (.getfield 18, 3) := by decide +kernel
theorem dX6_mean_30 : decode cX6_mean 30 = .ok (.invokevirtual 152, 3) := by decide +kernel
theorem dX6_mean_33 : decode cX6_mean 33 = .ok (.invokestatic 258, 3) := by decide +kernel
theorem dX6_mean_36 : decode cX6_mean 36 = .ok (.istore_n 3, 1) := by decide +kernel
theorem dX6_mean_37 : decode cX6_mean 37 = .ok (.iload_n 3, 1) := by decide +kernel
theorem dX6_mean_38 : decode cX6_mean 38 = .ok (.ifCond .ne 9, 3) := by decide +kernel
theorem dX6_mean_41 : decode cX6_mean 41 = .ok (.ldc2_w 252, 3) := by decide +kernel
theorem dX6_mean_44 : decode cX6_mean 44 = .ok (.goto 15, 3) := by decide +kernel
theorem dX6_mean_47 : decode cX6_mean 47 = .ok (.aload_n 0, 1) := by decide +kernel
theorem dX6_mean_48 : decode cX6_mean 48 = .ok (.getfield 18, 3) := by decide +kernel
theorem dX6_mean_51 : decode cX6_mean 51 = .ok (.invokevirtual 228, 3) := by decide +kernel
theorem dX6_mean_54 : decode cX6_mean 54 = .ok (.iload_n 3, 1) := by decide +kernel
theorem dX6_mean_55 : decode cX6_mean 55 = .ok (.iload_n 2, 1) := by decide +kernel
theorem dX6_mean_56 : decode cX6_mean 56 = .ok (.invokestatic 254, 3) := by decide +kernel
theorem dX6_mean_59 : decode cX6_mean 59 = .ok (.lreturn, 1) := by decide +kernel
theorem dX6_plan_0 : decode cX6_plan 0 = .ok (.iload_n 1, 1) := by decide +kernel
theorem dX6_plan_1 : decode cX6_plan 1 = .ok (.iconst (-1), 1) := by decide +kernel
theorem dX6_plan_2 : decode cX6_plan 2 = .ok (.if_icmp .ne 13, 3) := by decide +kernel
theorem dX6_plan_5 : decode cX6_plan 5 = .ok (.aload_n 0, 1) := by decide +kernel
theorem dX6_plan_6 : decode cX6_plan 6 = .ok (.getfield 27, 3) := by decide +kernel
theorem dX6_plan_9 : decode cX6_plan 9 = .ok (.iconst 0, 1) := by decide +kernel
theorem dX6_plan_10 : decode cX6_plan 10 = .ok (.putfield 263, 3) := by decide +kernel
theorem dX6_plan_13 : decode cX6_plan 13 = .ok (.iconst 0, 1) := by decide +kernel
theorem dX6_plan_14 : decode cX6_plan 14 = .ok (.ireturn, 1) := by decide +kernel
theorem dX6_plan_15 : decode cX6_plan 15 = .ok (.iload_n 1, 1) := by decide +kernel
theorem dX6_plan_16 : decode cX6_plan 16 = .ok (.ifCond .lt 24, 3) := by decide +kernel
theorem dX6_plan_19 : decode cX6_plan 19 = .ok (.iload_n 1, 1) := by decide +kernel
theorem dX6_plan_20 : decode cX6_plan 20 = .ok (.iconst 3, 1) := by decide +kernel
theorem dX6_plan_21 : decode cX6_plan 21 = .ok (.if_icmp .gt 19, 3) := by decide +kernel
theorem dX6_plan_24 : decode cX6_plan 24 = .ok (.iload_n 1, 1) := by decide +kernel
theorem dX6_plan_25 : decode cX6_plan 25 = .ok (.iconst 3, 1) := by decide +kernel
theorem dX6_plan_26 : decode cX6_plan 26 = .ok (.if_icmp .eq 16, 3) := by decide +kernel
theorem dX6_plan_29 : decode cX6_plan 29 = .ok (.aload_n 0, 1) := by decide +kernel
theorem dX6_plan_30 : decode cX6_plan 30 = .ok (.getfield 12, 3) := by decide +kernel
theorem dX6_plan_33 : decode cX6_plan 33 = .ok (.iload_n 2, 1) := by decide +kernel
theorem dX6_plan_34 : decode cX6_plan 34 = .ok (.invokevirtual 99, 3) := by decide +kernel
theorem dX6_plan_37 : decode cX6_plan 37 = .ok (.ifCond .ne 5, 3) := by decide +kernel
theorem dX6_plan_40 : decode cX6_plan 40 = .ok (.iconst (-1), 1) := by decide +kernel
theorem dX6_plan_41 : decode cX6_plan 41 = .ok (.ireturn, 1) := by decide +kernel
theorem dX6_plan_42 : decode cX6_plan 42 = .ok (.aload_n 0, 1) := by decide +kernel
theorem dX6_plan_43 : decode cX6_plan 43 = .ok (.getfield 27, 3) := by decide +kernel
theorem dX6_plan_46 : decode cX6_plan 46 = .ok (.getfield 263, 3) := by decide +kernel
theorem dX6_plan_49 : decode cX6_plan 49 = .ok (.bipush 8, 2) := by decide +kernel
theorem dX6_plan_51 : decode cX6_plan 51 = .ok (.if_icmp .lt 6, 3) := by decide +kernel
theorem dX6_plan_54 : decode cX6_plan 54 = .ok (.bipush (-4), 2) := by decide +kernel
theorem dX6_plan_56 : decode cX6_plan 56 = .ok (.ireturn, 1) := by decide +kernel
theorem dX6_plan_57 : decode cX6_plan 57 = .ok (.aload_n 0, 1) := by decide +kernel
theorem dX6_plan_58 : decode cX6_plan 58 = .ok (.getfield 27, 3) := by decide +kernel
theorem dX6_plan_61 : decode cX6_plan 61 = .ok (.getfield 266, 3) := by decide +kernel
theorem dX6_plan_64 : decode cX6_plan 64 = .ok (.aload_n 0, 1) := by decide +kernel
theorem dX6_plan_65 : decode cX6_plan 65 = .ok (.getfield 27, 3) := by decide +kernel
theorem dX6_plan_68 : decode cX6_plan 68 = .ok (.getfield 263, 3) := by decide +kernel
theorem dX6_plan_71 : decode cX6_plan 71 = .ok (.iload_n 1, 1) := by decide +kernel
theorem dX6_plan_72 : decode cX6_plan 72 = .ok (.invokestatic 60, 3) := by decide +kernel
theorem dX6_plan_75 : decode cX6_plan 75 = .ok (.aload_n 0, 1) := by decide +kernel
theorem dX6_plan_76 : decode cX6_plan 76 = .ok (.getfield 27, 3) := by decide +kernel
theorem dX6_plan_79 : decode cX6_plan 79 = .ok (.getfield 269, 3) := by decide +kernel
theorem dX6_plan_82 : decode cX6_plan 82 = .ok (.aload_n 0, 1) := by decide +kernel
theorem dX6_plan_83 : decode cX6_plan 83 = .ok (.getfield 27, 3) := by decide +kernel
theorem dX6_plan_86 : decode cX6_plan 86 = .ok (.getfield 263, 3) := by decide +kernel
theorem dX6_plan_89 : decode cX6_plan 89 = .ok (.iload_n 2, 1) := by decide +kernel
theorem dX6_plan_90 : decode cX6_plan 90 = .ok (.invokestatic 60, 3) := by decide +kernel
theorem dX6_plan_93 : decode cX6_plan 93 = .ok (.aload_n 0, 1) := by decide +kernel
theorem dX6_plan_94 : decode cX6_plan 94 = .ok (.getfield 27, 3) := by decide +kernel
theorem dX6_plan_97 : decode cX6_plan 97 = .ok (.dup, 1) := by decide +kernel
theorem dX6_plan_98 : decode cX6_plan 98 = .ok (.getfield 263, 3) := by decide +kernel
theorem dX6_plan_101 : decode cX6_plan 101 = .ok (.iconst 1, 1) := by decide +kernel
theorem dX6_plan_102 : decode cX6_plan 102 = .ok (.iadd, 1) := by decide +kernel
theorem dX6_plan_103 : decode cX6_plan 103 = .ok (.putfield 263, 3) := by decide +kernel
theorem dX6_plan_106 : decode cX6_plan 106 = .ok (.aload_n 0, 1) := by decide +kernel
theorem dX6_plan_107 : decode cX6_plan 107 = .ok (.getfield 27, 3) := by decide +kernel
theorem dX6_plan_110 : decode cX6_plan 110 = .ok (.getfield 263, 3) := by decide +kernel
theorem dX6_plan_113 : decode cX6_plan 113 = .ok (.ireturn, 1) := by decide +kernel
theorem dX6_done_0 : decode cX6_done 0 = .ok (.iload_n 1, 1) := by decide +kernel
theorem dX6_done_1 : decode cX6_done 1 = .ok (.ifCond .lt 8, 3) := by decide +kernel
theorem dX6_done_4 : decode cX6_done 4 = .ok (.iload_n 1, 1) := by decide +kernel
theorem dX6_done_5 : decode cX6_done 5 = .ok (.iconst 1, 1) := by decide +kernel
theorem dX6_done_6 : decode cX6_done 6 = .ok (.if_icmp .le 7, 3) := by decide +kernel
theorem dX6_done_9 : decode cX6_done 9 = .ok (.sipush (-10001), 3) := by decide +kernel
theorem dX6_done_12 : decode cX6_done 12 = .ok (.ireturn, 1) := by decide +kernel
theorem dX6_done_13 : decode cX6_done 13 = .ok (.aload_n 0, 1) := by decide +kernel
theorem dX6_done_14 : decode cX6_done 14 = .ok (.invokevirtual 116, 3) := by decide +kernel
theorem dX6_done_17 : decode cX6_done 17 = .ok (.iconst 0, 1) := by decide +kernel
theorem dX6_done_18 : decode cX6_done 18 = .ok (.istore_n 2, 1) := by decide +kernel
theorem dX6_done_19 : decode cX6_done 19 = .ok (.iload_n 2, 1) := by decide +kernel
theorem dX6_done_20 : decode cX6_done 20 = .ok (.aload_n 0, 1) := by decide +kernel
theorem dX6_done_21 : decode cX6_done 21 = .ok (.getfield 27, 3) := by decide +kernel
theorem dX6_done_24 : decode cX6_done 24 = .ok (.getfield 263, 3) := by decide +kernel
theorem dX6_done_27 : decode cX6_done 27 = .ok (.if_icmp .ge 35, 3) := by decide +kernel
theorem dX6_done_30 : decode cX6_done 30 = .ok (.aload_n 0, 1) := by decide +kernel
theorem dX6_done_31 : decode cX6_done 31 = .ok (.aload_n 0, 1) := by decide +kernel
theorem dX6_done_32 : decode cX6_done 32 = .ok (.getfield 27, 3) := by decide +kernel
theorem dX6_done_35 : decode cX6_done 35 = .ok (.getfield 266, 3) := by decide +kernel
theorem dX6_done_38 : decode cX6_done 38 = .ok (.iload_n 2, 1) := by decide +kernel
theorem dX6_done_39 : decode cX6_done 39 = .ok (.invokestatic 106, 3) := by decide +kernel
theorem dX6_done_42 : decode cX6_done 42 = .ok (.aload_n 0, 1) := by decide +kernel
theorem dX6_done_43 : decode cX6_done 43 = .ok (.getfield 27, 3) := by decide +kernel
theorem dX6_done_46 : decode cX6_done 46 = .ok (.getfield 269, 3) := by decide +kernel
theorem dX6_done_49 : decode cX6_done 49 = .ok (.iload_n 2, 1) := by decide +kernel
theorem dX6_done_50 : decode cX6_done 50 = .ok (.invokestatic 106, 3) := by decide +kernel
theorem dX6_done_53 : decode cX6_done 53 = .ok (.invokevirtual 272, 3) := by decide +kernel
theorem dX6_done_56 : decode cX6_done 56 = .ok (.iinc 2 1, 3) := by decide +kernel
theorem dX6_done_59 : decode cX6_done 59 = .ok (.goto (-40), 3) := by decide +kernel
theorem dX6_done_62 : decode cX6_done 62 = .ok (.iload_n 1, 1) := by decide +kernel
theorem dX6_done_63 : decode cX6_done 63 = .ok (.ifCond .ne 13, 3) := by decide +kernel
theorem dX6_done_66 : decode cX6_done 66 = .ok (.aload_n 0, 1) := by decide +kernel
theorem dX6_done_67 : decode cX6_done 67 = .ok (.getfield 18, 3) := by decide +kernel
theorem dX6_done_70 : decode cX6_done 70 = .ok (.invokevirtual 148, 3) := by decide +kernel
theorem dX6_done_73 : decode cX6_done 73 = .ok (.goto 10, 3) := by decide +kernel
theorem dX6_done_76 : decode cX6_done 76 = .ok (.aload_n 0, 1) := by decide +kernel
theorem dX6_done_77 : decode cX6_done 77 = .ok (.getfield 18, 3) := by decide +kernel
theorem dX6_done_80 : decode cX6_done 80 = .ok (.invokevirtual 152, 3) := by decide +kernel
theorem dX6_done_83 : decode cX6_done 83 = .ok (.ireturn, 1) := by decide +kernel
theorem dX6_note_0 : decode cX6_note 0 = .ok (.iload_n 1, 1) := by decide +kernel
theorem dX6_note_1 : decode cX6_note 1 = .ok (.iconst (-1), 1) := by decide +kernel
theorem dX6_note_2 : decode cX6_note 2 = .ok (.if_icmp .ne 13, 3) := by decide +kernel
theorem dX6_note_5 : decode cX6_note 5 = .ok (.aload_n 0, 1) := by decide +kernel
theorem dX6_note_6 : decode cX6_note 6 = .ok (.getfield 27, 3) := by decide +kernel
theorem dX6_note_9 : decode cX6_note 9 = .ok (.iconst 0, 1) := by decide +kernel
theorem dX6_note_10 : decode cX6_note 10 = .ok (.putfield 275, 3) := by decide +kernel
theorem dX6_note_13 : decode cX6_note 13 = .ok (.iconst 0, 1) := by decide +kernel
theorem dX6_note_14 : decode cX6_note 14 = .ok (.ireturn, 1) := by decide +kernel
theorem dX6_note_15 : decode cX6_note 15 = .ok (.aload_n 0, 1) := by decide +kernel
theorem dX6_note_16 : decode cX6_note 16 = .ok (.getfield 12, 3) := by decide +kernel
theorem dX6_note_19 : decode cX6_note 19 = .ok (.iload_n 1, 1) := by decide +kernel
theorem dX6_note_20 : decode cX6_note 20 = .ok (.invokevirtual 99, 3) := by decide +kernel
theorem dX6_note_23 : decode cX6_note 23 = .ok (.ifCond .eq 14, 3) := by decide +kernel
theorem dX6_note_26 : decode cX6_note 26 = .ok (.aload_n 0, 1) := by decide +kernel
theorem dX6_note_27 : decode cX6_note 27 = .ok (.getfield 12, 3) := by decide +kernel
theorem dX6_note_30 : decode cX6_note 30 = .ok (.iload_n 2, 1) := by decide +kernel
theorem dX6_note_31 : decode cX6_note 31 = .ok (.invokevirtual 126, 3) := by decide +kernel
theorem dX6_note_34 : decode cX6_note 34 = .ok (.ifCond .ne 5, 3) := by decide +kernel
theorem dX6_note_37 : decode cX6_note 37 = .ok (.iconst (-1), 1) := by decide +kernel
theorem dX6_note_38 : decode cX6_note 38 = .ok (.ireturn, 1) := by decide +kernel
theorem dX6_note_39 : decode cX6_note 39 = .ok (.aload_n 0, 1) := by decide +kernel
theorem dX6_note_40 : decode cX6_note 40 = .ok (.getfield 27, 3) := by decide +kernel
theorem dX6_note_43 : decode cX6_note 43 = .ok (.getfield 275, 3) := by decide +kernel
theorem dX6_note_46 : decode cX6_note 46 = .ok (.bipush 8, 2) := by decide +kernel
theorem dX6_note_48 : decode cX6_note 48 = .ok (.if_icmp .lt 6, 3) := by decide +kernel
theorem dX6_note_51 : decode cX6_note 51 = .ok (.bipush (-4), 2) := by decide +kernel
theorem dX6_note_53 : decode cX6_note 53 = .ok (.ireturn, 1) := by decide +kernel
theorem dX6_note_54 : decode cX6_note 54 = .ok (.aload_n 0, 1) := by decide +kernel
theorem dX6_note_55 : decode cX6_note 55 = .ok (.getfield 27, 3) := by decide +kernel
theorem dX6_note_58 : decode cX6_note 58 = .ok (.getfield 278, 3) := by decide +kernel
theorem dX6_note_61 : decode cX6_note 61 = .ok (.aload_n 0, 1) := by decide +kernel
theorem dX6_note_62 : decode cX6_note 62 = .ok (.getfield 27, 3) := by decide +kernel
theorem dX6_note_65 : decode cX6_note 65 = .ok (.getfield 275, 3) := by decide +kernel
theorem dX6_note_68 : decode cX6_note 68 = .ok (.iload_n 1, 1) := by decide +kernel
theorem dX6_note_69 : decode cX6_note 69 = .ok (.invokestatic 60, 3) := by decide +kernel
theorem dX6_note_72 : decode cX6_note 72 = .ok (.aload_n 0, 1) := by decide +kernel
theorem dX6_note_73 : decode cX6_note 73 = .ok (.getfield 27, 3) := by decide +kernel
theorem dX6_note_76 : decode cX6_note 76 = .ok (.getfield 281, 3) := by decide +kernel
theorem dX6_note_79 : decode cX6_note 79 = .ok (.aload_n 0, 1) := by decide +kernel
theorem dX6_note_80 : decode cX6_note 80 = .ok (.getfield 27, 3) := by decide +kernel
theorem dX6_note_83 : decode cX6_note 83 = .ok (.getfield 275, 3) := by decide +kernel
theorem dX6_note_86 : decode cX6_note 86 = .ok (.iload_n 2, 1) := by decide +kernel
theorem dX6_note_87 : decode cX6_note 87 = .ok (.invokestatic 60, 3) := by decide +kernel
theorem dX6_note_90 : decode cX6_note 90 = .ok (.aload_n 0, 1) := by decide +kernel
theorem dX6_note_91 : decode cX6_note 91 = .ok (.getfield 27, 3) := by decide +kernel
theorem dX6_note_94 : decode cX6_note 94 = .ok (.dup, 1) := by decide +kernel
theorem dX6_note_95 : decode cX6_note 95 = .ok (.getfield 275, 3) := by decide +kernel
theorem dX6_note_98 : decode cX6_note 98 = .ok (.iconst 1, 1) := by decide +kernel
theorem dX6_note_99 : decode cX6_note 99 = .ok (.iadd, 1) := by decide +kernel
theorem dX6_note_100 : decode cX6_note 100 = .ok (.putfield 275, 3) := by decide +kernel
theorem dX6_note_103 : decode cX6_note 103 = .ok (.aload_n 0, 1) := by decide +kernel
theorem dX6_note_104 : decode cX6_note 104 = .ok (.getfield 27, 3) := by decide +kernel
theorem dX6_note_107 : decode cX6_note 107 = .ok (.getfield 275, 3) := by decide +kernel
theorem dX6_note_110 : decode cX6_note 110 = .ok (.ireturn, 1) := by decide +kernel
theorem dX6_looked_0 : decode cX6_looked 0 = .ok (.iconst 0, 1) := by decide +kernel
theorem dX6_looked_1 : decode cX6_looked 1 = .ok (.istore_n 1, 1) := by decide +kernel
theorem dX6_looked_2 : decode cX6_looked 2 = .ok (.iload_n 1, 1) := by decide +kernel
theorem dX6_looked_3 : decode cX6_looked 3 = .ok (.aload_n 0, 1) := by decide +kernel
theorem dX6_looked_4 : decode cX6_looked 4 = .ok (.getfield 27, 3) := by decide +kernel
theorem dX6_looked_7 : decode cX6_looked 7 = .ok (.getfield 275, 3) := by decide +kernel
theorem dX6_looked_10 : decode cX6_looked 10 = .ok (.if_icmp .ge 46, 3) := by decide +kernel
theorem dX6_looked_13 : decode cX6_looked 13 = .ok (.aload_n 0, 1) := by decide +kernel
theorem dX6_looked_14 : decode cX6_looked 14 = .ok (.getfield 12, 3) := by decide +kernel
theorem dX6_looked_17 : decode cX6_looked 17 = .ok (.getfield 113, 3) := by decide +kernel
theorem dX6_looked_20 : decode cX6_looked 20 = .ok (.aload_n 0, 1) := by decide +kernel
theorem dX6_looked_21 : decode cX6_looked 21 = .ok (.getfield 27, 3) := by decide +kernel
theorem dX6_looked_24 : decode cX6_looked 24 = .ok (.getfield 278, 3) := by decide +kernel
theorem dX6_looked_27 : decode cX6_looked 27 = .ok (.iload_n 1, 1) := by decide +kernel
theorem dX6_looked_28 : decode cX6_looked 28 = .ok (.invokestatic 106, 3) := by decide +kernel
theorem dX6_looked_31 : decode cX6_looked 31 = .ok (.invokestatic 106, 3) := by decide +kernel
theorem dX6_looked_34 : decode cX6_looked 34 = .ok (.aload_n 0, 1) := by decide +kernel
theorem dX6_looked_35 : decode cX6_looked 35 = .ok (.getfield 27, 3) := by decide +kernel
theorem dX6_looked_38 : decode cX6_looked 38 = .ok (.getfield 281, 3) := by decide +kernel
theorem dX6_looked_41 : decode cX6_looked 41 = .ok (.iload_n 1, 1) := by decide +kernel
theorem dX6_looked_42 : decode cX6_looked 42 = .ok (.invokestatic 106, 3) := by decide +kernel
theorem dX6_looked_45 : decode cX6_looked 45 = .ok (.if_icmp .eq 5, 3) := by decide +kernel
theorem dX6_looked_48 : decode cX6_looked 48 = .ok (.iload_n 1, 1) := by decide +kernel
theorem dX6_looked_49 : decode cX6_looked 49 = .ok (.ireturn, 1) := by decide +kernel
theorem dX6_looked_50 : decode cX6_looked 50 = .ok (.iinc 1 1, 3) := by decide +kernel
theorem dX6_looked_53 : decode cX6_looked 53 = .ok (.goto (-51), 3) := by decide +kernel
theorem dX6_looked_56 : decode cX6_looked 56 = .ok (.bipush (-5), 2) := by decide +kernel
theorem dX6_looked_58 : decode cX6_looked 58 = .ok (.ireturn, 1) := by decide +kernel
theorem dX6_act_0 : decode cX6_act 0 = .ok (.aload_n 0, 1) := by decide +kernel
theorem dX6_act_1 : decode cX6_act 1 = .ok (.getfield 44, 3) := by decide +kernel
theorem dX6_act_4 : decode cX6_act 4 = .ok (.iconst 0, 1) := by decide +kernel
theorem dX6_act_5 : decode cX6_act 5 = .ok (.putfield 284, 3) := by decide +kernel
theorem dX6_act_8 : decode cX6_act 8 = .ok (.aload_n 0, 1) := by decide +kernel
theorem dX6_act_9 : decode cX6_act 9 = .ok (.getfield 12, 3) := by decide +kernel
theorem dX6_act_12 : decode cX6_act 12 = .ok (.iload_n 1, 1) := by decide +kernel
theorem dX6_act_13 : decode cX6_act 13 = .ok (.invokevirtual 99, 3) := by decide +kernel
theorem dX6_act_16 : decode cX6_act 16 = .ok (.ifCond .eq 12, 3) := by decide +kernel
theorem dX6_act_19 : decode cX6_act 19 = .ok (.iload_n 2, 1) := by decide +kernel
theorem dX6_act_20 : decode cX6_act 20 = .ok (.ifCond .lt 8, 3) := by decide +kernel
theorem dX6_act_23 : decode cX6_act 23 = .ok (.iload_n 2, 1) := by decide +kernel
theorem dX6_act_24 : decode cX6_act 24 = .ok (.iconst 2, 1) := by decide +kernel
theorem dX6_act_25 : decode cX6_act 25 = .ok (.if_icmp .le 5, 3) := by decide +kernel
theorem dX6_act_28 : decode cX6_act 28 = .ok (.iconst 0, 1) := by decide +kernel
theorem dX6_act_29 : decode cX6_act 29 = .ok (.ireturn, 1) := by decide +kernel
theorem dX6_act_30 : decode cX6_act 30 = .ok (.aload_n 0, 1) := by decide +kernel
theorem dX6_act_31 : decode cX6_act 31 = .ok (.getfield 44, 3) := by decide +kernel
theorem dX6_act_34 : decode cX6_act 34 = .ok (.iload_n 1, 1) := by decide +kernel
theorem dX6_act_35 : decode cX6_act 35 = .ok (.aload_n 0, 1) := by decide +kernel
theorem dX6_act_36 : decode cX6_act 36 = .ok (.getfield 12, 3) := by decide +kernel
theorem dX6_act_39 : decode cX6_act 39 = .ok (.getfield 103, 3) := by decide +kernel
theorem dX6_act_42 : decode cX6_act 42 = .ok (.iload_n 1, 1) := by decide +kernel
theorem dX6_act_43 : decode cX6_act 43 = .ok (.invokestatic 106, 3) := by decide +kernel
theorem dX6_act_46 : decode cX6_act 46 = .ok (.aload_n 0, 1) := by decide +kernel
theorem dX6_act_47 : decode cX6_act 47 = .ok (.getfield 12, 3) := by decide +kernel
theorem dX6_act_50 : decode cX6_act 50 = .ok (.getfield 110, 3) := by decide +kernel
theorem dX6_act_53 : decode cX6_act 53 = .ok (.iload_n 1, 1) := by decide +kernel
theorem dX6_act_54 : decode cX6_act 54 = .ok (.invokestatic 106, 3) := by decide +kernel
theorem dX6_act_57 : decode cX6_act 57 = .ok (.iload_n 2, 1) := by decide +kernel
theorem dX6_act_58 : decode cX6_act 58 = .ok (.iload_n 3, 1) := by decide +kernel
theorem dX6_act_59 : decode cX6_act 59 = .ok (.invokevirtual 287, 3) := by decide +kernel
theorem dX6_act_62 : decode cX6_act 62 = .ok (.ireturn, 1) := by decide +kernel
theorem dX6_trace_0 : decode cX6_trace 0 = .ok (.iload_n 1, 1) := by decide +kernel
theorem dX6_trace_1 : decode cX6_trace 1 = .ok (.ifCond .lt 20, 3) := by decide +kernel
theorem dX6_trace_4 : decode cX6_trace 4 = .ok (.iload_n 1, 1) := by decide +kernel
theorem dX6_trace_5 : decode cX6_trace 5 = .ok (.aload_n 0, 1) := by decide +kernel
theorem dX6_trace_6 : decode cX6_trace 6 = .ok (.getfield 44, 3) := by decide +kernel
theorem dX6_trace_9 : decode cX6_trace 9 = .ok (.getfield 284, 3) := by decide +kernel
theorem dX6_trace_12 : decode cX6_trace 12 = .ok (.if_icmp .ge 9, 3) := by decide +kernel
theorem dX6_trace_15 : decode cX6_trace 15 = .ok (.iload_n 1, 1) := by decide +kernel
theorem dX6_trace_16 : decode cX6_trace 16 = .ok (.bipush 20, 2) := by decide +kernel
theorem dX6_trace_18 : decode cX6_trace 18 = .ok (.if_icmp .lt 5, 3) := by decide +kernel
theorem dX6_trace_21 : decode cX6_trace 21 = .ok (.iconst (-1), 1) := by decide +kernel
theorem dX6_trace_22 : decode cX6_trace 22 = .ok (.ireturn, 1) := by decide +kernel
theorem dX6_trace_23 : decode cX6_trace 23 = .ok (.aload_n 0, 1) := by decide +kernel
theorem dX6_trace_24 : decode cX6_trace 24 = .ok (.getfield 44, 3) := by decide +kernel
theorem dX6_trace_27 : decode cX6_trace 27 = .ok (.getfield 291, 3) := by decide +kernel
theorem dX6_trace_30 : decode cX6_trace 30 = .ok (.iload_n 1, 1) := by decide +kernel
theorem dX6_trace_31 : decode cX6_trace 31 = .ok (.invokestatic 106, 3) := by decide +kernel
theorem dX6_trace_34 : decode cX6_trace 34 = .ok (.ireturn, 1) := by decide +kernel
theorem dX6_as_0 : decode cX6_as 0 = .ok (.aload_n 0, 1) := by decide +kernel
theorem dX6_as_1 : decode cX6_as 1 = .ok (.getfield 12, 3) := by decide +kernel
theorem dX6_as_4 : decode cX6_as 4 = .ok (.iload_n 1, 1) := by decide +kernel
theorem dX6_as_5 : decode cX6_as 5 = .ok (.invokevirtual 99, 3) := by decide +kernel
theorem dX6_as_8 : decode cX6_as 8 = .ok (.ifCond .eq 13, 3) := by decide +kernel
theorem dX6_as_11 : decode cX6_as 11 = .ok (.iload_n 2, 1) := by decide +kernel
theorem dX6_as_12 : decode cX6_as 12 = .ok (.ifCond .lt 9, 3) := by decide +kernel
theorem dX6_as_15 : decode cX6_as 15 = .ok (.iload_n 2, 1) := by decide +kernel
theorem dX6_as_16 : decode cX6_as 16 = .ok (.bipush 7, 2) := by decide +kernel
theorem dX6_as_18 : decode cX6_as 18 = .ok (.if_icmp .lt 5, 3) := by decide +kernel
theorem dX6_as_21 : decode cX6_as 21 = .ok (.iconst (-1), 1) := by decide +kernel
theorem dX6_as_22 : decode cX6_as 22 = .ok (.ireturn, 1) := by decide +kernel
theorem dX6_as_23 : decode cX6_as 23 = .ok (.aload_n 0, 1) := by decide +kernel
theorem dX6_as_24 : decode cX6_as 24 = .ok (.getfield 12, 3) := by decide +kernel
theorem dX6_as_27 : decode cX6_as 27 = .ok (.getfield 103, 3) := by decide +kernel
theorem dX6_as_30 : decode cX6_as 30 = .ok (.iload_n 1, 1) := by decide +kernel
theorem dX6_as_31 : decode cX6_as 31 = .ok (.invokestatic 106, 3) := by decide +kernel
theorem dX6_as_34 : decode cX6_as 34 = .ok (.iload_n 2, 1) := by decide +kernel
theorem dX6_as_35 : decode cX6_as 35 = .ok (.invokestatic 294, 3) := by decide +kernel
theorem dX6_as_38 : decode cX6_as 38 = .ok (.ifCond .eq 17, 3) := by decide +kernel
theorem dX6_as_41 : decode cX6_as 41 = .ok (.aload_n 0, 1) := by decide +kernel
theorem dX6_as_42 : decode cX6_as 42 = .ok (.getfield 12, 3) := by decide +kernel
theorem dX6_as_45 : decode cX6_as 45 = .ok (.getfield 110, 3) := by decide +kernel
theorem dX6_as_48 : decode cX6_as 48 = .ok (.iload_n 1, 1) := by decide +kernel
theorem dX6_as_49 : decode cX6_as 49 = .ok (.invokestatic 106, 3) := by decide +kernel
theorem dX6_as_52 : decode cX6_as 52 = .ok (.goto 5, 3) := by decide +kernel
theorem dX6_as_55 : decode cX6_as 55 = .ok (.bipush (-6), 2) := by decide +kernel
theorem dX6_as_57 : decode cX6_as 57 = .ok (.ireturn, 1) := by decide +kernel
theorem dX6_image_0 : decode cX6_image 0 = .ok (.aload_n 0, 1) := by decide +kernel
theorem dX6_image_1 : decode cX6_image 1 = .ok (.getfield 21, 3) := by decide +kernel
theorem dX6_image_4 : decode cX6_image 4 = .ok (.aload_n 0, 1) := by decide +kernel
theorem dX6_image_5 : decode cX6_image 5 = .ok (.getfield 12, 3) := by decide +kernel
theorem dX6_image_8 : decode cX6_image 8 = .ok (.invokevirtual 297, 3) := by decide +kernel
theorem dX6_image_11 : decode cX6_image 11 = .ok (.aload_n 0, 1) := by decide +kernel
theorem dX6_image_12 : decode cX6_image 12 = .ok (.getfield 31, 3) := by decide +kernel
theorem dX6_image_15 : decode cX6_image 15 = .ok (.aload_n 0, 1) := by decide +kernel
theorem dX6_image_16 : decode cX6_image 16 = .ok (.getfield 27, 3) := by decide +kernel
theorem dX6_image_19 : decode cX6_image 19 = .ok (.invokevirtual 300, 3) := by decide +kernel
theorem dX6_image_22 : decode cX6_image 22 = .ok (.aload_n 0, 1) := by decide +kernel
theorem dX6_image_23 : decode cX6_image 23 = .ok (.iconst 1, 1) := by decide +kernel
theorem dX6_image_24 : decode cX6_image 24 = .ok (.putfield 48, 3) := by decide +kernel
theorem dX6_image_27 : decode cX6_image 27 = .ok (.aload_n 0, 1) := by decide +kernel
theorem dX6_image_28 : decode cX6_image 28 = .ok (.getfield 12, 3) := by decide +kernel
theorem dX6_image_31 : decode cX6_image 31 = .ok (.getfield 92, 3) := by decide +kernel
theorem dX6_image_34 : decode cX6_image 34 = .ok (.ireturn, 1) := by decide +kernel
theorem dX6_undo_0 : decode cX6_undo 0 = .ok (.aload_n 0, 1) := by decide +kernel
theorem dX6_undo_1 : decode cX6_undo 1 = .ok (.getfield 48, 3) := by decide +kernel
theorem dX6_undo_4 : decode cX6_undo 4 = .ok (.ifCond .ne 6, 3) := by decide +kernel
theorem dX6_undo_7 : decode cX6_undo 7 = .ok (.bipush (-3), 2) := by decide +kernel
theorem dX6_undo_9 : decode cX6_undo 9 = .ok (.ireturn, 1) := by decide +kernel
theorem dX6_undo_10 : decode cX6_undo 10 = .ok (.aload_n 0, 1) := by decide +kernel
theorem dX6_undo_11 : decode cX6_undo 11 = .ok (.getfield 12, 3) := by decide +kernel
theorem dX6_undo_14 : decode cX6_undo 14 = .ok (.aload_n 0, 1) := by decide +kernel
theorem dX6_undo_15 : decode cX6_undo 15 = .ok (.getfield 21, 3) := by decide +kernel
theorem dX6_undo_18 : decode cX6_undo 18 = .ok (.invokevirtual 297, 3) := by decide +kernel
theorem dX6_undo_21 : decode cX6_undo 21 = .ok (.aload_n 0, 1) := by decide +kernel
theorem dX6_undo_22 : decode cX6_undo 22 = .ok (.getfield 27, 3) := by decide +kernel
theorem dX6_undo_25 : decode cX6_undo 25 = .ok (.aload_n 0, 1) := by decide +kernel
theorem dX6_undo_26 : decode cX6_undo 26 = .ok (.getfield 31, 3) := by decide +kernel
theorem dX6_undo_29 : decode cX6_undo 29 = .ok (.invokevirtual 300, 3) := by decide +kernel
theorem dX6_undo_32 : decode cX6_undo 32 = .ok (.aload_n 0, 1) := by decide +kernel
theorem dX6_undo_33 : decode cX6_undo 33 = .ok (.getfield 12, 3) := by decide +kernel
theorem dX6_undo_36 : decode cX6_undo 36 = .ok (.getfield 92, 3) := by decide +kernel
theorem dX6_undo_39 : decode cX6_undo 39 = .ok (.ireturn, 1) := by decide +kernel
theorem dX6_count_0 : decode cX6_count 0 = .ok (.iload_n 1, 1) := by decide +kernel
theorem dX6_count_1 : decode cX6_count 1 = .ok (.tableswitch 111 0 7 #[47, 55, 63, 71, 79, 87, 95, 103], 47) := by decide +kernel
theorem dX6_count_48 : decode cX6_count 48 = .ok (.aload_n 0, 1) := by decide +kernel
theorem dX6_count_49 : decode cX6_count 49 = .ok (.getfield 12, 3) := by decide +kernel
theorem dX6_count_52 : decode cX6_count 52 = .ok (.getfield 92, 3) := by decide +kernel
theorem dX6_count_55 : decode cX6_count 55 = .ok (.ireturn, 1) := by decide +kernel
theorem dX6_count_56 : decode cX6_count 56 = .ok (.aload_n 0, 1) := by decide +kernel
theorem dX6_count_57 : decode cX6_count 57 = .ok (.getfield 12, 3) := by decide +kernel
theorem dX6_count_60 : decode cX6_count 60 = .ok (.getfield 86, 3) := by decide +kernel
theorem dX6_count_63 : decode cX6_count 63 = .ok (.ireturn, 1) := by decide +kernel
theorem dX6_count_64 : decode cX6_count 64 = .ok (.aload_n 0, 1) := by decide +kernel
theorem dX6_count_65 : decode cX6_count 65 = .ok (.getfield 12, 3) := by decide +kernel
theorem dX6_count_68 : decode cX6_count 68 = .ok (.getfield 64, 3) := by decide +kernel
theorem dX6_count_71 : decode cX6_count 71 = .ok (.ireturn, 1) := by decide +kernel
theorem dX6_count_72 : decode cX6_count 72 = .ok (.aload_n 0, 1) := by decide +kernel
theorem dX6_count_73 : decode cX6_count 73 = .ok (.getfield 27, 3) := by decide +kernel
theorem dX6_count_76 : decode cX6_count 76 = .ok (.getfield 231, 3) := by decide +kernel
theorem dX6_count_79 : decode cX6_count 79 = .ok (.ireturn, 1) := by decide +kernel
theorem dX6_count_80 : decode cX6_count 80 = .ok (.aload_n 0, 1) := by decide +kernel
theorem dX6_count_81 : decode cX6_count 81 = .ok (.getfield 27, 3) := by decide +kernel
theorem dX6_count_84 : decode cX6_count 84 = .ok (.getfield 263, 3) := by decide +kernel
theorem dX6_count_87 : decode cX6_count 87 = .ok (.ireturn, 1) := by decide +kernel
theorem dX6_count_88 : decode cX6_count 88 = .ok (.aload_n 0, 1) := by decide +kernel
theorem dX6_count_89 : decode cX6_count 89 = .ok (.getfield 27, 3) := by decide +kernel
theorem dX6_count_92 : decode cX6_count 92 = .ok (.getfield 275, 3) := by decide +kernel
theorem dX6_count_95 : decode cX6_count 95 = .ok (.ireturn, 1) := by decide +kernel
theorem dX6_count_96 : decode cX6_count 96 = .ok (.aload_n 0, 1) := by decide +kernel
theorem dX6_count_97 : decode cX6_count 97 = .ok (.getfield 27, 3) := by decide +kernel
theorem dX6_count_100 : decode cX6_count 100 = .ok (.getfield 52, 3) := by decide +kernel
theorem dX6_count_103 : decode cX6_count 103 = .ok (.ireturn, 1) := by decide +kernel
theorem dX6_count_104 : decode cX6_count 104 = .ok (.aload_n 0, 1) := by decide +kernel
theorem dX6_count_105 : decode cX6_count 105 = .ok (.getfield 44, 3) := by decide +kernel
theorem dX6_count_108 : decode cX6_count 108 = .ok (.getfield 284, 3) := by decide +kernel
theorem dX6_count_111 : decode cX6_count 111 = .ok (.ireturn, 1) := by decide +kernel
theorem dX6_count_112 : decode cX6_count 112 = .ok (.iconst (-1), 1) := by decide +kernel
theorem dX6_count_113 : decode cX6_count 113 = .ok (.ireturn, 1) := by decide +kernel
theorem dX6_get_0 : decode cX6_get 0 = .ok (.aload_n 0, 1) := by decide +kernel
theorem dX6_get_1 : decode cX6_get 1 = .ok (.ifnull 19, 3) := by decide +kernel
theorem dX6_get_4 : decode cX6_get 4 = .ok (.iload_n 1, 1) := by decide +kernel
theorem dX6_get_5 : decode cX6_get 5 = .ok (.ifCond .lt 15, 3) := by decide +kernel
theorem dX6_get_8 : decode cX6_get 8 = .ok (.iload_n 1, 1) := by decide +kernel
theorem dX6_get_9 : decode cX6_get 9 = .ok (.aload_n 0, 1) := by decide +kernel
theorem dX6_get_10 : decode cX6_get 10 = .ok (.arraylength, 1) := by decide +kernel
theorem dX6_get_11 : decode cX6_get 11 = .ok (.if_icmp .ge 9, 3) := by decide +kernel
theorem dX6_get_14 : decode cX6_get 14 = .ok (.aload_n 0, 1) := by decide +kernel
theorem dX6_get_15 : decode cX6_get 15 = .ok (.iload_n 1, 1) := by decide +kernel
theorem dX6_get_16 : decode cX6_get 16 = .ok (.iaload, 1) := by decide +kernel
theorem dX6_get_17 : decode cX6_get 17 = .ok (.goto 4, 3) := by decide +kernel
theorem dX6_get_20 : decode cX6_get 20 = .ok (.iconst 0, 1) := by decide +kernel
theorem dX6_get_21 : decode cX6_get 21 = .ok (.ireturn, 1) := by decide +kernel
theorem dX6_put_0 : decode cX6_put 0 = .ok (.aload_n 0, 1) := by decide +kernel
theorem dX6_put_1 : decode cX6_put 1 = .ok (.ifnull 17, 3) := by decide +kernel
theorem dX6_put_4 : decode cX6_put 4 = .ok (.iload_n 1, 1) := by decide +kernel
theorem dX6_put_5 : decode cX6_put 5 = .ok (.ifCond .lt 13, 3) := by decide +kernel
theorem dX6_put_8 : decode cX6_put 8 = .ok (.iload_n 1, 1) := by decide +kernel
theorem dX6_put_9 : decode cX6_put 9 = .ok (.aload_n 0, 1) := by decide +kernel
theorem dX6_put_10 : decode cX6_put 10 = .ok (.arraylength, 1) := by decide +kernel
theorem dX6_put_11 : decode cX6_put 11 = .ok (.if_icmp .ge 7, 3) := by decide +kernel
theorem dX6_put_14 : decode cX6_put 14 = .ok (.aload_n 0, 1) := by decide +kernel
theorem dX6_put_15 : decode cX6_put 15 = .ok (.iload_n 1, 1) := by decide +kernel
theorem dX6_put_16 : decode cX6_put 16 = .ok (.iload_n 2, 1) := by decide +kernel
theorem dX6_put_17 : decode cX6_put 17 = .ok (.iastore, 1) := by decide +kernel
theorem dX6_put_18 : decode cX6_put 18 = .ok (.return_, 1) := by decide +kernel
theorem dX6_copyRow_0 : decode cX6_copyRow 0 = .ok (.iconst 0, 1) := by decide +kernel
theorem dX6_copyRow_1 : decode cX6_copyRow 1 = .ok (.istore_n 2, 1) := by decide +kernel
theorem dX6_copyRow_2 : decode cX6_copyRow 2 = .ok (.aload_n 1, 1) := by decide +kernel
theorem dX6_copyRow_3 : decode cX6_copyRow 3 = .ok (.ifnull 23, 3) := by decide +kernel
theorem dX6_copyRow_6 : decode cX6_copyRow 6 = .ok (.iload_n 2, 1) := by decide +kernel
theorem dX6_copyRow_7 : decode cX6_copyRow 7 = .ok (.aload_n 1, 1) := by decide +kernel
theorem dX6_copyRow_8 : decode cX6_copyRow 8 = .ok (.arraylength, 1) := by decide +kernel
theorem dX6_copyRow_9 : decode cX6_copyRow 9 = .ok (.if_icmp .ge 17, 3) := by decide +kernel
theorem dX6_copyRow_12 : decode cX6_copyRow 12 = .ok (.aload_n 1, 1) := by decide +kernel
theorem dX6_copyRow_13 : decode cX6_copyRow 13 = .ok (.iload_n 2, 1) := by decide +kernel
theorem dX6_copyRow_14 : decode cX6_copyRow 14 = .ok (.aload_n 0, 1) := by decide +kernel
theorem dX6_copyRow_15 : decode cX6_copyRow 15 = .ok (.iload_n 2, 1) := by decide +kernel
theorem dX6_copyRow_16 : decode cX6_copyRow 16 = .ok (.invokestatic 106, 3) := by decide +kernel
theorem dX6_copyRow_19 : decode cX6_copyRow 19 = .ok (.iastore, 1) := by decide +kernel
theorem dX6_copyRow_20 : decode cX6_copyRow 20 = .ok (.iinc 2 1, 3) := by decide +kernel
theorem dX6_copyRow_23 : decode cX6_copyRow 23 = .ok (.goto (-21), 3) := by decide +kernel
theorem dX6_copyRow_26 : decode cX6_copyRow 26 = .ok (.return_, 1) := by decide +kernel
theorem dX6_isDays_0 : decode cX6_isDays 0 = .ok (.iload_n 0, 1) := by decide +kernel
theorem dX6_isDays_1 : decode cX6_isDays 1 = .ok (.ifCond .lt 13, 3) := by decide +kernel
theorem dX6_isDays_4 : decode cX6_isDays 4 = .ok (.iload_n 0, 1) := by decide +kernel
theorem dX6_isDays_5 : decode cX6_isDays 5 = .ok (.bipush 40, 2) := by decide +kernel
theorem dX6_isDays_7 : decode cX6_isDays 7 = .ok (.if_icmp .gt 7, 3) := by decide +kernel
theorem dX6_isDays_10 : decode cX6_isDays 10 = .ok (.iconst 1, 1) := by decide +kernel
theorem dX6_isDays_11 : decode cX6_isDays 11 = .ok (.goto 4, 3) := by decide +kernel
theorem dX6_isDays_14 : decode cX6_isDays 14 = .ok (.iconst 0, 1) := by decide +kernel
theorem dX6_isDays_15 : decode cX6_isDays 15 = .ok (.ireturn, 1) := by decide +kernel
theorem dX6_isUnder_0 : decode cX6_isUnder 0 = .ok (.iload_n 0, 1) := by decide +kernel
theorem dX6_isUnder_1 : decode cX6_isUnder 1 = .ok (.istore_n 2, 1) := by decide +kernel
theorem dX6_isUnder_2 : decode cX6_isUnder 2 = .ok (.iconst 0, 1) := by decide +kernel
theorem dX6_isUnder_3 : decode cX6_isUnder 3 = .ok (.istore_n 3, 1) := by decide +kernel
theorem dX6_isUnder_4 : decode cX6_isUnder 4 = .ok (.iload_n 3, 1) := by decide +kernel
theorem dX6_isUnder_5 : decode cX6_isUnder 5 = .ok (.bipush 7, 2) := by decide +kernel
theorem dX6_isUnder_7 : decode cX6_isUnder 7 = .ok (.if_icmp .ge 29, 3) := by decide +kernel
theorem dX6_isUnder_10 : decode cX6_isUnder 10 = .ok (.iload_n 2, 1) := by decide +kernel
theorem dX6_isUnder_11 : decode cX6_isUnder 11 = .ok (.iconst (-1), 1) := by decide +kernel
theorem dX6_isUnder_12 : decode cX6_isUnder 12 = .ok (.if_icmp .eq 24, 3) := by decide +kernel
theorem dX6_isUnder_15 : decode cX6_isUnder 15 = .ok (.iload_n 2, 1) := by decide +kernel
theorem dX6_isUnder_16 : decode cX6_isUnder 16 = .ok (.iload_n 1, 1) := by decide +kernel
theorem dX6_isUnder_17 : decode cX6_isUnder 17 = .ok (.if_icmp .ne 5, 3) := by decide +kernel
theorem dX6_isUnder_20 : decode cX6_isUnder 20 = .ok (.iconst 1, 1) := by decide +kernel
theorem dX6_isUnder_21 : decode cX6_isUnder 21 = .ok (.ireturn, 1) := by decide +kernel
theorem dX6_isUnder_22 : decode cX6_isUnder 22 = .ok (.getstatic 303, 3) := by decide +kernel
theorem dX6_isUnder_25 : decode cX6_isUnder 25 = .ok (.iload_n 2, 1) := by decide +kernel
theorem dX6_isUnder_26 : decode cX6_isUnder 26 = .ok (.invokestatic 106, 3) := by decide +kernel
theorem dX6_isUnder_29 : decode cX6_isUnder 29 = .ok (.istore_n 2, 1) := by decide +kernel
theorem dX6_isUnder_30 : decode cX6_isUnder 30 = .ok (.iinc 3 1, 3) := by decide +kernel
theorem dX6_isUnder_33 : decode cX6_isUnder 33 = .ok (.goto (-29), 3) := by decide +kernel
theorem dX6_isUnder_36 : decode cX6_isUnder 36 = .ok (.iconst 0, 1) := by decide +kernel
theorem dX6_isUnder_37 : decode cX6_isUnder 37 = .ok (.ireturn, 1) := by decide +kernel
theorem dX6_heldIn_0 : decode cX6_heldIn 0 = .ok (.iload_n 0, 1) := by decide +kernel
theorem dX6_heldIn_1 : decode cX6_heldIn 1 = .ok (.iconst 3, 1) := by decide +kernel
theorem dX6_heldIn_2 : decode cX6_heldIn 2 = .ok (.iload_n 2, 1) := by decide +kernel
theorem dX6_heldIn_3 : decode cX6_heldIn 3 = .ok (.iconst 1, 1) := by decide +kernel
theorem dX6_heldIn_4 : decode cX6_heldIn 4 = .ok (.isub, 1) := by decide +kernel
theorem dX6_heldIn_5 : decode cX6_heldIn 5 = .ok (.iload_n 1, 1) := by decide +kernel
theorem dX6_heldIn_6 : decode cX6_heldIn 6 = .ok (.isub, 1) := by decide +kernel
theorem dX6_heldIn_7 : decode cX6_heldIn 7 = .ok (.imul, 1) := by decide +kernel
theorem dX6_heldIn_8 : decode cX6_heldIn 8 = .ok (.ishr, 1) := by decide +kernel
theorem dX6_heldIn_9 : decode cX6_heldIn 9 = .ok (.bipush 7, 2) := by decide +kernel
theorem dX6_heldIn_11 : decode cX6_heldIn 11 = .ok (.iand, 1) := by decide +kernel
theorem dX6_heldIn_12 : decode cX6_heldIn 12 = .ok (.ireturn, 1) := by decide +kernel
theorem dX6_fraction_0 : decode cX6_fraction 0 = .ok (.iload_n 0, 1) := by decide +kernel
theorem dX6_fraction_1 : decode cX6_fraction 1 = .ok (.istore_n 3, 1) := by decide +kernel
theorem dX6_fraction_2 : decode cX6_fraction 2 = .ok (.iload_n 1, 1) := by decide +kernel
theorem dX6_fraction_3 : decode cX6_fraction 3 = .ok (.istore 4, 2) := by decide +kernel
theorem dX6_fraction_5 : decode cX6_fraction 5 = .ok (.iconst 0, 1) := by decide +kernel
theorem dX6_fraction_6 : decode cX6_fraction 6 = .ok (.istore 5, 2) := by decide +kernel
theorem dX6_fraction_8 : decode cX6_fraction 8 = .ok (.iload 5, 2) := by decide +kernel
theorem dX6_fraction_10 : decode cX6_fraction 10 = .ok (.bipush 99, 2) := by decide +kernel
theorem dX6_fraction_12 : decode cX6_fraction 12 = .ok (.if_icmp .ge 27, 3) := by decide +kernel
theorem dX6_fraction_15 : decode cX6_fraction 15 = .ok (.iload 4, 2) := by decide +kernel
theorem dX6_fraction_17 : decode cX6_fraction 17 = .ok (.ifCond .eq 22, 3) := by decide +kernel
theorem dX6_fraction_20 : decode cX6_fraction 20 = .ok (.iload_n 3, 1) := by decide +kernel
theorem dX6_fraction_21 : decode cX6_fraction 21 = .ok (.iload 4, 2) := by decide +kernel
theorem dX6_fraction_23 : decode cX6_fraction 23 = .ok (.irem, 1) := by decide +kernel
theorem dX6_fraction_24 : decode cX6_fraction 24 = .ok (.istore 6, 2) := by decide +kernel
theorem dX6_fraction_26 : decode cX6_fraction 26 = .ok (.iload 4, 2) := by decide +kernel
theorem dX6_fraction_28 : decode cX6_fraction 28 = .ok (.istore_n 3, 1) := by decide +kernel
theorem dX6_fraction_29 : decode cX6_fraction 29 = .ok (.iload 6, 2) := by decide +kernel
theorem dX6_fraction_31 : decode cX6_fraction 31 = .ok (.istore 4, 2) := by decide +kernel
theorem dX6_fraction_33 : decode cX6_fraction 33 = .ok (.iinc 5 1, 3) := by decide +kernel
theorem dX6_fraction_36 : decode cX6_fraction 36 = .ok (.goto (-28), 3) := by decide +kernel
theorem dX6_fraction_39 : decode cX6_fraction 39 = .ok (.iload_n 3, 1) := by decide +kernel
theorem dX6_fraction_40 : decode cX6_fraction 40 = .ok (.ifCond .ne 7, 3) := by decide +kernel
theorem dX6_fraction_43 : decode cX6_fraction 43 = .ok (.ldc2_w 252, 3) := by decide +kernel
theorem dX6_fraction_46 : decode cX6_fraction 46 = .ok (.lreturn, 1) := by decide +kernel
theorem dX6_fraction_47 : decode cX6_fraction 47 = .ok (.iload_n 2, 1) := by decide +kernel
theorem dX6_fraction_48 : decode cX6_fraction 48 = .ok (.ifCond .ne 10, 3) := by decide +kernel
theorem dX6_fraction_51 : decode cX6_fraction 51 = .ok (.iload_n 0, 1) := by decide +kernel
theorem dX6_fraction_52 : decode cX6_fraction 52 = .ok (.iload_n 3, 1) := by decide +kernel
theorem dX6_fraction_53 : decode cX6_fraction 53 = .ok (.idiv, 1) := by decide +kernel
theorem dX6_fraction_54 : decode cX6_fraction 54 = .ok (.i2l, 1) := by decide +kernel
theorem dX6_fraction_55 : decode cX6_fraction 55 = .ok (.goto 7, 3) := by decide +kernel
theorem dX6_fraction_58 : decode cX6_fraction 58 = .ok (.iload_n 1, 1) := by decide +kernel
theorem dX6_fraction_59 : decode cX6_fraction 59 = .ok (.iload_n 3, 1) := by decide +kernel
theorem dX6_fraction_60 : decode cX6_fraction 60 = .ok (.idiv, 1) := by decide +kernel
theorem dX6_fraction_61 : decode cX6_fraction 61 = .ok (.i2l, 1) := by decide +kernel
theorem dX6_fraction_62 : decode cX6_fraction 62 = .ok (.lreturn, 1) := by decide +kernel
theorem dX6_fresh_0 : decode cX6_fresh 0 = .ok (.aload_n 0, 1) := by decide +kernel
theorem dX6_fresh_1 : decode cX6_fresh 1 = .ok (.getfield 18, 3) := by decide +kernel
theorem dX6_fresh_4 : decode cX6_fresh 4 = .ok (.aload_n 0, 1) := by decide +kernel
theorem dX6_fresh_5 : decode cX6_fresh 5 = .ok (.getfield 12, 3) := by decide +kernel
theorem dX6_fresh_8 : decode cX6_fresh 8 = .ok (.invokevirtual 297, 3) := by decide +kernel
theorem dX6_fresh_11 : decode cX6_fresh 11 = .ok (.aload_n 0, 1) := by decide +kernel
theorem dX6_fresh_12 : decode cX6_fresh 12 = .ok (.getfield 18, 3) := by decide +kernel
theorem dX6_fresh_15 : decode cX6_fresh 15 = .ok (.invokevirtual 306, 3) := by decide +kernel
theorem dX6_fresh_18 : decode cX6_fresh 18 = .ok (.return_, 1) := by decide +kernel
theorem dX6_goOn_0 : decode cX6_goOn 0 = .ok (.aload_n 0, 1) := by decide +kernel
theorem dX6_goOn_1 : decode cX6_goOn 1 = .ok (.invokevirtual 116, 3) := by decide +kernel
theorem dX6_goOn_4 : decode cX6_goOn 4 = .ok (.iconst 0, 1) := by decide +kernel
theorem dX6_goOn_5 : decode cX6_goOn 5 = .ok (.istore_n 2, 1) := by decide +kernel
theorem dX6_goOn_6 : decode cX6_goOn 6 = .ok (.iconst 0, 1) := by decide +kernel
theorem dX6_goOn_7 : decode cX6_goOn 7 = .ok (.istore_n 3, 1) := by decide +kernel
theorem dX6_goOn_8 : decode cX6_goOn 8 = .ok (.iload_n 3, 1) := by decide +kernel
theorem dX6_goOn_9 : decode cX6_goOn 9 = .ok (.iload_n 1, 1) := by decide +kernel
theorem dX6_goOn_10 : decode cX6_goOn 10 = .ok (.if_icmp .ge 19, 3) := by decide +kernel
theorem dX6_goOn_13 : decode cX6_goOn 13 = .ok (.iload_n 2, 1) := by decide +kernel
theorem dX6_goOn_14 : decode cX6_goOn 14 = .ok (.aload_n 0, 1) := by decide +kernel
theorem dX6_goOn_15 : decode cX6_goOn 15 = .ok (.getfield 18, 3) := by decide +kernel
theorem dX6_goOn_18 : decode cX6_goOn 18 = .ok (.invokevirtual 168, 3) := by decide +kernel
theorem dX6_goOn_21 : decode cX6_goOn 21 = .ok (.iadd, 1) := by decide +kernel
theorem dX6_goOn_22 : decode cX6_goOn 22 = .ok (.istore_n 2, 1) := by decide +kernel
theorem dX6_goOn_23 : decode cX6_goOn 23 = .ok (.iinc 3 1, 3) := by decide +kernel
theorem dX6_goOn_26 : decode cX6_goOn 26 = .ok (.goto (-18), 3) := by decide +kernel
theorem dX6_goOn_29 : decode cX6_goOn 29 = .ok (.iload_n 2, 1) := by decide +kernel
theorem dX6_goOn_30 : decode cX6_goOn 30 = .ok (.ireturn, 1) := by decide +kernel
theorem dX6_isAllSeen_0 : decode cX6_isAllSeen 0 = .ok (.iconst 0, 1) := by decide +kernel
theorem dX6_isAllSeen_1 : decode cX6_isAllSeen 1 = .ok (.istore_n 1, 1) := by decide +kernel
theorem dX6_isAllSeen_2 : decode cX6_isAllSeen 2 = .ok (.iload_n 1, 1) := by decide +kernel
theorem dX6_isAllSeen_3 : decode cX6_isAllSeen 3 = .ok (.bipush 20, 2) := by decide +kernel
theorem dX6_isAllSeen_5 : decode cX6_isAllSeen 5 = .ok (.if_icmp .gt 27, 3) := by decide +kernel
theorem dX6_isAllSeen_8 : decode cX6_isAllSeen 8 = .ok (.aload_n 0, 1) := by decide +kernel
theorem dX6_isAllSeen_9 : decode cX6_isAllSeen 9 = .ok (.iload_n 1, 1) := by decide +kernel
theorem dX6_isAllSeen_10 : decode cX6_isAllSeen 10 = .ok (.invokevirtual 309, 3) := by decide +kernel
theorem dX6_isAllSeen_13 : decode cX6_isAllSeen 13 = .ok (.ifCond .ne 5, 3) := by decide +kernel
theorem dX6_isAllSeen_16 : decode cX6_isAllSeen 16 = .ok (.iconst 0, 1) := by decide +kernel
theorem dX6_isAllSeen_17 : decode cX6_isAllSeen 17 = .ok (.ireturn, 1) := by decide +kernel
theorem dX6_isAllSeen_18 : decode cX6_isAllSeen 18 = .ok (.aload_n 0, 1) := by decide +kernel
theorem dX6_isAllSeen_19 : decode cX6_isAllSeen 19 = .ok (.getfield 18, 3) := by decide +kernel
theorem dX6_isAllSeen_22 : decode cX6_isAllSeen 22 = .ok (.invokevirtual 168, 3) := by decide +kernel
theorem dX6_isAllSeen_25 : decode cX6_isAllSeen 25 = .ok (.pop, 1) := by decide +kernel
theorem dX6_isAllSeen_26 : decode cX6_isAllSeen 26 = .ok (.iinc 1 1, 3) := by decide +kernel
theorem dX6_isAllSeen_29 : decode cX6_isAllSeen 29 = .ok (.goto (-27), 3) := by decide +kernel
theorem dX6_isAllSeen_32 : decode cX6_isAllSeen 32 = .ok (.iconst 1, 1) := by decide +kernel
theorem dX6_isAllSeen_33 : decode cX6_isAllSeen 33 = .ok (.ireturn, 1) := by decide +kernel
theorem dX6_isSeenBehind_0 : decode cX6_isSeenBehind 0 = .ok (.iconst 0, 1) := by decide +kernel
theorem dX6_isSeenBehind_1 : decode cX6_isSeenBehind 1 = .ok (.istore_n 2, 1) := by decide +kernel
theorem dX6_isSeenBehind_2 : decode cX6_isSeenBehind 2 = .ok (.iload_n 2, 1) := by decide +kernel
theorem dX6_isSeenBehind_3 : decode cX6_isSeenBehind 3 = .ok (.aload_n 0, 1) := by decide +kernel
theorem dX6_isSeenBehind_4 : decode cX6_isSeenBehind 4 = .ok (.getfield 27, 3) := by decide +kernel
theorem dX6_isSeenBehind_7 : decode cX6_isSeenBehind 7 = .ok (.getfield 231, 3) := by decide +kernel
theorem dX6_isSeenBehind_10 : decode cX6_isSeenBehind 10 = .ok (.if_icmp .ge 90, 3) := by decide +kernel
theorem dX6_isSeenBehind_13 : decode cX6_isSeenBehind 13 = .ok (.aload_n 0, 1) := by decide +kernel
theorem dX6_isSeenBehind_14 : decode cX6_isSeenBehind 14 = .ok (.getfield 18, 3) := by decide +kernel
theorem dX6_isSeenBehind_17 : decode cX6_isSeenBehind 17 = .ok (.aload_n 0, 1) := by decide +kernel
theorem dX6_isSeenBehind_18 : decode cX6_isSeenBehind 18 = .ok (.getfield 27, 3) := by decide +kernel
theorem dX6_isSeenBehind_21 : decode cX6_isSeenBehind 21 = .ok (.getfield 234, 3) := by decide +kernel
theorem dX6_isSeenBehind_24 : decode cX6_isSeenBehind 24 = .ok (.iload_n 2, 1) := by decide +kernel
theorem dX6_isSeenBehind_25 : decode cX6_isSeenBehind 25 = .ok (.invokestatic 106, 3) := by decide +kernel
theorem dX6_isSeenBehind_28 : decode cX6_isSeenBehind 28 = .ok (.invokevirtual 133, 3) := by decide +kernel
theorem dX6_isSeenBehind_31 : decode cX6_isSeenBehind 31 = .ok (.bipush (-5), 2) := by decide +kernel
theorem dX6_isSeenBehind_33 : decode cX6_isSeenBehind 33 = .ok (.if_icmp .ne 7, 3) := by decide +kernel
theorem dX6_isSeenBehind_36 : decode cX6_isSeenBehind 36 = .ok (.iconst 1, 1) := by decide +kernel
theorem dX6_isSeenBehind_37 : decode cX6_isSeenBehind 37 = .ok (.goto 4, 3) := by decide +kernel
theorem dX6_isSeenBehind_40 : decode cX6_isSeenBehind 40 = .ok (.iconst 0, 1) := by decide +kernel
theorem dX6_isSeenBehind_41 : decode cX6_isSeenBehind 41 = .ok (.istore_n 3, 1) := by decide +kernel
theorem dX6_isSeenBehind_42 : decode cX6_isSeenBehind 42 = .ok (.iload_n 3, 1) := by decide +kernel
theorem dX6_isSeenBehind_43 : decode cX6_isSeenBehind 43 = .ok (.aload_n 0, 1) := by decide +kernel
theorem dX6_isSeenBehind_44 : decode cX6_isSeenBehind 44 = .ok (.getfield 27, 3) := by decide +kernel
theorem dX6_isSeenBehind_47 : decode cX6_isSeenBehind 47 = .ok (.getfield 240, 3) := by decide +kernel
theorem dX6_isSeenBehind_50 : decode cX6_isSeenBehind 50 = .ok (.iload_n 2, 1) := by decide +kernel
theorem dX6_isSeenBehind_51 : decode cX6_isSeenBehind 51 = .ok (.invokestatic 106, 3) := by decide +kernel
theorem dX6_isSeenBehind_54 : decode cX6_isSeenBehind 54 = .ok (.ifCond .eq 7, 3) := by decide +kernel
theorem dX6_isSeenBehind_57 : decode cX6_isSeenBehind 57 = .ok (.iconst 1, 1) := by decide +kernel
theorem dX6_isSeenBehind_58 : decode cX6_isSeenBehind 58 = .ok (.goto 4, 3) := by decide +kernel
theorem dX6_isSeenBehind_61 : decode cX6_isSeenBehind 61 = .ok (.iconst 0, 1) := by decide +kernel
theorem dX6_isSeenBehind_62 : decode cX6_isSeenBehind 62 = .ok (.if_icmp .ne 7, 3) := by decide +kernel
theorem dX6_isSeenBehind_65 : decode cX6_isSeenBehind 65 = .ok (.iconst 1, 1) := by decide +kernel
theorem dX6_isSeenBehind_66 : decode cX6_isSeenBehind 66 = .ok (.goto 4, 3) := by decide +kernel
theorem dX6_isSeenBehind_69 : decode cX6_isSeenBehind 69 = .ok (.iconst 0, 1) := by decide +kernel
theorem dX6_isSeenBehind_70 : decode cX6_isSeenBehind 70 = .ok (.istore 4, 2) := by decide +kernel
theorem dX6_isSeenBehind_72 : decode cX6_isSeenBehind 72 = .ok (.aload_n 0, 1) := by decide +kernel
theorem dX6_isSeenBehind_73 : decode cX6_isSeenBehind 73 = .ok (.getfield 27, 3) := by decide +kernel
theorem dX6_isSeenBehind_76 : decode cX6_isSeenBehind 76 = .ok (.getfield 237, 3) := by decide +kernel
theorem dX6_isSeenBehind_79 : decode cX6_isSeenBehind 79 = .ok (.iload_n 2, 1) := by decide +kernel
theorem dX6_isSeenBehind_80 : decode cX6_isSeenBehind 80 = .ok (.invokestatic 106, 3) := by decide +kernel
theorem dX6_isSeenBehind_83 : decode cX6_isSeenBehind 83 = .ok (.iload_n 1, 1) := by decide +kernel
theorem dX6_isSeenBehind_84 : decode cX6_isSeenBehind 84 = .ok (.if_icmp .ne 10, 3) := by decide +kernel
theorem dX6_isSeenBehind_87 : decode cX6_isSeenBehind 87 = .ok (.iload 4, 2) := by decide +kernel
theorem dX6_isSeenBehind_89 : decode cX6_isSeenBehind 89 = .ok (.ifCond .ne 5, 3) := by decide +kernel
theorem dX6_isSeenBehind_92 : decode cX6_isSeenBehind 92 = .ok (.iconst 0, 1) := by decide +kernel
theorem dX6_isSeenBehind_93 : decode cX6_isSeenBehind 93 = .ok (.ireturn, 1) := by decide +kernel
theorem dX6_isSeenBehind_94 : decode cX6_isSeenBehind 94 = .ok (.iinc 2 1, 3) := by decide +kernel
theorem dX6_isSeenBehind_97 : decode cX6_isSeenBehind 97 = .ok (.goto (-95), 3) := by decide +kernel
theorem dX6_isSeenBehind_100 : decode cX6_isSeenBehind 100 = .ok (.iconst 1, 1) := by decide +kernel
theorem dX6_isSeenBehind_101 : decode cX6_isSeenBehind 101 = .ok (.ireturn, 1) := by decide +kernel
theorem dX6_bestOrder_0 : decode cX6_bestOrder 0 = .ok (.bipush (-5), 2) := by decide +kernel
theorem dX6_bestOrder_2 : decode cX6_bestOrder 2 = .ok (.istore_n 1, 1) := by decide +kernel
theorem dX6_bestOrder_3 : decode cX6_bestOrder 3 = .ok (.iconst 0, 1) := by decide +kernel
theorem dX6_bestOrder_4 : decode cX6_bestOrder 4 = .ok (.istore_n 2, 1) := by decide +kernel
theorem dX6_bestOrder_5 : decode cX6_bestOrder 5 = .ok (.iconst 0, 1) := by decide +kernel
theorem dX6_bestOrder_6 : decode cX6_bestOrder 6 = .ok (.istore_n 3, 1) := by decide +kernel
theorem dX6_bestOrder_7 : decode cX6_bestOrder 7 = .ok (.iload_n 3, 1) := by decide +kernel
theorem dX6_bestOrder_8 : decode cX6_bestOrder 8 = .ok (.iconst 1, 1) := by decide +kernel
theorem dX6_bestOrder_9 : decode cX6_bestOrder 9 = .ok (.iconst 2, 1) := by decide +kernel
theorem dX6_bestOrder_10 : decode cX6_bestOrder 10 = .ok (.aload_n 0, 1) := by decide +kernel
theorem dX6_bestOrder_11 : decode cX6_bestOrder 11 = .ok (.getfield 12, 3) := by decide +kernel
theorem dX6_bestOrder_14 : decode cX6_bestOrder 14 = .ok (.getfield 92, 3) := by decide +kernel
theorem dX6_bestOrder_17 : decode cX6_bestOrder 17 = .ok (.imul, 1) := by decide +kernel
theorem dX6_bestOrder_18 : decode cX6_bestOrder 18 = .ok (.ishl, 1) := by decide +kernel
theorem dX6_bestOrder_19 : decode cX6_bestOrder 19 = .ok (.if_icmp .ge 44, 3) := by decide +kernel
theorem dX6_bestOrder_22 : decode cX6_bestOrder 22 = .ok (.aload_n 0, 1) := by decide +kernel
theorem dX6_bestOrder_23 : decode cX6_bestOrder 23 = .ok (.iload_n 3, 1) := by decide +kernel
theorem dX6_bestOrder_24 : decode cX6_bestOrder 24 = .ok (.invokevirtual 312, 3) := by decide +kernel
theorem dX6_bestOrder_27 : decode cX6_bestOrder 27 = .ok (.ifCond .ne 6, 3) := by decide +kernel
theorem dX6_bestOrder_30 : decode cX6_bestOrder 30 = .ok (.goto 27, 3) := by decide +kernel
theorem dX6_bestOrder_33 : decode cX6_bestOrder 33 = .ok (.aload_n 0, 1) := by decide +kernel
theorem dX6_bestOrder_34 : decode cX6_bestOrder 34 = .ok (.iload_n 3, 1) := by decide +kernel
theorem dX6_bestOrder_35 : decode cX6_bestOrder 35 = .ok (.invokevirtual 207, 3) := by decide +kernel
theorem dX6_bestOrder_38 : decode cX6_bestOrder 38 = .ok (.istore 4, 2) := by decide +kernel
theorem dX6_bestOrder_40 : decode cX6_bestOrder 40 = .ok (.iload_n 1, 1) := by decide +kernel
theorem dX6_bestOrder_41 : decode cX6_bestOrder 41 = .ok (.bipush (-5), 2) := by decide +kernel
theorem dX6_bestOrder_43 : decode cX6_bestOrder 43 = .ok (.if_icmp .eq 9, 3) := by decide +kernel
theorem dX6_bestOrder_46 : decode cX6_bestOrder 46 = .ok (.iload 4, 2) := by decide +kernel
theorem dX6_bestOrder_48 : decode cX6_bestOrder 48 = .ok (.iload_n 2, 1) := by decide +kernel
theorem dX6_bestOrder_49 : decode cX6_bestOrder 49 = .ok (.if_icmp .le 8, 3) := by decide +kernel
theorem dX6_bestOrder_52 : decode cX6_bestOrder 52 = .ok (.iload_n 3, 1) := by decide +kernel
theorem dX6_bestOrder_53 : decode cX6_bestOrder 53 = .ok (.istore_n 1, 1) := by decide +kernel
theorem dX6_bestOrder_54 : decode cX6_bestOrder 54 = .ok (.iload 4, 2) := by decide +kernel
theorem dX6_bestOrder_56 : decode cX6_bestOrder 56 = .ok (.istore_n 2, 1) := by decide +kernel
theorem dX6_bestOrder_57 : decode cX6_bestOrder 57 = .ok (.iinc 3 1, 3) := by decide +kernel
theorem dX6_bestOrder_60 : decode cX6_bestOrder 60 = .ok (.goto (-53), 3) := by decide +kernel
theorem dX6_bestOrder_63 : decode cX6_bestOrder 63 = .ok (.iload_n 1, 1) := by decide +kernel
theorem dX6_bestOrder_64 : decode cX6_bestOrder 64 = .ok (.ireturn, 1) := by decide +kernel
theorem dX6_totalBy_0 : decode cX6_totalBy 0 = .ok (.aload_n 0, 1) := by decide +kernel
theorem dX6_totalBy_1 : decode cX6_totalBy 1 = .ok (.getfield 18, 3) := by decide +kernel
theorem dX6_totalBy_4 : decode cX6_totalBy 4 = .ok (.aload_n 0, 1) := by decide +kernel
theorem dX6_totalBy_5 : decode cX6_totalBy 5 = .ok (.getfield 12, 3) := by decide +kernel
theorem dX6_totalBy_8 : decode cX6_totalBy 8 = .ok (.invokevirtual 243, 3) := by decide +kernel
theorem dX6_totalBy_11 : decode cX6_totalBy 11 = .ok (.iconst 0, 1) := by decide +kernel
theorem dX6_totalBy_12 : decode cX6_totalBy 12 = .ok (.istore_n 2, 1) := by decide +kernel
theorem dX6_totalBy_13 : decode cX6_totalBy 13 = .ok (.iload_n 2, 1) := by decide +kernel
theorem dX6_totalBy_14 : decode cX6_totalBy 14 = .ok (.aload_n 0, 1) := by decide +kernel
theorem dX6_totalBy_15 : decode cX6_totalBy 15 = .ok (.getfield 12, 3) := by decide +kernel
theorem dX6_totalBy_18 : decode cX6_totalBy 18 = .ok (.getfield 92, 3) := by decide +kernel
theorem dX6_totalBy_21 : decode cX6_totalBy 21 = .ok (.if_icmp .ge 23, 3) := by decide +kernel
theorem dX6_totalBy_24 : decode cX6_totalBy 24 = .ok (.aload_n 0, 1) := by decide +kernel
theorem dX6_totalBy_25 : decode cX6_totalBy 25 = .ok (.getfield 18, 3) := by decide +kernel
theorem dX6_totalBy_28 : decode cX6_totalBy 28 = .ok (.aload_n 0, 1) := by decide +kernel
theorem dX6_totalBy_29 : decode cX6_totalBy 29 = .ok (.iload_n 1, 1) := by decide +kernel
theorem dX6_totalBy_30 : decode cX6_totalBy 30 = .ok (.iload_n 2, 1) := by decide +kernel
theorem dX6_totalBy_31 : decode cX6_totalBy 31 = .ok (.invokevirtual 210, 3) := by decide +kernel
theorem dX6_totalBy_34 : decode cX6_totalBy 34 = .ok (.invokevirtual 158, 3) := by decide +kernel
theorem dX6_totalBy_37 : decode cX6_totalBy 37 = .ok (.pop, 1) := by decide +kernel
theorem dX6_totalBy_38 : decode cX6_totalBy 38 = .ok (.iinc 2 1, 3) := by decide +kernel
theorem dX6_totalBy_41 : decode cX6_totalBy 41 = .ok (.goto (-28), 3) := by decide +kernel
theorem dX6_totalBy_44 : decode cX6_totalBy 44 = .ok (.aload_n 0, 1) := by decide +kernel
theorem dX6_totalBy_45 : decode cX6_totalBy 45 = .ok (.getfield 18, 3) := by decide +kernel
theorem dX6_totalBy_48 : decode cX6_totalBy 48 = .ok (.invokevirtual 148, 3) := by decide +kernel
theorem dX6_totalBy_51 : decode cX6_totalBy 51 = .ok (.ireturn, 1) := by decide +kernel
theorem dX6_isOrder_0 : decode cX6_isOrder 0 = .ok (.iconst 0, 1) := by decide +kernel
theorem dX6_isOrder_1 : decode cX6_isOrder 1 = .ok (.istore_n 2, 1) := by decide +kernel
theorem dX6_isOrder_2 : decode cX6_isOrder 2 = .ok (.iconst 0, 1) := by decide +kernel
theorem dX6_isOrder_3 : decode cX6_isOrder 3 = .ok (.istore_n 3, 1) := by decide +kernel
theorem dX6_isOrder_4 : decode cX6_isOrder 4 = .ok (.iload_n 3, 1) := by decide +kernel
theorem dX6_isOrder_5 : decode cX6_isOrder 5 = .ok (.aload_n 0, 1) := by decide +kernel
theorem dX6_isOrder_6 : decode cX6_isOrder 6 = .ok (.getfield 12, 3) := by decide +kernel
theorem dX6_isOrder_9 : decode cX6_isOrder 9 = .ok (.getfield 92, 3) := by decide +kernel
theorem dX6_isOrder_12 : decode cX6_isOrder 12 = .ok (.if_icmp .ge 20, 3) := by decide +kernel
theorem dX6_isOrder_15 : decode cX6_isOrder 15 = .ok (.iload_n 2, 1) := by decide +kernel
theorem dX6_isOrder_16 : decode cX6_isOrder 16 = .ok (.iconst 1, 1) := by decide +kernel
theorem dX6_isOrder_17 : decode cX6_isOrder 17 = .ok (.aload_n 0, 1) := by decide +kernel
theorem dX6_isOrder_18 : decode cX6_isOrder 18 = .ok (.iload_n 1, 1) := by decide +kernel
theorem dX6_isOrder_19 : decode cX6_isOrder 19 = .ok (.iload_n 3, 1) := by decide +kernel
theorem dX6_isOrder_20 : decode cX6_isOrder 20 = .ok (.invokevirtual 210, 3) := by decide +kernel
theorem dX6_isOrder_23 : decode cX6_isOrder 23 = .ok (.ishl, 1) := by decide +kernel
theorem dX6_isOrder_24 : decode cX6_isOrder 24 = .ok (.ior, 1) := by decide +kernel
theorem dX6_isOrder_25 : decode cX6_isOrder 25 = .ok (.istore_n 2, 1) := by decide +kernel
theorem dX6_isOrder_26 : decode cX6_isOrder 26 = .ok (.iinc 3 1, 3) := by decide +kernel
theorem dX6_isOrder_29 : decode cX6_isOrder 29 = .ok (.goto (-25), 3) := by decide +kernel
theorem dX6_isOrder_32 : decode cX6_isOrder 32 = .ok (.iload_n 2, 1) := by decide +kernel
theorem dX6_isOrder_33 : decode cX6_isOrder 33 = .ok (.iconst 1, 1) := by decide +kernel
theorem dX6_isOrder_34 : decode cX6_isOrder 34 = .ok (.aload_n 0, 1) := by decide +kernel
theorem dX6_isOrder_35 : decode cX6_isOrder 35 = .ok (.getfield 12, 3) := by decide +kernel
theorem dX6_isOrder_38 : decode cX6_isOrder 38 = .ok (.getfield 92, 3) := by decide +kernel
theorem dX6_isOrder_41 : decode cX6_isOrder 41 = .ok (.ishl, 1) := by decide +kernel
theorem dX6_isOrder_42 : decode cX6_isOrder 42 = .ok (.iconst 1, 1) := by decide +kernel
theorem dX6_isOrder_43 : decode cX6_isOrder 43 = .ok (.isub, 1) := by decide +kernel
theorem dX6_isOrder_44 : decode cX6_isOrder 44 = .ok (.if_icmp .ne 7, 3) := by decide +kernel
theorem dX6_isOrder_47 : decode cX6_isOrder 47 = .ok (.iconst 1, 1) := by decide +kernel
theorem dX6_isOrder_48 : decode cX6_isOrder 48 = .ok (.goto 4, 3) := by decide +kernel
theorem dX6_isOrder_51 : decode cX6_isOrder 51 = .ok (.iconst 0, 1) := by decide +kernel
theorem dX6_isOrder_52 : decode cX6_isOrder 52 = .ok (.ireturn, 1) := by decide +kernel
theorem dX6_comer_0 : decode cX6_comer 0 = .ok (.iload_n 1, 1) := by decide +kernel
theorem dX6_comer_1 : decode cX6_comer 1 = .ok (.iconst 2, 1) := by decide +kernel
theorem dX6_comer_2 : decode cX6_comer 2 = .ok (.aload_n 0, 1) := by decide +kernel
theorem dX6_comer_3 : decode cX6_comer 3 = .ok (.getfield 12, 3) := by decide +kernel
theorem dX6_comer_6 : decode cX6_comer 6 = .ok (.getfield 92, 3) := by decide +kernel
theorem dX6_comer_9 : decode cX6_comer 9 = .ok (.iconst 1, 1) := by decide +kernel
theorem dX6_comer_10 : decode cX6_comer 10 = .ok (.isub, 1) := by decide +kernel
theorem dX6_comer_11 : decode cX6_comer 11 = .ok (.iload_n 2, 1) := by decide +kernel
theorem dX6_comer_12 : decode cX6_comer 12 = .ok (.isub, 1) := by decide +kernel
theorem dX6_comer_13 : decode cX6_comer 13 = .ok (.imul, 1) := by decide +kernel
theorem dX6_comer_14 : decode cX6_comer 14 = .ok (.ishr, 1) := by decide +kernel
theorem dX6_comer_15 : decode cX6_comer 15 = .ok (.iconst 3, 1) := by decide +kernel
theorem dX6_comer_16 : decode cX6_comer 16 = .ok (.iand, 1) := by decide +kernel
theorem dX6_comer_17 : decode cX6_comer 17 = .ok (.ireturn, 1) := by decide +kernel
theorem dX6_follow_0 : decode cX6_follow 0 = .ok (.iload_n 1, 1) := by decide +kernel
theorem dX6_follow_1 : decode cX6_follow 1 = .ok (.tableswitch 63 0 2 #[27, 39, 51], 27) := by decide +kernel
theorem dX6_follow_28 : decode cX6_follow 28 = .ok (.aload_n 0, 1) := by decide +kernel
theorem dX6_follow_29 : decode cX6_follow 29 = .ok (.getfield 18, 3) := by decide +kernel
theorem dX6_follow_32 : decode cX6_follow 32 = .ok (.iload_n 2, 1) := by decide +kernel
theorem dX6_follow_33 : decode cX6_follow 33 = .ok (.invokevirtual 158, 3) := by decide +kernel
theorem dX6_follow_36 : decode cX6_follow 36 = .ok (.pop, 1) := by decide +kernel
theorem dX6_follow_37 : decode cX6_follow 37 = .ok (.goto 35, 3) := by decide +kernel
theorem dX6_follow_40 : decode cX6_follow 40 = .ok (.aload_n 0, 1) := by decide +kernel
theorem dX6_follow_41 : decode cX6_follow 41 = .ok (.getfield 18, 3) := by decide +kernel
theorem dX6_follow_44 : decode cX6_follow 44 = .ok (.iload_n 2, 1) := by decide +kernel
theorem dX6_follow_45 : decode cX6_follow 45 = .ok (.iconst 1, 1) := by decide +kernel
theorem dX6_follow_46 : decode cX6_follow 46 = .ok (.invokevirtual 161, 3) := by decide +kernel
theorem dX6_follow_49 : decode cX6_follow 49 = .ok (.goto 23, 3) := by decide +kernel
theorem dX6_follow_52 : decode cX6_follow 52 = .ok (.aload_n 0, 1) := by decide +kernel
theorem dX6_follow_53 : decode cX6_follow 53 = .ok (.getfield 18, 3) := by decide +kernel
theorem dX6_follow_56 : decode cX6_follow 56 = .ok (.iload_n 2, 1) := by decide +kernel
theorem dX6_follow_57 : decode cX6_follow 57 = .ok (.iconst 0, 1) := by decide +kernel
theorem dX6_follow_58 : decode cX6_follow 58 = .ok (.invokevirtual 161, 3) := by decide +kernel
theorem dX6_follow_61 : decode cX6_follow 61 = .ok (.goto 11, 3) := by decide +kernel
theorem dX6_follow_64 : decode cX6_follow 64 = .ok (.aload_n 0, 1) := by decide +kernel
theorem dX6_follow_65 : decode cX6_follow 65 = .ok (.getfield 18, 3) := by decide +kernel
theorem dX6_follow_68 : decode cX6_follow 68 = .ok (.invokevirtual 168, 3) := by decide +kernel
theorem dX6_follow_71 : decode cX6_follow 71 = .ok (.pop, 1) := by decide +kernel
theorem dX6_follow_72 : decode cX6_follow 72 = .ok (.return_, 1) := by decide +kernel
