theorem dX7_goesTo_1 : decode cX7_goesTo 1 = .ok (.istore_n 2, 1) := by decide +kernel
theorem dX7_goesTo_2 : decode cX7_goesTo 2 = .ok (.iload_n 2, 1) := by decide +kernel
theorem dX7_goesTo_3 : decode cX7_goesTo 3 = .ok (.aload_n 0, 1) := by decide +kernel
theorem dX7_goesTo_4 : decode cX7_goesTo 4 = .ok (.getfield 9, 3) := by decide +kernel
theorem dX7_goesTo_7 : decode cX7_goesTo 7 = .ok (.bipush 12, 2) := by decide +kernel
theorem dX7_goesTo_9 : decode cX7_goesTo 9 = .ok (.iaload, 1) := by decide +kernel
theorem dX7_goesTo_10 : decode cX7_goesTo 10 = .ok (.if_icmp .ge 22, 3) := by decide +kernel
theorem dX7_goesTo_13 : decode cX7_goesTo 13 = .ok (.aload_n 0, 1) := by decide +kernel
theorem dX7_goesTo_14 : decode cX7_goesTo 14 = .ok (.getfield 9, 3) := by decide +kernel
theorem dX7_goesTo_17 : decode cX7_goesTo 17 = .ok (.iconst 1, 1) := by decide +kernel
theorem dX7_goesTo_18 : decode cX7_goesTo 18 = .ok (.iload_n 2, 1) := by decide +kernel
theorem dX7_goesTo_19 : decode cX7_goesTo 19 = .ok (.iadd, 1) := by decide +kernel
theorem dX7_goesTo_20 : decode cX7_goesTo 20 = .ok (.iload_n 1, 1) := by decide +kernel
theorem dX7_goesTo_21 : decode cX7_goesTo 21 = .ok (.iload_n 2, 1) := by decide +kernel
theorem dX7_goesTo_22 : decode cX7_goesTo 22 = .ok (.invokestatic 211, 3) := by decide +kernel
theorem dX7_goesTo_25 : decode cX7_goesTo 25 = .ok (.iastore, 1) := by decide +kernel
theorem dX7_goesTo_26 : decode cX7_goesTo 26 = .ok (.iinc 2 1, 3) := by decide +kernel
theorem dX7_goesTo_29 : decode cX7_goesTo 29 = .ok (.goto (-27), 3) := by decide +kernel
theorem dX7_goesTo_32 : decode cX7_goesTo 32 = .ok (.return_, 1) := by decide +kernel
theorem dX7_comesTo_0 : decode cX7_comesTo 0 = .ok (.aload_n 0, 1) := by decide +kernel
theorem dX7_comesTo_1 : decode cX7_comesTo 1 = .ok (.invokevirtual 214, 3) := by decide +kernel
theorem dX7_comesTo_4 : decode cX7_comesTo 4 = .ok (.istore_n 2, 1) := by decide +kernel
theorem dX7_comesTo_5 : decode cX7_comesTo 5 = .ok (.aload_n 0, 1) := by decide +kernel
theorem dX7_comesTo_6 : decode cX7_comesTo 6 = .ok (.getfield 34, 3) := by decide +kernel
theorem dX7_comesTo_9 : decode cX7_comesTo 9 = .ok (.iload_n 2, 1) := by decide +kernel
theorem dX7_comesTo_10 : decode cX7_comesTo 10 = .ok (.iaload, 1) := by decide +kernel
theorem dX7_comesTo_11 : decode cX7_comesTo 11 = .ok (.iconst (-1), 1) := by decide +kernel
theorem dX7_comesTo_12 : decode cX7_comesTo 12 = .ok (.if_icmp .ne 30, 3) := by decide +kernel
theorem dX7_comesTo_15 : decode cX7_comesTo 15 = .ok (.aload_n 0, 1) := by decide +kernel
theorem dX7_comesTo_16 : decode cX7_comesTo 16 = .ok (.getfield 34, 3) := by decide +kernel
theorem dX7_comesTo_19 : decode cX7_comesTo 19 = .ok (.iload_n 2, 1) := by decide +kernel
theorem dX7_comesTo_20 : decode cX7_comesTo 20 = .ok (.iload_n 1, 1) := by decide +kernel
theorem dX7_comesTo_21 : decode cX7_comesTo 21 = .ok (.iastore, 1) := by decide +kernel
theorem dX7_comesTo_22 : decode cX7_comesTo 22 = .ok (.aload_n 0, 1) := by decide +kernel
theorem dX7_comesTo_23 : decode cX7_comesTo 23 = .ok (.getfield 31, 3) := by decide +kernel
theorem dX7_comesTo_26 : decode cX7_comesTo 26 = .ok (.aload_n 0, 1) := by decide +kernel
theorem dX7_comesTo_27 : decode cX7_comesTo 27 = .ok (.getfield 217, 3) := by decide +kernel
theorem dX7_comesTo_30 : decode cX7_comesTo 30 = .ok (.iload_n 2, 1) := by decide +kernel
theorem dX7_comesTo_31 : decode cX7_comesTo 31 = .ok (.iastore, 1) := by decide +kernel
theorem dX7_comesTo_32 : decode cX7_comesTo 32 = .ok (.aload_n 0, 1) := by decide +kernel
theorem dX7_comesTo_33 : decode cX7_comesTo 33 = .ok (.dup, 1) := by decide +kernel
theorem dX7_comesTo_34 : decode cX7_comesTo 34 = .ok (.getfield 217, 3) := by decide +kernel
theorem dX7_comesTo_37 : decode cX7_comesTo 37 = .ok (.iconst 1, 1) := by decide +kernel
theorem dX7_comesTo_38 : decode cX7_comesTo 38 = .ok (.iadd, 1) := by decide +kernel
theorem dX7_comesTo_39 : decode cX7_comesTo 39 = .ok (.putfield 217, 3) := by decide +kernel
theorem dX7_comesTo_42 : decode cX7_comesTo 42 = .ok (.return_, 1) := by decide +kernel
theorem dX7_plainLiking_0 : decode cX7_plainLiking 0 = .ok (.aload_n 0, 1) := by decide +kernel
theorem dX7_plainLiking_1 : decode cX7_plainLiking 1 = .ok (.iload_n 1, 1) := by decide +kernel
theorem dX7_plainLiking_2 : decode cX7_plainLiking 2 = .ok (.iload_n 2, 1) := by decide +kernel
theorem dX7_plainLiking_3 : decode cX7_plainLiking 3 = .ok (.aload_n 0, 1) := by decide +kernel
theorem dX7_plainLiking_4 : decode cX7_plainLiking 4 = .ok (.getfield 28, 3) := by decide +kernel
theorem dX7_plainLiking_7 : decode cX7_plainLiking 7 = .ok (.bipush 7, 2) := by decide +kernel
theorem dX7_plainLiking_9 : decode cX7_plainLiking 9 = .ok (.iload_n 1, 1) := by decide +kernel
theorem dX7_plainLiking_10 : decode cX7_plainLiking 10 = .ok (.imul, 1) := by decide +kernel
theorem dX7_plainLiking_11 : decode cX7_plainLiking 11 = .ok (.iload_n 2, 1) := by decide +kernel
theorem dX7_plainLiking_12 : decode cX7_plainLiking 12 = .ok (.iadd, 1) := by decide +kernel
theorem dX7_plainLiking_13 : decode cX7_plainLiking 13 = .ok (.iaload, 1) := by decide +kernel
theorem dX7_plainLiking_14 : decode cX7_plainLiking 14 = .ok (.invokevirtual 139, 3) := by decide +kernel
theorem dX7_plainLiking_17 : decode cX7_plainLiking 17 = .ok (.ireturn, 1) := by decide +kernel
theorem dX7_wouldChange_0 : decode cX7_wouldChange 0 = .ok (.aload_n 0, 1) := by decide +kernel
theorem dX7_wouldChange_1 : decode cX7_wouldChange 1 = .ok (.getfield 9, 3) := by decide +kernel
theorem dX7_wouldChange_4 : decode cX7_wouldChange 4 = .ok (.iconst 1, 1) := by decide +kernel
theorem dX7_wouldChange_5 : decode cX7_wouldChange 5 = .ok (.iload_n 1, 1) := by decide +kernel
theorem dX7_wouldChange_6 : decode cX7_wouldChange 6 = .ok (.iadd, 1) := by decide +kernel
theorem dX7_wouldChange_7 : decode cX7_wouldChange 7 = .ok (.iaload, 1) := by decide +kernel
theorem dX7_wouldChange_8 : decode cX7_wouldChange 8 = .ok (.iconst (-1), 1) := by decide +kernel
theorem dX7_wouldChange_9 : decode cX7_wouldChange 9 = .ok (.if_icmp .eq 77, 3) := by decide +kernel
theorem dX7_wouldChange_12 : decode cX7_wouldChange 12 = .ok (.aload_n 0, 1) := by decide +kernel
theorem dX7_wouldChange_13 : decode cX7_wouldChange 13 = .ok (.getfield 9, 3) := by decide +kernel
theorem dX7_wouldChange_16 : decode cX7_wouldChange 16 = .ok (.iconst 1, 1) := by decide +kernel
theorem dX7_wouldChange_17 : decode cX7_wouldChange 17 = .ok (.iload_n 2, 1) := by decide +kernel
theorem dX7_wouldChange_18 : decode cX7_wouldChange 18 = .ok (.iadd, 1) := by decide +kernel
theorem dX7_wouldChange_19 : decode cX7_wouldChange 19 = .ok (.iaload, 1) := by decide +kernel
theorem dX7_wouldChange_20 : decode cX7_wouldChange 20 = .ok (.iconst (-1), 1) := by decide +kernel
theorem dX7_wouldChange_21 : decode cX7_wouldChange 21 = .ok (.if_icmp .eq 65, 3) := by decide +kernel
theorem dX7_wouldChange_24 : decode cX7_wouldChange 24 = .ok (.aload_n 0, 1) := by decide +kernel
theorem dX7_wouldChange_25 : decode cX7_wouldChange 25 = .ok (.iload_n 1, 1) := by decide +kernel
theorem dX7_wouldChange_26 : decode cX7_wouldChange 26 = .ok (.aload_n 0, 1) := by decide +kernel
theorem dX7_wouldChange_27 : decode cX7_wouldChange 27 = .ok (.getfield 9, 3) := by decide +kernel
theorem dX7_wouldChange_30 : decode cX7_wouldChange 30 = .ok (.iconst 1, 1) := by decide +kernel
theorem dX7_wouldChange_31 : decode cX7_wouldChange 31 = .ok (.iload_n 2, 1) := by decide +kernel
theorem dX7_wouldChange_32 : decode cX7_wouldChange 32 = .ok (.iadd, 1) := by decide +kernel
theorem dX7_wouldChange_33 : decode cX7_wouldChange 33 = .ok (.iaload, 1) := by decide +kernel
theorem dX7_wouldChange_34 : decode cX7_wouldChange 34 = .ok (.invokevirtual 220, 3) := by decide +kernel
theorem dX7_wouldChange_37 : decode cX7_wouldChange 37 = .ok (.aload_n 0, 1) := by decide +kernel
theorem dX7_wouldChange_38 : decode cX7_wouldChange 38 = .ok (.iload_n 1, 1) := by decide +kernel
theorem dX7_wouldChange_39 : decode cX7_wouldChange 39 = .ok (.aload_n 0, 1) := by decide +kernel
theorem dX7_wouldChange_40 : decode cX7_wouldChange 40 = .ok (.getfield 9, 3) := by decide +kernel
theorem dX7_wouldChange_43 : decode cX7_wouldChange 43 = .ok (.iconst 1, 1) := by decide +kernel
theorem dX7_wouldChange_44 : decode cX7_wouldChange 44 = .ok (.iload_n 1, 1) := by decide +kernel
theorem dX7_wouldChange_45 : decode cX7_wouldChange 45 = .ok (.iadd, 1) := by decide +kernel
theorem dX7_wouldChange_46 : decode cX7_wouldChange 46 = .ok (.iaload, 1) := by decide +kernel
theorem dX7_wouldChange_47 : decode cX7_wouldChange 47 = .ok (.invokevirtual 220, 3) := by decide +kernel
theorem dX7_wouldChange_50 : decode cX7_wouldChange 50 = .ok (.if_icmp .le 36, 3) := by decide +kernel
theorem dX7_wouldChange_53 : decode cX7_wouldChange 53 = .ok (.aload_n 0, 1) := by decide +kernel
theorem dX7_wouldChange_54 : decode cX7_wouldChange 54 = .ok (.iload_n 2, 1) := by decide +kernel
theorem dX7_wouldChange_55 : decode cX7_wouldChange 55 = .ok (.aload_n 0, 1) := by decide +kernel
theorem dX7_wouldChange_56 : decode cX7_wouldChange 56 = .ok (.getfield 9, 3) := by decide +kernel
theorem dX7_wouldChange_59 : decode cX7_wouldChange 59 = .ok (.iconst 1, 1) := by decide +kernel
theorem dX7_wouldChange_60 : decode cX7_wouldChange 60 = .ok (.iload_n 1, 1) := by decide +kernel
theorem dX7_wouldChange_61 : decode cX7_wouldChange 61 = .ok (.iadd, 1) := by decide +kernel
theorem dX7_wouldChange_62 : decode cX7_wouldChange 62 = .ok (.iaload, 1) := by decide +kernel
theorem dX7_wouldChange_63 : decode cX7_wouldChange 63 = .ok (.invokevirtual 220, 3) := by decide +kernel
theorem dX7_wouldChange_66 : decode cX7_wouldChange 66 = .ok (.aload_n 0, 1) := by decide +kernel
theorem dX7_wouldChange_67 : decode cX7_wouldChange 67 = .ok (.iload_n 2, 1) := by decide +kernel
theorem dX7_wouldChange_68 : decode cX7_wouldChange 68 = .ok (.aload_n 0, 1) := by decide +kernel
theorem dX7_wouldChange_69 : decode cX7_wouldChange 69 = .ok (.getfield 9, 3) := by decide +kernel
theorem dX7_wouldChange_72 : decode cX7_wouldChange 72 = .ok (.iconst 1, 1) := by decide +kernel
theorem dX7_wouldChange_73 : decode cX7_wouldChange 73 = .ok (.iload_n 2, 1) := by decide +kernel
theorem dX7_wouldChange_74 : decode cX7_wouldChange 74 = .ok (.iadd, 1) := by decide +kernel
theorem dX7_wouldChange_75 : decode cX7_wouldChange 75 = .ok (.iaload, 1) := by decide +kernel
theorem dX7_wouldChange_76 : decode cX7_wouldChange 76 = .ok (.invokevirtual 220, 3) := by decide +kernel
theorem dX7_wouldChange_79 : decode cX7_wouldChange 79 = .ok (.if_icmp .le 7, 3) := by decide +kernel
theorem dX7_wouldChange_82 : decode cX7_wouldChange 82 = .ok (.iconst 1, 1) := by decide +kernel
theorem dX7_wouldChange_83 : decode cX7_wouldChange 83 = .ok (.goto 4, 3) := by decide +kernel
theorem dX7_wouldChange_86 : decode cX7_wouldChange 86 = .ok (.iconst 0, 1) := by decide +kernel
theorem dX7_wouldChange_87 : decode cX7_wouldChange 87 = .ok (.ireturn, 1) := by decide +kernel
theorem dX7_changes_0 : decode cX7_changes 0 = .ok (.aload_n 0, 1) := by decide +kernel
theorem dX7_changes_1 : decode cX7_changes 1 = .ok (.getfield 9, 3) := by decide +kernel
theorem dX7_changes_4 : decode cX7_changes 4 = .ok (.iconst 1, 1) := by decide +kernel
theorem dX7_changes_5 : decode cX7_changes 5 = .ok (.iload_n 1, 1) := by decide +kernel
theorem dX7_changes_6 : decode cX7_changes 6 = .ok (.iadd, 1) := by decide +kernel
theorem dX7_changes_7 : decode cX7_changes 7 = .ok (.iaload, 1) := by decide +kernel
theorem dX7_changes_8 : decode cX7_changes 8 = .ok (.istore_n 3, 1) := by decide +kernel
theorem dX7_changes_9 : decode cX7_changes 9 = .ok (.aload_n 0, 1) := by decide +kernel
theorem dX7_changes_10 : decode cX7_changes 10 = .ok (.getfield 9, 3) := by decide +kernel
theorem dX7_changes_13 : decode cX7_changes 13 = .ok (.iconst 1, 1) := by decide +kernel
theorem dX7_changes_14 : decode cX7_changes 14 = .ok (.iload_n 1, 1) := by decide +kernel
theorem dX7_changes_15 : decode cX7_changes 15 = .ok (.iadd, 1) := by decide +kernel
theorem dX7_changes_16 : decode cX7_changes 16 = .ok (.aload_n 0, 1) := by decide +kernel
theorem dX7_changes_17 : decode cX7_changes 17 = .ok (.getfield 9, 3) := by decide +kernel
theorem dX7_changes_20 : decode cX7_changes 20 = .ok (.iconst 1, 1) := by decide +kernel
theorem dX7_changes_21 : decode cX7_changes 21 = .ok (.iload_n 2, 1) := by decide +kernel
theorem dX7_changes_22 : decode cX7_changes 22 = .ok (.iadd, 1) := by decide +kernel
theorem dX7_changes_23 : decode cX7_changes 23 = .ok (.iaload, 1) := by decide +kernel
theorem dX7_changes_24 : decode cX7_changes 24 = .ok (.iastore, 1) := by decide +kernel
theorem dX7_changes_25 : decode cX7_changes 25 = .ok (.aload_n 0, 1) := by decide +kernel
theorem dX7_changes_26 : decode cX7_changes 26 = .ok (.getfield 9, 3) := by decide +kernel
theorem dX7_changes_29 : decode cX7_changes 29 = .ok (.iconst 1, 1) := by decide +kernel
theorem dX7_changes_30 : decode cX7_changes 30 = .ok (.iload_n 2, 1) := by decide +kernel
theorem dX7_changes_31 : decode cX7_changes 31 = .ok (.iadd, 1) := by decide +kernel
theorem dX7_changes_32 : decode cX7_changes 32 = .ok (.iload_n 3, 1) := by decide +kernel
theorem dX7_changes_33 : decode cX7_changes 33 = .ok (.iastore, 1) := by decide +kernel
theorem dX7_changes_34 : decode cX7_changes 34 = .ok (.return_, 1) := by decide +kernel
theorem dX7_goesOnFrom_0 : decode cX7_goesOnFrom 0 = .ok (.iconst 0, 1) := by decide +kernel
theorem dX7_goesOnFrom_1 : decode cX7_goesOnFrom 1 = .ok (.istore_n 2, 1) := by decide +kernel
theorem dX7_goesOnFrom_2 : decode cX7_goesOnFrom 2 = .ok (.iload_n 2, 1) := by decide +kernel
theorem dX7_goesOnFrom_3 : decode cX7_goesOnFrom 3 = .ok (.aload_n 0, 1) := by decide +kernel
theorem dX7_goesOnFrom_4 : decode cX7_goesOnFrom 4 = .ok (.getfield 9, 3) := by decide +kernel
theorem dX7_goesOnFrom_7 : decode cX7_goesOnFrom 7 = .ok (.bipush 12, 2) := by decide +kernel
theorem dX7_goesOnFrom_9 : decode cX7_goesOnFrom 9 = .ok (.iaload, 1) := by decide +kernel
theorem dX7_goesOnFrom_10 : decode cX7_goesOnFrom 10 = .ok (.if_icmp .ge 81, 3) := by decide +kernel
theorem dX7_goesOnFrom_13 : decode cX7_goesOnFrom 13 = .ok (.aload_n 0, 1) := by decide +kernel
theorem dX7_goesOnFrom_14 : decode cX7_goesOnFrom 14 = .ok (.getfield 9, 3) := by decide +kernel
theorem dX7_goesOnFrom_17 : decode cX7_goesOnFrom 17 = .ok (.iconst 1, 1) := by decide +kernel
theorem dX7_goesOnFrom_18 : decode cX7_goesOnFrom 18 = .ok (.iload_n 2, 1) := by decide +kernel
theorem dX7_goesOnFrom_19 : decode cX7_goesOnFrom 19 = .ok (.iadd, 1) := by decide +kernel
theorem dX7_goesOnFrom_20 : decode cX7_goesOnFrom 20 = .ok (.iaload, 1) := by decide +kernel
theorem dX7_goesOnFrom_21 : decode cX7_goesOnFrom 21 = .ok (.istore_n 3, 1) := by decide +kernel
theorem dX7_goesOnFrom_22 : decode cX7_goesOnFrom 22 = .ok (.aload_n 0, 1) := by decide +kernel
theorem dX7_goesOnFrom_23 : decode cX7_goesOnFrom 23 = .ok (.iload_n 2, 1) := by decide +kernel
theorem dX7_goesOnFrom_24 : decode cX7_goesOnFrom 24 = .ok (.invokevirtual 174, 3) := by decide +kernel
theorem dX7_goesOnFrom_27 : decode cX7_goesOnFrom 27 = .ok (.istore 4, 2) := by decide +kernel
theorem dX7_goesOnFrom_29 : decode cX7_goesOnFrom 29 = .ok (.iconst 0, 1) := by decide +kernel
theorem dX7_goesOnFrom_30 : decode cX7_goesOnFrom 30 = .ok (.istore 5, 2) := by decide +kernel
theorem dX7_goesOnFrom_32 : decode cX7_goesOnFrom 32 = .ok (.iload 5, 2) := by decide +kernel
theorem dX7_goesOnFrom_34 : decode cX7_goesOnFrom 34 = .ok (.aload_n 0, 1) := by decide +kernel
theorem dX7_goesOnFrom_35 : decode cX7_goesOnFrom 35 = .ok (.getfield 9, 3) := by decide +kernel
theorem dX7_goesOnFrom_38 : decode cX7_goesOnFrom 38 = .ok (.bipush 13, 2) := by decide +kernel
theorem dX7_goesOnFrom_40 : decode cX7_goesOnFrom 40 = .ok (.iaload, 1) := by decide +kernel
theorem dX7_goesOnFrom_41 : decode cX7_goesOnFrom 41 = .ok (.if_icmp .ge 44, 3) := by decide +kernel
theorem dX7_goesOnFrom_44 : decode cX7_goesOnFrom 44 = .ok (.iload 4, 2) := by decide +kernel
theorem dX7_goesOnFrom_46 : decode cX7_goesOnFrom 46 = .ok (.iload 5, 2) := by decide +kernel
theorem dX7_goesOnFrom_48 : decode cX7_goesOnFrom 48 = .ok (.ishr, 1) := by decide +kernel
theorem dX7_goesOnFrom_49 : decode cX7_goesOnFrom 49 = .ok (.iconst 1, 1) := by decide +kernel
theorem dX7_goesOnFrom_50 : decode cX7_goesOnFrom 50 = .ok (.iand, 1) := by decide +kernel
theorem dX7_goesOnFrom_51 : decode cX7_goesOnFrom 51 = .ok (.iconst 1, 1) := by decide +kernel
theorem dX7_goesOnFrom_52 : decode cX7_goesOnFrom 52 = .ok (.if_icmp .ne 27, 3) := by decide +kernel
theorem dX7_goesOnFrom_55 : decode cX7_goesOnFrom 55 = .ok (.aload_n 0, 1) := by decide +kernel
theorem dX7_goesOnFrom_56 : decode cX7_goesOnFrom 56 = .ok (.getfield 9, 3) := by decide +kernel
theorem dX7_goesOnFrom_59 : decode cX7_goesOnFrom 59 = .ok (.iconst 1, 1) := by decide +kernel
theorem dX7_goesOnFrom_60 : decode cX7_goesOnFrom 60 = .ok (.iload_n 2, 1) := by decide +kernel
theorem dX7_goesOnFrom_61 : decode cX7_goesOnFrom 61 = .ok (.iadd, 1) := by decide +kernel
theorem dX7_goesOnFrom_62 : decode cX7_goesOnFrom 62 = .ok (.iload 5, 2) := by decide +kernel
theorem dX7_goesOnFrom_64 : decode cX7_goesOnFrom 64 = .ok (.iastore, 1) := by decide +kernel
theorem dX7_goesOnFrom_65 : decode cX7_goesOnFrom 65 = .ok (.aload_n 0, 1) := by decide +kernel
theorem dX7_goesOnFrom_66 : decode cX7_goesOnFrom 66 = .ok (.iload_n 1, 1) := by decide +kernel
theorem dX7_goesOnFrom_67 : decode cX7_goesOnFrom 67 = .ok (.invokevirtual 223, 3) := by decide +kernel
theorem dX7_goesOnFrom_70 : decode cX7_goesOnFrom 70 = .ok (.aload_n 0, 1) := by decide +kernel
theorem dX7_goesOnFrom_71 : decode cX7_goesOnFrom 71 = .ok (.getfield 9, 3) := by decide +kernel
theorem dX7_goesOnFrom_74 : decode cX7_goesOnFrom 74 = .ok (.iconst 1, 1) := by decide +kernel
theorem dX7_goesOnFrom_75 : decode cX7_goesOnFrom 75 = .ok (.iload_n 2, 1) := by decide +kernel
theorem dX7_goesOnFrom_76 : decode cX7_goesOnFrom 76 = .ok (.iadd, 1) := by decide +kernel
theorem dX7_goesOnFrom_77 : decode cX7_goesOnFrom 77 = .ok (.iload_n 3, 1) := by decide +kernel
theorem dX7_goesOnFrom_78 : decode cX7_goesOnFrom 78 = .ok (.iastore, 1) := by decide +kernel
theorem dX7_goesOnFrom_79 : decode cX7_goesOnFrom 79 = .ok (.iinc 5 1, 3) := by decide +kernel
theorem dX7_goesOnFrom_82 : decode cX7_goesOnFrom 82 = .ok (.goto (-50), 3) := by decide +kernel
theorem dX7_goesOnFrom_85 : decode cX7_goesOnFrom 85 = .ok (.iinc 2 1, 3) := by decide +kernel
theorem dX7_goesOnFrom_88 : decode cX7_goesOnFrom 88 = .ok (.goto (-86), 3) := by decide +kernel
theorem dX7_goesOnFrom_91 : decode cX7_goesOnFrom 91 = .ok (.iconst 0, 1) := by decide +kernel
theorem dX7_goesOnFrom_92 : decode cX7_goesOnFrom 92 = .ok (.istore_n 2, 1) := by decide +kernel
theorem dX7_goesOnFrom_93 : decode cX7_goesOnFrom 93 = .ok (.iload_n 2, 1) := by decide +kernel
theorem dX7_goesOnFrom_94 : decode cX7_goesOnFrom 94 = .ok (.aload_n 0, 1) := by decide +kernel
theorem dX7_goesOnFrom_95 : decode cX7_goesOnFrom 95 = .ok (.getfield 9, 3) := by decide +kernel
theorem dX7_goesOnFrom_98 : decode cX7_goesOnFrom 98 = .ok (.bipush 12, 2) := by decide +kernel
theorem dX7_goesOnFrom_100 : decode cX7_goesOnFrom 100 = .ok (.iaload, 1) := by decide +kernel
theorem dX7_goesOnFrom_101 : decode cX7_goesOnFrom 101 = .ok (.if_icmp .ge 56, 3) := by decide +kernel
theorem dX7_goesOnFrom_104 : decode cX7_goesOnFrom 104 = .ok (.iload_n 2, 1) := by decide +kernel
theorem dX7_goesOnFrom_105 : decode cX7_goesOnFrom 105 = .ok (.iconst 1, 1) := by decide +kernel
theorem dX7_goesOnFrom_106 : decode cX7_goesOnFrom 106 = .ok (.iadd, 1) := by decide +kernel
theorem dX7_goesOnFrom_107 : decode cX7_goesOnFrom 107 = .ok (.istore_n 3, 1) := by decide +kernel
theorem dX7_goesOnFrom_108 : decode cX7_goesOnFrom 108 = .ok (.iload_n 3, 1) := by decide +kernel
theorem dX7_goesOnFrom_109 : decode cX7_goesOnFrom 109 = .ok (.aload_n 0, 1) := by decide +kernel
theorem dX7_goesOnFrom_110 : decode cX7_goesOnFrom 110 = .ok (.getfield 9, 3) := by decide +kernel
theorem dX7_goesOnFrom_113 : decode cX7_goesOnFrom 113 = .ok (.bipush 12, 2) := by decide +kernel
theorem dX7_goesOnFrom_115 : decode cX7_goesOnFrom 115 = .ok (.iaload, 1) := by decide +kernel
theorem dX7_goesOnFrom_116 : decode cX7_goesOnFrom 116 = .ok (.if_icmp .ge 35, 3) := by decide +kernel
theorem dX7_goesOnFrom_119 : decode cX7_goesOnFrom 119 = .ok (.aload_n 0, 1) := by decide +kernel
theorem dX7_goesOnFrom_120 : decode cX7_goesOnFrom 120 = .ok (.iload_n 2, 1) := by decide +kernel
theorem dX7_goesOnFrom_121 : decode cX7_goesOnFrom 121 = .ok (.iload_n 3, 1) := by decide +kernel
theorem dX7_goesOnFrom_122 : decode cX7_goesOnFrom 122 = .ok (.invokevirtual 226, 3) := by decide +kernel
theorem dX7_goesOnFrom_125 : decode cX7_goesOnFrom 125 = .ok (.ifCond .eq 20, 3) := by decide +kernel
theorem dX7_goesOnFrom_128 : decode cX7_goesOnFrom 128 = .ok (.aload_n 0, 1) := by decide +kernel
theorem dX7_goesOnFrom_129 : decode cX7_goesOnFrom 129 = .ok (.iload_n 2, 1) := by decide +kernel
theorem dX7_goesOnFrom_130 : decode cX7_goesOnFrom 130 = .ok (.iload_n 3, 1) := by decide +kernel
theorem dX7_goesOnFrom_131 : decode cX7_goesOnFrom 131 = .ok (.invokevirtual 229, 3) := by decide +kernel
theorem dX7_goesOnFrom_134 : decode cX7_goesOnFrom 134 = .ok (.aload_n 0, 1) := by decide +kernel
theorem dX7_goesOnFrom_135 : decode cX7_goesOnFrom 135 = .ok (.iload_n 1, 1) := by decide +kernel
theorem dX7_goesOnFrom_136 : decode cX7_goesOnFrom 136 = .ok (.invokevirtual 223, 3) := by decide +kernel
theorem dX7_goesOnFrom_139 : decode cX7_goesOnFrom 139 = .ok (.aload_n 0, 1) := by decide +kernel
theorem dX7_goesOnFrom_140 : decode cX7_goesOnFrom 140 = .ok (.iload_n 2, 1) := by decide +kernel
theorem dX7_goesOnFrom_141 : decode cX7_goesOnFrom 141 = .ok (.iload_n 3, 1) := by decide +kernel
theorem dX7_goesOnFrom_142 : decode cX7_goesOnFrom 142 = .ok (.invokevirtual 229, 3) := by decide +kernel
theorem dX7_goesOnFrom_145 : decode cX7_goesOnFrom 145 = .ok (.iinc 3 1, 3) := by decide +kernel
theorem dX7_goesOnFrom_148 : decode cX7_goesOnFrom 148 = .ok (.goto (-40), 3) := by decide +kernel
theorem dX7_goesOnFrom_151 : decode cX7_goesOnFrom 151 = .ok (.iinc 2 1, 3) := by decide +kernel
theorem dX7_goesOnFrom_154 : decode cX7_goesOnFrom 154 = .ok (.goto (-61), 3) := by decide +kernel
theorem dX7_goesOnFrom_157 : decode cX7_goesOnFrom 157 = .ok (.return_, 1) := by decide +kernel
theorem dX7_looksForWays_0 : decode cX7_looksForWays 0 = .ok (.aload_n 0, 1) := by decide +kernel
theorem dX7_looksForWays_1 : decode cX7_looksForWays 1 = .ok (.invokevirtual 233, 3) := by decide +kernel
theorem dX7_looksForWays_4 : decode cX7_looksForWays 4 = .ok (.iconst 0, 1) := by decide +kernel
theorem dX7_looksForWays_5 : decode cX7_looksForWays 5 = .ok (.istore_n 1, 1) := by decide +kernel
theorem dX7_looksForWays_6 : decode cX7_looksForWays 6 = .ok (.iload_n 1, 1) := by decide +kernel
theorem dX7_looksForWays_7 : decode cX7_looksForWays 7 = .ok (.sipush 4096, 3) := by decide +kernel
theorem dX7_looksForWays_10 : decode cX7_looksForWays 10 = .ok (.if_icmp .ge 16, 3) := by decide +kernel
theorem dX7_looksForWays_13 : decode cX7_looksForWays 13 = .ok (.aload_n 0, 1) := by decide +kernel
theorem dX7_looksForWays_14 : decode cX7_looksForWays 14 = .ok (.getfield 34, 3) := by decide +kernel
theorem dX7_looksForWays_17 : decode cX7_looksForWays 17 = .ok (.iload_n 1, 1) := by decide +kernel
theorem dX7_looksForWays_18 : decode cX7_looksForWays 18 = .ok (.iconst (-1), 1) := by decide +kernel
theorem dX7_looksForWays_19 : decode cX7_looksForWays 19 = .ok (.iastore, 1) := by decide +kernel
theorem dX7_looksForWays_20 : decode cX7_looksForWays 20 = .ok (.iinc 1 1, 3) := by decide +kernel
theorem dX7_looksForWays_23 : decode cX7_looksForWays 23 = .ok (.goto (-17), 3) := by decide +kernel
theorem dX7_looksForWays_26 : decode cX7_looksForWays 26 = .ok (.aload_n 0, 1) := by decide +kernel
theorem dX7_looksForWays_27 : decode cX7_looksForWays 27 = .ok (.iconst 0, 1) := by decide +kernel
theorem dX7_looksForWays_28 : decode cX7_looksForWays 28 = .ok (.putfield 217, 3) := by decide +kernel
theorem dX7_looksForWays_31 : decode cX7_looksForWays 31 = .ok (.aload_n 0, 1) := by decide +kernel
theorem dX7_looksForWays_32 : decode cX7_looksForWays 32 = .ok (.invokevirtual 202, 3) := by decide +kernel
theorem dX7_looksForWays_35 : decode cX7_looksForWays 35 = .ok (.aload_n 0, 1) := by decide +kernel
theorem dX7_looksForWays_36 : decode cX7_looksForWays 36 = .ok (.iconst 0, 1) := by decide +kernel
theorem dX7_looksForWays_37 : decode cX7_looksForWays 37 = .ok (.invokevirtual 223, 3) := by decide +kernel
theorem dX7_looksForWays_40 : decode cX7_looksForWays 40 = .ok (.iconst 0, 1) := by decide +kernel
theorem dX7_looksForWays_41 : decode cX7_looksForWays 41 = .ok (.istore_n 1, 1) := by decide +kernel
theorem dX7_looksForWays_42 : decode cX7_looksForWays 42 = .ok (.iload_n 1, 1) := by decide +kernel
theorem dX7_looksForWays_43 : decode cX7_looksForWays 43 = .ok (.aload_n 0, 1) := by decide +kernel
theorem dX7_looksForWays_44 : decode cX7_looksForWays 44 = .ok (.getfield 217, 3) := by decide +kernel
theorem dX7_looksForWays_47 : decode cX7_looksForWays 47 = .ok (.if_icmp .ge 36, 3) := by decide +kernel
theorem dX7_looksForWays_50 : decode cX7_looksForWays 50 = .ok (.aload_n 0, 1) := by decide +kernel
theorem dX7_looksForWays_51 : decode cX7_looksForWays 51 = .ok (.aload_n 0, 1) := by decide +kernel
theorem dX7_looksForWays_52 : decode cX7_looksForWays 52 = .ok (.getfield 31, 3) := by decide +kernel
theorem dX7_looksForWays_55 : decode cX7_looksForWays 55 = .ok (.iload_n 1, 1) := by decide +kernel
theorem dX7_looksForWays_56 : decode cX7_looksForWays 56 = .ok (.iaload, 1) := by decide +kernel
theorem dX7_looksForWays_57 : decode cX7_looksForWays 57 = .ok (.invokevirtual 236, 3) := by decide +kernel
theorem dX7_looksForWays_60 : decode cX7_looksForWays 60 = .ok (.aload_n 0, 1) := by decide +kernel
theorem dX7_looksForWays_61 : decode cX7_looksForWays 61 = .ok (.aload_n 0, 1) := by decide +kernel
theorem dX7_looksForWays_62 : decode cX7_looksForWays 62 = .ok (.getfield 34, 3) := by decide +kernel
theorem dX7_looksForWays_65 : decode cX7_looksForWays 65 = .ok (.aload_n 0, 1) := by decide +kernel
theorem dX7_looksForWays_66 : decode cX7_looksForWays 66 = .ok (.getfield 31, 3) := by decide +kernel
theorem dX7_looksForWays_69 : decode cX7_looksForWays 69 = .ok (.iload_n 1, 1) := by decide +kernel
theorem dX7_looksForWays_70 : decode cX7_looksForWays 70 = .ok (.iaload, 1) := by decide +kernel
theorem dX7_looksForWays_71 : decode cX7_looksForWays 71 = .ok (.iaload, 1) := by decide +kernel
theorem dX7_looksForWays_72 : decode cX7_looksForWays 72 = .ok (.iconst 1, 1) := by decide +kernel
theorem dX7_looksForWays_73 : decode cX7_looksForWays 73 = .ok (.iadd, 1) := by decide +kernel
theorem dX7_looksForWays_74 : decode cX7_looksForWays 74 = .ok (.invokevirtual 239, 3) := by decide +kernel
theorem dX7_looksForWays_77 : decode cX7_looksForWays 77 = .ok (.iinc 1 1, 3) := by decide +kernel
theorem dX7_looksForWays_80 : decode cX7_looksForWays 80 = .ok (.goto (-38), 3) := by decide +kernel
theorem dX7_looksForWays_83 : decode cX7_looksForWays 83 = .ok (.aload_n 0, 1) := by decide +kernel
theorem dX7_looksForWays_84 : decode cX7_looksForWays 84 = .ok (.invokevirtual 205, 3) := by decide +kernel
theorem dX7_looksForWays_87 : decode cX7_looksForWays 87 = .ok (.return_, 1) := by decide +kernel
theorem dX7_fewOf_0 : decode cX7_fewOf 0 = .ok (.iconst 0, 1) := by decide +kernel
theorem dX7_fewOf_1 : decode cX7_fewOf 1 = .ok (.istore_n 3, 1) := by decide +kernel
theorem dX7_fewOf_2 : decode cX7_fewOf 2 = .ok (.iload_n 3, 1) := by decide +kernel
theorem dX7_fewOf_3 : decode cX7_fewOf 3 = .ok (.aload_n 0, 1) := by decide +kernel
theorem dX7_fewOf_4 : decode cX7_fewOf 4 = .ok (.getfield 217, 3) := by decide +kernel
theorem dX7_fewOf_7 : decode cX7_fewOf 7 = .ok (.if_icmp .ge 35, 3) := by decide +kernel
theorem dX7_fewOf_10 : decode cX7_fewOf 10 = .ok (.aload_n 0, 1) := by decide +kernel
theorem dX7_fewOf_11 : decode cX7_fewOf 11 = .ok (.getfield 31, 3) := by decide +kernel
theorem dX7_fewOf_14 : decode cX7_fewOf 14 = .ok (.iload_n 3, 1) := by decide +kernel
theorem dX7_fewOf_15 : decode cX7_fewOf 15 = .ok (.iaload, 1) := by decide +kernel
theorem dX7_fewOf_16 : decode cX7_fewOf 16 = .ok (.iload_n 1, 1) := by decide +kernel
theorem dX7_fewOf_17 : decode cX7_fewOf 17 = .ok (.invokestatic 211, 3) := by decide +kernel
theorem dX7_fewOf_20 : decode cX7_fewOf 20 = .ok (.iload_n 2, 1) := by decide +kernel
theorem dX7_fewOf_21 : decode cX7_fewOf 21 = .ok (.if_icmp .ne 15, 3) := by decide +kernel
theorem dX7_fewOf_24 : decode cX7_fewOf 24 = .ok (.aload_n 0, 1) := by decide +kernel
theorem dX7_fewOf_25 : decode cX7_fewOf 25 = .ok (.getfield 34, 3) := by decide +kernel
theorem dX7_fewOf_28 : decode cX7_fewOf 28 = .ok (.aload_n 0, 1) := by decide +kernel
theorem dX7_fewOf_29 : decode cX7_fewOf 29 = .ok (.getfield 31, 3) := by decide +kernel
theorem dX7_fewOf_32 : decode cX7_fewOf 32 = .ok (.iload_n 3, 1) := by decide +kernel
theorem dX7_fewOf_33 : decode cX7_fewOf 33 = .ok (.iaload, 1) := by decide +kernel
theorem dX7_fewOf_34 : decode cX7_fewOf 34 = .ok (.iaload, 1) := by decide +kernel
theorem dX7_fewOf_35 : decode cX7_fewOf 35 = .ok (.ireturn, 1) := by decide +kernel
theorem dX7_fewOf_36 : decode cX7_fewOf 36 = .ok (.iinc 3 1, 3) := by decide +kernel
theorem dX7_fewOf_39 : decode cX7_fewOf 39 = .ok (.goto (-37), 3) := by decide +kernel
theorem dX7_fewOf_42 : decode cX7_fewOf 42 = .ok (.bipush (-5), 2) := by decide +kernel
theorem dX7_fewOf_44 : decode cX7_fewOf 44 = .ok (.ireturn, 1) := by decide +kernel
theorem dX7_few_0 : decode cX7_few 0 = .ok (.aload_n 0, 1) := by decide +kernel
theorem dX7_few_1 : decode cX7_few 1 = .ok (.iload_n 1, 1) := by decide +kernel
theorem dX7_few_2 : decode cX7_few 2 = .ok (.invokevirtual 165, 3) := by decide +kernel
theorem dX7_few_5 : decode cX7_few 5 = .ok (.ifCond .eq 11, 3) := by decide +kernel
theorem dX7_few_8 : decode cX7_few 8 = .ok (.aload_n 0, 1) := by decide +kernel
theorem dX7_few_9 : decode cX7_few 9 = .ok (.iload_n 2, 1) := by decide +kernel
theorem dX7_few_10 : decode cX7_few 10 = .ok (.invokevirtual 177, 3) := by decide +kernel
theorem dX7_few_13 : decode cX7_few 13 = .ok (.ifCond .ne 5, 3) := by decide +kernel
theorem dX7_few_16 : decode cX7_few 16 = .ok (.iconst (-1), 1) := by decide +kernel
theorem dX7_few_17 : decode cX7_few 17 = .ok (.ireturn, 1) := by decide +kernel
theorem dX7_few_18 : decode cX7_few 18 = .ok (.aload_n 0, 1) := by decide +kernel
theorem dX7_few_19 : decode cX7_few 19 = .ok (.invokevirtual 242, 3) := by decide +kernel
theorem dX7_few_22 : decode cX7_few 22 = .ok (.aload_n 0, 1) := by decide +kernel
theorem dX7_few_23 : decode cX7_few 23 = .ok (.iload_n 1, 1) := by decide +kernel
theorem dX7_few_24 : decode cX7_few 24 = .ok (.iload_n 2, 1) := by decide +kernel
theorem dX7_few_25 : decode cX7_few 25 = .ok (.invokevirtual 245, 3) := by decide +kernel
theorem dX7_few_28 : decode cX7_few 28 = .ok (.ireturn, 1) := by decide +kernel
theorem dX7_reachOf_0 : decode cX7_reachOf 0 = .ok (.iconst 0, 1) := by decide +kernel
theorem dX7_reachOf_1 : decode cX7_reachOf 1 = .ok (.istore_n 2, 1) := by decide +kernel
theorem dX7_reachOf_2 : decode cX7_reachOf 2 = .ok (.iconst 0, 1) := by decide +kernel
theorem dX7_reachOf_3 : decode cX7_reachOf 3 = .ok (.istore_n 3, 1) := by decide +kernel
theorem dX7_reachOf_4 : decode cX7_reachOf 4 = .ok (.iload_n 3, 1) := by decide +kernel
theorem dX7_reachOf_5 : decode cX7_reachOf 5 = .ok (.aload_n 0, 1) := by decide +kernel
theorem dX7_reachOf_6 : decode cX7_reachOf 6 = .ok (.getfield 9, 3) := by decide +kernel
theorem dX7_reachOf_9 : decode cX7_reachOf 9 = .ok (.bipush 13, 2) := by decide +kernel
theorem dX7_reachOf_11 : decode cX7_reachOf 11 = .ok (.iaload, 1) := by decide +kernel
theorem dX7_reachOf_12 : decode cX7_reachOf 12 = .ok (.if_icmp .ge 30, 3) := by decide +kernel
theorem dX7_reachOf_15 : decode cX7_reachOf 15 = .ok (.iload_n 2, 1) := by decide +kernel
theorem dX7_reachOf_16 : decode cX7_reachOf 16 = .ok (.aload_n 0, 1) := by decide +kernel
theorem dX7_reachOf_17 : decode cX7_reachOf 17 = .ok (.iload_n 1, 1) := by decide +kernel
theorem dX7_reachOf_18 : decode cX7_reachOf 18 = .ok (.iload_n 3, 1) := by decide +kernel
theorem dX7_reachOf_19 : decode cX7_reachOf 19 = .ok (.invokevirtual 245, 3) := by decide +kernel
theorem dX7_reachOf_22 : decode cX7_reachOf 22 = .ok (.bipush (-5), 2) := by decide +kernel
theorem dX7_reachOf_24 : decode cX7_reachOf 24 = .ok (.if_icmp .eq 9, 3) := by decide +kernel
theorem dX7_reachOf_27 : decode cX7_reachOf 27 = .ok (.iconst 1, 1) := by decide +kernel
theorem dX7_reachOf_28 : decode cX7_reachOf 28 = .ok (.iload_n 3, 1) := by decide +kernel
theorem dX7_reachOf_29 : decode cX7_reachOf 29 = .ok (.ishl, 1) := by decide +kernel
theorem dX7_reachOf_30 : decode cX7_reachOf 30 = .ok (.goto 4, 3) := by decide +kernel
theorem dX7_reachOf_33 : decode cX7_reachOf 33 = .ok (.iconst 0, 1) := by decide +kernel
theorem dX7_reachOf_34 : decode cX7_reachOf 34 = .ok (.ior, 1) := by decide +kernel
theorem dX7_reachOf_35 : decode cX7_reachOf 35 = .ok (.istore_n 2, 1) := by decide +kernel
theorem dX7_reachOf_36 : decode cX7_reachOf 36 = .ok (.iinc 3 1, 3) := by decide +kernel
theorem dX7_reachOf_39 : decode cX7_reachOf 39 = .ok (.goto (-35), 3) := by decide +kernel
theorem dX7_reachOf_42 : decode cX7_reachOf 42 = .ok (.iload_n 2, 1) := by decide +kernel
theorem dX7_reachOf_43 : decode cX7_reachOf 43 = .ok (.ireturn, 1) := by decide +kernel
theorem dX7_reach_0 : decode cX7_reach 0 = .ok (.aload_n 0, 1) := by decide +kernel
theorem dX7_reach_1 : decode cX7_reach 1 = .ok (.iload_n 1, 1) := by decide +kernel
theorem dX7_reach_2 : decode cX7_reach 2 = .ok (.invokevirtual 165, 3) := by decide +kernel
theorem dX7_reach_5 : decode cX7_reach 5 = .ok (.ifCond .ne 5, 3) := by decide +kernel
theorem dX7_reach_8 : decode cX7_reach 8 = .ok (.iconst (-1), 1) := by decide +kernel
theorem dX7_reach_9 : decode cX7_reach 9 = .ok (.ireturn, 1) := by decide +kernel
theorem dX7_reach_10 : decode cX7_reach 10 = .ok (.aload_n 0, 1) := by decide +kernel
theorem dX7_reach_11 : decode cX7_reach 11 = .ok (.invokevirtual 242, 3) := by decide +kernel
theorem dX7_reach_14 : decode cX7_reach 14 = .ok (.aload_n 0, 1) := by decide +kernel
theorem dX7_reach_15 : decode cX7_reach 15 = .ok (.iload_n 1, 1) := by decide +kernel
theorem dX7_reach_16 : decode cX7_reach 16 = .ok (.invokevirtual 248, 3) := by decide +kernel
theorem dX7_reach_19 : decode cX7_reach 19 = .ok (.ireturn, 1) := by decide +kernel
theorem dX7_never_0 : decode cX7_never 0 = .ok (.aload_n 0, 1) := by decide +kernel
theorem dX7_never_1 : decode cX7_never 1 = .ok (.invokevirtual 242, 3) := by decide +kernel
theorem dX7_never_4 : decode cX7_never 4 = .ok (.iconst 1, 1) := by decide +kernel
theorem dX7_never_5 : decode cX7_never 5 = .ok (.aload_n 0, 1) := by decide +kernel
theorem dX7_never_6 : decode cX7_never 6 = .ok (.getfield 9, 3) := by decide +kernel
theorem dX7_never_9 : decode cX7_never 9 = .ok (.bipush 13, 2) := by decide +kernel
theorem dX7_never_11 : decode cX7_never 11 = .ok (.iaload, 1) := by decide +kernel
theorem dX7_never_12 : decode cX7_never 12 = .ok (.ishl, 1) := by decide +kernel
theorem dX7_never_13 : decode cX7_never 13 = .ok (.iconst 1, 1) := by decide +kernel
theorem dX7_never_14 : decode cX7_never 14 = .ok (.isub, 1) := by decide +kernel
theorem dX7_never_15 : decode cX7_never 15 = .ok (.istore_n 1, 1) := by decide +kernel
theorem dX7_never_16 : decode cX7_never 16 = .ok (.iconst 0, 1) := by decide +kernel
theorem dX7_never_17 : decode cX7_never 17 = .ok (.istore_n 2, 1) := by decide +kernel
theorem dX7_never_18 : decode cX7_never 18 = .ok (.iload_n 2, 1) := by decide +kernel
theorem dX7_never_19 : decode cX7_never 19 = .ok (.aload_n 0, 1) := by decide +kernel
theorem dX7_never_20 : decode cX7_never 20 = .ok (.getfield 9, 3) := by decide +kernel
theorem dX7_never_23 : decode cX7_never 23 = .ok (.bipush 12, 2) := by decide +kernel
theorem dX7_never_25 : decode cX7_never 25 = .ok (.iaload, 1) := by decide +kernel
theorem dX7_never_26 : decode cX7_never 26 = .ok (.if_icmp .ge 19, 3) := by decide +kernel
theorem dX7_never_29 : decode cX7_never 29 = .ok (.iload_n 1, 1) := by decide +kernel
theorem dX7_never_30 : decode cX7_never 30 = .ok (.aload_n 0, 1) := by decide +kernel
theorem dX7_never_31 : decode cX7_never 31 = .ok (.iload_n 2, 1) := by decide +kernel
theorem dX7_never_32 : decode cX7_never 32 = .ok (.invokevirtual 248, 3) := by decide +kernel
theorem dX7_never_35 : decode cX7_never 35 = .ok (.iconst (-1), 1) := by decide +kernel
theorem dX7_never_36 : decode cX7_never 36 = .ok (.ixor, 1) := by decide +kernel
theorem dX7_never_37 : decode cX7_never 37 = .ok (.iand, 1) := by decide +kernel
theorem dX7_never_38 : decode cX7_never 38 = .ok (.istore_n 1, 1) := by decide +kernel
theorem dX7_never_39 : decode cX7_never 39 = .ok (.iinc 2 1, 3) := by decide +kernel
theorem dX7_never_42 : decode cX7_never 42 = .ok (.goto (-24), 3) := by decide +kernel
theorem dX7_never_45 : decode cX7_never 45 = .ok (.iload_n 1, 1) := by decide +kernel
theorem dX7_never_46 : decode cX7_never 46 = .ok (.ireturn, 1) := by decide +kernel
theorem dX7_plainTotal_0 : decode cX7_plainTotal 0 = .ok (.iconst 0, 1) := by decide +kernel
theorem dX7_plainTotal_1 : decode cX7_plainTotal 1 = .ok (.istore_n 1, 1) := by decide +kernel
theorem dX7_plainTotal_2 : decode cX7_plainTotal 2 = .ok (.iconst 0, 1) := by decide +kernel
theorem dX7_plainTotal_3 : decode cX7_plainTotal 3 = .ok (.istore_n 2, 1) := by decide +kernel
theorem dX7_plainTotal_4 : decode cX7_plainTotal 4 = .ok (.iload_n 2, 1) := by decide +kernel
theorem dX7_plainTotal_5 : decode cX7_plainTotal 5 = .ok (.aload_n 0, 1) := by decide +kernel
theorem dX7_plainTotal_6 : decode cX7_plainTotal 6 = .ok (.getfield 9, 3) := by decide +kernel
theorem dX7_plainTotal_9 : decode cX7_plainTotal 9 = .ok (.bipush 12, 2) := by decide +kernel
theorem dX7_plainTotal_11 : decode cX7_plainTotal 11 = .ok (.iaload, 1) := by decide +kernel
theorem dX7_plainTotal_12 : decode cX7_plainTotal 12 = .ok (.if_icmp .ge 41, 3) := by decide +kernel
theorem dX7_plainTotal_15 : decode cX7_plainTotal 15 = .ok (.iload_n 1, 1) := by decide +kernel
theorem dX7_plainTotal_16 : decode cX7_plainTotal 16 = .ok (.aload_n 0, 1) := by decide +kernel
theorem dX7_plainTotal_17 : decode cX7_plainTotal 17 = .ok (.getfield 9, 3) := by decide +kernel
theorem dX7_plainTotal_20 : decode cX7_plainTotal 20 = .ok (.iconst 1, 1) := by decide +kernel
theorem dX7_plainTotal_21 : decode cX7_plainTotal 21 = .ok (.iload_n 2, 1) := by decide +kernel
theorem dX7_plainTotal_22 : decode cX7_plainTotal 22 = .ok (.iadd, 1) := by decide +kernel
theorem dX7_plainTotal_23 : decode cX7_plainTotal 23 = .ok (.iaload, 1) := by decide +kernel
theorem dX7_plainTotal_24 : decode cX7_plainTotal 24 = .ok (.iconst (-1), 1) := by decide +kernel
theorem dX7_plainTotal_25 : decode cX7_plainTotal 25 = .ok (.if_icmp .ne 7, 3) := by decide +kernel
theorem dX7_plainTotal_28 : decode cX7_plainTotal 28 = .ok (.iconst 0, 1) := by decide +kernel
theorem dX7_plainTotal_29 : decode cX7_plainTotal 29 = .ok (.goto 16, 3) := by decide +kernel
theorem dX7_plainTotal_32 : decode cX7_plainTotal 32 = .ok (.aload_n 0, 1) := by decide +kernel
theorem dX7_plainTotal_33 : decode cX7_plainTotal 33 = .ok (.iload_n 2, 1) := by decide +kernel
theorem dX7_plainTotal_34 : decode cX7_plainTotal 34 = .ok (.aload_n 0, 1) := by decide +kernel
theorem dX7_plainTotal_35 : decode cX7_plainTotal 35 = .ok (.getfield 9, 3) := by decide +kernel
theorem dX7_plainTotal_38 : decode cX7_plainTotal 38 = .ok (.iconst 1, 1) := by decide +kernel
theorem dX7_plainTotal_39 : decode cX7_plainTotal 39 = .ok (.iload_n 2, 1) := by decide +kernel
theorem dX7_plainTotal_40 : decode cX7_plainTotal 40 = .ok (.iadd, 1) := by decide +kernel
theorem dX7_plainTotal_41 : decode cX7_plainTotal 41 = .ok (.iaload, 1) := by decide +kernel
theorem dX7_plainTotal_42 : decode cX7_plainTotal 42 = .ok (.invokevirtual 220, 3) := by decide +kernel
theorem dX7_plainTotal_45 : decode cX7_plainTotal 45 = .ok (.iadd, 1) := by decide +kernel
theorem dX7_plainTotal_46 : decode cX7_plainTotal 46 = .ok (.istore_n 1, 1) := by decide +kernel
theorem dX7_plainTotal_47 : decode cX7_plainTotal 47 = .ok (.iinc 2 1, 3) := by decide +kernel
theorem dX7_plainTotal_50 : decode cX7_plainTotal 50 = .ok (.goto (-46), 3) := by decide +kernel
theorem dX7_plainTotal_53 : decode cX7_plainTotal 53 = .ok (.iload_n 1, 1) := by decide +kernel
theorem dX7_plainTotal_54 : decode cX7_plainTotal 54 = .ok (.ireturn, 1) := by decide +kernel
theorem dX7_looksForMost_0 : decode cX7_looksForMost 0 = .ok (.aload_n 0, 1) := by decide +kernel
theorem dX7_looksForMost_1 : decode cX7_looksForMost 1 = .ok (.invokevirtual 242, 3) := by decide +kernel
theorem dX7_looksForMost_4 : decode cX7_looksForMost 4 = .ok (.aload_n 0, 1) := by decide +kernel
theorem dX7_looksForMost_5 : decode cX7_looksForMost 5 = .ok (.invokevirtual 202, 3) := by decide +kernel
theorem dX7_looksForMost_8 : decode cX7_looksForMost 8 = .ok (.aload_n 0, 1) := by decide +kernel
theorem dX7_looksForMost_9 : decode cX7_looksForMost 9 = .ok (.iconst (-1), 1) := by decide +kernel
theorem dX7_looksForMost_10 : decode cX7_looksForMost 10 = .ok (.putfield 251, 3) := by decide +kernel
theorem dX7_looksForMost_13 : decode cX7_looksForMost 13 = .ok (.iconst 0, 1) := by decide +kernel
theorem dX7_looksForMost_14 : decode cX7_looksForMost 14 = .ok (.istore_n 1, 1) := by decide +kernel
theorem dX7_looksForMost_15 : decode cX7_looksForMost 15 = .ok (.iload_n 1, 1) := by decide +kernel
theorem dX7_looksForMost_16 : decode cX7_looksForMost 16 = .ok (.aload_n 0, 1) := by decide +kernel
theorem dX7_looksForMost_17 : decode cX7_looksForMost 17 = .ok (.getfield 217, 3) := by decide +kernel
theorem dX7_looksForMost_20 : decode cX7_looksForMost 20 = .ok (.if_icmp .ge 76, 3) := by decide +kernel
theorem dX7_looksForMost_23 : decode cX7_looksForMost 23 = .ok (.aload_n 0, 1) := by decide +kernel
theorem dX7_looksForMost_24 : decode cX7_looksForMost 24 = .ok (.aload_n 0, 1) := by decide +kernel
theorem dX7_looksForMost_25 : decode cX7_looksForMost 25 = .ok (.getfield 31, 3) := by decide +kernel
theorem dX7_looksForMost_28 : decode cX7_looksForMost 28 = .ok (.iload_n 1, 1) := by decide +kernel
theorem dX7_looksForMost_29 : decode cX7_looksForMost 29 = .ok (.iaload, 1) := by decide +kernel
theorem dX7_looksForMost_30 : decode cX7_looksForMost 30 = .ok (.invokevirtual 236, 3) := by decide +kernel
theorem dX7_looksForMost_33 : decode cX7_looksForMost 33 = .ok (.aload_n 0, 1) := by decide +kernel
theorem dX7_looksForMost_34 : decode cX7_looksForMost 34 = .ok (.invokevirtual 254, 3) := by decide +kernel
theorem dX7_looksForMost_37 : decode cX7_looksForMost 37 = .ok (.istore_n 2, 1) := by decide +kernel
theorem dX7_looksForMost_38 : decode cX7_looksForMost 38 = .ok (.aload_n 0, 1) := by decide +kernel
theorem dX7_looksForMost_39 : decode cX7_looksForMost 39 = .ok (.getfield 251, 3) := by decide +kernel
theorem dX7_looksForMost_42 : decode cX7_looksForMost 42 = .ok (.iconst (-1), 1) := by decide +kernel
theorem dX7_looksForMost_43 : decode cX7_looksForMost 43 = .ok (.if_icmp .eq 32, 3) := by decide +kernel
theorem dX7_looksForMost_46 : decode cX7_looksForMost 46 = .ok (.iload_n 2, 1) := by decide +kernel
theorem dX7_looksForMost_47 : decode cX7_looksForMost 47 = .ok (.aload_n 0, 1) := by decide +kernel
theorem dX7_looksForMost_48 : decode cX7_looksForMost 48 = .ok (.getfield 257, 3) := by decide +kernel
theorem dX7_looksForMost_51 : decode cX7_looksForMost 51 = .ok (.if_icmp .gt 24, 3) := by decide +kernel
theorem dX7_looksForMost_54 : decode cX7_looksForMost 54 = .ok (.iload_n 2, 1) := by decide +kernel
theorem dX7_looksForMost_55 : decode cX7_looksForMost 55 = .ok (.aload_n 0, 1) := by decide +kernel
theorem dX7_looksForMost_56 : decode cX7_looksForMost 56 = .ok (.getfield 257, 3) := by decide +kernel
theorem dX7_looksForMost_59 : decode cX7_looksForMost 59 = .ok (.if_icmp .ne 31, 3) := by decide +kernel
theorem dX7_looksForMost_62 : decode cX7_looksForMost 62 = .ok (.aload_n 0, 1) := by decide +kernel
theorem dX7_looksForMost_63 : decode cX7_looksForMost 63 = .ok (.getfield 31, 3) := by decide +kernel
theorem dX7_looksForMost_66 : decode cX7_looksForMost 66 = .ok (.iload_n 1, 1) := by decide +kernel
theorem dX7_looksForMost_67 : decode cX7_looksForMost 67 = .ok (.iaload, 1) := by decide +kernel
theorem dX7_looksForMost_68 : decode cX7_looksForMost 68 = .ok (.aload_n 0, 1) := by decide +kernel
theorem dX7_looksForMost_69 : decode cX7_looksForMost 69 = .ok (.getfield 251, 3) := by decide +kernel
theorem dX7_looksForMost_72 : decode cX7_looksForMost 72 = .ok (.if_icmp .ge 18, 3) := by decide +kernel
theorem dX7_looksForMost_75 : decode cX7_looksForMost 75 = .ok (.aload_n 0, 1) := by decide +kernel
theorem dX7_looksForMost_76 : decode cX7_looksForMost 76 = .ok (.aload_n 0, 1) := by decide +kernel
theorem dX7_looksForMost_77 : decode cX7_looksForMost 77 = .ok (.getfield 31, 3) := by decide +kernel
theorem dX7_looksForMost_80 : decode cX7_looksForMost 80 = .ok (.iload_n 1, 1) := by decide +kernel
theorem dX7_looksForMost_81 : decode cX7_looksForMost 81 = .ok (.iaload, 1) := by decide +kernel
theorem dX7_looksForMost_82 : decode cX7_looksForMost 82 = .ok (.putfield 251, 3) := by decide +kernel
theorem dX7_looksForMost_85 : decode cX7_looksForMost 85 = .ok (.aload_n 0, 1) := by decide +kernel
theorem dX7_looksForMost_86 : decode cX7_looksForMost 86 = .ok (.iload_n 2, 1) := by decide +kernel
theorem dX7_looksForMost_87 : decode cX7_looksForMost 87 = .ok (.putfield 257, 3) := by decide +kernel
theorem dX7_looksForMost_90 : decode cX7_looksForMost 90 = .ok (.iinc 1 1, 3) := by decide +kernel
theorem dX7_looksForMost_93 : decode cX7_looksForMost 93 = .ok (.goto (-78), 3) := by decide +kernel
theorem dX7_looksForMost_96 : decode cX7_looksForMost 96 = .ok (.aload_n 0, 1) := by decide +kernel
theorem dX7_looksForMost_97 : decode cX7_looksForMost 97 = .ok (.invokevirtual 205, 3) := by decide +kernel
theorem dX7_looksForMost_100 : decode cX7_looksForMost 100 = .ok (.return_, 1) := by decide +kernel
theorem dX7_most_0 : decode cX7_most 0 = .ok (.iload_n 1, 1) := by decide +kernel
theorem dX7_most_1 : decode cX7_most 1 = .ok (.iconst 0, 1) := by decide +kernel
theorem dX7_most_2 : decode cX7_most 2 = .ok (.iconst 1, 1) := by decide +kernel
theorem dX7_most_3 : decode cX7_most 3 = .ok (.invokestatic 50, 3) := by decide +kernel
theorem dX7_most_6 : decode cX7_most 6 = .ok (.ifCond .ne 18, 3) := by decide +kernel
theorem dX7_most_9 : decode cX7_most 9 = .ok (.aload_n 0, 1) := by decide +kernel
theorem dX7_most_10 : decode cX7_most 10 = .ok (.iload_n 1, 1) := by decide +kernel
theorem dX7_most_11 : decode cX7_most 11 = .ok (.bipush 10, 2) := by decide +kernel
theorem dX7_most_13 : decode cX7_most 13 = .ok (.isub, 1) := by decide +kernel
theorem dX7_most_14 : decode cX7_most 14 = .ok (.invokevirtual 165, 3) := by decide +kernel
theorem dX7_most_17 : decode cX7_most 17 = .ok (.ifCond .ne 7, 3) := by decide +kernel
theorem dX7_most_20 : decode cX7_most 20 = .ok (.sipush (-10001), 3) := by decide +kernel
theorem dX7_most_23 : decode cX7_most 23 = .ok (.ireturn, 1) := by decide +kernel
theorem dX7_most_24 : decode cX7_most 24 = .ok (.aload_n 0, 1) := by decide +kernel
theorem dX7_most_25 : decode cX7_most 25 = .ok (.invokevirtual 260, 3) := by decide +kernel
theorem dX7_most_28 : decode cX7_most 28 = .ok (.iload_n 1, 1) := by decide +kernel
theorem dX7_most_29 : decode cX7_most 29 = .ok (.ifCond .ne 10, 3) := by decide +kernel
theorem dX7_most_32 : decode cX7_most 32 = .ok (.aload_n 0, 1) := by decide +kernel
theorem dX7_most_33 : decode cX7_most 33 = .ok (.getfield 257, 3) := by decide +kernel
theorem dX7_most_36 : decode cX7_most 36 = .ok (.goto 35, 3) := by decide +kernel
theorem dX7_most_39 : decode cX7_most 39 = .ok (.iload_n 1, 1) := by decide +kernel
theorem dX7_most_40 : decode cX7_most 40 = .ok (.iconst 1, 1) := by decide +kernel
theorem dX7_most_41 : decode cX7_most 41 = .ok (.if_icmp .ne 15, 3) := by decide +kernel
theorem dX7_most_44 : decode cX7_most 44 = .ok (.aload_n 0, 1) := by decide +kernel
theorem dX7_most_45 : decode cX7_most 45 = .ok (.getfield 34, 3) := by decide +kernel
theorem dX7_most_48 : decode cX7_most 48 = .ok (.aload_n 0, 1) := by decide +kernel
theorem dX7_most_49 : decode cX7_most 49 = .ok (.getfield 251, 3) := by decide +kernel
theorem dX7_most_52 : decode cX7_most 52 = .ok (.iaload, 1) := by decide +kernel
theorem dX7_most_53 : decode cX7_most 53 = .ok (.goto 18, 3) := by decide +kernel
theorem dX7_most_56 : decode cX7_most 56 = .ok (.aload_n 0, 1) := by decide +kernel
theorem dX7_most_57 : decode cX7_most 57 = .ok (.aload_n 0, 1) := by decide +kernel
theorem dX7_most_58 : decode cX7_most 58 = .ok (.getfield 251, 3) := by decide +kernel
theorem dX7_most_61 : decode cX7_most 61 = .ok (.iload_n 1, 1) := by decide +kernel
theorem dX7_most_62 : decode cX7_most 62 = .ok (.bipush 10, 2) := by decide +kernel
theorem dX7_most_64 : decode cX7_most 64 = .ok (.isub, 1) := by decide +kernel
theorem dX7_most_65 : decode cX7_most 65 = .ok (.invokestatic 211, 3) := by decide +kernel
theorem dX7_most_68 : decode cX7_most 68 = .ok (.invokevirtual 168, 3) := by decide +kernel
theorem dX7_most_71 : decode cX7_most 71 = .ok (.ireturn, 1) := by decide +kernel
theorem dX7_ordersFrom_0 : decode cX7_ordersFrom 0 = .ok (.iload_n 1, 1) := by decide +kernel
theorem dX7_ordersFrom_1 : decode cX7_ordersFrom 1 = .ok (.aload_n 0, 1) := by decide +kernel
theorem dX7_ordersFrom_2 : decode cX7_ordersFrom 2 = .ok (.getfield 9, 3) := by decide +kernel
theorem dX7_ordersFrom_5 : decode cX7_ordersFrom 5 = .ok (.bipush 12, 2) := by decide +kernel
theorem dX7_ordersFrom_7 : decode cX7_ordersFrom 7 = .ok (.iaload, 1) := by decide +kernel
theorem dX7_ordersFrom_8 : decode cX7_ordersFrom 8 = .ok (.if_icmp .ne 51, 3) := by decide +kernel
theorem dX7_ordersFrom_11 : decode cX7_ordersFrom 11 = .ok (.aload_n 0, 1) := by decide +kernel
theorem dX7_ordersFrom_12 : decode cX7_ordersFrom 12 = .ok (.invokevirtual 183, 3) := by decide +kernel
theorem dX7_ordersFrom_15 : decode cX7_ordersFrom 15 = .ok (.istore_n 3, 1) := by decide +kernel
theorem dX7_ordersFrom_16 : decode cX7_ordersFrom 16 = .ok (.iload_n 3, 1) := by decide +kernel
theorem dX7_ordersFrom_17 : decode cX7_ordersFrom 17 = .ok (.aload_n 0, 1) := by decide +kernel
theorem dX7_ordersFrom_18 : decode cX7_ordersFrom 18 = .ok (.getfield 257, 3) := by decide +kernel
theorem dX7_ordersFrom_21 : decode cX7_ordersFrom 21 = .ok (.if_icmp .le 37, 3) := by decide +kernel
theorem dX7_ordersFrom_24 : decode cX7_ordersFrom 24 = .ok (.aload_n 0, 1) := by decide +kernel
theorem dX7_ordersFrom_25 : decode cX7_ordersFrom 25 = .ok (.iload_n 3, 1) := by decide +kernel
theorem dX7_ordersFrom_26 : decode cX7_ordersFrom 26 = .ok (.putfield 257, 3) := by decide +kernel
theorem dX7_ordersFrom_29 : decode cX7_ordersFrom 29 = .ok (.iconst 0, 1) := by decide +kernel
theorem dX7_ordersFrom_30 : decode cX7_ordersFrom 30 = .ok (.istore 4, 2) := by decide +kernel
theorem dX7_ordersFrom_32 : decode cX7_ordersFrom 32 = .ok (.iload 4, 2) := by decide +kernel
theorem dX7_ordersFrom_34 : decode cX7_ordersFrom 34 = .ok (.iload_n 1, 1) := by decide +kernel
theorem dX7_ordersFrom_35 : decode cX7_ordersFrom 35 = .ok (.if_icmp .ge 23, 3) := by decide +kernel
theorem dX7_ordersFrom_38 : decode cX7_ordersFrom 38 = .ok (.aload_n 0, 1) := by decide +kernel
theorem dX7_ordersFrom_39 : decode cX7_ordersFrom 39 = .ok (.getfield 40, 3) := by decide +kernel
theorem dX7_ordersFrom_42 : decode cX7_ordersFrom 42 = .ok (.iload 4, 2) := by decide +kernel
theorem dX7_ordersFrom_44 : decode cX7_ordersFrom 44 = .ok (.aload_n 0, 1) := by decide +kernel
theorem dX7_ordersFrom_45 : decode cX7_ordersFrom 45 = .ok (.getfield 37, 3) := by decide +kernel
theorem dX7_ordersFrom_48 : decode cX7_ordersFrom 48 = .ok (.iload 4, 2) := by decide +kernel
theorem dX7_ordersFrom_50 : decode cX7_ordersFrom 50 = .ok (.iaload, 1) := by decide +kernel
theorem dX7_ordersFrom_51 : decode cX7_ordersFrom 51 = .ok (.iastore, 1) := by decide +kernel
theorem dX7_ordersFrom_52 : decode cX7_ordersFrom 52 = .ok (.iinc 4 1, 3) := by decide +kernel
theorem dX7_ordersFrom_55 : decode cX7_ordersFrom 55 = .ok (.goto (-23), 3) := by decide +kernel
theorem dX7_ordersFrom_58 : decode cX7_ordersFrom 58 = .ok (.return_, 1) := by decide +kernel
theorem dX7_ordersFrom_59 : decode cX7_ordersFrom 59 = .ok (.iconst 0, 1) := by decide +kernel
theorem dX7_ordersFrom_60 : decode cX7_ordersFrom 60 = .ok (.istore_n 3, 1) := by decide +kernel
theorem dX7_ordersFrom_61 : decode cX7_ordersFrom 61 = .ok (.iload_n 3, 1) := by decide +kernel
theorem dX7_ordersFrom_62 : decode cX7_ordersFrom 62 = .ok (.aload_n 0, 1) := by decide +kernel
theorem dX7_ordersFrom_63 : decode cX7_ordersFrom 63 = .ok (.getfield 9, 3) := by decide +kernel
theorem dX7_ordersFrom_66 : decode cX7_ordersFrom 66 = .ok (.bipush 12, 2) := by decide +kernel
theorem dX7_ordersFrom_68 : decode cX7_ordersFrom 68 = .ok (.iaload, 1) := by decide +kernel
theorem dX7_ordersFrom_69 : decode cX7_ordersFrom 69 = .ok (.if_icmp .ge 62, 3) := by decide +kernel
theorem dX7_ordersFrom_72 : decode cX7_ordersFrom 72 = .ok (.iload_n 2, 1) := by decide +kernel
theorem dX7_ordersFrom_73 : decode cX7_ordersFrom 73 = .ok (.iload_n 3, 1) := by decide +kernel
theorem dX7_ordersFrom_74 : decode cX7_ordersFrom 74 = .ok (.ishr, 1) := by decide +kernel
theorem dX7_ordersFrom_75 : decode cX7_ordersFrom 75 = .ok (.iconst 1, 1) := by decide +kernel
theorem dX7_ordersFrom_76 : decode cX7_ordersFrom 76 = .ok (.iand, 1) := by decide +kernel
theorem dX7_ordersFrom_77 : decode cX7_ordersFrom 77 = .ok (.ifCond .ne 48, 3) := by decide +kernel
theorem dX7_ordersFrom_80 : decode cX7_ordersFrom 80 = .ok (.aload_n 0, 1) := by decide +kernel
theorem dX7_ordersFrom_81 : decode cX7_ordersFrom 81 = .ok (.getfield 9, 3) := by decide +kernel
theorem dX7_ordersFrom_84 : decode cX7_ordersFrom 84 = .ok (.iconst 1, 1) := by decide +kernel
theorem dX7_ordersFrom_85 : decode cX7_ordersFrom 85 = .ok (.iload_n 3, 1) := by decide +kernel
theorem dX7_ordersFrom_86 : decode cX7_ordersFrom 86 = .ok (.iadd, 1) := by decide +kernel
theorem dX7_ordersFrom_87 : decode cX7_ordersFrom 87 = .ok (.iaload, 1) := by decide +kernel
theorem dX7_ordersFrom_88 : decode cX7_ordersFrom 88 = .ok (.istore 4, 2) := by decide +kernel
theorem dX7_ordersFrom_90 : decode cX7_ordersFrom 90 = .ok (.aload_n 0, 1) := by decide +kernel
theorem dX7_ordersFrom_91 : decode cX7_ordersFrom 91 = .ok (.getfield 37, 3) := by decide +kernel
theorem dX7_ordersFrom_94 : decode cX7_ordersFrom 94 = .ok (.iload_n 1, 1) := by decide +kernel
theorem dX7_ordersFrom_95 : decode cX7_ordersFrom 95 = .ok (.iload_n 3, 1) := by decide +kernel
theorem dX7_ordersFrom_96 : decode cX7_ordersFrom 96 = .ok (.iastore, 1) := by decide +kernel
theorem dX7_ordersFrom_97 : decode cX7_ordersFrom 97 = .ok (.aload_n 0, 1) := by decide +kernel
theorem dX7_ordersFrom_98 : decode cX7_ordersFrom 98 = .ok (.iload_n 3, 1) := by decide +kernel
theorem dX7_ordersFrom_99 : decode cX7_ordersFrom 99 = .ok (.invokevirtual 189, 3) := by decide +kernel
theorem dX7_ordersFrom_102 : decode cX7_ordersFrom 102 = .ok (.pop, 1) := by decide +kernel
theorem dX7_ordersFrom_103 : decode cX7_ordersFrom 103 = .ok (.aload_n 0, 1) := by decide +kernel
theorem dX7_ordersFrom_104 : decode cX7_ordersFrom 104 = .ok (.iload_n 1, 1) := by decide +kernel
theorem dX7_ordersFrom_105 : decode cX7_ordersFrom 105 = .ok (.iconst 1, 1) := by decide +kernel
theorem dX7_ordersFrom_106 : decode cX7_ordersFrom 106 = .ok (.iadd, 1) := by decide +kernel
theorem dX7_ordersFrom_107 : decode cX7_ordersFrom 107 = .ok (.iload_n 2, 1) := by decide +kernel
theorem dX7_ordersFrom_108 : decode cX7_ordersFrom 108 = .ok (.iconst 1, 1) := by decide +kernel
theorem dX7_ordersFrom_109 : decode cX7_ordersFrom 109 = .ok (.iload_n 3, 1) := by decide +kernel
theorem dX7_ordersFrom_110 : decode cX7_ordersFrom 110 = .ok (.ishl, 1) := by decide +kernel
theorem dX7_ordersFrom_111 : decode cX7_ordersFrom 111 = .ok (.ior, 1) := by decide +kernel
theorem dX7_ordersFrom_112 : decode cX7_ordersFrom 112 = .ok (.invokevirtual 263, 3) := by decide +kernel
theorem dX7_ordersFrom_115 : decode cX7_ordersFrom 115 = .ok (.aload_n 0, 1) := by decide +kernel
theorem dX7_ordersFrom_116 : decode cX7_ordersFrom 116 = .ok (.getfield 9, 3) := by decide +kernel
theorem dX7_ordersFrom_119 : decode cX7_ordersFrom 119 = .ok (.iconst 1, 1) := by decide +kernel
theorem dX7_ordersFrom_120 : decode cX7_ordersFrom 120 = .ok (.iload_n 3, 1) := by decide +kernel
theorem dX7_ordersFrom_121 : decode cX7_ordersFrom 121 = .ok (.iadd, 1) := by decide +kernel
theorem dX7_ordersFrom_122 : decode cX7_ordersFrom 122 = .ok (.iload 4, 2) := by decide +kernel
theorem dX7_ordersFrom_124 : decode cX7_ordersFrom 124 = .ok (.iastore, 1) := by decide +kernel
theorem dX7_ordersFrom_125 : decode cX7_ordersFrom 125 = .ok (.iinc 3 1, 3) := by decide +kernel
theorem dX7_ordersFrom_128 : decode cX7_ordersFrom 128 = .ok (.goto (-67), 3) := by decide +kernel
theorem dX7_ordersFrom_131 : decode cX7_ordersFrom 131 = .ok (.return_, 1) := by decide +kernel
theorem dX7_order_0 : decode cX7_order 0 = .ok (.iload_n 1, 1) := by decide +kernel
theorem dX7_order_1 : decode cX7_order 1 = .ok (.iconst (-1), 1) := by decide +kernel
theorem dX7_order_2 : decode cX7_order 2 = .ok (.iconst 3, 1) := by decide +kernel
theorem dX7_order_3 : decode cX7_order 3 = .ok (.invokestatic 50, 3) := by decide +kernel
theorem dX7_order_6 : decode cX7_order 6 = .ok (.ifCond .ne 7, 3) := by decide +kernel
theorem dX7_order_9 : decode cX7_order 9 = .ok (.sipush (-10001), 3) := by decide +kernel
theorem dX7_order_12 : decode cX7_order 12 = .ok (.ireturn, 1) := by decide +kernel
theorem dX7_order_13 : decode cX7_order 13 = .ok (.aload_n 0, 1) := by decide +kernel
theorem dX7_order_14 : decode cX7_order 14 = .ok (.ldc 158, 2) := by decide +kernel
theorem dX7_order_16 : decode cX7_order 16 = .ok (.putfield 257, 3) := by decide +kernel
theorem dX7_order_19 : decode cX7_order 19 = .ok (.aload_n 0, 1) := by decide +kernel
theorem dX7_order_20 : decode cX7_order 20 = .ok (.iconst 0, 1) := by decide +kernel
theorem dX7_order_21 : decode cX7_order 21 = .ok (.iconst 0, 1) := by decide +kernel
theorem dX7_order_22 : decode cX7_order 22 = .ok (.invokevirtual 263, 3) := by decide +kernel
theorem dX7_order_25 : decode cX7_order 25 = .ok (.iload_n 1, 1) := by decide +kernel
theorem dX7_order_26 : decode cX7_order 26 = .ok (.iconst (-1), 1) := by decide +kernel
theorem dX7_order_27 : decode cX7_order 27 = .ok (.if_icmp .ne 10, 3) := by decide +kernel
theorem dX7_order_30 : decode cX7_order 30 = .ok (.aload_n 0, 1) := by decide +kernel
theorem dX7_order_31 : decode cX7_order 31 = .ok (.getfield 257, 3) := by decide +kernel
theorem dX7_order_34 : decode cX7_order 34 = .ok (.goto 25, 3) := by decide +kernel
theorem dX7_order_37 : decode cX7_order 37 = .ok (.iload_n 1, 1) := by decide +kernel
theorem dX7_order_38 : decode cX7_order 38 = .ok (.aload_n 0, 1) := by decide +kernel
theorem dX7_order_39 : decode cX7_order 39 = .ok (.getfield 9, 3) := by decide +kernel
theorem dX7_order_42 : decode cX7_order 42 = .ok (.bipush 12, 2) := by decide +kernel
theorem dX7_order_44 : decode cX7_order 44 = .ok (.iaload, 1) := by decide +kernel
theorem dX7_order_45 : decode cX7_order 45 = .ok (.if_icmp .ge 12, 3) := by decide +kernel
theorem dX7_order_48 : decode cX7_order 48 = .ok (.aload_n 0, 1) := by decide +kernel
theorem dX7_order_49 : decode cX7_order 49 = .ok (.getfield 40, 3) := by decide +kernel
theorem dX7_order_52 : decode cX7_order 52 = .ok (.iload_n 1, 1) := by decide +kernel
theorem dX7_order_53 : decode cX7_order 53 = .ok (.iaload, 1) := by decide +kernel
theorem dX7_order_54 : decode cX7_order 54 = .ok (.goto 5, 3) := by decide +kernel
theorem dX7_order_57 : decode cX7_order 57 = .ok (.bipush (-5), 2) := by decide +kernel
theorem dX7_order_59 : decode cX7_order 59 = .ok (.ireturn, 1) := by decide +kernel
theorem dX7_glues_0 : decode cX7_glues 0 = .ok (.aload_n 0, 1) := by decide +kernel
theorem dX7_glues_1 : decode cX7_glues 1 = .ok (.iload_n 1, 1) := by decide +kernel
theorem dX7_glues_2 : decode cX7_glues 2 = .ok (.invokevirtual 165, 3) := by decide +kernel
theorem dX7_glues_5 : decode cX7_glues 5 = .ok (.ifCond .eq 11, 3) := by decide +kernel
theorem dX7_glues_8 : decode cX7_glues 8 = .ok (.aload_n 0, 1) := by decide +kernel
theorem dX7_glues_9 : decode cX7_glues 9 = .ok (.iload_n 2, 1) := by decide +kernel
theorem dX7_glues_10 : decode cX7_glues 10 = .ok (.invokevirtual 177, 3) := by decide +kernel
theorem dX7_glues_13 : decode cX7_glues 13 = .ok (.ifCond .ne 5, 3) := by decide +kernel
theorem dX7_glues_16 : decode cX7_glues 16 = .ok (.iconst (-1), 1) := by decide +kernel
theorem dX7_glues_17 : decode cX7_glues 17 = .ok (.ireturn, 1) := by decide +kernel
theorem dX7_glues_18 : decode cX7_glues 18 = .ok (.aload_n 0, 1) := by decide +kernel
theorem dX7_glues_19 : decode cX7_glues 19 = .ok (.invokevirtual 202, 3) := by decide +kernel
theorem dX7_glues_22 : decode cX7_glues 22 = .ok (.bipush (-5), 2) := by decide +kernel
theorem dX7_glues_24 : decode cX7_glues 24 = .ok (.istore_n 3, 1) := by decide +kernel
theorem dX7_glues_25 : decode cX7_glues 25 = .ok (.iconst 0, 1) := by decide +kernel
theorem dX7_glues_26 : decode cX7_glues 26 = .ok (.istore 4, 2) := by decide +kernel
theorem dX7_glues_28 : decode cX7_glues 28 = .ok (.iload 4, 2) := by decide +kernel
theorem dX7_glues_30 : decode cX7_glues 30 = .ok (.bipush 20, 2) := by decide +kernel
theorem dX7_glues_32 : decode cX7_glues 32 = .ok (.if_icmp .gt 38, 3) := by decide +kernel
theorem dX7_glues_35 : decode cX7_glues 35 = .ok (.iload_n 3, 1) := by decide +kernel
theorem dX7_glues_36 : decode cX7_glues 36 = .ok (.bipush (-5), 2) := by decide +kernel
theorem dX7_glues_38 : decode cX7_glues 38 = .ok (.if_icmp .ne 32, 3) := by decide +kernel
theorem dX7_glues_41 : decode cX7_glues 41 = .ok (.aload_n 0, 1) := by decide +kernel
theorem dX7_glues_42 : decode cX7_glues 42 = .ok (.iload_n 1, 1) := by decide +kernel
theorem dX7_glues_43 : decode cX7_glues 43 = .ok (.iload_n 2, 1) := by decide +kernel
theorem dX7_glues_44 : decode cX7_glues 44 = .ok (.invokevirtual 154, 3) := by decide +kernel
theorem dX7_glues_47 : decode cX7_glues 47 = .ok (.ifCond .eq 8, 3) := by decide +kernel
theorem dX7_glues_50 : decode cX7_glues 50 = .ok (.iload 4, 2) := by decide +kernel
theorem dX7_glues_52 : decode cX7_glues 52 = .ok (.goto 5, 3) := by decide +kernel
theorem dX7_glues_55 : decode cX7_glues 55 = .ok (.bipush (-5), 2) := by decide +kernel
theorem dX7_glues_57 : decode cX7_glues 57 = .ok (.istore_n 3, 1) := by decide +kernel
theorem dX7_glues_58 : decode cX7_glues 58 = .ok (.aload_n 0, 1) := by decide +kernel
theorem dX7_glues_59 : decode cX7_glues 59 = .ok (.iload_n 1, 1) := by decide +kernel
theorem dX7_glues_60 : decode cX7_glues 60 = .ok (.iconst 1, 1) := by decide +kernel
theorem dX7_glues_61 : decode cX7_glues 61 = .ok (.invokevirtual 195, 3) := by decide +kernel
theorem dX7_glues_64 : decode cX7_glues 64 = .ok (.iinc 4 1, 3) := by decide +kernel
theorem dX7_glues_67 : decode cX7_glues 67 = .ok (.goto (-39), 3) := by decide +kernel
theorem dX7_glues_70 : decode cX7_glues 70 = .ok (.aload_n 0, 1) := by decide +kernel
theorem dX7_glues_71 : decode cX7_glues 71 = .ok (.invokevirtual 205, 3) := by decide +kernel
theorem dX7_glues_74 : decode cX7_glues 74 = .ok (.iload_n 3, 1) := by decide +kernel
theorem dX7_glues_75 : decode cX7_glues 75 = .ok (.ireturn, 1) := by decide +kernel
theorem dX7_tears_0 : decode cX7_tears 0 = .ok (.aload_n 0, 1) := by decide +kernel
theorem dX7_tears_1 : decode cX7_tears 1 = .ok (.iload_n 1, 1) := by decide +kernel
theorem dX7_tears_2 : decode cX7_tears 2 = .ok (.invokevirtual 165, 3) := by decide +kernel
theorem dX7_tears_5 : decode cX7_tears 5 = .ok (.ifCond .eq 11, 3) := by decide +kernel
theorem dX7_tears_8 : decode cX7_tears 8 = .ok (.aload_n 0, 1) := by decide +kernel
theorem dX7_tears_9 : decode cX7_tears 9 = .ok (.iload_n 2, 1) := by decide +kernel
theorem dX7_tears_10 : decode cX7_tears 10 = .ok (.invokevirtual 165, 3) := by decide +kernel
theorem dX7_tears_13 : decode cX7_tears 13 = .ok (.ifCond .ne 5, 3) := by decide +kernel
theorem dX7_tears_16 : decode cX7_tears 16 = .ok (.iconst (-1), 1) := by decide +kernel
theorem dX7_tears_17 : decode cX7_tears 17 = .ok (.ireturn, 1) := by decide +kernel
theorem dX7_tears_18 : decode cX7_tears 18 = .ok (.iload_n 1, 1) := by decide +kernel
theorem dX7_tears_19 : decode cX7_tears 19 = .ok (.iload_n 2, 1) := by decide +kernel
theorem dX7_tears_20 : decode cX7_tears 20 = .ok (.if_icmp .ne 6, 3) := by decide +kernel
theorem dX7_tears_23 : decode cX7_tears 23 = .ok (.bipush (-2), 2) := by decide +kernel
theorem dX7_tears_25 : decode cX7_tears 25 = .ok (.ireturn, 1) := by decide +kernel
theorem dX7_tears_26 : decode cX7_tears 26 = .ok (.aload_n 0, 1) := by decide +kernel
theorem dX7_tears_27 : decode cX7_tears 27 = .ok (.getfield 9, 3) := by decide +kernel
theorem dX7_tears_30 : decode cX7_tears 30 = .ok (.iconst 1, 1) := by decide +kernel
theorem dX7_tears_31 : decode cX7_tears 31 = .ok (.iload_n 1, 1) := by decide +kernel
theorem dX7_tears_32 : decode cX7_tears 32 = .ok (.iadd, 1) := by decide +kernel
theorem dX7_tears_33 : decode cX7_tears 33 = .ok (.iaload, 1) := by decide +kernel
theorem dX7_tears_34 : decode cX7_tears 34 = .ok (.istore_n 3, 1) := by decide +kernel
theorem dX7_tears_35 : decode cX7_tears 35 = .ok (.aload_n 0, 1) := by decide +kernel
theorem dX7_tears_36 : decode cX7_tears 36 = .ok (.getfield 9, 3) := by decide +kernel
theorem dX7_tears_39 : decode cX7_tears 39 = .ok (.iconst 1, 1) := by decide +kernel
theorem dX7_tears_40 : decode cX7_tears 40 = .ok (.iload_n 2, 1) := by decide +kernel
theorem dX7_tears_41 : decode cX7_tears 41 = .ok (.iadd, 1) := by decide +kernel
theorem dX7_tears_42 : decode cX7_tears 42 = .ok (.iaload, 1) := by decide +kernel
theorem dX7_tears_43 : decode cX7_tears 43 = .ok (.istore 4, 2) := by decide +kernel
theorem dX7_tears_45 : decode cX7_tears 45 = .ok (.iload_n 3, 1) := by decide +kernel
theorem dX7_tears_46 : decode cX7_tears 46 = .ok (.iconst (-1), 1) := by decide +kernel
theorem dX7_tears_47 : decode cX7_tears 47 = .ok (.if_icmp .eq 9, 3) := by decide +kernel
theorem dX7_tears_50 : decode cX7_tears 50 = .ok (.iload 4, 2) := by decide +kernel
theorem dX7_tears_52 : decode cX7_tears 52 = .ok (.iconst (-1), 1) := by decide +kernel
theorem dX7_tears_53 : decode cX7_tears 53 = .ok (.if_icmp .ne 6, 3) := by decide +kernel
theorem dX7_tears_56 : decode cX7_tears 56 = .ok (.bipush (-5), 2) := by decide +kernel
theorem dX7_tears_58 : decode cX7_tears 58 = .ok (.ireturn, 1) := by decide +kernel
theorem dX7_tears_59 : decode cX7_tears 59 = .ok (.aload_n 0, 1) := by decide +kernel
theorem dX7_tears_60 : decode cX7_tears 60 = .ok (.invokevirtual 202, 3) := by decide +kernel
theorem dX7_tears_63 : decode cX7_tears 63 = .ok (.bipush (-5), 2) := by decide +kernel
theorem dX7_tears_65 : decode cX7_tears 65 = .ok (.istore 5, 2) := by decide +kernel
theorem dX7_tears_67 : decode cX7_tears 67 = .ok (.iconst 0, 1) := by decide +kernel
theorem dX7_tears_68 : decode cX7_tears 68 = .ok (.istore 6, 2) := by decide +kernel
theorem dX7_tears_70 : decode cX7_tears 70 = .ok (.iload 6, 2) := by decide +kernel
theorem dX7_tears_72 : decode cX7_tears 72 = .ok (.bipush 20, 2) := by decide +kernel
theorem dX7_tears_74 : decode cX7_tears 74 = .ok (.if_icmp .gt 66, 3) := by decide +kernel
theorem dX7_tears_77 : decode cX7_tears 77 = .ok (.iload 5, 2) := by decide +kernel
theorem dX7_tears_79 : decode cX7_tears 79 = .ok (.bipush (-5), 2) := by decide +kernel
theorem dX7_tears_81 : decode cX7_tears 81 = .ok (.if_icmp .ne 59, 3) := by decide +kernel
theorem dX7_tears_84 : decode cX7_tears 84 = .ok (.aload_n 0, 1) := by decide +kernel
theorem dX7_tears_85 : decode cX7_tears 85 = .ok (.getfield 9, 3) := by decide +kernel
theorem dX7_tears_88 : decode cX7_tears 88 = .ok (.iconst 5, 1) := by decide +kernel
theorem dX7_tears_89 : decode cX7_tears 89 = .ok (.iload 4, 2) := by decide +kernel
theorem dX7_tears_91 : decode cX7_tears 91 = .ok (.iadd, 1) := by decide +kernel
theorem dX7_tears_92 : decode cX7_tears 92 = .ok (.iaload, 1) := by decide +kernel
theorem dX7_tears_93 : decode cX7_tears 93 = .ok (.aload_n 0, 1) := by decide +kernel
theorem dX7_tears_94 : decode cX7_tears 94 = .ok (.getfield 9, 3) := by decide +kernel
theorem dX7_tears_97 : decode cX7_tears 97 = .ok (.iconst 5, 1) := by decide +kernel
theorem dX7_tears_98 : decode cX7_tears 98 = .ok (.iload_n 3, 1) := by decide +kernel
theorem dX7_tears_99 : decode cX7_tears 99 = .ok (.iadd, 1) := by decide +kernel
theorem dX7_tears_100 : decode cX7_tears 100 = .ok (.iaload, 1) := by decide +kernel
theorem dX7_tears_101 : decode cX7_tears 101 = .ok (.isub, 1) := by decide +kernel
theorem dX7_tears_102 : decode cX7_tears 102 = .ok (.istore 7, 2) := by decide +kernel
theorem dX7_tears_104 : decode cX7_tears 104 = .ok (.iload 7, 2) := by decide +kernel
theorem dX7_tears_106 : decode cX7_tears 106 = .ok (.iconst 1, 1) := by decide +kernel
theorem dX7_tears_107 : decode cX7_tears 107 = .ok (.if_icmp .lt 17, 3) := by decide +kernel
theorem dX7_tears_110 : decode cX7_tears 110 = .ok (.iload 7, 2) := by decide +kernel
theorem dX7_tears_112 : decode cX7_tears 112 = .ok (.aload_n 0, 1) := by decide +kernel
theorem dX7_tears_113 : decode cX7_tears 113 = .ok (.invokevirtual 151, 3) := by decide +kernel
theorem dX7_tears_116 : decode cX7_tears 116 = .ok (.if_icmp .lt 8, 3) := by decide +kernel
theorem dX7_tears_119 : decode cX7_tears 119 = .ok (.iload 6, 2) := by decide +kernel
theorem dX7_tears_121 : decode cX7_tears 121 = .ok (.goto 5, 3) := by decide +kernel
theorem dX7_tears_124 : decode cX7_tears 124 = .ok (.bipush (-5), 2) := by decide +kernel
theorem dX7_tears_126 : decode cX7_tears 126 = .ok (.istore 5, 2) := by decide +kernel
theorem dX7_tears_128 : decode cX7_tears 128 = .ok (.aload_n 0, 1) := by decide +kernel
theorem dX7_tears_129 : decode cX7_tears 129 = .ok (.iload_n 1, 1) := by decide +kernel
theorem dX7_tears_130 : decode cX7_tears 130 = .ok (.iconst 0, 1) := by decide +kernel
theorem dX7_tears_131 : decode cX7_tears 131 = .ok (.invokevirtual 195, 3) := by decide +kernel
theorem dX7_tears_134 : decode cX7_tears 134 = .ok (.iinc 6 1, 3) := by decide +kernel
theorem dX7_tears_137 : decode cX7_tears 137 = .ok (.goto (-67), 3) := by decide +kernel
theorem dX7_tears_140 : decode cX7_tears 140 = .ok (.aload_n 0, 1) := by decide +kernel
theorem dX7_tears_141 : decode cX7_tears 141 = .ok (.invokevirtual 205, 3) := by decide +kernel
theorem dX7_tears_144 : decode cX7_tears 144 = .ok (.iload 5, 2) := by decide +kernel
theorem dX7_tears_146 : decode cX7_tears 146 = .ok (.ireturn, 1) := by decide +kernel
theorem dX7_wanted_0 : decode cX7_wanted 0 = .ok (.aload_n 0, 1) := by decide +kernel
theorem dX7_wanted_1 : decode cX7_wanted 1 = .ok (.iload_n 1, 1) := by decide +kernel
theorem dX7_wanted_2 : decode cX7_wanted 2 = .ok (.invokevirtual 177, 3) := by decide +kernel
theorem dX7_wanted_5 : decode cX7_wanted 5 = .ok (.ifCond .ne 5, 3) := by decide +kernel
theorem dX7_wanted_8 : decode cX7_wanted 8 = .ok (.iconst (-1), 1) := by decide +kernel
theorem dX7_wanted_9 : decode cX7_wanted 9 = .ok (.ireturn, 1) := by decide +kernel
theorem dX7_wanted_10 : decode cX7_wanted 10 = .ok (.iconst 0, 1) := by decide +kernel
theorem dX7_wanted_11 : decode cX7_wanted 11 = .ok (.istore_n 2, 1) := by decide +kernel
theorem dX7_wanted_12 : decode cX7_wanted 12 = .ok (.iconst 0, 1) := by decide +kernel
theorem dX7_wanted_13 : decode cX7_wanted 13 = .ok (.istore_n 3, 1) := by decide +kernel
theorem dX7_wanted_14 : decode cX7_wanted 14 = .ok (.iload_n 3, 1) := by decide +kernel
theorem dX7_wanted_15 : decode cX7_wanted 15 = .ok (.aload_n 0, 1) := by decide +kernel
theorem dX7_wanted_16 : decode cX7_wanted 16 = .ok (.getfield 9, 3) := by decide +kernel
theorem dX7_wanted_19 : decode cX7_wanted 19 = .ok (.bipush 12, 2) := by decide +kernel
theorem dX7_wanted_21 : decode cX7_wanted 21 = .ok (.iaload, 1) := by decide +kernel
theorem dX7_wanted_22 : decode cX7_wanted 22 = .ok (.if_icmp .ge 80, 3) := by decide +kernel
theorem dX7_wanted_25 : decode cX7_wanted 25 = .ok (.aload_n 0, 1) := by decide +kernel
theorem dX7_wanted_26 : decode cX7_wanted 26 = .ok (.iload_n 3, 1) := by decide +kernel
theorem dX7_wanted_27 : decode cX7_wanted 27 = .ok (.iload_n 1, 1) := by decide +kernel
theorem dX7_wanted_28 : decode cX7_wanted 28 = .ok (.invokevirtual 162, 3) := by decide +kernel
theorem dX7_wanted_31 : decode cX7_wanted 31 = .ok (.istore 4, 2) := by decide +kernel
theorem dX7_wanted_33 : decode cX7_wanted 33 = .ok (.iconst 1, 1) := by decide +kernel
theorem dX7_wanted_34 : decode cX7_wanted 34 = .ok (.istore 5, 2) := by decide +kernel
theorem dX7_wanted_36 : decode cX7_wanted 36 = .ok (.iconst 0, 1) := by decide +kernel
theorem dX7_wanted_37 : decode cX7_wanted 37 = .ok (.istore 6, 2) := by decide +kernel
theorem dX7_wanted_39 : decode cX7_wanted 39 = .ok (.iload 6, 2) := by decide +kernel
theorem dX7_wanted_41 : decode cX7_wanted 41 = .ok (.aload_n 0, 1) := by decide +kernel
theorem dX7_wanted_42 : decode cX7_wanted 42 = .ok (.getfield 9, 3) := by decide +kernel
theorem dX7_wanted_45 : decode cX7_wanted 45 = .ok (.bipush 13, 2) := by decide +kernel
theorem dX7_wanted_47 : decode cX7_wanted 47 = .ok (.iaload, 1) := by decide +kernel
theorem dX7_wanted_48 : decode cX7_wanted 48 = .ok (.if_icmp .ge 33, 3) := by decide +kernel
theorem dX7_wanted_51 : decode cX7_wanted 51 = .ok (.iload 5, 2) := by decide +kernel
theorem dX7_wanted_53 : decode cX7_wanted 53 = .ok (.ifCond .eq 19, 3) := by decide +kernel
theorem dX7_wanted_56 : decode cX7_wanted 56 = .ok (.aload_n 0, 1) := by decide +kernel
theorem dX7_wanted_57 : decode cX7_wanted 57 = .ok (.iload_n 3, 1) := by decide +kernel
theorem dX7_wanted_58 : decode cX7_wanted 58 = .ok (.iload 6, 2) := by decide +kernel
theorem dX7_wanted_60 : decode cX7_wanted 60 = .ok (.invokevirtual 162, 3) := by decide +kernel
theorem dX7_wanted_63 : decode cX7_wanted 63 = .ok (.iload 4, 2) := by decide +kernel
theorem dX7_wanted_65 : decode cX7_wanted 65 = .ok (.if_icmp .gt 7, 3) := by decide +kernel
theorem dX7_wanted_68 : decode cX7_wanted 68 = .ok (.iconst 1, 1) := by decide +kernel
theorem dX7_wanted_69 : decode cX7_wanted 69 = .ok (.goto 4, 3) := by decide +kernel
theorem dX7_wanted_72 : decode cX7_wanted 72 = .ok (.iconst 0, 1) := by decide +kernel
theorem dX7_wanted_73 : decode cX7_wanted 73 = .ok (.istore 5, 2) := by decide +kernel
theorem dX7_wanted_75 : decode cX7_wanted 75 = .ok (.iinc 6 1, 3) := by decide +kernel
theorem dX7_wanted_78 : decode cX7_wanted 78 = .ok (.goto (-39), 3) := by decide +kernel
theorem dX7_wanted_81 : decode cX7_wanted 81 = .ok (.iload_n 2, 1) := by decide +kernel
theorem dX7_wanted_82 : decode cX7_wanted 82 = .ok (.iload 5, 2) := by decide +kernel
theorem dX7_wanted_84 : decode cX7_wanted 84 = .ok (.ifCond .eq 9, 3) := by decide +kernel
theorem dX7_wanted_87 : decode cX7_wanted 87 = .ok (.iconst 1, 1) := by decide +kernel
theorem dX7_wanted_88 : decode cX7_wanted 88 = .ok (.iload_n 3, 1) := by decide +kernel
theorem dX7_wanted_89 : decode cX7_wanted 89 = .ok (.ishl, 1) := by decide +kernel
theorem dX7_wanted_90 : decode cX7_wanted 90 = .ok (.goto 4, 3) := by decide +kernel
theorem dX7_wanted_93 : decode cX7_wanted 93 = .ok (.iconst 0, 1) := by decide +kernel
theorem dX7_wanted_94 : decode cX7_wanted 94 = .ok (.ior, 1) := by decide +kernel
theorem dX7_wanted_95 : decode cX7_wanted 95 = .ok (.istore_n 2, 1) := by decide +kernel
theorem dX7_wanted_96 : decode cX7_wanted 96 = .ok (.iinc 3 1, 3) := by decide +kernel
theorem dX7_wanted_99 : decode cX7_wanted 99 = .ok (.goto (-85), 3) := by decide +kernel
theorem dX7_wanted_102 : decode cX7_wanted 102 = .ok (.iload_n 2, 1) := by decide +kernel
theorem dX7_wanted_103 : decode cX7_wanted 103 = .ok (.ireturn, 1) := by decide +kernel
theorem dX7_shelfThick_0 : decode cX7_shelfThick 0 = .ok (.iconst 0, 1) := by decide +kernel
theorem dX7_shelfThick_1 : decode cX7_shelfThick 1 = .ok (.istore_n 1, 1) := by decide +kernel
theorem dX7_shelfThick_2 : decode cX7_shelfThick 2 = .ok (.iconst 0, 1) := by decide +kernel
theorem dX7_shelfThick_3 : decode cX7_shelfThick 3 = .ok (.istore_n 2, 1) := by decide +kernel
theorem dX7_shelfThick_4 : decode cX7_shelfThick 4 = .ok (.iload_n 2, 1) := by decide +kernel
theorem dX7_shelfThick_5 : decode cX7_shelfThick 5 = .ok (.aload_n 0, 1) := by decide +kernel
theorem dX7_shelfThick_6 : decode cX7_shelfThick 6 = .ok (.getfield 9, 3) := by decide +kernel
theorem dX7_shelfThick_9 : decode cX7_shelfThick 9 = .ok (.bipush 13, 2) := by decide +kernel
theorem dX7_shelfThick_11 : decode cX7_shelfThick 11 = .ok (.iaload, 1) := by decide +kernel
theorem dX7_shelfThick_12 : decode cX7_shelfThick 12 = .ok (.if_icmp .ge 32, 3) := by decide +kernel
theorem dX7_shelfThick_15 : decode cX7_shelfThick 15 = .ok (.iload_n 1, 1) := by decide +kernel
theorem dX7_shelfThick_16 : decode cX7_shelfThick 16 = .ok (.aload_n 0, 1) := by decide +kernel
theorem dX7_shelfThick_17 : decode cX7_shelfThick 17 = .ok (.iload_n 2, 1) := by decide +kernel
theorem dX7_shelfThick_18 : decode cX7_shelfThick 18 = .ok (.invokevirtual 147, 3) := by decide +kernel
theorem dX7_shelfThick_21 : decode cX7_shelfThick 21 = .ok (.ifCond .eq 14, 3) := by decide +kernel
theorem dX7_shelfThick_24 : decode cX7_shelfThick 24 = .ok (.aload_n 0, 1) := by decide +kernel
theorem dX7_shelfThick_25 : decode cX7_shelfThick 25 = .ok (.getfield 9, 3) := by decide +kernel
theorem dX7_shelfThick_28 : decode cX7_shelfThick 28 = .ok (.iconst 5, 1) := by decide +kernel
theorem dX7_shelfThick_29 : decode cX7_shelfThick 29 = .ok (.iload_n 2, 1) := by decide +kernel
theorem dX7_shelfThick_30 : decode cX7_shelfThick 30 = .ok (.iadd, 1) := by decide +kernel
theorem dX7_shelfThick_31 : decode cX7_shelfThick 31 = .ok (.iaload, 1) := by decide +kernel
theorem dX7_shelfThick_32 : decode cX7_shelfThick 32 = .ok (.goto 4, 3) := by decide +kernel
theorem dX7_shelfThick_35 : decode cX7_shelfThick 35 = .ok (.iconst 0, 1) := by decide +kernel
theorem dX7_shelfThick_36 : decode cX7_shelfThick 36 = .ok (.iadd, 1) := by decide +kernel
theorem dX7_shelfThick_37 : decode cX7_shelfThick 37 = .ok (.istore_n 1, 1) := by decide +kernel
theorem dX7_shelfThick_38 : decode cX7_shelfThick 38 = .ok (.iinc 2 1, 3) := by decide +kernel
theorem dX7_shelfThick_41 : decode cX7_shelfThick 41 = .ok (.goto (-37), 3) := by decide +kernel
theorem dX7_shelfThick_44 : decode cX7_shelfThick 44 = .ok (.iload_n 1, 1) := by decide +kernel
theorem dX7_shelfThick_45 : decode cX7_shelfThick 45 = .ok (.ireturn, 1) := by decide +kernel
theorem dX7_goesOn_0 : decode cX7_goesOn 0 = .ok (.iconst 0, 1) := by decide +kernel
theorem dX7_goesOn_1 : decode cX7_goesOn 1 = .ok (.istore_n 2, 1) := by decide +kernel
theorem dX7_goesOn_2 : decode cX7_goesOn 2 = .ok (.iload_n 2, 1) := by decide +kernel
theorem dX7_goesOn_3 : decode cX7_goesOn 3 = .ok (.iload_n 1, 1) := by decide +kernel
theorem dX7_goesOn_4 : decode cX7_goesOn 4 = .ok (.if_icmp .ge 14, 3) := by decide +kernel
theorem dX7_goesOn_7 : decode cX7_goesOn 7 = .ok (.aload_n 0, 1) := by decide +kernel
theorem dX7_goesOn_8 : decode cX7_goesOn 8 = .ok (.invokevirtual 199, 3) := by decide +kernel
theorem dX7_goesOn_11 : decode cX7_goesOn 11 = .ok (.pop, 1) := by decide +kernel
theorem dX7_goesOn_12 : decode cX7_goesOn 12 = .ok (.iinc 2 1, 3) := by decide +kernel
theorem dX7_goesOn_15 : decode cX7_goesOn 15 = .ok (.goto (-13), 3) := by decide +kernel
theorem dX7_goesOn_18 : decode cX7_goesOn 18 = .ok (.return_, 1) := by decide +kernel
theorem dX7_swells_0 : decode cX7_swells 0 = .ok (.iload_n 1, 1) := by decide +kernel
theorem dX7_swells_1 : decode cX7_swells 1 = .ok (.iconst 0, 1) := by decide +kernel
theorem dX7_swells_2 : decode cX7_swells 2 = .ok (.bipush 40, 2) := by decide +kernel
theorem dX7_swells_4 : decode cX7_swells 4 = .ok (.invokestatic 50, 3) := by decide +kernel
theorem dX7_swells_7 : decode cX7_swells 7 = .ok (.ifCond .ne 7, 3) := by decide +kernel
theorem dX7_swells_10 : decode cX7_swells 10 = .ok (.sipush (-10002), 3) := by decide +kernel
theorem dX7_swells_13 : decode cX7_swells 13 = .ok (.ireturn, 1) := by decide +kernel
theorem dX7_swells_14 : decode cX7_swells 14 = .ok (.aload_n 0, 1) := by decide +kernel
theorem dX7_swells_15 : decode cX7_swells 15 = .ok (.invokevirtual 266, 3) := by decide +kernel
theorem dX7_swells_18 : decode cX7_swells 18 = .ok (.istore_n 2, 1) := by decide +kernel
theorem dX7_swells_19 : decode cX7_swells 19 = .ok (.aload_n 0, 1) := by decide +kernel
theorem dX7_swells_20 : decode cX7_swells 20 = .ok (.invokevirtual 202, 3) := by decide +kernel
theorem dX7_swells_23 : decode cX7_swells 23 = .ok (.aload_n 0, 1) := by decide +kernel
theorem dX7_swells_24 : decode cX7_swells 24 = .ok (.iload_n 1, 1) := by decide +kernel
theorem dX7_swells_25 : decode cX7_swells 25 = .ok (.invokevirtual 269, 3) := by decide +kernel
theorem dX7_swells_28 : decode cX7_swells 28 = .ok (.aload_n 0, 1) := by decide +kernel
theorem dX7_swells_29 : decode cX7_swells 29 = .ok (.invokevirtual 266, 3) := by decide +kernel
theorem dX7_swells_32 : decode cX7_swells 32 = .ok (.istore_n 3, 1) := by decide +kernel
theorem dX7_swells_33 : decode cX7_swells 33 = .ok (.aload_n 0, 1) := by decide +kernel
theorem dX7_swells_34 : decode cX7_swells 34 = .ok (.invokevirtual 205, 3) := by decide +kernel
theorem dX7_swells_37 : decode cX7_swells 37 = .ok (.iload_n 3, 1) := by decide +kernel
theorem dX7_swells_38 : decode cX7_swells 38 = .ok (.iload_n 2, 1) := by decide +kernel
theorem dX7_swells_39 : decode cX7_swells 39 = .ok (.isub, 1) := by decide +kernel
theorem dX7_swells_40 : decode cX7_swells 40 = .ok (.ireturn, 1) := by decide +kernel
theorem dX7_see_0 : decode cX7_see 0 = .ok (.iload_n 1, 1) := by decide +kernel
theorem dX7_see_1 : decode cX7_see 1 = .ok (.iconst (-1), 1) := by decide +kernel
theorem dX7_see_2 : decode cX7_see 2 = .ok (.if_icmp .ne 13, 3) := by decide +kernel
theorem dX7_see_5 : decode cX7_see 5 = .ok (.aload_n 0, 1) := by decide +kernel
theorem dX7_see_6 : decode cX7_see 6 = .ok (.getfield 9, 3) := by decide +kernel
theorem dX7_see_9 : decode cX7_see 9 = .ok (.bipush 15, 2) := by decide +kernel
theorem dX7_see_11 : decode cX7_see 11 = .ok (.iconst 0, 1) := by decide +kernel
theorem dX7_see_12 : decode cX7_see 12 = .ok (.iastore, 1) := by decide +kernel
theorem dX7_see_13 : decode cX7_see 13 = .ok (.iconst 0, 1) := by decide +kernel
theorem dX7_see_14 : decode cX7_see 14 = .ok (.ireturn, 1) := by decide +kernel
theorem dX7_see_15 : decode cX7_see 15 = .ok (.aload_n 0, 1) := by decide +kernel
theorem dX7_see_16 : decode cX7_see 16 = .ok (.iload_n 1, 1) := by decide +kernel
theorem dX7_see_17 : decode cX7_see 17 = .ok (.invokevirtual 177, 3) := by decide +kernel
theorem dX7_see_20 : decode cX7_see 20 = .ok (.ifCond .ne 5, 3) := by decide +kernel
theorem dX7_see_23 : decode cX7_see 23 = .ok (.iconst (-1), 1) := by decide +kernel
theorem dX7_see_24 : decode cX7_see 24 = .ok (.ireturn, 1) := by decide +kernel
theorem dX7_see_25 : decode cX7_see 25 = .ok (.iload_n 2, 1) := by decide +kernel
theorem dX7_see_26 : decode cX7_see 26 = .ok (.iconst 0, 1) := by decide +kernel
theorem dX7_see_27 : decode cX7_see 27 = .ok (.bipush 20, 2) := by decide +kernel
theorem dX7_see_29 : decode cX7_see 29 = .ok (.invokestatic 50, 3) := by decide +kernel
theorem dX7_see_32 : decode cX7_see 32 = .ok (.ifCond .ne 6, 3) := by decide +kernel
theorem dX7_see_35 : decode cX7_see 35 = .ok (.bipush (-2), 2) := by decide +kernel
theorem dX7_see_37 : decode cX7_see 37 = .ok (.ireturn, 1) := by decide +kernel
theorem dX7_see_38 : decode cX7_see 38 = .ok (.aload_n 0, 1) := by decide +kernel
theorem dX7_see_39 : decode cX7_see 39 = .ok (.getfield 9, 3) := by decide +kernel
theorem dX7_see_42 : decode cX7_see 42 = .ok (.bipush 15, 2) := by decide +kernel
theorem dX7_see_44 : decode cX7_see 44 = .ok (.iaload, 1) := by decide +kernel
theorem dX7_see_45 : decode cX7_see 45 = .ok (.bipush 6, 2) := by decide +kernel
theorem dX7_see_47 : decode cX7_see 47 = .ok (.if_icmp .ne 6, 3) := by decide +kernel
theorem dX7_see_50 : decode cX7_see 50 = .ok (.bipush (-4), 2) := by decide +kernel
theorem dX7_see_52 : decode cX7_see 52 = .ok (.ireturn, 1) := by decide +kernel
theorem dX7_see_53 : decode cX7_see 53 = .ok (.aload_n 0, 1) := by decide +kernel
theorem dX7_see_54 : decode cX7_see 54 = .ok (.getfield 9, 3) := by decide +kernel
theorem dX7_see_57 : decode cX7_see 57 = .ok (.bipush 44, 2) := by decide +kernel
theorem dX7_see_59 : decode cX7_see 59 = .ok (.aload_n 0, 1) := by decide +kernel
theorem dX7_see_60 : decode cX7_see 60 = .ok (.getfield 9, 3) := by decide +kernel
theorem dX7_see_63 : decode cX7_see 63 = .ok (.bipush 15, 2) := by decide +kernel
theorem dX7_see_65 : decode cX7_see 65 = .ok (.iaload, 1) := by decide +kernel
theorem dX7_see_66 : decode cX7_see 66 = .ok (.iadd, 1) := by decide +kernel
theorem dX7_see_67 : decode cX7_see 67 = .ok (.iload_n 1, 1) := by decide +kernel
theorem dX7_see_68 : decode cX7_see 68 = .ok (.iastore, 1) := by decide +kernel
theorem dX7_see_69 : decode cX7_see 69 = .ok (.aload_n 0, 1) := by decide +kernel
theorem dX7_see_70 : decode cX7_see 70 = .ok (.getfield 9, 3) := by decide +kernel
theorem dX7_see_73 : decode cX7_see 73 = .ok (.bipush 50, 2) := by decide +kernel
theorem dX7_see_75 : decode cX7_see 75 = .ok (.aload_n 0, 1) := by decide +kernel
theorem dX7_see_76 : decode cX7_see 76 = .ok (.getfield 9, 3) := by decide +kernel
theorem dX7_see_79 : decode cX7_see 79 = .ok (.bipush 15, 2) := by decide +kernel
theorem dX7_see_81 : decode cX7_see 81 = .ok (.iaload, 1) := by decide +kernel
theorem dX7_see_82 : decode cX7_see 82 = .ok (.iadd, 1) := by decide +kernel
theorem dX7_see_83 : decode cX7_see 83 = .ok (.iload_n 2, 1) := by decide +kernel
theorem dX7_see_84 : decode cX7_see 84 = .ok (.iastore, 1) := by decide +kernel
theorem dX7_see_85 : decode cX7_see 85 = .ok (.aload_n 0, 1) := by decide +kernel
theorem dX7_see_86 : decode cX7_see 86 = .ok (.getfield 9, 3) := by decide +kernel
theorem dX7_see_89 : decode cX7_see 89 = .ok (.bipush 56, 2) := by decide +kernel
theorem dX7_see_91 : decode cX7_see 91 = .ok (.aload_n 0, 1) := by decide +kernel
theorem dX7_see_92 : decode cX7_see 92 = .ok (.getfield 9, 3) := by decide +kernel
theorem dX7_see_95 : decode cX7_see 95 = .ok (.bipush 15, 2) := by decide +kernel
theorem dX7_see_97 : decode cX7_see 97 = .ok (.iaload, 1) := by decide +kernel
theorem dX7_see_98 : decode cX7_see 98 = .ok (.iadd, 1) := by decide +kernel
theorem dX7_see_99 : decode cX7_see 99 = .ok (.iload_n 3, 1) := by decide +kernel
theorem dX7_see_100 : decode cX7_see 100 = .ok (.ifCond .eq 7, 3) := by decide +kernel
theorem dX7_see_103 : decode cX7_see 103 = .ok (.iconst 1, 1) := by decide +kernel
theorem dX7_see_104 : decode cX7_see 104 = .ok (.goto 4, 3) := by decide +kernel
theorem dX7_see_107 : decode cX7_see 107 = .ok (.iconst 0, 1) := by decide +kernel
theorem dX7_see_108 : decode cX7_see 108 = .ok (.iastore, 1) := by decide +kernel
theorem dX7_see_109 : decode cX7_see 109 = .ok (.aload_n 0, 1) := by decide +kernel
theorem dX7_see_110 : decode cX7_see 110 = .ok (.getfield 9, 3) := by decide +kernel
theorem dX7_see_113 : decode cX7_see 113 = .ok (.bipush 15, 2) := by decide +kernel
theorem dX7_see_115 : decode cX7_see 115 = .ok (.dup2, 1) := by decide +kernel
theorem dX7_see_116 : decode cX7_see 116 = .ok (.iaload, 1) := by decide +kernel
theorem dX7_see_117 : decode cX7_see 117 = .ok (.iconst 1, 1) := by decide +kernel
theorem dX7_see_118 : decode cX7_see 118 = .ok (.iadd, 1) := by decide +kernel
theorem dX7_see_119 : decode cX7_see 119 = .ok (.iastore, 1) := by decide +kernel
theorem dX7_see_120 : decode cX7_see 120 = .ok (.aload_n 0, 1) := by decide +kernel
theorem dX7_see_121 : decode cX7_see 121 = .ok (.getfield 9, 3) := by decide +kernel
theorem dX7_see_124 : decode cX7_see 124 = .ok (.bipush 15, 2) := by decide +kernel
theorem dX7_see_126 : decode cX7_see 126 = .ok (.iaload, 1) := by decide +kernel
theorem dX7_see_127 : decode cX7_see 127 = .ok (.ireturn, 1) := by decide +kernel
theorem dX7_isAsSeen_0 : decode cX7_isAsSeen 0 = .ok (.iconst 1, 1) := by decide +kernel
theorem dX7_isAsSeen_1 : decode cX7_isAsSeen 1 = .ok (.istore_n 2, 1) := by decide +kernel
theorem dX7_isAsSeen_2 : decode cX7_isAsSeen 2 = .ok (.iconst 0, 1) := by decide +kernel
theorem dX7_isAsSeen_3 : decode cX7_isAsSeen 3 = .ok (.istore_n 3, 1) := by decide +kernel
theorem dX7_isAsSeen_4 : decode cX7_isAsSeen 4 = .ok (.iload_n 3, 1) := by decide +kernel
theorem dX7_isAsSeen_5 : decode cX7_isAsSeen 5 = .ok (.aload_n 0, 1) := by decide +kernel
theorem dX7_isAsSeen_6 : decode cX7_isAsSeen 6 = .ok (.getfield 9, 3) := by decide +kernel
theorem dX7_isAsSeen_9 : decode cX7_isAsSeen 9 = .ok (.bipush 15, 2) := by decide +kernel
theorem dX7_isAsSeen_11 : decode cX7_isAsSeen 11 = .ok (.iaload, 1) := by decide +kernel
theorem dX7_isAsSeen_12 : decode cX7_isAsSeen 12 = .ok (.if_icmp .ge 66, 3) := by decide +kernel
theorem dX7_isAsSeen_15 : decode cX7_isAsSeen 15 = .ok (.iload_n 2, 1) := by decide +kernel
theorem dX7_isAsSeen_16 : decode cX7_isAsSeen 16 = .ok (.ifCond .eq 54, 3) := by decide +kernel
theorem dX7_isAsSeen_19 : decode cX7_isAsSeen 19 = .ok (.aload_n 0, 1) := by decide +kernel
theorem dX7_isAsSeen_20 : decode cX7_isAsSeen 20 = .ok (.getfield 9, 3) := by decide +kernel
theorem dX7_isAsSeen_23 : decode cX7_isAsSeen 23 = .ok (.bipush 50, 2) := by decide +kernel
theorem dX7_isAsSeen_25 : decode cX7_isAsSeen 25 = .ok (.iload_n 3, 1) := by decide +kernel
theorem dX7_isAsSeen_26 : decode cX7_isAsSeen 26 = .ok (.iadd, 1) := by decide +kernel
theorem dX7_isAsSeen_27 : decode cX7_isAsSeen 27 = .ok (.iaload, 1) := by decide +kernel
theorem dX7_isAsSeen_28 : decode cX7_isAsSeen 28 = .ok (.iload_n 1, 1) := by decide +kernel
theorem dX7_isAsSeen_29 : decode cX7_isAsSeen 29 = .ok (.if_icmp .ne 37, 3) := by decide +kernel
theorem dX7_isAsSeen_32 : decode cX7_isAsSeen 32 = .ok (.aload_n 0, 1) := by decide +kernel
theorem dX7_isAsSeen_33 : decode cX7_isAsSeen 33 = .ok (.aload_n 0, 1) := by decide +kernel
theorem dX7_isAsSeen_34 : decode cX7_isAsSeen 34 = .ok (.getfield 9, 3) := by decide +kernel
theorem dX7_isAsSeen_37 : decode cX7_isAsSeen 37 = .ok (.bipush 44, 2) := by decide +kernel
theorem dX7_isAsSeen_39 : decode cX7_isAsSeen 39 = .ok (.iload_n 3, 1) := by decide +kernel
theorem dX7_isAsSeen_40 : decode cX7_isAsSeen 40 = .ok (.iadd, 1) := by decide +kernel
theorem dX7_isAsSeen_41 : decode cX7_isAsSeen 41 = .ok (.iaload, 1) := by decide +kernel
theorem dX7_isAsSeen_42 : decode cX7_isAsSeen 42 = .ok (.invokevirtual 147, 3) := by decide +kernel
theorem dX7_isAsSeen_45 : decode cX7_isAsSeen 45 = .ok (.aload_n 0, 1) := by decide +kernel
theorem dX7_isAsSeen_46 : decode cX7_isAsSeen 46 = .ok (.getfield 9, 3) := by decide +kernel
theorem dX7_isAsSeen_49 : decode cX7_isAsSeen 49 = .ok (.bipush 56, 2) := by decide +kernel
theorem dX7_isAsSeen_51 : decode cX7_isAsSeen 51 = .ok (.iload_n 3, 1) := by decide +kernel
theorem dX7_isAsSeen_52 : decode cX7_isAsSeen 52 = .ok (.iadd, 1) := by decide +kernel
theorem dX7_isAsSeen_53 : decode cX7_isAsSeen 53 = .ok (.iaload, 1) := by decide +kernel
theorem dX7_isAsSeen_54 : decode cX7_isAsSeen 54 = .ok (.iconst 1, 1) := by decide +kernel
theorem dX7_isAsSeen_55 : decode cX7_isAsSeen 55 = .ok (.if_icmp .ne 7, 3) := by decide +kernel
theorem dX7_isAsSeen_58 : decode cX7_isAsSeen 58 = .ok (.iconst 1, 1) := by decide +kernel
theorem dX7_isAsSeen_59 : decode cX7_isAsSeen 59 = .ok (.goto 4, 3) := by decide +kernel
theorem dX7_isAsSeen_62 : decode cX7_isAsSeen 62 = .ok (.iconst 0, 1) := by decide +kernel
theorem dX7_isAsSeen_63 : decode cX7_isAsSeen 63 = .ok (.if_icmp .ne 7, 3) := by decide +kernel
theorem dX7_isAsSeen_66 : decode cX7_isAsSeen 66 = .ok (.iconst 1, 1) := by decide +kernel
theorem dX7_isAsSeen_67 : decode cX7_isAsSeen 67 = .ok (.goto 4, 3) := by decide +kernel
theorem dX7_isAsSeen_70 : decode cX7_isAsSeen 70 = .ok (.iconst 0, 1) := by decide +kernel
theorem dX7_isAsSeen_71 : decode cX7_isAsSeen 71 = .ok (.istore_n 2, 1) := by decide +kernel
theorem dX7_isAsSeen_72 : decode cX7_isAsSeen 72 = .ok (.iinc 3 1, 3) := by decide +kernel
theorem dX7_isAsSeen_75 : decode cX7_isAsSeen 75 = .ok (.goto (-71), 3) := by decide +kernel
theorem dX7_isAsSeen_78 : decode cX7_isAsSeen 78 = .ok (.iload_n 2, 1) := by decide +kernel
theorem dX7_isAsSeen_79 : decode cX7_isAsSeen 79 = .ok (.ireturn, 1) := by decide +kernel
theorem dX7_lastSeen_0 : decode cX7_lastSeen 0 = .ok (.iconst 0, 1) := by decide +kernel
theorem dX7_lastSeen_1 : decode cX7_lastSeen 1 = .ok (.istore_n 1, 1) := by decide +kernel
theorem dX7_lastSeen_2 : decode cX7_lastSeen 2 = .ok (.iconst 0, 1) := by decide +kernel
theorem dX7_lastSeen_3 : decode cX7_lastSeen 3 = .ok (.istore_n 2, 1) := by decide +kernel
theorem dX7_lastSeen_4 : decode cX7_lastSeen 4 = .ok (.iload_n 2, 1) := by decide +kernel
theorem dX7_lastSeen_5 : decode cX7_lastSeen 5 = .ok (.aload_n 0, 1) := by decide +kernel
theorem dX7_lastSeen_6 : decode cX7_lastSeen 6 = .ok (.getfield 9, 3) := by decide +kernel
theorem dX7_lastSeen_9 : decode cX7_lastSeen 9 = .ok (.bipush 15, 2) := by decide +kernel
theorem dX7_lastSeen_11 : decode cX7_lastSeen 11 = .ok (.iaload, 1) := by decide +kernel
theorem dX7_lastSeen_12 : decode cX7_lastSeen 12 = .ok (.if_icmp .ge 36, 3) := by decide +kernel
theorem dX7_lastSeen_15 : decode cX7_lastSeen 15 = .ok (.aload_n 0, 1) := by decide +kernel
theorem dX7_lastSeen_16 : decode cX7_lastSeen 16 = .ok (.getfield 9, 3) := by decide +kernel
theorem dX7_lastSeen_19 : decode cX7_lastSeen 19 = .ok (.bipush 50, 2) := by decide +kernel
theorem dX7_lastSeen_21 : decode cX7_lastSeen 21 = .ok (.iload_n 2, 1) := by decide +kernel
theorem dX7_lastSeen_22 : decode cX7_lastSeen 22 = .ok (.iadd, 1) := by decide +kernel
theorem dX7_lastSeen_23 : decode cX7_lastSeen 23 = .ok (.iaload, 1) := by decide +kernel
theorem dX7_lastSeen_24 : decode cX7_lastSeen 24 = .ok (.iload_n 1, 1) := by decide +kernel
theorem dX7_lastSeen_25 : decode cX7_lastSeen 25 = .ok (.if_icmp .le 15, 3) := by decide +kernel
theorem dX7_lastSeen_28 : decode cX7_lastSeen 28 = .ok (.aload_n 0, 1) := by decide +kernel
theorem dX7_lastSeen_29 : decode cX7_lastSeen 29 = .ok (.getfield 9, 3) := by decide +kernel
theorem dX7_lastSeen_32 : decode cX7_lastSeen 32 = .ok (.bipush 50, 2) := by decide +kernel
theorem dX7_lastSeen_34 : decode cX7_lastSeen 34 = .ok (.iload_n 2, 1) := by decide +kernel
theorem dX7_lastSeen_35 : decode cX7_lastSeen 35 = .ok (.iadd, 1) := by decide +kernel
theorem dX7_lastSeen_36 : decode cX7_lastSeen 36 = .ok (.iaload, 1) := by decide +kernel
theorem dX7_lastSeen_37 : decode cX7_lastSeen 37 = .ok (.goto 4, 3) := by decide +kernel
theorem dX7_lastSeen_40 : decode cX7_lastSeen 40 = .ok (.iload_n 1, 1) := by decide +kernel
theorem dX7_lastSeen_41 : decode cX7_lastSeen 41 = .ok (.istore_n 1, 1) := by decide +kernel
theorem dX7_lastSeen_42 : decode cX7_lastSeen 42 = .ok (.iinc 2 1, 3) := by decide +kernel
theorem dX7_lastSeen_45 : decode cX7_lastSeen 45 = .ok (.goto (-41), 3) := by decide +kernel
theorem dX7_lastSeen_48 : decode cX7_lastSeen 48 = .ok (.iload_n 1, 1) := by decide +kernel
theorem dX7_lastSeen_49 : decode cX7_lastSeen 49 = .ok (.ireturn, 1) := by decide +kernel
theorem dX7_areAsSeen_0 : decode cX7_areAsSeen 0 = .ok (.aload_n 0, 1) := by decide +kernel
theorem dX7_areAsSeen_1 : decode cX7_areAsSeen 1 = .ok (.invokevirtual 272, 3) := by decide +kernel
theorem dX7_areAsSeen_4 : decode cX7_areAsSeen 4 = .ok (.istore_n 1, 1) := by decide +kernel
theorem dX7_areAsSeen_5 : decode cX7_areAsSeen 5 = .ok (.iconst 1, 1) := by decide +kernel
theorem dX7_areAsSeen_6 : decode cX7_areAsSeen 6 = .ok (.istore_n 2, 1) := by decide +kernel
theorem dX7_areAsSeen_7 : decode cX7_areAsSeen 7 = .ok (.iconst 0, 1) := by decide +kernel
theorem dX7_areAsSeen_8 : decode cX7_areAsSeen 8 = .ok (.istore_n 3, 1) := by decide +kernel
theorem dX7_areAsSeen_9 : decode cX7_areAsSeen 9 = .ok (.iload_n 3, 1) := by decide +kernel
theorem dX7_areAsSeen_10 : decode cX7_areAsSeen 10 = .ok (.iload_n 1, 1) := by decide +kernel
theorem dX7_areAsSeen_11 : decode cX7_areAsSeen 11 = .ok (.if_icmp .gt 24, 3) := by decide +kernel
theorem dX7_areAsSeen_14 : decode cX7_areAsSeen 14 = .ok (.iload_n 2, 1) := by decide +kernel
theorem dX7_areAsSeen_15 : decode cX7_areAsSeen 15 = .ok (.ifCond .eq 20, 3) := by decide +kernel
theorem dX7_areAsSeen_18 : decode cX7_areAsSeen 18 = .ok (.aload_n 0, 1) := by decide +kernel
theorem dX7_areAsSeen_19 : decode cX7_areAsSeen 19 = .ok (.iload_n 3, 1) := by decide +kernel
theorem dX7_areAsSeen_20 : decode cX7_areAsSeen 20 = .ok (.invokevirtual 275, 3) := by decide +kernel
theorem dX7_areAsSeen_23 : decode cX7_areAsSeen 23 = .ok (.istore_n 2, 1) := by decide +kernel
theorem dX7_areAsSeen_24 : decode cX7_areAsSeen 24 = .ok (.aload_n 0, 1) := by decide +kernel
theorem dX7_areAsSeen_25 : decode cX7_areAsSeen 25 = .ok (.invokevirtual 199, 3) := by decide +kernel
theorem dX7_areAsSeen_28 : decode cX7_areAsSeen 28 = .ok (.pop, 1) := by decide +kernel
theorem dX7_areAsSeen_29 : decode cX7_areAsSeen 29 = .ok (.iinc 3 1, 3) := by decide +kernel
theorem dX7_areAsSeen_32 : decode cX7_areAsSeen 32 = .ok (.goto (-23), 3) := by decide +kernel
theorem dX7_areAsSeen_35 : decode cX7_areAsSeen 35 = .ok (.aload_n 0, 1) := by decide +kernel
theorem dX7_areAsSeen_36 : decode cX7_areAsSeen 36 = .ok (.invokevirtual 205, 3) := by decide +kernel
theorem dX7_areAsSeen_39 : decode cX7_areAsSeen 39 = .ok (.iload_n 2, 1) := by decide +kernel
theorem dX7_areAsSeen_40 : decode cX7_areAsSeen 40 = .ok (.ireturn, 1) := by decide +kernel
theorem dX7_swapsFor_0 : decode cX7_swapsFor 0 = .ok (.aload_n 0, 1) := by decide +kernel
theorem dX7_swapsFor_1 : decode cX7_swapsFor 1 = .ok (.iload_n 2, 1) := by decide +kernel
theorem dX7_swapsFor_2 : decode cX7_swapsFor 2 = .ok (.invokevirtual 143, 3) := by decide +kernel
theorem dX7_swapsFor_5 : decode cX7_swapsFor 5 = .ok (.istore_n 3, 1) := by decide +kernel
theorem dX7_swapsFor_6 : decode cX7_swapsFor 6 = .ok (.iload_n 3, 1) := by decide +kernel
theorem dX7_swapsFor_7 : decode cX7_swapsFor 7 = .ok (.iconst (-1), 1) := by decide +kernel
theorem dX7_swapsFor_8 : decode cX7_swapsFor 8 = .ok (.if_icmp .eq 19, 3) := by decide +kernel
theorem dX7_swapsFor_11 : decode cX7_swapsFor 11 = .ok (.aload_n 0, 1) := by decide +kernel
theorem dX7_swapsFor_12 : decode cX7_swapsFor 12 = .ok (.getfield 9, 3) := by decide +kernel
theorem dX7_swapsFor_15 : decode cX7_swapsFor 15 = .ok (.iconst 1, 1) := by decide +kernel
theorem dX7_swapsFor_16 : decode cX7_swapsFor 16 = .ok (.iload_n 3, 1) := by decide +kernel
theorem dX7_swapsFor_17 : decode cX7_swapsFor 17 = .ok (.iadd, 1) := by decide +kernel
theorem dX7_swapsFor_18 : decode cX7_swapsFor 18 = .ok (.aload_n 0, 1) := by decide +kernel
theorem dX7_swapsFor_19 : decode cX7_swapsFor 19 = .ok (.getfield 9, 3) := by decide +kernel
theorem dX7_swapsFor_22 : decode cX7_swapsFor 22 = .ok (.iconst 1, 1) := by decide +kernel
theorem dX7_swapsFor_23 : decode cX7_swapsFor 23 = .ok (.iload_n 1, 1) := by decide +kernel
theorem dX7_swapsFor_24 : decode cX7_swapsFor 24 = .ok (.iadd, 1) := by decide +kernel
theorem dX7_swapsFor_25 : decode cX7_swapsFor 25 = .ok (.iaload, 1) := by decide +kernel
theorem dX7_swapsFor_26 : decode cX7_swapsFor 26 = .ok (.iastore, 1) := by decide +kernel
theorem dX7_swapsFor_27 : decode cX7_swapsFor 27 = .ok (.aload_n 0, 1) := by decide +kernel
theorem dX7_swapsFor_28 : decode cX7_swapsFor 28 = .ok (.getfield 9, 3) := by decide +kernel
theorem dX7_swapsFor_31 : decode cX7_swapsFor 31 = .ok (.iconst 1, 1) := by decide +kernel
theorem dX7_swapsFor_32 : decode cX7_swapsFor 32 = .ok (.iload_n 1, 1) := by decide +kernel
theorem dX7_swapsFor_33 : decode cX7_swapsFor 33 = .ok (.iadd, 1) := by decide +kernel
theorem dX7_swapsFor_34 : decode cX7_swapsFor 34 = .ok (.iload_n 2, 1) := by decide +kernel
theorem dX7_swapsFor_35 : decode cX7_swapsFor 35 = .ok (.iastore, 1) := by decide +kernel
theorem dX7_swapsFor_36 : decode cX7_swapsFor 36 = .ok (.return_, 1) := by decide +kernel
theorem dX7_had_0 : decode cX7_had 0 = .ok (.aload_n 0, 1) := by decide +kernel
theorem dX7_had_1 : decode cX7_had 1 = .ok (.iload_n 1, 1) := by decide +kernel
theorem dX7_had_2 : decode cX7_had 2 = .ok (.invokevirtual 165, 3) := by decide +kernel
theorem dX7_had_5 : decode cX7_had 5 = .ok (.ifCond .ne 5, 3) := by decide +kernel
theorem dX7_had_8 : decode cX7_had 8 = .ok (.iconst (-1), 1) := by decide +kernel
theorem dX7_had_9 : decode cX7_had 9 = .ok (.ireturn, 1) := by decide +kernel
theorem dX7_had_10 : decode cX7_had 10 = .ok (.aload_n 0, 1) := by decide +kernel
theorem dX7_had_11 : decode cX7_had 11 = .ok (.invokevirtual 202, 3) := by decide +kernel
theorem dX7_had_14 : decode cX7_had 14 = .ok (.iconst 0, 1) := by decide +kernel
theorem dX7_had_15 : decode cX7_had 15 = .ok (.istore_n 2, 1) := by decide +kernel
theorem dX7_had_16 : decode cX7_had 16 = .ok (.iconst 0, 1) := by decide +kernel
theorem dX7_had_17 : decode cX7_had 17 = .ok (.istore_n 3, 1) := by decide +kernel
theorem dX7_had_18 : decode cX7_had 18 = .ok (.iload_n 3, 1) := by decide +kernel
theorem dX7_had_19 : decode cX7_had 19 = .ok (.aload_n 0, 1) := by decide +kernel
theorem dX7_had_20 : decode cX7_had 20 = .ok (.getfield 9, 3) := by decide +kernel
theorem dX7_had_23 : decode cX7_had 23 = .ok (.bipush 13, 2) := by decide +kernel
theorem dX7_had_25 : decode cX7_had 25 = .ok (.iaload, 1) := by decide +kernel
theorem dX7_had_26 : decode cX7_had 26 = .ok (.if_icmp .ge 32, 3) := by decide +kernel
theorem dX7_had_29 : decode cX7_had 29 = .ok (.aload_n 0, 1) := by decide +kernel
theorem dX7_had_30 : decode cX7_had 30 = .ok (.iload_n 1, 1) := by decide +kernel
theorem dX7_had_31 : decode cX7_had 31 = .ok (.iload_n 3, 1) := by decide +kernel
theorem dX7_had_32 : decode cX7_had 32 = .ok (.invokevirtual 278, 3) := by decide +kernel
theorem dX7_had_35 : decode cX7_had 35 = .ok (.iload_n 2, 1) := by decide +kernel
theorem dX7_had_36 : decode cX7_had 36 = .ok (.aload_n 0, 1) := by decide +kernel
theorem dX7_had_37 : decode cX7_had 37 = .ok (.invokevirtual 281, 3) := by decide +kernel
theorem dX7_had_40 : decode cX7_had 40 = .ok (.ifCond .eq 9, 3) := by decide +kernel
theorem dX7_had_43 : decode cX7_had 43 = .ok (.iconst 1, 1) := by decide +kernel
theorem dX7_had_44 : decode cX7_had 44 = .ok (.iload_n 3, 1) := by decide +kernel
theorem dX7_had_45 : decode cX7_had 45 = .ok (.ishl, 1) := by decide +kernel
theorem dX7_had_46 : decode cX7_had 46 = .ok (.goto 4, 3) := by decide +kernel
theorem dX7_had_49 : decode cX7_had 49 = .ok (.iconst 0, 1) := by decide +kernel
theorem dX7_had_50 : decode cX7_had 50 = .ok (.ior, 1) := by decide +kernel
theorem dX7_had_51 : decode cX7_had 51 = .ok (.istore_n 2, 1) := by decide +kernel
theorem dX7_had_52 : decode cX7_had 52 = .ok (.iinc 3 1, 3) := by decide +kernel
theorem dX7_had_55 : decode cX7_had 55 = .ok (.goto (-37), 3) := by decide +kernel
theorem dX7_had_58 : decode cX7_had 58 = .ok (.iload_n 2, 1) := by decide +kernel
theorem dX7_had_59 : decode cX7_had 59 = .ok (.ireturn, 1) := by decide +kernel
theorem dX7_firm_0 : decode cX7_firm 0 = .ok (.aload_n 0, 1) := by decide +kernel
theorem dX7_firm_1 : decode cX7_firm 1 = .ok (.iload_n 1, 1) := by decide +kernel
theorem dX7_firm_2 : decode cX7_firm 2 = .ok (.invokevirtual 165, 3) := by decide +kernel
theorem dX7_firm_5 : decode cX7_firm 5 = .ok (.ifCond .eq 12, 3) := by decide +kernel
theorem dX7_firm_8 : decode cX7_firm 8 = .ok (.iload_n 2, 1) := by decide +kernel
theorem dX7_firm_9 : decode cX7_firm 9 = .ok (.iconst 0, 1) := by decide +kernel
theorem dX7_firm_10 : decode cX7_firm 10 = .ok (.iconst 1, 1) := by decide +kernel
theorem dX7_firm_11 : decode cX7_firm 11 = .ok (.invokestatic 50, 3) := by decide +kernel
theorem dX7_firm_14 : decode cX7_firm 14 = .ok (.ifCond .ne 5, 3) := by decide +kernel
theorem dX7_firm_17 : decode cX7_firm 17 = .ok (.iconst (-1), 1) := by decide +kernel
theorem dX7_firm_18 : decode cX7_firm 18 = .ok (.ireturn, 1) := by decide +kernel
theorem dX7_firm_19 : decode cX7_firm 19 = .ok (.aload_n 0, 1) := by decide +kernel
theorem dX7_firm_20 : decode cX7_firm 20 = .ok (.getfield 9, 3) := by decide +kernel
theorem dX7_firm_23 : decode cX7_firm 23 = .ok (.bipush 24, 2) := by decide +kernel
theorem dX7_firm_25 : decode cX7_firm 25 = .ok (.iload_n 1, 1) := by decide +kernel
theorem dX7_firm_26 : decode cX7_firm 26 = .ok (.iadd, 1) := by decide +kernel
theorem dX7_firm_27 : decode cX7_firm 27 = .ok (.iaload, 1) := by decide +kernel
theorem dX7_firm_28 : decode cX7_firm 28 = .ok (.istore_n 3, 1) := by decide +kernel
theorem dX7_firm_29 : decode cX7_firm 29 = .ok (.iconst 0, 1) := by decide +kernel
theorem dX7_firm_30 : decode cX7_firm 30 = .ok (.istore 4, 2) := by decide +kernel
theorem dX7_firm_32 : decode cX7_firm 32 = .ok (.bipush (-5), 2) := by decide +kernel
theorem dX7_firm_34 : decode cX7_firm 34 = .ok (.istore 5, 2) := by decide +kernel
theorem dX7_firm_36 : decode cX7_firm 36 = .ok (.aload_n 0, 1) := by decide +kernel
theorem dX7_firm_37 : decode cX7_firm 37 = .ok (.invokevirtual 202, 3) := by decide +kernel
theorem dX7_firm_40 : decode cX7_firm 40 = .ok (.bipush 9, 2) := by decide +kernel
theorem dX7_firm_42 : decode cX7_firm 42 = .ok (.istore 6, 2) := by decide +kernel
theorem dX7_firm_44 : decode cX7_firm 44 = .ok (.iload 6, 2) := by decide +kernel
theorem dX7_firm_46 : decode cX7_firm 46 = .ok (.ifCond .lt 55, 3) := by decide +kernel
theorem dX7_firm_49 : decode cX7_firm 49 = .ok (.aload_n 0, 1) := by decide +kernel
theorem dX7_firm_50 : decode cX7_firm 50 = .ok (.getfield 9, 3) := by decide +kernel
theorem dX7_firm_53 : decode cX7_firm 53 = .ok (.bipush 24, 2) := by decide +kernel
theorem dX7_firm_55 : decode cX7_firm 55 = .ok (.iload_n 1, 1) := by decide +kernel
theorem dX7_firm_56 : decode cX7_firm 56 = .ok (.iadd, 1) := by decide +kernel
theorem dX7_firm_57 : decode cX7_firm 57 = .ok (.iload 6, 2) := by decide +kernel
theorem dX7_firm_59 : decode cX7_firm 59 = .ok (.iastore, 1) := by decide +kernel
theorem dX7_firm_60 : decode cX7_firm 60 = .ok (.aload_n 0, 1) := by decide +kernel
theorem dX7_firm_61 : decode cX7_firm 61 = .ok (.invokevirtual 281, 3) := by decide +kernel
theorem dX7_firm_64 : decode cX7_firm 64 = .ok (.istore 7, 2) := by decide +kernel
theorem dX7_firm_66 : decode cX7_firm 66 = .ok (.iload 4, 2) := by decide +kernel
theorem dX7_firm_68 : decode cX7_firm 68 = .ok (.iload 7, 2) := by decide +kernel
theorem dX7_firm_70 : decode cX7_firm 70 = .ok (.ifCond .eq 7, 3) := by decide +kernel
theorem dX7_firm_73 : decode cX7_firm 73 = .ok (.iconst 1, 1) := by decide +kernel
theorem dX7_firm_74 : decode cX7_firm 74 = .ok (.goto 4, 3) := by decide +kernel
theorem dX7_firm_77 : decode cX7_firm 77 = .ok (.iconst 0, 1) := by decide +kernel
theorem dX7_firm_78 : decode cX7_firm 78 = .ok (.iadd, 1) := by decide +kernel
theorem dX7_firm_79 : decode cX7_firm 79 = .ok (.istore 4, 2) := by decide +kernel
theorem dX7_firm_81 : decode cX7_firm 81 = .ok (.iload 7, 2) := by decide +kernel
theorem dX7_firm_83 : decode cX7_firm 83 = .ok (.ifCond .eq 8, 3) := by decide +kernel
theorem dX7_firm_86 : decode cX7_firm 86 = .ok (.iload 6, 2) := by decide +kernel
theorem dX7_firm_88 : decode cX7_firm 88 = .ok (.goto 5, 3) := by decide +kernel
theorem dX7_firm_91 : decode cX7_firm 91 = .ok (.iload 5, 2) := by decide +kernel
theorem dX7_firm_93 : decode cX7_firm 93 = .ok (.istore 5, 2) := by decide +kernel
theorem dX7_firm_95 : decode cX7_firm 95 = .ok (.iinc 6 (-1), 3) := by decide +kernel
theorem dX7_firm_98 : decode cX7_firm 98 = .ok (.goto (-54), 3) := by decide +kernel
theorem dX7_firm_101 : decode cX7_firm 101 = .ok (.aload_n 0, 1) := by decide +kernel
theorem dX7_firm_102 : decode cX7_firm 102 = .ok (.getfield 9, 3) := by decide +kernel
theorem dX7_firm_105 : decode cX7_firm 105 = .ok (.bipush 24, 2) := by decide +kernel
theorem dX7_firm_107 : decode cX7_firm 107 = .ok (.iload_n 1, 1) := by decide +kernel
theorem dX7_firm_108 : decode cX7_firm 108 = .ok (.iadd, 1) := by decide +kernel
theorem dX7_firm_109 : decode cX7_firm 109 = .ok (.iload_n 3, 1) := by decide +kernel
theorem dX7_firm_110 : decode cX7_firm 110 = .ok (.iastore, 1) := by decide +kernel
theorem dX7_firm_111 : decode cX7_firm 111 = .ok (.iload_n 2, 1) := by decide +kernel
theorem dX7_firm_112 : decode cX7_firm 112 = .ok (.ifCond .ne 8, 3) := by decide +kernel
theorem dX7_firm_115 : decode cX7_firm 115 = .ok (.iload 4, 2) := by decide +kernel
theorem dX7_firm_117 : decode cX7_firm 117 = .ok (.goto 5, 3) := by decide +kernel
theorem dX7_firm_120 : decode cX7_firm 120 = .ok (.iload 5, 2) := by decide +kernel
theorem dX7_firm_122 : decode cX7_firm 122 = .ok (.ireturn, 1) := by decide +kernel
theorem dX7_lowest_0 : decode cX7_lowest 0 = .ok (.lload_n 0, 1) := by decide +kernel
theorem dX7_lowest_1 : decode cX7_lowest 1 = .ok (.lstore 5, 2) := by decide +kernel
theorem dX7_lowest_3 : decode cX7_lowest 3 = .ok (.lload_n 2, 1) := by decide +kernel
theorem dX7_lowest_4 : decode cX7_lowest 4 = .ok (.lstore 7, 2) := by decide +kernel
theorem dX7_lowest_6 : decode cX7_lowest 6 = .ok (.lload 7, 2) := by decide +kernel
theorem dX7_lowest_8 : decode cX7_lowest 8 = .ok (.lconst 0, 1) := by decide +kernel
theorem dX7_lowest_9 : decode cX7_lowest 9 = .ok (.lcmp, 1) := by decide +kernel
theorem dX7_lowest_10 : decode cX7_lowest 10 = .ok (.ifCond .eq 21, 3) := by decide +kernel
theorem dX7_lowest_13 : decode cX7_lowest 13 = .ok (.lload 5, 2) := by decide +kernel
theorem dX7_lowest_15 : decode cX7_lowest 15 = .ok (.lload 7, 2) := by decide +kernel
theorem dX7_lowest_17 : decode cX7_lowest 17 = .ok (.lrem, 1) := by decide +kernel
theorem dX7_lowest_18 : decode cX7_lowest 18 = .ok (.lstore 9, 2) := by decide +kernel
theorem dX7_lowest_20 : decode cX7_lowest 20 = .ok (.lload 7, 2) := by decide +kernel
theorem dX7_lowest_22 : decode cX7_lowest 22 = .ok (.lstore 5, 2) := by decide +kernel
theorem dX7_lowest_24 : decode cX7_lowest 24 = .ok (.lload 9, 2) := by decide +kernel
theorem dX7_lowest_26 : decode cX7_lowest 26 = .ok (.lstore 7, 2) := by decide +kernel
theorem dX7_lowest_28 : decode cX7_lowest 28 = .ok (.goto (-22), 3) := by decide +kernel
theorem dX7_lowest_31 : decode cX7_lowest 31 = .ok (.iload 4, 2) := by decide +kernel
theorem dX7_lowest_33 : decode cX7_lowest 33 = .ok (.ifCond .ne 7, 3) := by decide +kernel
theorem dX7_lowest_36 : decode cX7_lowest 36 = .ok (.lload_n 0, 1) := by decide +kernel
theorem dX7_lowest_37 : decode cX7_lowest 37 = .ok (.goto 4, 3) := by decide +kernel
theorem dX7_lowest_40 : decode cX7_lowest 40 = .ok (.lload_n 2, 1) := by decide +kernel
theorem dX7_lowest_41 : decode cX7_lowest 41 = .ok (.lload 5, 2) := by decide +kernel
theorem dX7_lowest_43 : decode cX7_lowest 43 = .ok (.ldiv, 1) := by decide +kernel
theorem dX7_lowest_44 : decode cX7_lowest 44 = .ok (.lreturn, 1) := by decide +kernel
theorem dX7_odds_0 : decode cX7_odds 0 = .ok (.aload_n 0, 1) := by decide +kernel
theorem dX7_odds_1 : decode cX7_odds 1 = .ok (.iload_n 1, 1) := by decide +kernel
theorem dX7_odds_2 : decode cX7_odds 2 = .ok (.invokevirtual 177, 3) := by decide +kernel
theorem dX7_odds_5 : decode cX7_odds 5 = .ok (.ifCond .eq 22, 3) := by decide +kernel
theorem dX7_odds_8 : decode cX7_odds 8 = .ok (.iload_n 2, 1) := by decide +kernel
theorem dX7_odds_9 : decode cX7_odds 9 = .ok (.iconst 0, 1) := by decide +kernel
theorem dX7_odds_10 : decode cX7_odds 10 = .ok (.iconst 1, 1) := by decide +kernel
theorem dX7_odds_11 : decode cX7_odds 11 = .ok (.invokestatic 50, 3) := by decide +kernel
theorem dX7_odds_14 : decode cX7_odds 14 = .ok (.ifCond .eq 13, 3) := by decide +kernel
theorem dX7_odds_17 : decode cX7_odds 17 = .ok (.aload_n 0, 1) := by decide +kernel
theorem dX7_odds_18 : decode cX7_odds 18 = .ok (.getfield 9, 3) := by decide +kernel
theorem dX7_odds_21 : decode cX7_odds 21 = .ok (.bipush 12, 2) := by decide +kernel
theorem dX7_odds_23 : decode cX7_odds 23 = .ok (.iaload, 1) := by decide +kernel
theorem dX7_odds_24 : decode cX7_odds 24 = .ok (.ifCond .ne 7, 3) := by decide +kernel
theorem dX7_odds_27 : decode cX7_odds 27 = .ok (.ldc2_w 285, 3) := by decide +kernel
theorem dX7_odds_30 : decode cX7_odds 30 = .ok (.lreturn, 1) := by decide +kernel
theorem dX7_odds_31 : decode cX7_odds 31 = .ok (.aload_n 0, 1) := by decide +kernel
theorem dX7_odds_32 : decode cX7_odds 32 = .ok (.invokevirtual 202, 3) := by decide +kernel
theorem dX7_odds_35 : decode cX7_odds 35 = .ok (.lconst 0, 1) := by decide +kernel
theorem dX7_odds_36 : decode cX7_odds 36 = .ok (.lstore_n 3, 1) := by decide +kernel
theorem dX7_odds_37 : decode cX7_odds 37 = .ok (.iconst 0, 1) := by decide +kernel
theorem dX7_odds_38 : decode cX7_odds 38 = .ok (.istore 5, 2) := by decide +kernel
theorem dX7_odds_40 : decode cX7_odds 40 = .ok (.iload 5, 2) := by decide +kernel
theorem dX7_odds_42 : decode cX7_odds 42 = .ok (.aload_n 0, 1) := by decide +kernel
theorem dX7_odds_43 : decode cX7_odds 43 = .ok (.getfield 9, 3) := by decide +kernel
theorem dX7_odds_46 : decode cX7_odds 46 = .ok (.bipush 12, 2) := by decide +kernel
theorem dX7_odds_48 : decode cX7_odds 48 = .ok (.iaload, 1) := by decide +kernel
theorem dX7_odds_49 : decode cX7_odds 49 = .ok (.if_icmp .ge 36, 3) := by decide +kernel
theorem dX7_odds_52 : decode cX7_odds 52 = .ok (.aload_n 0, 1) := by decide +kernel
theorem dX7_odds_53 : decode cX7_odds 53 = .ok (.iload 5, 2) := by decide +kernel
theorem dX7_odds_55 : decode cX7_odds 55 = .ok (.invokevirtual 189, 3) := by decide +kernel
theorem dX7_odds_58 : decode cX7_odds 58 = .ok (.pop, 1) := by decide +kernel
theorem dX7_odds_59 : decode cX7_odds 59 = .ok (.lload_n 3, 1) := by decide +kernel
theorem dX7_odds_60 : decode cX7_odds 60 = .ok (.aload_n 0, 1) := by decide +kernel
theorem dX7_odds_61 : decode cX7_odds 61 = .ok (.iload_n 1, 1) := by decide +kernel
theorem dX7_odds_62 : decode cX7_odds 62 = .ok (.invokevirtual 147, 3) := by decide +kernel
theorem dX7_odds_65 : decode cX7_odds 65 = .ok (.ifCond .eq 7, 3) := by decide +kernel
theorem dX7_odds_68 : decode cX7_odds 68 = .ok (.lconst 1, 1) := by decide +kernel
theorem dX7_odds_69 : decode cX7_odds 69 = .ok (.goto 4, 3) := by decide +kernel
theorem dX7_odds_72 : decode cX7_odds 72 = .ok (.lconst 0, 1) := by decide +kernel
theorem dX7_odds_73 : decode cX7_odds 73 = .ok (.ladd, 1) := by decide +kernel
theorem dX7_odds_74 : decode cX7_odds 74 = .ok (.lstore_n 3, 1) := by decide +kernel
theorem dX7_odds_75 : decode cX7_odds 75 = .ok (.aload_n 0, 1) := by decide +kernel
theorem dX7_odds_76 : decode cX7_odds 76 = .ok (.invokevirtual 205, 3) := by decide +kernel
theorem dX7_odds_79 : decode cX7_odds 79 = .ok (.iinc 5 1, 3) := by decide +kernel
theorem dX7_odds_82 : decode cX7_odds 82 = .ok (.goto (-42), 3) := by decide +kernel
theorem dX7_odds_85 : decode cX7_odds 85 = .ok (.lload_n 3, 1) := by decide +kernel
theorem dX7_odds_86 : decode cX7_odds 86 = .ok (.aload_n 0, 1) := by decide +kernel
theorem dX7_odds_87 : decode cX7_odds 87 = .ok (.getfield 9, 3) := by decide +kernel
theorem dX7_odds_90 : decode cX7_odds 90 = .ok (.bipush 12, 2) := by decide +kernel
theorem dX7_odds_92 : decode cX7_odds 92 = .ok (.iaload, 1) := by decide +kernel
theorem dX7_odds_93 : decode cX7_odds 93 = .ok (.i2l, 1) := by decide +kernel
theorem dX7_odds_94 : decode cX7_odds 94 = .ok (.iload_n 2, 1) := by decide +kernel
theorem dX7_odds_95 : decode cX7_odds 95 = .ok (.invokestatic 287, 3) := by decide +kernel
theorem dX7_odds_98 : decode cX7_odds 98 = .ok (.lreturn, 1) := by decide +kernel
theorem dX7_mean_0 : decode cX7_mean 0 = .ok (.iload_n 1, 1) := by decide +kernel
theorem dX7_mean_1 : decode cX7_mean 1 = .ok (.iconst 0, 1) := by decide +kernel
theorem dX7_mean_2 : decode cX7_mean 2 = .ok (.bipush 40, 2) := by decide +kernel
theorem dX7_mean_4 : decode cX7_mean 4 = .ok (.invokestatic 50, 3) := by decide +kernel
theorem dX7_mean_7 : decode cX7_mean 7 = .ok (.ifCond .eq 12, 3) := by decide +kernel
theorem dX7_mean_10 : decode cX7_mean 10 = .ok (.iload_n 2, 1) := by decide +kernel
theorem dX7_mean_11 : decode cX7_mean 11 = .ok (.iconst 0, 1) := by decide +kernel
theorem dX7_mean_12 : decode cX7_mean 12 = .ok (.iconst 1, 1) := by decide +kernel
theorem dX7_mean_13 : decode cX7_mean 13 = .ok (.invokestatic 50, 3) := by decide +kernel
theorem dX7_mean_16 : decode cX7_mean 16 = .ok (.ifCond .ne 7, 3) := by decide +kernel
theorem dX7_mean_19 : decode cX7_mean 19 = .ok (.ldc2_w 285, 3) := by decide +kernel
theorem dX7_mean_22 : decode cX7_mean 22 = .ok (.lreturn, 1) := by decide +kernel
theorem dX7_mean_23 : decode cX7_mean 23 = .ok (.aload_n 0, 1) := by decide +kernel
theorem dX7_mean_24 : decode cX7_mean 24 = .ok (.invokevirtual 202, 3) := by decide +kernel
theorem dX7_mean_27 : decode cX7_mean 27 = .ok (.aload_n 0, 1) := by decide +kernel
theorem dX7_mean_28 : decode cX7_mean 28 = .ok (.iload_n 1, 1) := by decide +kernel
theorem dX7_mean_29 : decode cX7_mean 29 = .ok (.invokevirtual 269, 3) := by decide +kernel
theorem dX7_mean_32 : decode cX7_mean 32 = .ok (.aload_n 0, 1) := by decide +kernel
theorem dX7_mean_33 : decode cX7_mean 33 = .ok (.invokevirtual 186, 3) := by decide +kernel
theorem dX7_mean_36 : decode cX7_mean 36 = .ok (.istore_n 3, 1) := by decide +kernel
theorem dX7_mean_37 : decode cX7_mean 37 = .ok (.aload_n 0, 1) := by decide +kernel
theorem dX7_mean_38 : decode cX7_mean 38 = .ok (.invokevirtual 266, 3) := by decide +kernel
theorem dX7_mean_41 : decode cX7_mean 41 = .ok (.istore 4, 2) := by decide +kernel
theorem dX7_mean_43 : decode cX7_mean 43 = .ok (.aload_n 0, 1) := by decide +kernel
theorem dX7_mean_44 : decode cX7_mean 44 = .ok (.invokevirtual 205, 3) := by decide +kernel
theorem dX7_mean_47 : decode cX7_mean 47 = .ok (.iconst 0, 1) := by decide +kernel
theorem dX7_mean_48 : decode cX7_mean 48 = .ok (.istore 5, 2) := by decide +kernel
theorem dX7_mean_50 : decode cX7_mean 50 = .ok (.iconst 0, 1) := by decide +kernel
theorem dX7_mean_51 : decode cX7_mean 51 = .ok (.istore 6, 2) := by decide +kernel
theorem dX7_mean_53 : decode cX7_mean 53 = .ok (.iload 6, 2) := by decide +kernel
theorem dX7_mean_55 : decode cX7_mean 55 = .ok (.bipush 7, 2) := by decide +kernel
theorem dX7_mean_57 : decode cX7_mean 57 = .ok (.if_icmp .ge 20, 3) := by decide +kernel
theorem dX7_mean_60 : decode cX7_mean 60 = .ok (.iload 5, 2) := by decide +kernel
theorem dX7_mean_62 : decode cX7_mean 62 = .ok (.iload_n 3, 1) := by decide +kernel
theorem dX7_mean_63 : decode cX7_mean 63 = .ok (.iload 6, 2) := by decide +kernel
theorem dX7_mean_65 : decode cX7_mean 65 = .ok (.ishr, 1) := by decide +kernel
theorem dX7_mean_66 : decode cX7_mean 66 = .ok (.iconst 1, 1) := by decide +kernel
theorem dX7_mean_67 : decode cX7_mean 67 = .ok (.iand, 1) := by decide +kernel
theorem dX7_mean_68 : decode cX7_mean 68 = .ok (.iadd, 1) := by decide +kernel
theorem dX7_mean_69 : decode cX7_mean 69 = .ok (.istore 5, 2) := by decide +kernel
theorem dX7_mean_71 : decode cX7_mean 71 = .ok (.iinc 6 1, 3) := by decide +kernel
theorem dX7_mean_74 : decode cX7_mean 74 = .ok (.goto (-21), 3) := by decide +kernel
theorem dX7_mean_77 : decode cX7_mean 77 = .ok (.iload 5, 2) := by decide +kernel
theorem dX7_mean_79 : decode cX7_mean 79 = .ok (.ifCond .ne 9, 3) := by decide +kernel
theorem dX7_mean_82 : decode cX7_mean 82 = .ok (.ldc2_w 285, 3) := by decide +kernel
theorem dX7_mean_85 : decode cX7_mean 85 = .ok (.goto 13, 3) := by decide +kernel
theorem dX7_mean_88 : decode cX7_mean 88 = .ok (.iload 4, 2) := by decide +kernel
theorem dX7_mean_90 : decode cX7_mean 90 = .ok (.i2l, 1) := by decide +kernel
theorem dX7_mean_91 : decode cX7_mean 91 = .ok (.iload 5, 2) := by decide +kernel
theorem dX7_mean_93 : decode cX7_mean 93 = .ok (.i2l, 1) := by decide +kernel
theorem dX7_mean_94 : decode cX7_mean 94 = .ok (.iload_n 2, 1) := by decide +kernel
theorem dX7_mean_95 : decode cX7_mean 95 = .ok (.invokestatic 287, 3) := by decide +kernel
theorem dX7_mean_98 : decode cX7_mean 98 = .ok (.lreturn, 1) := by decide +kernel
theorem dX7_plan_0 : decode cX7_plan 0 = .ok (.iload_n 1, 1) := by decide +kernel
theorem dX7_plan_1 : decode cX7_plan 1 = .ok (.iconst (-1), 1) := by decide +kernel
theorem dX7_plan_2 : decode cX7_plan 2 = .ok (.if_icmp .ne 13, 3) := by decide +kernel
theorem dX7_plan_5 : decode cX7_plan 5 = .ok (.aload_n 0, 1) := by decide +kernel
theorem dX7_plan_6 : decode cX7_plan 6 = .ok (.getfield 9, 3) := by decide +kernel
theorem dX7_plan_9 : decode cX7_plan 9 = .ok (.bipush 16, 2) := by decide +kernel
theorem dX7_plan_11 : decode cX7_plan 11 = .ok (.iconst 0, 1) := by decide +kernel
theorem dX7_plan_12 : decode cX7_plan 12 = .ok (.iastore, 1) := by decide +kernel
theorem dX7_plan_13 : decode cX7_plan 13 = .ok (.iconst 0, 1) := by decide +kernel
theorem dX7_plan_14 : decode cX7_plan 14 = .ok (.ireturn, 1) := by decide +kernel
theorem dX7_plan_15 : decode cX7_plan 15 = .ok (.iload_n 1, 1) := by decide +kernel
theorem dX7_plan_16 : decode cX7_plan 16 = .ok (.iconst 0, 1) := by decide +kernel
theorem dX7_plan_17 : decode cX7_plan 17 = .ok (.iconst 3, 1) := by decide +kernel
theorem dX7_plan_18 : decode cX7_plan 18 = .ok (.invokestatic 50, 3) := by decide +kernel
theorem dX7_plan_21 : decode cX7_plan 21 = .ok (.ifCond .eq 16, 3) := by decide +kernel
theorem dX7_plan_24 : decode cX7_plan 24 = .ok (.iload_n 1, 1) := by decide +kernel
theorem dX7_plan_25 : decode cX7_plan 25 = .ok (.iconst 3, 1) := by decide +kernel
theorem dX7_plan_26 : decode cX7_plan 26 = .ok (.if_icmp .ge 13, 3) := by decide +kernel
theorem dX7_plan_29 : decode cX7_plan 29 = .ok (.aload_n 0, 1) := by decide +kernel
theorem dX7_plan_30 : decode cX7_plan 30 = .ok (.iload_n 2, 1) := by decide +kernel
theorem dX7_plan_31 : decode cX7_plan 31 = .ok (.invokevirtual 165, 3) := by decide +kernel
theorem dX7_plan_34 : decode cX7_plan 34 = .ok (.ifCond .ne 5, 3) := by decide +kernel
theorem dX7_plan_37 : decode cX7_plan 37 = .ok (.iconst (-1), 1) := by decide +kernel
theorem dX7_plan_38 : decode cX7_plan 38 = .ok (.ireturn, 1) := by decide +kernel
theorem dX7_plan_39 : decode cX7_plan 39 = .ok (.aload_n 0, 1) := by decide +kernel
theorem dX7_plan_40 : decode cX7_plan 40 = .ok (.getfield 9, 3) := by decide +kernel
theorem dX7_plan_43 : decode cX7_plan 43 = .ok (.bipush 16, 2) := by decide +kernel
theorem dX7_plan_45 : decode cX7_plan 45 = .ok (.iaload, 1) := by decide +kernel
theorem dX7_plan_46 : decode cX7_plan 46 = .ok (.bipush 8, 2) := by decide +kernel
theorem dX7_plan_48 : decode cX7_plan 48 = .ok (.if_icmp .ne 6, 3) := by decide +kernel
theorem dX7_plan_51 : decode cX7_plan 51 = .ok (.bipush (-4), 2) := by decide +kernel
theorem dX7_plan_53 : decode cX7_plan 53 = .ok (.ireturn, 1) := by decide +kernel
theorem dX7_plan_54 : decode cX7_plan 54 = .ok (.aload_n 0, 1) := by decide +kernel
theorem dX7_plan_55 : decode cX7_plan 55 = .ok (.getfield 9, 3) := by decide +kernel
theorem dX7_plan_58 : decode cX7_plan 58 = .ok (.bipush 62, 2) := by decide +kernel
theorem dX7_plan_60 : decode cX7_plan 60 = .ok (.aload_n 0, 1) := by decide +kernel
theorem dX7_plan_61 : decode cX7_plan 61 = .ok (.getfield 9, 3) := by decide +kernel
theorem dX7_plan_64 : decode cX7_plan 64 = .ok (.bipush 16, 2) := by decide +kernel
theorem dX7_plan_66 : decode cX7_plan 66 = .ok (.iaload, 1) := by decide +kernel
theorem dX7_plan_67 : decode cX7_plan 67 = .ok (.iadd, 1) := by decide +kernel
theorem dX7_plan_68 : decode cX7_plan 68 = .ok (.iload_n 1, 1) := by decide +kernel
theorem dX7_plan_69 : decode cX7_plan 69 = .ok (.iastore, 1) := by decide +kernel
theorem dX7_plan_70 : decode cX7_plan 70 = .ok (.aload_n 0, 1) := by decide +kernel
theorem dX7_plan_71 : decode cX7_plan 71 = .ok (.getfield 9, 3) := by decide +kernel
theorem dX7_plan_74 : decode cX7_plan 74 = .ok (.bipush 70, 2) := by decide +kernel
theorem dX7_plan_76 : decode cX7_plan 76 = .ok (.aload_n 0, 1) := by decide +kernel
theorem dX7_plan_77 : decode cX7_plan 77 = .ok (.getfield 9, 3) := by decide +kernel
theorem dX7_plan_80 : decode cX7_plan 80 = .ok (.bipush 16, 2) := by decide +kernel
theorem dX7_plan_82 : decode cX7_plan 82 = .ok (.iaload, 1) := by decide +kernel
theorem dX7_plan_83 : decode cX7_plan 83 = .ok (.iadd, 1) := by decide +kernel
theorem dX7_plan_84 : decode cX7_plan 84 = .ok (.iload_n 2, 1) := by decide +kernel
theorem dX7_plan_85 : decode cX7_plan 85 = .ok (.iastore, 1) := by decide +kernel
theorem dX7_plan_86 : decode cX7_plan 86 = .ok (.aload_n 0, 1) := by decide +kernel
theorem dX7_plan_87 : decode cX7_plan 87 = .ok (.getfield 9, 3) := by decide +kernel
theorem dX7_plan_90 : decode cX7_plan 90 = .ok (.bipush 16, 2) := by decide +kernel
theorem dX7_plan_92 : decode cX7_plan 92 = .ok (.dup2, 1) := by decide +kernel
theorem dX7_plan_93 : decode cX7_plan 93 = .ok (.iaload, 1) := by decide +kernel
theorem dX7_plan_94 : decode cX7_plan 94 = .ok (.iconst 1, 1) := by decide +kernel
theorem dX7_plan_95 : decode cX7_plan 95 = .ok (.iadd, 1) := by decide +kernel
theorem dX7_plan_96 : decode cX7_plan 96 = .ok (.iastore, 1) := by decide +kernel
theorem dX7_plan_97 : decode cX7_plan 97 = .ok (.aload_n 0, 1) := by decide +kernel
theorem dX7_plan_98 : decode cX7_plan 98 = .ok (.getfield 9, 3) := by decide +kernel
theorem dX7_plan_101 : decode cX7_plan 101 = .ok (.bipush 16, 2) := by decide +kernel
theorem dX7_plan_103 : decode cX7_plan 103 = .ok (.iaload, 1) := by decide +kernel
theorem dX7_plan_104 : decode cX7_plan 104 = .ok (.ireturn, 1) := by decide +kernel
theorem dX7_does_0 : decode cX7_does 0 = .ok (.iload_n 1, 1) := by decide +kernel
theorem dX7_does_1 : decode cX7_does 1 = .ok (.ifCond .ne 12, 3) := by decide +kernel
theorem dX7_does_4 : decode cX7_does 4 = .ok (.aload_n 0, 1) := by decide +kernel
theorem dX7_does_5 : decode cX7_does 5 = .ok (.iload_n 2, 1) := by decide +kernel
theorem dX7_does_6 : decode cX7_does 6 = .ok (.invokevirtual 189, 3) := by decide +kernel
theorem dX7_does_9 : decode cX7_does 9 = .ok (.pop, 1) := by decide +kernel
theorem dX7_does_10 : decode cX7_does 10 = .ok (.goto 31, 3) := by decide +kernel
theorem dX7_does_13 : decode cX7_does 13 = .ok (.iload_n 1, 1) := by decide +kernel
theorem dX7_does_14 : decode cX7_does 14 = .ok (.iconst 3, 1) := by decide +kernel
theorem dX7_does_15 : decode cX7_does 15 = .ok (.if_icmp .ne 11, 3) := by decide +kernel
theorem dX7_does_18 : decode cX7_does 18 = .ok (.aload_n 0, 1) := by decide +kernel
theorem dX7_does_19 : decode cX7_does 19 = .ok (.invokevirtual 199, 3) := by decide +kernel
theorem dX7_does_22 : decode cX7_does 22 = .ok (.pop, 1) := by decide +kernel
theorem dX7_does_23 : decode cX7_does 23 = .ok (.goto 18, 3) := by decide +kernel
theorem dX7_does_26 : decode cX7_does 26 = .ok (.aload_n 0, 1) := by decide +kernel
theorem dX7_does_27 : decode cX7_does 27 = .ok (.iload_n 2, 1) := by decide +kernel
theorem dX7_does_28 : decode cX7_does 28 = .ok (.iload_n 1, 1) := by decide +kernel
theorem dX7_does_29 : decode cX7_does 29 = .ok (.iconst 1, 1) := by decide +kernel
theorem dX7_does_30 : decode cX7_does 30 = .ok (.if_icmp .ne 7, 3) := by decide +kernel
theorem dX7_does_33 : decode cX7_does 33 = .ok (.iconst 1, 1) := by decide +kernel
theorem dX7_does_34 : decode cX7_does 34 = .ok (.goto 4, 3) := by decide +kernel
theorem dX7_does_37 : decode cX7_does 37 = .ok (.iconst 0, 1) := by decide +kernel
theorem dX7_does_38 : decode cX7_does 38 = .ok (.invokevirtual 195, 3) := by decide +kernel
theorem dX7_does_41 : decode cX7_does 41 = .ok (.return_, 1) := by decide +kernel
theorem dX7_done_0 : decode cX7_done 0 = .ok (.iload_n 1, 1) := by decide +kernel
theorem dX7_done_1 : decode cX7_done 1 = .ok (.iconst 0, 1) := by decide +kernel
theorem dX7_done_2 : decode cX7_done 2 = .ok (.iconst 1, 1) := by decide +kernel
theorem dX7_done_3 : decode cX7_done 3 = .ok (.invokestatic 50, 3) := by decide +kernel
theorem dX7_done_6 : decode cX7_done 6 = .ok (.ifCond .ne 7, 3) := by decide +kernel
theorem dX7_done_9 : decode cX7_done 9 = .ok (.sipush (-10001), 3) := by decide +kernel
theorem dX7_done_12 : decode cX7_done 12 = .ok (.ireturn, 1) := by decide +kernel
theorem dX7_done_13 : decode cX7_done 13 = .ok (.aload_n 0, 1) := by decide +kernel
theorem dX7_done_14 : decode cX7_done 14 = .ok (.invokevirtual 202, 3) := by decide +kernel
theorem dX7_done_17 : decode cX7_done 17 = .ok (.iconst 0, 1) := by decide +kernel
theorem dX7_done_18 : decode cX7_done 18 = .ok (.istore_n 2, 1) := by decide +kernel
theorem dX7_done_19 : decode cX7_done 19 = .ok (.iload_n 2, 1) := by decide +kernel
theorem dX7_done_20 : decode cX7_done 20 = .ok (.aload_n 0, 1) := by decide +kernel
theorem dX7_done_21 : decode cX7_done 21 = .ok (.getfield 9, 3) := by decide +kernel
theorem dX7_done_24 : decode cX7_done 24 = .ok (.bipush 16, 2) := by decide +kernel
theorem dX7_done_26 : decode cX7_done 26 = .ok (.iaload, 1) := by decide +kernel
theorem dX7_done_27 : decode cX7_done 27 = .ok (.if_icmp .ge 31, 3) := by decide +kernel
theorem dX7_done_30 : decode cX7_done 30 = .ok (.aload_n 0, 1) := by decide +kernel
theorem dX7_done_31 : decode cX7_done 31 = .ok (.aload_n 0, 1) := by decide +kernel
theorem dX7_done_32 : decode cX7_done 32 = .ok (.getfield 9, 3) := by decide +kernel
theorem dX7_done_35 : decode cX7_done 35 = .ok (.bipush 62, 2) := by decide +kernel
theorem dX7_done_37 : decode cX7_done 37 = .ok (.iload_n 2, 1) := by decide +kernel
theorem dX7_done_38 : decode cX7_done 38 = .ok (.iadd, 1) := by decide +kernel
theorem dX7_done_39 : decode cX7_done 39 = .ok (.iaload, 1) := by decide +kernel
theorem dX7_done_40 : decode cX7_done 40 = .ok (.aload_n 0, 1) := by decide +kernel
theorem dX7_done_41 : decode cX7_done 41 = .ok (.getfield 9, 3) := by decide +kernel
theorem dX7_done_44 : decode cX7_done 44 = .ok (.bipush 70, 2) := by decide +kernel
theorem dX7_done_46 : decode cX7_done 46 = .ok (.iload_n 2, 1) := by decide +kernel
theorem dX7_done_47 : decode cX7_done 47 = .ok (.iadd, 1) := by decide +kernel
theorem dX7_done_48 : decode cX7_done 48 = .ok (.iaload, 1) := by decide +kernel
theorem dX7_done_49 : decode cX7_done 49 = .ok (.invokevirtual 291, 3) := by decide +kernel
theorem dX7_done_52 : decode cX7_done 52 = .ok (.iinc 2 1, 3) := by decide +kernel
theorem dX7_done_55 : decode cX7_done 55 = .ok (.goto (-36), 3) := by decide +kernel
theorem dX7_done_58 : decode cX7_done 58 = .ok (.iload_n 1, 1) := by decide +kernel
theorem dX7_done_59 : decode cX7_done 59 = .ok (.ifCond .ne 10, 3) := by decide +kernel
theorem dX7_done_62 : decode cX7_done 62 = .ok (.aload_n 0, 1) := by decide +kernel
theorem dX7_done_63 : decode cX7_done 63 = .ok (.invokevirtual 183, 3) := by decide +kernel
theorem dX7_done_66 : decode cX7_done 66 = .ok (.goto 7, 3) := by decide +kernel
theorem dX7_done_69 : decode cX7_done 69 = .ok (.aload_n 0, 1) := by decide +kernel
theorem dX7_done_70 : decode cX7_done 70 = .ok (.invokevirtual 186, 3) := by decide +kernel
theorem dX7_done_73 : decode cX7_done 73 = .ok (.istore_n 2, 1) := by decide +kernel
theorem dX7_done_74 : decode cX7_done 74 = .ok (.aload_n 0, 1) := by decide +kernel
theorem dX7_done_75 : decode cX7_done 75 = .ok (.invokevirtual 205, 3) := by decide +kernel
theorem dX7_done_78 : decode cX7_done 78 = .ok (.iload_n 2, 1) := by decide +kernel
theorem dX7_done_79 : decode cX7_done 79 = .ok (.ireturn, 1) := by decide +kernel
theorem dX7_note_0 : decode cX7_note 0 = .ok (.iload_n 1, 1) := by decide +kernel
theorem dX7_note_1 : decode cX7_note 1 = .ok (.iconst (-1), 1) := by decide +kernel
theorem dX7_note_2 : decode cX7_note 2 = .ok (.if_icmp .ne 13, 3) := by decide +kernel
theorem dX7_note_5 : decode cX7_note 5 = .ok (.aload_n 0, 1) := by decide +kernel
theorem dX7_note_6 : decode cX7_note 6 = .ok (.getfield 9, 3) := by decide +kernel
theorem dX7_note_9 : decode cX7_note 9 = .ok (.bipush 17, 2) := by decide +kernel
theorem dX7_note_11 : decode cX7_note 11 = .ok (.iconst 0, 1) := by decide +kernel
theorem dX7_note_12 : decode cX7_note 12 = .ok (.iastore, 1) := by decide +kernel
theorem dX7_note_13 : decode cX7_note 13 = .ok (.iconst 0, 1) := by decide +kernel
theorem dX7_note_14 : decode cX7_note 14 = .ok (.ireturn, 1) := by decide +kernel
theorem dX7_note_15 : decode cX7_note 15 = .ok (.aload_n 0, 1) := by decide +kernel
theorem dX7_note_16 : decode cX7_note 16 = .ok (.iload_n 1, 1) := by decide +kernel
theorem dX7_note_17 : decode cX7_note 17 = .ok (.invokevirtual 165, 3) := by decide +kernel
theorem dX7_note_20 : decode cX7_note 20 = .ok (.ifCond .eq 11, 3) := by decide +kernel
theorem dX7_note_23 : decode cX7_note 23 = .ok (.aload_n 0, 1) := by decide +kernel
theorem dX7_note_24 : decode cX7_note 24 = .ok (.iload_n 2, 1) := by decide +kernel
theorem dX7_note_25 : decode cX7_note 25 = .ok (.invokevirtual 177, 3) := by decide +kernel
theorem dX7_note_28 : decode cX7_note 28 = .ok (.ifCond .ne 5, 3) := by decide +kernel
theorem dX7_note_31 : decode cX7_note 31 = .ok (.iconst (-1), 1) := by decide +kernel
theorem dX7_note_32 : decode cX7_note 32 = .ok (.ireturn, 1) := by decide +kernel
theorem dX7_note_33 : decode cX7_note 33 = .ok (.aload_n 0, 1) := by decide +kernel
theorem dX7_note_34 : decode cX7_note 34 = .ok (.getfield 9, 3) := by decide +kernel
theorem dX7_note_37 : decode cX7_note 37 = .ok (.bipush 17, 2) := by decide +kernel
theorem dX7_note_39 : decode cX7_note 39 = .ok (.iaload, 1) := by decide +kernel
theorem dX7_note_40 : decode cX7_note 40 = .ok (.bipush 8, 2) := by decide +kernel
theorem dX7_note_42 : decode cX7_note 42 = .ok (.if_icmp .ne 6, 3) := by decide +kernel
theorem dX7_note_45 : decode cX7_note 45 = .ok (.bipush (-4), 2) := by decide +kernel
theorem dX7_note_47 : decode cX7_note 47 = .ok (.ireturn, 1) := by decide +kernel
theorem dX7_note_48 : decode cX7_note 48 = .ok (.aload_n 0, 1) := by decide +kernel
theorem dX7_note_49 : decode cX7_note 49 = .ok (.getfield 9, 3) := by decide +kernel
theorem dX7_note_52 : decode cX7_note 52 = .ok (.bipush 78, 2) := by decide +kernel
theorem dX7_note_54 : decode cX7_note 54 = .ok (.aload_n 0, 1) := by decide +kernel
theorem dX7_note_55 : decode cX7_note 55 = .ok (.getfield 9, 3) := by decide +kernel
theorem dX7_note_58 : decode cX7_note 58 = .ok (.bipush 17, 2) := by decide +kernel
theorem dX7_note_60 : decode cX7_note 60 = .ok (.iaload, 1) := by decide +kernel
theorem dX7_note_61 : decode cX7_note 61 = .ok (.iadd, 1) := by decide +kernel
theorem dX7_note_62 : decode cX7_note 62 = .ok (.iload_n 1, 1) := by decide +kernel
theorem dX7_note_63 : decode cX7_note 63 = .ok (.iastore, 1) := by decide +kernel
theorem dX7_note_64 : decode cX7_note 64 = .ok (.aload_n 0, 1) := by decide +kernel
theorem dX7_note_65 : decode cX7_note 65 = .ok (.getfield 9, 3) := by decide +kernel
theorem dX7_note_68 : decode cX7_note 68 = .ok (.bipush 86, 2) := by decide +kernel
theorem dX7_note_70 : decode cX7_note 70 = .ok (.aload_n 0, 1) := by decide +kernel
theorem dX7_note_71 : decode cX7_note 71 = .ok (.getfield 9, 3) := by decide +kernel
theorem dX7_note_74 : decode cX7_note 74 = .ok (.bipush 17, 2) := by decide +kernel
theorem dX7_note_76 : decode cX7_note 76 = .ok (.iaload, 1) := by decide +kernel
theorem dX7_note_77 : decode cX7_note 77 = .ok (.iadd, 1) := by decide +kernel
theorem dX7_note_78 : decode cX7_note 78 = .ok (.iload_n 2, 1) := by decide +kernel
theorem dX7_note_79 : decode cX7_note 79 = .ok (.iastore, 1) := by decide +kernel
theorem dX7_note_80 : decode cX7_note 80 = .ok (.aload_n 0, 1) := by decide +kernel
theorem dX7_note_81 : decode cX7_note 81 = .ok (.getfield 9, 3) := by decide +kernel
theorem dX7_note_84 : decode cX7_note 84 = .ok (.bipush 17, 2) := by decide +kernel
theorem dX7_note_86 : decode cX7_note 86 = .ok (.dup2, 1) := by decide +kernel
theorem dX7_note_87 : decode cX7_note 87 = .ok (.iaload, 1) := by decide +kernel
theorem dX7_note_88 : decode cX7_note 88 = .ok (.iconst 1, 1) := by decide +kernel
theorem dX7_note_89 : decode cX7_note 89 = .ok (.iadd, 1) := by decide +kernel
theorem dX7_note_90 : decode cX7_note 90 = .ok (.iastore, 1) := by decide +kernel
theorem dX7_note_91 : decode cX7_note 91 = .ok (.aload_n 0, 1) := by decide +kernel
theorem dX7_note_92 : decode cX7_note 92 = .ok (.getfield 9, 3) := by decide +kernel
theorem dX7_note_95 : decode cX7_note 95 = .ok (.bipush 17, 2) := by decide +kernel
theorem dX7_note_97 : decode cX7_note 97 = .ok (.iaload, 1) := by decide +kernel
theorem dX7_note_98 : decode cX7_note 98 = .ok (.ireturn, 1) := by decide +kernel
theorem dX7_looked_0 : decode cX7_looked 0 = .ok (.iconst 0, 1) := by decide +kernel
theorem dX7_looked_1 : decode cX7_looked 1 = .ok (.istore_n 1, 1) := by decide +kernel
theorem dX7_looked_2 : decode cX7_looked 2 = .ok (.iload_n 1, 1) := by decide +kernel
theorem dX7_looked_3 : decode cX7_looked 3 = .ok (.aload_n 0, 1) := by decide +kernel
theorem dX7_looked_4 : decode cX7_looked 4 = .ok (.getfield 9, 3) := by decide +kernel
theorem dX7_looked_7 : decode cX7_looked 7 = .ok (.bipush 17, 2) := by decide +kernel
theorem dX7_looked_9 : decode cX7_looked 9 = .ok (.iaload, 1) := by decide +kernel
theorem dX7_looked_10 : decode cX7_looked 10 = .ok (.if_icmp .ge 39, 3) := by decide +kernel
theorem dX7_looked_13 : decode cX7_looked 13 = .ok (.aload_n 0, 1) := by decide +kernel
theorem dX7_looked_14 : decode cX7_looked 14 = .ok (.getfield 9, 3) := by decide +kernel
theorem dX7_looked_17 : decode cX7_looked 17 = .ok (.iconst 1, 1) := by decide +kernel
theorem dX7_looked_18 : decode cX7_looked 18 = .ok (.aload_n 0, 1) := by decide +kernel
theorem dX7_looked_19 : decode cX7_looked 19 = .ok (.getfield 9, 3) := by decide +kernel
theorem dX7_looked_22 : decode cX7_looked 22 = .ok (.bipush 78, 2) := by decide +kernel
theorem dX7_looked_24 : decode cX7_looked 24 = .ok (.iload_n 1, 1) := by decide +kernel
theorem dX7_looked_25 : decode cX7_looked 25 = .ok (.iadd, 1) := by decide +kernel
theorem dX7_looked_26 : decode cX7_looked 26 = .ok (.iaload, 1) := by decide +kernel
theorem dX7_looked_27 : decode cX7_looked 27 = .ok (.iadd, 1) := by decide +kernel
theorem dX7_looked_28 : decode cX7_looked 28 = .ok (.iaload, 1) := by decide +kernel
theorem dX7_looked_29 : decode cX7_looked 29 = .ok (.aload_n 0, 1) := by decide +kernel
theorem dX7_looked_30 : decode cX7_looked 30 = .ok (.getfield 9, 3) := by decide +kernel
theorem dX7_looked_33 : decode cX7_looked 33 = .ok (.bipush 86, 2) := by decide +kernel
theorem dX7_looked_35 : decode cX7_looked 35 = .ok (.iload_n 1, 1) := by decide +kernel
theorem dX7_looked_36 : decode cX7_looked 36 = .ok (.iadd, 1) := by decide +kernel
theorem dX7_looked_37 : decode cX7_looked 37 = .ok (.iaload, 1) := by decide +kernel
theorem dX7_looked_38 : decode cX7_looked 38 = .ok (.if_icmp .eq 5, 3) := by decide +kernel
theorem dX7_looked_41 : decode cX7_looked 41 = .ok (.iload_n 1, 1) := by decide +kernel
theorem dX7_looked_42 : decode cX7_looked 42 = .ok (.ireturn, 1) := by decide +kernel
theorem dX7_looked_43 : decode cX7_looked 43 = .ok (.iinc 1 1, 3) := by decide +kernel
theorem dX7_looked_46 : decode cX7_looked 46 = .ok (.goto (-44), 3) := by decide +kernel
theorem dX7_looked_49 : decode cX7_looked 49 = .ok (.bipush (-5), 2) := by decide +kernel
theorem dX7_looked_51 : decode cX7_looked 51 = .ok (.ireturn, 1) := by decide +kernel
theorem dX7_ranBody_0 : decode cX7_ranBody 0 = .ok (.aload_n 0, 1) := by decide +kernel
theorem dX7_ranBody_1 : decode cX7_ranBody 1 = .ok (.getfield 294, 3) := by decide +kernel
theorem dX7_ranBody_4 : decode cX7_ranBody 4 = .ok (.bipush 20, 2) := by decide +kernel
theorem dX7_ranBody_6 : decode cX7_ranBody 6 = .ok (.if_icmp .ge 13, 3) := by decide +kernel
theorem dX7_ranBody_9 : decode cX7_ranBody 9 = .ok (.aload_n 0, 1) := by decide +kernel
theorem dX7_ranBody_10 : decode cX7_ranBody 10 = .ok (.getfield 43, 3) := by decide +kernel
theorem dX7_ranBody_13 : decode cX7_ranBody 13 = .ok (.aload_n 0, 1) := by decide +kernel
theorem dX7_ranBody_14 : decode cX7_ranBody 14 = .ok (.getfield 294, 3) := by decide +kernel
theorem dX7_ranBody_17 : decode cX7_ranBody 17 = .ok (.iload_n 1, 1) := by decide +kernel
theorem dX7_ranBody_18 : decode cX7_ranBody 18 = .ok (.iastore, 1) := by decide +kernel
theorem dX7_ranBody_19 : decode cX7_ranBody 19 = .ok (.aload_n 0, 1) := by decide +kernel
theorem dX7_ranBody_20 : decode cX7_ranBody 20 = .ok (.dup, 1) := by decide +kernel
theorem dX7_ranBody_21 : decode cX7_ranBody 21 = .ok (.getfield 294, 3) := by decide +kernel
theorem dX7_ranBody_24 : decode cX7_ranBody 24 = .ok (.iconst 1, 1) := by decide +kernel
theorem dX7_ranBody_25 : decode cX7_ranBody 25 = .ok (.iadd, 1) := by decide +kernel
theorem dX7_ranBody_26 : decode cX7_ranBody 26 = .ok (.putfield 294, 3) := by decide +kernel
theorem dX7_ranBody_29 : decode cX7_ranBody 29 = .ok (.return_, 1) := by decide +kernel
theorem dX7_isUnder_0 : decode cX7_isUnder 0 = .ok (.iload_n 1, 1) := by decide +kernel
theorem dX7_isUnder_1 : decode cX7_isUnder 1 = .ok (.ifCond .eq 24, 3) := by decide +kernel
theorem dX7_isUnder_4 : decode cX7_isUnder 4 = .ok (.iload_n 1, 1) := by decide +kernel
theorem dX7_isUnder_5 : decode cX7_isUnder 5 = .ok (.iload_n 0, 1) := by decide +kernel
theorem dX7_isUnder_6 : decode cX7_isUnder 6 = .ok (.if_icmp .eq 19, 3) := by decide +kernel
theorem dX7_isUnder_9 : decode cX7_isUnder 9 = .ok (.iload_n 1, 1) := by decide +kernel
theorem dX7_isUnder_10 : decode cX7_isUnder 10 = .ok (.ifCond .le 19, 3) := by decide +kernel
theorem dX7_isUnder_13 : decode cX7_isUnder 13 = .ok (.iload_n 1, 1) := by decide +kernel
theorem dX7_isUnder_14 : decode cX7_isUnder 14 = .ok (.iconst 4, 1) := by decide +kernel
theorem dX7_isUnder_15 : decode cX7_isUnder 15 = .ok (.if_icmp .ge 14, 3) := by decide +kernel
theorem dX7_isUnder_18 : decode cX7_isUnder 18 = .ok (.iload_n 0, 1) := by decide +kernel
theorem dX7_isUnder_19 : decode cX7_isUnder 19 = .ok (.iload_n 1, 1) := by decide +kernel
theorem dX7_isUnder_20 : decode cX7_isUnder 20 = .ok (.iconst 3, 1) := by decide +kernel
theorem dX7_isUnder_21 : decode cX7_isUnder 21 = .ok (.iadd, 1) := by decide +kernel
theorem dX7_isUnder_22 : decode cX7_isUnder 22 = .ok (.if_icmp .ne 7, 3) := by decide +kernel
theorem dX7_isUnder_25 : decode cX7_isUnder 25 = .ok (.iconst 1, 1) := by decide +kernel
theorem dX7_isUnder_26 : decode cX7_isUnder 26 = .ok (.goto 4, 3) := by decide +kernel
theorem dX7_isUnder_29 : decode cX7_isUnder 29 = .ok (.iconst 0, 1) := by decide +kernel
theorem dX7_isUnder_30 : decode cX7_isUnder 30 = .ok (.ireturn, 1) := by decide +kernel
theorem dX7_plainReads_0 : decode cX7_plainReads 0 = .ok (.aload_n 0, 1) := by decide +kernel
theorem dX7_plainReads_1 : decode cX7_plainReads 1 = .ok (.iconst 1, 1) := by decide +kernel
theorem dX7_plainReads_2 : decode cX7_plainReads 2 = .ok (.invokevirtual 297, 3) := by decide +kernel
theorem dX7_plainReads_5 : decode cX7_plainReads 5 = .ok (.iload_n 1, 1) := by decide +kernel
theorem dX7_plainReads_6 : decode cX7_plainReads 6 = .ok (.aload_n 0, 1) := by decide +kernel
theorem dX7_plainReads_7 : decode cX7_plainReads 7 = .ok (.getfield 300, 3) := by decide +kernel
theorem dX7_plainReads_10 : decode cX7_plainReads 10 = .ok (.iadd, 1) := by decide +kernel
theorem dX7_plainReads_11 : decode cX7_plainReads 11 = .ok (.ireturn, 1) := by decide +kernel
theorem dX7_readsActs_0 : decode cX7_readsActs 0 = .ok (.aload_n 0, 1) := by decide +kernel
theorem dX7_readsActs_1 : decode cX7_readsActs 1 = .ok (.getfield 303, 3) := by decide +kernel
theorem dX7_readsActs_4 : decode cX7_readsActs 4 = .ok (.iconst 1, 1) := by decide +kernel
theorem dX7_readsActs_5 : decode cX7_readsActs 5 = .ok (.invokestatic 306, 3) := by decide +kernel
theorem dX7_readsActs_8 : decode cX7_readsActs 8 = .ok (.ifCond .eq 17, 3) := by decide +kernel
theorem dX7_readsActs_11 : decode cX7_readsActs 11 = .ok (.aload_n 0, 1) := by decide +kernel
theorem dX7_readsActs_12 : decode cX7_readsActs 12 = .ok (.bipush 11, 2) := by decide +kernel
theorem dX7_readsActs_14 : decode cX7_readsActs 14 = .ok (.invokevirtual 297, 3) := by decide +kernel
theorem dX7_readsActs_17 : decode cX7_readsActs 17 = .ok (.aload_n 0, 1) := by decide +kernel
theorem dX7_readsActs_18 : decode cX7_readsActs 18 = .ok (.iload_n 1, 1) := by decide +kernel
theorem dX7_readsActs_19 : decode cX7_readsActs 19 = .ok (.iconst 3, 1) := by decide +kernel
theorem dX7_readsActs_20 : decode cX7_readsActs 20 = .ok (.imul, 1) := by decide +kernel
theorem dX7_readsActs_21 : decode cX7_readsActs 21 = .ok (.invokevirtual 309, 3) := by decide +kernel
theorem dX7_readsActs_24 : decode cX7_readsActs 24 = .ok (.ireturn, 1) := by decide +kernel
theorem dX7_readsActs_25 : decode cX7_readsActs 25 = .ok (.aload_n 0, 1) := by decide +kernel
theorem dX7_readsActs_26 : decode cX7_readsActs 26 = .ok (.getfield 303, 3) := by decide +kernel
theorem dX7_readsActs_29 : decode cX7_readsActs 29 = .ok (.iconst 5, 1) := by decide +kernel
theorem dX7_readsActs_30 : decode cX7_readsActs 30 = .ok (.if_icmp .ne 20, 3) := by decide +kernel
theorem dX7_readsActs_33 : decode cX7_readsActs 33 = .ok (.aload_n 0, 1) := by decide +kernel
theorem dX7_readsActs_34 : decode cX7_readsActs 34 = .ok (.bipush 51, 2) := by decide +kernel
theorem dX7_readsActs_36 : decode cX7_readsActs 36 = .ok (.invokevirtual 297, 3) := by decide +kernel
theorem dX7_readsActs_39 : decode cX7_readsActs 39 = .ok (.aload_n 0, 1) := by decide +kernel
theorem dX7_readsActs_40 : decode cX7_readsActs 40 = .ok (.iload_n 1, 1) := by decide +kernel
theorem dX7_readsActs_41 : decode cX7_readsActs 41 = .ok (.invokevirtual 309, 3) := by decide +kernel
theorem dX7_readsActs_44 : decode cX7_readsActs 44 = .ok (.aload_n 0, 1) := by decide +kernel
theorem dX7_readsActs_45 : decode cX7_readsActs 45 = .ok (.getfield 300, 3) := by decide +kernel
theorem dX7_readsActs_48 : decode cX7_readsActs 48 = .ok (.ixor, 1) := by decide +kernel
theorem dX7_readsActs_49 : decode cX7_readsActs 49 = .ok (.ireturn, 1) := by decide +kernel
theorem dX7_readsActs_50 : decode cX7_readsActs 50 = .ok (.aload_n 0, 1) := by decide +kernel
theorem dX7_readsActs_51 : decode cX7_readsActs 51 = .ok (.iload_n 1, 1) := by decide +kernel
theorem dX7_readsActs_52 : decode cX7_readsActs 52 = .ok (.invokevirtual 309, 3) := by decide +kernel
theorem dX7_readsActs_55 : decode cX7_readsActs 55 = .ok (.ireturn, 1) := by decide +kernel
theorem dX7_plainBrings_0 : decode cX7_plainBrings 0 = .ok (.aload_n 0, 1) := by decide +kernel
theorem dX7_plainBrings_1 : decode cX7_plainBrings 1 = .ok (.iconst 2, 1) := by decide +kernel
theorem dX7_plainBrings_2 : decode cX7_plainBrings 2 = .ok (.invokevirtual 297, 3) := by decide +kernel
theorem dX7_plainBrings_5 : decode cX7_plainBrings 5 = .ok (.aload_n 0, 1) := by decide +kernel
theorem dX7_plainBrings_6 : decode cX7_plainBrings 6 = .ok (.iload_n 1, 1) := by decide +kernel
theorem dX7_plainBrings_7 : decode cX7_plainBrings 7 = .ok (.invokevirtual 312, 3) := by decide +kernel
theorem dX7_plainBrings_10 : decode cX7_plainBrings 10 = .ok (.aload_n 0, 1) := by decide +kernel
theorem dX7_plainBrings_11 : decode cX7_plainBrings 11 = .ok (.getfield 315, 3) := by decide +kernel
theorem dX7_plainBrings_14 : decode cX7_plainBrings 14 = .ok (.isub, 1) := by decide +kernel
theorem dX7_plainBrings_15 : decode cX7_plainBrings 15 = .ok (.ireturn, 1) := by decide +kernel
theorem dX7_bringsActs_0 : decode cX7_bringsActs 0 = .ok (.aload_n 0, 1) := by decide +kernel
theorem dX7_bringsActs_1 : decode cX7_bringsActs 1 = .ok (.getfield 303, 3) := by decide +kernel
theorem dX7_bringsActs_4 : decode cX7_bringsActs 4 = .ok (.iconst 2, 1) := by decide +kernel
theorem dX7_bringsActs_5 : decode cX7_bringsActs 5 = .ok (.invokestatic 306, 3) := by decide +kernel
theorem dX7_bringsActs_8 : decode cX7_bringsActs 8 = .ok (.ifCond .eq 16, 3) := by decide +kernel
theorem dX7_bringsActs_11 : decode cX7_bringsActs 11 = .ok (.aload_n 0, 1) := by decide +kernel
theorem dX7_bringsActs_12 : decode cX7_bringsActs 12 = .ok (.bipush 21, 2) := by decide +kernel
theorem dX7_bringsActs_14 : decode cX7_bringsActs 14 = .ok (.invokevirtual 297, 3) := by decide +kernel
theorem dX7_bringsActs_17 : decode cX7_bringsActs 17 = .ok (.aload_n 0, 1) := by decide +kernel
theorem dX7_bringsActs_18 : decode cX7_bringsActs 18 = .ok (.iload_n 1, 1) := by decide +kernel
theorem dX7_bringsActs_19 : decode cX7_bringsActs 19 = .ok (.invokevirtual 318, 3) := by decide +kernel
theorem dX7_bringsActs_22 : decode cX7_bringsActs 22 = .ok (.ineg, 1) := by decide +kernel
theorem dX7_bringsActs_23 : decode cX7_bringsActs 23 = .ok (.ireturn, 1) := by decide +kernel
theorem dX7_bringsActs_24 : decode cX7_bringsActs 24 = .ok (.aload_n 0, 1) := by decide +kernel
theorem dX7_bringsActs_25 : decode cX7_bringsActs 25 = .ok (.getfield 303, 3) := by decide +kernel
theorem dX7_bringsActs_28 : decode cX7_bringsActs 28 = .ok (.bipush 6, 2) := by decide +kernel
theorem dX7_bringsActs_30 : decode cX7_bringsActs 30 = .ok (.if_icmp .ne 20, 3) := by decide +kernel
theorem dX7_bringsActs_33 : decode cX7_bringsActs 33 = .ok (.aload_n 0, 1) := by decide +kernel
theorem dX7_bringsActs_34 : decode cX7_bringsActs 34 = .ok (.bipush 61, 2) := by decide +kernel
theorem dX7_bringsActs_36 : decode cX7_bringsActs 36 = .ok (.invokevirtual 297, 3) := by decide +kernel
theorem dX7_bringsActs_39 : decode cX7_bringsActs 39 = .ok (.aload_n 0, 1) := by decide +kernel
theorem dX7_bringsActs_40 : decode cX7_bringsActs 40 = .ok (.iload_n 1, 1) := by decide +kernel
theorem dX7_bringsActs_41 : decode cX7_bringsActs 41 = .ok (.invokevirtual 318, 3) := by decide +kernel
theorem dX7_bringsActs_44 : decode cX7_bringsActs 44 = .ok (.aload_n 0, 1) := by decide +kernel
theorem dX7_bringsActs_45 : decode cX7_bringsActs 45 = .ok (.getfield 315, 3) := by decide +kernel
theorem dX7_bringsActs_48 : decode cX7_bringsActs 48 = .ok (.iadd, 1) := by decide +kernel
theorem dX7_bringsActs_49 : decode cX7_bringsActs 49 = .ok (.ireturn, 1) := by decide +kernel
theorem dX7_bringsActs_50 : decode cX7_bringsActs 50 = .ok (.aload_n 0, 1) := by decide +kernel
theorem dX7_bringsActs_51 : decode cX7_bringsActs 51 = .ok (.iload_n 1, 1) := by decide +kernel
theorem dX7_bringsActs_52 : decode cX7_bringsActs 52 = .ok (.invokevirtual 318, 3) := by decide +kernel
theorem dX7_bringsActs_55 : decode cX7_bringsActs 55 = .ok (.ireturn, 1) := by decide +kernel
theorem dX7_plainTelling_0 : decode cX7_plainTelling 0 = .ok (.aload_n 0, 1) := by decide +kernel
theorem dX7_plainTelling_1 : decode cX7_plainTelling 1 = .ok (.iconst 3, 1) := by decide +kernel
theorem dX7_plainTelling_2 : decode cX7_plainTelling 2 = .ok (.invokevirtual 297, 3) := by decide +kernel
theorem dX7_plainTelling_5 : decode cX7_plainTelling 5 = .ok (.aload_n 0, 1) := by decide +kernel
theorem dX7_plainTelling_6 : decode cX7_plainTelling 6 = .ok (.iload_n 1, 1) := by decide +kernel
theorem dX7_plainTelling_7 : decode cX7_plainTelling 7 = .ok (.invokevirtual 321, 3) := by decide +kernel
theorem dX7_plainTelling_10 : decode cX7_plainTelling 10 = .ok (.iconst 2, 1) := by decide +kernel
theorem dX7_plainTelling_11 : decode cX7_plainTelling 11 = .ok (.imul, 1) := by decide +kernel
theorem dX7_plainTelling_12 : decode cX7_plainTelling 12 = .ok (.ireturn, 1) := by decide +kernel
theorem dX7_tellsActs_0 : decode cX7_tellsActs 0 = .ok (.aload_n 0, 1) := by decide +kernel
theorem dX7_tellsActs_1 : decode cX7_tellsActs 1 = .ok (.getfield 303, 3) := by decide +kernel
theorem dX7_tellsActs_4 : decode cX7_tellsActs 4 = .ok (.iconst 3, 1) := by decide +kernel
theorem dX7_tellsActs_5 : decode cX7_tellsActs 5 = .ok (.invokestatic 306, 3) := by decide +kernel
theorem dX7_tellsActs_8 : decode cX7_tellsActs 8 = .ok (.ifCond .eq 18, 3) := by decide +kernel
theorem dX7_tellsActs_11 : decode cX7_tellsActs 11 = .ok (.aload_n 0, 1) := by decide +kernel
theorem dX7_tellsActs_12 : decode cX7_tellsActs 12 = .ok (.bipush 31, 2) := by decide +kernel
theorem dX7_tellsActs_14 : decode cX7_tellsActs 14 = .ok (.invokevirtual 297, 3) := by decide +kernel
theorem dX7_tellsActs_17 : decode cX7_tellsActs 17 = .ok (.aload_n 0, 1) := by decide +kernel
theorem dX7_tellsActs_18 : decode cX7_tellsActs 18 = .ok (.iload_n 1, 1) := by decide +kernel
theorem dX7_tellsActs_19 : decode cX7_tellsActs 19 = .ok (.invokevirtual 324, 3) := by decide +kernel
theorem dX7_tellsActs_22 : decode cX7_tellsActs 22 = .ok (.bipush 7, 2) := by decide +kernel
theorem dX7_tellsActs_24 : decode cX7_tellsActs 24 = .ok (.ixor, 1) := by decide +kernel
theorem dX7_tellsActs_25 : decode cX7_tellsActs 25 = .ok (.ireturn, 1) := by decide +kernel
theorem dX7_tellsActs_26 : decode cX7_tellsActs 26 = .ok (.aload_n 0, 1) := by decide +kernel
theorem dX7_tellsActs_27 : decode cX7_tellsActs 27 = .ok (.getfield 303, 3) := by decide +kernel
theorem dX7_tellsActs_30 : decode cX7_tellsActs 30 = .ok (.iconst 4, 1) := by decide +kernel
theorem dX7_tellsActs_31 : decode cX7_tellsActs 31 = .ok (.if_icmp .ne 25, 3) := by decide +kernel
theorem dX7_tellsActs_34 : decode cX7_tellsActs 34 = .ok (.aload_n 0, 1) := by decide +kernel
theorem dX7_tellsActs_35 : decode cX7_tellsActs 35 = .ok (.bipush 41, 2) := by decide +kernel
theorem dX7_tellsActs_37 : decode cX7_tellsActs 37 = .ok (.invokevirtual 297, 3) := by decide +kernel
theorem dX7_tellsActs_40 : decode cX7_tellsActs 40 = .ok (.aload_n 0, 1) := by decide +kernel
theorem dX7_tellsActs_41 : decode cX7_tellsActs 41 = .ok (.iload_n 1, 1) := by decide +kernel
theorem dX7_tellsActs_42 : decode cX7_tellsActs 42 = .ok (.iconst 1, 1) := by decide +kernel
theorem dX7_tellsActs_43 : decode cX7_tellsActs 43 = .ok (.isub, 1) := by decide +kernel
theorem dX7_tellsActs_44 : decode cX7_tellsActs 44 = .ok (.invokevirtual 324, 3) := by decide +kernel
theorem dX7_tellsActs_47 : decode cX7_tellsActs 47 = .ok (.istore_n 2, 1) := by decide +kernel
theorem dX7_tellsActs_48 : decode cX7_tellsActs 48 = .ok (.iload_n 2, 1) := by decide +kernel
theorem dX7_tellsActs_49 : decode cX7_tellsActs 49 = .ok (.aload_n 0, 1) := by decide +kernel
theorem dX7_tellsActs_50 : decode cX7_tellsActs 50 = .ok (.iconst 2, 1) := by decide +kernel
theorem dX7_tellsActs_51 : decode cX7_tellsActs 51 = .ok (.invokevirtual 312, 3) := by decide +kernel
theorem dX7_tellsActs_54 : decode cX7_tellsActs 54 = .ok (.iadd, 1) := by decide +kernel
theorem dX7_tellsActs_55 : decode cX7_tellsActs 55 = .ok (.ireturn, 1) := by decide +kernel
theorem dX7_tellsActs_56 : decode cX7_tellsActs 56 = .ok (.aload_n 0, 1) := by decide +kernel
theorem dX7_tellsActs_57 : decode cX7_tellsActs 57 = .ok (.iload_n 1, 1) := by decide +kernel
theorem dX7_tellsActs_58 : decode cX7_tellsActs 58 = .ok (.invokevirtual 324, 3) := by decide +kernel
theorem dX7_tellsActs_61 : decode cX7_tellsActs 61 = .ok (.ireturn, 1) := by decide +kernel
theorem dX7_act_0 : decode cX7_act 0 = .ok (.aload_n 0, 1) := by decide +kernel
theorem dX7_act_1 : decode cX7_act 1 = .ok (.iconst 0, 1) := by decide +kernel
theorem dX7_act_2 : decode cX7_act 2 = .ok (.putfield 294, 3) := by decide +kernel
theorem dX7_act_5 : decode cX7_act 5 = .ok (.aload_n 0, 1) := by decide +kernel
theorem dX7_act_6 : decode cX7_act 6 = .ok (.iload_n 1, 1) := by decide +kernel
theorem dX7_act_7 : decode cX7_act 7 = .ok (.invokevirtual 165, 3) := by decide +kernel
theorem dX7_act_10 : decode cX7_act 10 = .ok (.ifCond .eq 12, 3) := by decide +kernel
theorem dX7_act_13 : decode cX7_act 13 = .ok (.iload_n 2, 1) := by decide +kernel
theorem dX7_act_14 : decode cX7_act 14 = .ok (.iconst 0, 1) := by decide +kernel
theorem dX7_act_15 : decode cX7_act 15 = .ok (.iconst 2, 1) := by decide +kernel
theorem dX7_act_16 : decode cX7_act 16 = .ok (.invokestatic 50, 3) := by decide +kernel
theorem dX7_act_19 : decode cX7_act 19 = .ok (.ifCond .ne 5, 3) := by decide +kernel
theorem dX7_act_22 : decode cX7_act 22 = .ok (.iconst 0, 1) := by decide +kernel
theorem dX7_act_23 : decode cX7_act 23 = .ok (.ireturn, 1) := by decide +kernel
theorem dX7_act_24 : decode cX7_act 24 = .ok (.aload_n 0, 1) := by decide +kernel
theorem dX7_act_25 : decode cX7_act 25 = .ok (.aload_n 0, 1) := by decide +kernel
theorem dX7_act_26 : decode cX7_act 26 = .ok (.getfield 9, 3) := by decide +kernel
theorem dX7_act_29 : decode cX7_act 29 = .ok (.bipush 20, 2) := by decide +kernel
theorem dX7_act_31 : decode cX7_act 31 = .ok (.iload_n 1, 1) := by decide +kernel
theorem dX7_act_32 : decode cX7_act 32 = .ok (.iadd, 1) := by decide +kernel
theorem dX7_act_33 : decode cX7_act 33 = .ok (.iaload, 1) := by decide +kernel
theorem dX7_act_34 : decode cX7_act 34 = .ok (.putfield 303, 3) := by decide +kernel
theorem dX7_act_37 : decode cX7_act 37 = .ok (.aload_n 0, 1) := by decide +kernel
theorem dX7_act_38 : decode cX7_act 38 = .ok (.iload_n 1, 1) := by decide +kernel
theorem dX7_act_39 : decode cX7_act 39 = .ok (.putfield 300, 3) := by decide +kernel
theorem dX7_act_42 : decode cX7_act 42 = .ok (.aload_n 0, 1) := by decide +kernel
theorem dX7_act_43 : decode cX7_act 43 = .ok (.aload_n 0, 1) := by decide +kernel
theorem dX7_act_44 : decode cX7_act 44 = .ok (.getfield 9, 3) := by decide +kernel
theorem dX7_act_47 : decode cX7_act 47 = .ok (.bipush 24, 2) := by decide +kernel
theorem dX7_act_49 : decode cX7_act 49 = .ok (.iload_n 1, 1) := by decide +kernel
theorem dX7_act_50 : decode cX7_act 50 = .ok (.iadd, 1) := by decide +kernel
theorem dX7_act_51 : decode cX7_act 51 = .ok (.iaload, 1) := by decide +kernel
theorem dX7_act_52 : decode cX7_act 52 = .ok (.putfield 315, 3) := by decide +kernel
theorem dX7_act_55 : decode cX7_act 55 = .ok (.iload_n 2, 1) := by decide +kernel
theorem dX7_act_56 : decode cX7_act 56 = .ok (.ifCond .ne 11, 3) := by decide +kernel
theorem dX7_act_59 : decode cX7_act 59 = .ok (.aload_n 0, 1) := by decide +kernel
theorem dX7_act_60 : decode cX7_act 60 = .ok (.iload_n 3, 1) := by decide +kernel
theorem dX7_act_61 : decode cX7_act 61 = .ok (.invokevirtual 312, 3) := by decide +kernel
theorem dX7_act_64 : decode cX7_act 64 = .ok (.goto 21, 3) := by decide +kernel
theorem dX7_act_67 : decode cX7_act 67 = .ok (.iload_n 2, 1) := by decide +kernel
theorem dX7_act_68 : decode cX7_act 68 = .ok (.iconst 1, 1) := by decide +kernel
theorem dX7_act_69 : decode cX7_act 69 = .ok (.if_icmp .ne 11, 3) := by decide +kernel
theorem dX7_act_72 : decode cX7_act 72 = .ok (.aload_n 0, 1) := by decide +kernel
theorem dX7_act_73 : decode cX7_act 73 = .ok (.iload_n 3, 1) := by decide +kernel
theorem dX7_act_74 : decode cX7_act 74 = .ok (.invokevirtual 321, 3) := by decide +kernel
theorem dX7_act_77 : decode cX7_act 77 = .ok (.goto 8, 3) := by decide +kernel
theorem dX7_act_80 : decode cX7_act 80 = .ok (.aload_n 0, 1) := by decide +kernel
theorem dX7_act_81 : decode cX7_act 81 = .ok (.iload_n 3, 1) := by decide +kernel
theorem dX7_act_82 : decode cX7_act 82 = .ok (.invokevirtual 327, 3) := by decide +kernel
theorem dX7_act_85 : decode cX7_act 85 = .ok (.ireturn, 1) := by decide +kernel
theorem dX7_trace_0 : decode cX7_trace 0 = .ok (.iload_n 1, 1) := by decide +kernel
theorem dX7_trace_1 : decode cX7_trace 1 = .ok (.iconst 0, 1) := by decide +kernel
theorem dX7_trace_2 : decode cX7_trace 2 = .ok (.aload_n 0, 1) := by decide +kernel
theorem dX7_trace_3 : decode cX7_trace 3 = .ok (.getfield 294, 3) := by decide +kernel
theorem dX7_trace_6 : decode cX7_trace 6 = .ok (.bipush 20, 2) := by decide +kernel
theorem dX7_trace_8 : decode cX7_trace 8 = .ok (.if_icmp .ge 10, 3) := by decide +kernel
theorem dX7_trace_11 : decode cX7_trace 11 = .ok (.aload_n 0, 1) := by decide +kernel
theorem dX7_trace_12 : decode cX7_trace 12 = .ok (.getfield 294, 3) := by decide +kernel
theorem dX7_trace_15 : decode cX7_trace 15 = .ok (.goto 5, 3) := by decide +kernel
theorem dX7_trace_18 : decode cX7_trace 18 = .ok (.bipush 20, 2) := by decide +kernel
theorem dX7_trace_20 : decode cX7_trace 20 = .ok (.iconst 1, 1) := by decide +kernel
theorem dX7_trace_21 : decode cX7_trace 21 = .ok (.isub, 1) := by decide +kernel
theorem dX7_trace_22 : decode cX7_trace 22 = .ok (.invokestatic 50, 3) := by decide +kernel
theorem dX7_trace_25 : decode cX7_trace 25 = .ok (.ifCond .eq 12, 3) := by decide +kernel
theorem dX7_trace_28 : decode cX7_trace 28 = .ok (.aload_n 0, 1) := by decide +kernel
theorem dX7_trace_29 : decode cX7_trace 29 = .ok (.getfield 43, 3) := by decide +kernel
theorem dX7_trace_32 : decode cX7_trace 32 = .ok (.iload_n 1, 1) := by decide +kernel
theorem dX7_trace_33 : decode cX7_trace 33 = .ok (.iaload, 1) := by decide +kernel
theorem dX7_trace_34 : decode cX7_trace 34 = .ok (.goto 4, 3) := by decide +kernel
theorem dX7_trace_37 : decode cX7_trace 37 = .ok (.iconst (-1), 1) := by decide +kernel
theorem dX7_trace_38 : decode cX7_trace 38 = .ok (.ireturn, 1) := by decide +kernel
theorem dX7_as_0 : decode cX7_as 0 = .ok (.aload_n 0, 1) := by decide +kernel
theorem dX7_as_1 : decode cX7_as 1 = .ok (.iload_n 1, 1) := by decide +kernel
theorem dX7_as_2 : decode cX7_as 2 = .ok (.invokevirtual 165, 3) := by decide +kernel
theorem dX7_as_5 : decode cX7_as 5 = .ok (.ifCond .eq 13, 3) := by decide +kernel
theorem dX7_as_8 : decode cX7_as 8 = .ok (.iload_n 2, 1) := by decide +kernel
theorem dX7_as_9 : decode cX7_as 9 = .ok (.iconst 0, 1) := by decide +kernel
theorem dX7_as_10 : decode cX7_as 10 = .ok (.bipush 6, 2) := by decide +kernel
theorem dX7_as_12 : decode cX7_as 12 = .ok (.invokestatic 50, 3) := by decide +kernel
theorem dX7_as_15 : decode cX7_as 15 = .ok (.ifCond .ne 5, 3) := by decide +kernel
theorem dX7_as_18 : decode cX7_as 18 = .ok (.iconst (-1), 1) := by decide +kernel
theorem dX7_as_19 : decode cX7_as 19 = .ok (.ireturn, 1) := by decide +kernel
theorem dX7_as_20 : decode cX7_as 20 = .ok (.aload_n 0, 1) := by decide +kernel
theorem dX7_as_21 : decode cX7_as 21 = .ok (.getfield 9, 3) := by decide +kernel
theorem dX7_as_24 : decode cX7_as 24 = .ok (.bipush 20, 2) := by decide +kernel
theorem dX7_as_26 : decode cX7_as 26 = .ok (.iload_n 1, 1) := by decide +kernel
theorem dX7_as_27 : decode cX7_as 27 = .ok (.iadd, 1) := by decide +kernel
theorem dX7_as_28 : decode cX7_as 28 = .ok (.iaload, 1) := by decide +kernel
theorem dX7_as_29 : decode cX7_as 29 = .ok (.iload_n 2, 1) := by decide +kernel
theorem dX7_as_30 : decode cX7_as 30 = .ok (.invokestatic 306, 3) := by decide +kernel
theorem dX7_as_33 : decode cX7_as 33 = .ok (.ifCond .eq 15, 3) := by decide +kernel
theorem dX7_as_36 : decode cX7_as 36 = .ok (.aload_n 0, 1) := by decide +kernel
theorem dX7_as_37 : decode cX7_as 37 = .ok (.getfield 9, 3) := by decide +kernel
theorem dX7_as_40 : decode cX7_as 40 = .ok (.bipush 24, 2) := by decide +kernel
theorem dX7_as_42 : decode cX7_as 42 = .ok (.iload_n 1, 1) := by decide +kernel
theorem dX7_as_43 : decode cX7_as 43 = .ok (.iadd, 1) := by decide +kernel
theorem dX7_as_44 : decode cX7_as 44 = .ok (.iaload, 1) := by decide +kernel
theorem dX7_as_45 : decode cX7_as 45 = .ok (.goto 5, 3) := by decide +kernel
theorem dX7_as_48 : decode cX7_as 48 = .ok (.bipush (-6), 2) := by decide +kernel
theorem dX7_as_50 : decode cX7_as 50 = .ok (.ireturn, 1) := by decide +kernel
theorem dX7_image_0 : decode cX7_image 0 = .ok (.iconst 0, 1) := by decide +kernel
theorem dX7_image_1 : decode cX7_image 1 = .ok (.istore_n 1, 1) := by decide +kernel
theorem dX7_image_2 : decode cX7_image 2 = .ok (.iload_n 1, 1) := by decide +kernel
theorem dX7_image_3 : decode cX7_image 3 = .ok (.sipush 909, 3) := by decide +kernel
theorem dX7_image_6 : decode cX7_image 6 = .ok (.if_icmp .ge 21, 3) := by decide +kernel
theorem dX7_image_9 : decode cX7_image 9 = .ok (.aload_n 0, 1) := by decide +kernel
theorem dX7_image_10 : decode cX7_image 10 = .ok (.getfield 15, 3) := by decide +kernel
theorem dX7_image_13 : decode cX7_image 13 = .ok (.iload_n 1, 1) := by decide +kernel
theorem dX7_image_14 : decode cX7_image 14 = .ok (.aload_n 0, 1) := by decide +kernel
theorem dX7_image_15 : decode cX7_image 15 = .ok (.getfield 9, 3) := by decide +kernel
theorem dX7_image_18 : decode cX7_image 18 = .ok (.iload_n 1, 1) := by decide +kernel
theorem dX7_image_19 : decode cX7_image 19 = .ok (.iaload, 1) := by decide +kernel
theorem dX7_image_20 : decode cX7_image 20 = .ok (.iastore, 1) := by decide +kernel
theorem dX7_image_21 : decode cX7_image 21 = .ok (.iinc 1 1, 3) := by decide +kernel
theorem dX7_image_24 : decode cX7_image 24 = .ok (.goto (-22), 3) := by decide +kernel
theorem dX7_image_27 : decode cX7_image 27 = .ok (.aload_n 0, 1) := by decide +kernel
theorem dX7_image_28 : decode cX7_image 28 = .ok (.iconst 1, 1) := by decide +kernel
theorem dX7_image_29 : decode cX7_image 29 = .ok (.putfield 330, 3) := by decide +kernel
theorem dX7_image_32 : decode cX7_image 32 = .ok (.aload_n 0, 1) := by decide +kernel
theorem dX7_image_33 : decode cX7_image 33 = .ok (.getfield 9, 3) := by decide +kernel
theorem dX7_image_36 : decode cX7_image 36 = .ok (.bipush 12, 2) := by decide +kernel
theorem dX7_image_38 : decode cX7_image 38 = .ok (.iaload, 1) := by decide +kernel
theorem dX7_image_39 : decode cX7_image 39 = .ok (.ireturn, 1) := by decide +kernel
theorem dX7_undo_0 : decode cX7_undo 0 = .ok (.aload_n 0, 1) := by decide +kernel
theorem dX7_undo_1 : decode cX7_undo 1 = .ok (.getfield 330, 3) := by decide +kernel
theorem dX7_undo_4 : decode cX7_undo 4 = .ok (.ifCond .ne 6, 3) := by decide +kernel
theorem dX7_undo_7 : decode cX7_undo 7 = .ok (.bipush (-3), 2) := by decide +kernel
theorem dX7_undo_9 : decode cX7_undo 9 = .ok (.ireturn, 1) := by decide +kernel
theorem dX7_undo_10 : decode cX7_undo 10 = .ok (.iconst 0, 1) := by decide +kernel
theorem dX7_undo_11 : decode cX7_undo 11 = .ok (.istore_n 1, 1) := by decide +kernel
theorem dX7_undo_12 : decode cX7_undo 12 = .ok (.iload_n 1, 1) := by decide +kernel
theorem dX7_undo_13 : decode cX7_undo 13 = .ok (.sipush 909, 3) := by decide +kernel
theorem dX7_undo_16 : decode cX7_undo 16 = .ok (.if_icmp .ge 21, 3) := by decide +kernel
theorem dX7_undo_19 : decode cX7_undo 19 = .ok (.aload_n 0, 1) := by decide +kernel
theorem dX7_undo_20 : decode cX7_undo 20 = .ok (.getfield 9, 3) := by decide +kernel
theorem dX7_undo_23 : decode cX7_undo 23 = .ok (.iload_n 1, 1) := by decide +kernel
theorem dX7_undo_24 : decode cX7_undo 24 = .ok (.aload_n 0, 1) := by decide +kernel
theorem dX7_undo_25 : decode cX7_undo 25 = .ok (.getfield 15, 3) := by decide +kernel
theorem dX7_undo_28 : decode cX7_undo 28 = .ok (.iload_n 1, 1) := by decide +kernel
theorem dX7_undo_29 : decode cX7_undo 29 = .ok (.iaload, 1) := by decide +kernel
theorem dX7_undo_30 : decode cX7_undo 30 = .ok (.iastore, 1) := by decide +kernel
theorem dX7_undo_31 : decode cX7_undo 31 = .ok (.iinc 1 1, 3) := by decide +kernel
theorem dX7_undo_34 : decode cX7_undo 34 = .ok (.goto (-22), 3) := by decide +kernel
theorem dX7_undo_37 : decode cX7_undo 37 = .ok (.aload_n 0, 1) := by decide +kernel
theorem dX7_undo_38 : decode cX7_undo 38 = .ok (.getfield 9, 3) := by decide +kernel
theorem dX7_undo_41 : decode cX7_undo 41 = .ok (.bipush 12, 2) := by decide +kernel
theorem dX7_undo_43 : decode cX7_undo 43 = .ok (.iaload, 1) := by decide +kernel
theorem dX7_undo_44 : decode cX7_undo 44 = .ok (.ireturn, 1) := by decide +kernel
theorem dX7_count_0 : decode cX7_count 0 = .ok (.iload_n 1, 1) := by decide +kernel
theorem dX7_count_1 : decode cX7_count 1 = .ok (.bipush 7, 2) := by decide +kernel
theorem dX7_count_3 : decode cX7_count 3 = .ok (.if_icmp .ne 10, 3) := by decide +kernel
theorem dX7_count_6 : decode cX7_count 6 = .ok (.aload_n 0, 1) := by decide +kernel
theorem dX7_count_7 : decode cX7_count 7 = .ok (.getfield 294, 3) := by decide +kernel
theorem dX7_count_10 : decode cX7_count 10 = .ok (.goto 26, 3) := by decide +kernel
theorem dX7_count_13 : decode cX7_count 13 = .ok (.iload_n 1, 1) := by decide +kernel
theorem dX7_count_14 : decode cX7_count 14 = .ok (.iconst 0, 1) := by decide +kernel
theorem dX7_count_15 : decode cX7_count 15 = .ok (.bipush 6, 2) := by decide +kernel
theorem dX7_count_17 : decode cX7_count 17 = .ok (.invokestatic 50, 3) := by decide +kernel
theorem dX7_count_20 : decode cX7_count 20 = .ok (.ifCond .eq 15, 3) := by decide +kernel
theorem dX7_count_23 : decode cX7_count 23 = .ok (.aload_n 0, 1) := by decide +kernel
theorem dX7_count_24 : decode cX7_count 24 = .ok (.getfield 9, 3) := by decide +kernel
theorem dX7_count_27 : decode cX7_count 27 = .ok (.bipush 12, 2) := by decide +kernel
theorem dX7_count_29 : decode cX7_count 29 = .ok (.iload_n 1, 1) := by decide +kernel
theorem dX7_count_30 : decode cX7_count 30 = .ok (.iadd, 1) := by decide +kernel
theorem dX7_count_31 : decode cX7_count 31 = .ok (.iaload, 1) := by decide +kernel
theorem dX7_count_32 : decode cX7_count 32 = .ok (.goto 4, 3) := by decide +kernel
theorem dX7_count_35 : decode cX7_count 35 = .ok (.iconst (-1), 1) := by decide +kernel
theorem dX7_count_36 : decode cX7_count 36 = .ok (.ireturn, 1) := by decide +kernel
