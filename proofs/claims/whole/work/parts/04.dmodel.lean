theorem dX10_thrown_0 : decode cX10_thrown 0 = .ok (.aload_n 0, 1) := by decide +kernel
theorem dX10_thrown_1 : decode cX10_thrown 1 = .ok (.getfield 1, 3) := by decide +kernel
theorem dX10_thrown_4 : decode cX10_thrown 4 = .ok (.ireturn, 1) := by decide +kernel
theorem dX10_fails_0 : decode cX10_fails 0 = .ok (.aload_n 0, 1) := by decide +kernel
theorem dX10_fails_1 : decode cX10_fails 1 = .ok (.iload_n 1, 1) := by decide +kernel
theorem dX10_fails_2 : decode cX10_fails 2 = .ok (.putfield 1, 3) := by decide +kernel
theorem dX10_fails_5 : decode cX10_fails 5 = .ok (.iconst 0, 1) := by decide +kernel
theorem dX10_fails_6 : decode cX10_fails 6 = .ok (.ireturn, 1) := by decide +kernel
theorem dX10_isBetween_0 : decode cX10_isBetween 0 = .ok (.iload_n 1, 1) := by decide +kernel
theorem dX10_isBetween_1 : decode cX10_isBetween 1 = .ok (.iload_n 0, 1) := by decide +kernel
theorem dX10_isBetween_2 : decode cX10_isBetween 2 = .ok (.if_icmp .gt 12, 3) := by decide +kernel
theorem dX10_isBetween_5 : decode cX10_isBetween 5 = .ok (.iload_n 0, 1) := by decide +kernel
theorem dX10_isBetween_6 : decode cX10_isBetween 6 = .ok (.iload_n 2, 1) := by decide +kernel
theorem dX10_isBetween_7 : decode cX10_isBetween 7 = .ok (.if_icmp .gt 7, 3) := by decide +kernel
theorem dX10_isBetween_10 : decode cX10_isBetween 10 = .ok (.iconst 1, 1) := by decide +kernel
theorem dX10_isBetween_11 : decode cX10_isBetween 11 = .ok (.goto 4, 3) := by decide +kernel
theorem dX10_isBetween_14 : decode cX10_isBetween 14 = .ok (.iconst 0, 1) := by decide +kernel
theorem dX10_isBetween_15 : decode cX10_isBetween 15 = .ok (.ireturn, 1) := by decide +kernel
theorem dX10_init_0 : decode cX10_init 0 = .ok (.aload_n 0, 1) := by decide +kernel
theorem dX10_init_1 : decode cX10_init 1 = .ok (.invokespecial 7, 3) := by decide +kernel
theorem dX10_init_4 : decode cX10_init 4 = .ok (.aload_n 0, 1) := by decide +kernel
theorem dX10_init_5 : decode cX10_init 5 = .ok (.sipush 218, 3) := by decide +kernel
theorem dX10_init_8 : decode cX10_init 8 = .ok (.newarray .int, 2) := by decide +kernel
theorem dX10_init_10 : decode cX10_init 10 = .ok (.putfield 13, 3) := by decide +kernel
theorem dX10_init_13 : decode cX10_init 13 = .ok (.aload_n 0, 1) := by decide +kernel
theorem dX10_init_14 : decode cX10_init 14 = .ok (.sipush 1744, 3) := by decide +kernel
theorem dX10_init_17 : decode cX10_init 17 = .ok (.newarray .int, 2) := by decide +kernel
theorem dX10_init_19 : decode cX10_init 19 = .ok (.putfield 17, 3) := by decide +kernel
theorem dX10_init_22 : decode cX10_init 22 = .ok (.aload_n 0, 1) := by decide +kernel
theorem dX10_init_23 : decode cX10_init 23 = .ok (.sipush 218, 3) := by decide +kernel
theorem dX10_init_26 : decode cX10_init 26 = .ok (.newarray .int, 2) := by decide +kernel
theorem dX10_init_28 : decode cX10_init 28 = .ok (.putfield 20, 3) := by decide +kernel
theorem dX10_init_31 : decode cX10_init 31 = .ok (.aload_n 0, 1) := by decide +kernel
theorem dX10_init_32 : decode cX10_init 32 = .ok (.sipush 218, 3) := by decide +kernel
theorem dX10_init_35 : decode cX10_init 35 = .ok (.newarray .int, 2) := by decide +kernel
theorem dX10_init_37 : decode cX10_init 37 = .ok (.putfield 23, 3) := by decide +kernel
theorem dX10_init_40 : decode cX10_init 40 = .ok (.aload_n 0, 1) := by decide +kernel
theorem dX10_init_41 : decode cX10_init 41 = .ok (.bipush 100, 2) := by decide +kernel
theorem dX10_init_43 : decode cX10_init 43 = .ok (.newarray .char, 2) := by decide +kernel
theorem dX10_init_45 : decode cX10_init 45 = .ok (.putfield 26, 3) := by decide +kernel
theorem dX10_init_48 : decode cX10_init 48 = .ok (.aload_n 0, 1) := by decide +kernel
theorem dX10_init_49 : decode cX10_init 49 = .ok (.bipush 60, 2) := by decide +kernel
theorem dX10_init_51 : decode cX10_init 51 = .ok (.newarray .char, 2) := by decide +kernel
theorem dX10_init_53 : decode cX10_init 53 = .ok (.putfield 30, 3) := by decide +kernel
theorem dX10_init_56 : decode cX10_init 56 = .ok (.aload_n 0, 1) := by decide +kernel
theorem dX10_init_57 : decode cX10_init 57 = .ok (.iconst (-1), 1) := by decide +kernel
theorem dX10_init_58 : decode cX10_init 58 = .ok (.putfield 33, 3) := by decide +kernel
theorem dX10_init_61 : decode cX10_init 61 = .ok (.aload_n 0, 1) := by decide +kernel
theorem dX10_init_62 : decode cX10_init 62 = .ok (.iconst (-1), 1) := by decide +kernel
theorem dX10_init_63 : decode cX10_init 63 = .ok (.putfield 36, 3) := by decide +kernel
theorem dX10_init_66 : decode cX10_init 66 = .ok (.aload_n 0, 1) := by decide +kernel
theorem dX10_init_67 : decode cX10_init 67 = .ok (.iconst 5, 1) := by decide +kernel
theorem dX10_init_68 : decode cX10_init 68 = .ok (.newarray .int, 2) := by decide +kernel
theorem dX10_init_70 : decode cX10_init 70 = .ok (.putfield 39, 3) := by decide +kernel
theorem dX10_init_73 : decode cX10_init 73 = .ok (.aload_n 0, 1) := by decide +kernel
theorem dX10_init_74 : decode cX10_init 74 = .ok (.getfield 13, 3) := by decide +kernel
theorem dX10_init_77 : decode cX10_init 77 = .ok (.iconst 4, 1) := by decide +kernel
theorem dX10_init_78 : decode cX10_init 78 = .ok (.sipush 1000, 3) := by decide +kernel
theorem dX10_init_81 : decode cX10_init 81 = .ok (.iastore, 1) := by decide +kernel
theorem dX10_init_82 : decode cX10_init 82 = .ok (.iconst 0, 1) := by decide +kernel
theorem dX10_init_83 : decode cX10_init 83 = .ok (.istore_n 1, 1) := by decide +kernel
theorem dX10_init_84 : decode cX10_init 84 = .ok (.iload_n 1, 1) := by decide +kernel
theorem dX10_init_85 : decode cX10_init 85 = .ok (.iconst 4, 1) := by decide +kernel
theorem dX10_init_86 : decode cX10_init 86 = .ok (.if_icmp .ge 20, 3) := by decide +kernel
theorem dX10_init_89 : decode cX10_init 89 = .ok (.aload_n 0, 1) := by decide +kernel
theorem dX10_init_90 : decode cX10_init 90 = .ok (.getfield 13, 3) := by decide +kernel
theorem dX10_init_93 : decode cX10_init 93 = .ok (.bipush 10, 2) := by decide +kernel
theorem dX10_init_95 : decode cX10_init 95 = .ok (.iload_n 1, 1) := by decide +kernel
theorem dX10_init_96 : decode cX10_init 96 = .ok (.iadd, 1) := by decide +kernel
theorem dX10_init_97 : decode cX10_init 97 = .ok (.bipush 10, 2) := by decide +kernel
theorem dX10_init_99 : decode cX10_init 99 = .ok (.iastore, 1) := by decide +kernel
theorem dX10_init_100 : decode cX10_init 100 = .ok (.iinc 1 1, 3) := by decide +kernel
theorem dX10_init_103 : decode cX10_init 103 = .ok (.goto (-19), 3) := by decide +kernel
theorem dX10_init_106 : decode cX10_init 106 = .ok (.return_, 1) := by decide +kernel
theorem dX10_copies_0 : decode cX10_copies 0 = .ok (.iconst 0, 1) := by decide +kernel
theorem dX10_copies_1 : decode cX10_copies 1 = .ok (.istore_n 1, 1) := by decide +kernel
theorem dX10_copies_2 : decode cX10_copies 2 = .ok (.iload_n 1, 1) := by decide +kernel
theorem dX10_copies_3 : decode cX10_copies 3 = .ok (.sipush 218, 3) := by decide +kernel
theorem dX10_copies_6 : decode cX10_copies 6 = .ok (.if_icmp .ge 21, 3) := by decide +kernel
theorem dX10_copies_9 : decode cX10_copies 9 = .ok (.aload_n 0, 1) := by decide +kernel
theorem dX10_copies_10 : decode cX10_copies 10 = .ok (.getfield 23, 3) := by decide +kernel
theorem dX10_copies_13 : decode cX10_copies 13 = .ok (.iload_n 1, 1) := by decide +kernel
theorem dX10_copies_14 : decode cX10_copies 14 = .ok (.aload_n 0, 1) := by decide +kernel
theorem dX10_copies_15 : decode cX10_copies 15 = .ok (.getfield 13, 3) := by decide +kernel
theorem dX10_copies_18 : decode cX10_copies 18 = .ok (.iload_n 1, 1) := by decide +kernel
theorem dX10_copies_19 : decode cX10_copies 19 = .ok (.iaload, 1) := by decide +kernel
theorem dX10_copies_20 : decode cX10_copies 20 = .ok (.iastore, 1) := by decide +kernel
theorem dX10_copies_21 : decode cX10_copies 21 = .ok (.iinc 1 1, 3) := by decide +kernel
theorem dX10_copies_24 : decode cX10_copies 24 = .ok (.goto (-22), 3) := by decide +kernel
theorem dX10_copies_27 : decode cX10_copies 27 = .ok (.return_, 1) := by decide +kernel
theorem dX10_goesBack_0 : decode cX10_goesBack 0 = .ok (.iconst 0, 1) := by decide +kernel
theorem dX10_goesBack_1 : decode cX10_goesBack 1 = .ok (.istore_n 1, 1) := by decide +kernel
theorem dX10_goesBack_2 : decode cX10_goesBack 2 = .ok (.iload_n 1, 1) := by decide +kernel
theorem dX10_goesBack_3 : decode cX10_goesBack 3 = .ok (.sipush 218, 3) := by decide +kernel
theorem dX10_goesBack_6 : decode cX10_goesBack 6 = .ok (.if_icmp .ge 21, 3) := by decide +kernel
theorem dX10_goesBack_9 : decode cX10_goesBack 9 = .ok (.aload_n 0, 1) := by decide +kernel
theorem dX10_goesBack_10 : decode cX10_goesBack 10 = .ok (.getfield 13, 3) := by decide +kernel
theorem dX10_goesBack_13 : decode cX10_goesBack 13 = .ok (.iload_n 1, 1) := by decide +kernel
theorem dX10_goesBack_14 : decode cX10_goesBack 14 = .ok (.aload_n 0, 1) := by decide +kernel
theorem dX10_goesBack_15 : decode cX10_goesBack 15 = .ok (.getfield 23, 3) := by decide +kernel
theorem dX10_goesBack_18 : decode cX10_goesBack 18 = .ok (.iload_n 1, 1) := by decide +kernel
theorem dX10_goesBack_19 : decode cX10_goesBack 19 = .ok (.iaload, 1) := by decide +kernel
theorem dX10_goesBack_20 : decode cX10_goesBack 20 = .ok (.iastore, 1) := by decide +kernel
theorem dX10_goesBack_21 : decode cX10_goesBack 21 = .ok (.iinc 1 1, 3) := by decide +kernel
theorem dX10_goesBack_24 : decode cX10_goesBack 24 = .ok (.goto (-22), 3) := by decide +kernel
theorem dX10_goesBack_27 : decode cX10_goesBack 27 = .ok (.return_, 1) := by decide +kernel
theorem dX10_keeps_0 : decode cX10_keeps 0 = .ok (.aload_n 0, 1) := by decide +kernel
theorem dX10_keeps_1 : decode cX10_keeps 1 = .ok (.getfield 42, 3) := by decide +kernel
theorem dX10_keeps_4 : decode cX10_keeps 4 = .ok (.bipush 8, 2) := by decide +kernel
theorem dX10_keeps_6 : decode cX10_keeps 6 = .ok (.if_icmp .ne 26, 3) := by decide +kernel
theorem dX10_keeps_9 : decode cX10_keeps 9 = .ok (.aload_n 0, 1) := by decide +kernel
theorem dX10_keeps_10 : decode cX10_keeps 10 = .ok (.aload_n 0, 1) := by decide +kernel
theorem dX10_keeps_11 : decode cX10_keeps 11 = .ok (.getfield 45, 3) := by decide +kernel
theorem dX10_keeps_14 : decode cX10_keeps 14 = .ok (.iconst 1, 1) := by decide +kernel
theorem dX10_keeps_15 : decode cX10_keeps 15 = .ok (.iadd, 1) := by decide +kernel
theorem dX10_keeps_16 : decode cX10_keeps 16 = .ok (.bipush 8, 2) := by decide +kernel
theorem dX10_keeps_18 : decode cX10_keeps 18 = .ok (.irem, 1) := by decide +kernel
theorem dX10_keeps_19 : decode cX10_keeps 19 = .ok (.putfield 45, 3) := by decide +kernel
theorem dX10_keeps_22 : decode cX10_keeps 22 = .ok (.aload_n 0, 1) := by decide +kernel
theorem dX10_keeps_23 : decode cX10_keeps 23 = .ok (.dup, 1) := by decide +kernel
theorem dX10_keeps_24 : decode cX10_keeps 24 = .ok (.getfield 42, 3) := by decide +kernel
theorem dX10_keeps_27 : decode cX10_keeps 27 = .ok (.iconst 1, 1) := by decide +kernel
theorem dX10_keeps_28 : decode cX10_keeps 28 = .ok (.isub, 1) := by decide +kernel
theorem dX10_keeps_29 : decode cX10_keeps 29 = .ok (.putfield 42, 3) := by decide +kernel
theorem dX10_keeps_32 : decode cX10_keeps 32 = .ok (.aload_n 0, 1) := by decide +kernel
theorem dX10_keeps_33 : decode cX10_keeps 33 = .ok (.getfield 45, 3) := by decide +kernel
theorem dX10_keeps_36 : decode cX10_keeps 36 = .ok (.aload_n 0, 1) := by decide +kernel
theorem dX10_keeps_37 : decode cX10_keeps 37 = .ok (.getfield 42, 3) := by decide +kernel
theorem dX10_keeps_40 : decode cX10_keeps 40 = .ok (.iadd, 1) := by decide +kernel
theorem dX10_keeps_41 : decode cX10_keeps 41 = .ok (.bipush 8, 2) := by decide +kernel
theorem dX10_keeps_43 : decode cX10_keeps 43 = .ok (.irem, 1) := by decide +kernel
theorem dX10_keeps_44 : decode cX10_keeps 44 = .ok (.istore_n 1, 1) := by decide +kernel
theorem dX10_keeps_45 : decode cX10_keeps 45 = .ok (.iconst 0, 1) := by decide +kernel
theorem dX10_keeps_46 : decode cX10_keeps 46 = .ok (.istore_n 2, 1) := by decide +kernel
theorem dX10_keeps_47 : decode cX10_keeps 47 = .ok (.iload_n 2, 1) := by decide +kernel
theorem dX10_keeps_48 : decode cX10_keeps 48 = .ok (.sipush 218, 3) := by decide +kernel
theorem dX10_keeps_51 : decode cX10_keeps 51 = .ok (.if_icmp .ge 27, 3) := by decide +kernel
theorem dX10_keeps_54 : decode cX10_keeps 54 = .ok (.aload_n 0, 1) := by decide +kernel
theorem dX10_keeps_55 : decode cX10_keeps 55 = .ok (.getfield 17, 3) := by decide +kernel
theorem dX10_keeps_58 : decode cX10_keeps 58 = .ok (.sipush 218, 3) := by decide +kernel
theorem dX10_keeps_61 : decode cX10_keeps 61 = .ok (.iload_n 1, 1) := by decide +kernel
theorem dX10_keeps_62 : decode cX10_keeps 62 = .ok (.imul, 1) := by decide +kernel
theorem dX10_keeps_63 : decode cX10_keeps 63 = .ok (.iload_n 2, 1) := by decide +kernel
theorem dX10_keeps_64 : decode cX10_keeps 64 = .ok (.iadd, 1) := by decide +kernel
theorem dX10_keeps_65 : decode cX10_keeps 65 = .ok (.aload_n 0, 1) := by decide +kernel
theorem dX10_keeps_66 : decode cX10_keeps 66 = .ok (.getfield 23, 3) := by decide +kernel
theorem dX10_keeps_69 : decode cX10_keeps 69 = .ok (.iload_n 2, 1) := by decide +kernel
theorem dX10_keeps_70 : decode cX10_keeps 70 = .ok (.iaload, 1) := by decide +kernel
theorem dX10_keeps_71 : decode cX10_keeps 71 = .ok (.iastore, 1) := by decide +kernel
theorem dX10_keeps_72 : decode cX10_keeps 72 = .ok (.iinc 2 1, 3) := by decide +kernel
theorem dX10_keeps_75 : decode cX10_keeps 75 = .ok (.goto (-28), 3) := by decide +kernel
theorem dX10_keeps_78 : decode cX10_keeps 78 = .ok (.aload_n 0, 1) := by decide +kernel
theorem dX10_keeps_79 : decode cX10_keeps 79 = .ok (.dup, 1) := by decide +kernel
theorem dX10_keeps_80 : decode cX10_keeps 80 = .ok (.getfield 42, 3) := by decide +kernel
theorem dX10_keeps_83 : decode cX10_keeps 83 = .ok (.iconst 1, 1) := by decide +kernel
theorem dX10_keeps_84 : decode cX10_keeps 84 = .ok (.iadd, 1) := by decide +kernel
theorem dX10_keeps_85 : decode cX10_keeps 85 = .ok (.putfield 42, 3) := by decide +kernel
theorem dX10_keeps_88 : decode cX10_keeps 88 = .ok (.return_, 1) := by decide +kernel
theorem dX10_remembers_0 : decode cX10_remembers 0 = .ok (.aload_n 0, 1) := by decide +kernel
theorem dX10_remembers_1 : decode cX10_remembers 1 = .ok (.invokevirtual 48, 3) := by decide +kernel
theorem dX10_remembers_4 : decode cX10_remembers 4 = .ok (.aload_n 0, 1) := by decide +kernel
theorem dX10_remembers_5 : decode cX10_remembers 5 = .ok (.invokevirtual 51, 3) := by decide +kernel
theorem dX10_remembers_8 : decode cX10_remembers 8 = .ok (.return_, 1) := by decide +kernel
theorem dX10_isKind_0 : decode cX10_isKind 0 = .ok (.iload_n 0, 1) := by decide +kernel
theorem dX10_isKind_1 : decode cX10_isKind 1 = .ok (.iconst 0, 1) := by decide +kernel
theorem dX10_isKind_2 : decode cX10_isKind 2 = .ok (.iconst 3, 1) := by decide +kernel
theorem dX10_isKind_3 : decode cX10_isKind 3 = .ok (.invokestatic 54, 3) := by decide +kernel
theorem dX10_isKind_6 : decode cX10_isKind 6 = .ok (.ireturn, 1) := by decide +kernel
theorem dX10_isBorrower_0 : decode cX10_isBorrower 0 = .ok (.iload_n 1, 1) := by decide +kernel
theorem dX10_isBorrower_1 : decode cX10_isBorrower 1 = .ok (.iconst 0, 1) := by decide +kernel
theorem dX10_isBorrower_2 : decode cX10_isBorrower 2 = .ok (.aload_n 0, 1) := by decide +kernel
theorem dX10_isBorrower_3 : decode cX10_isBorrower 3 = .ok (.getfield 13, 3) := by decide +kernel
theorem dX10_isBorrower_6 : decode cX10_isBorrower 6 = .ok (.iconst 1, 1) := by decide +kernel
theorem dX10_isBorrower_7 : decode cX10_isBorrower 7 = .ok (.iaload, 1) := by decide +kernel
theorem dX10_isBorrower_8 : decode cX10_isBorrower 8 = .ok (.iconst 1, 1) := by decide +kernel
theorem dX10_isBorrower_9 : decode cX10_isBorrower 9 = .ok (.isub, 1) := by decide +kernel
theorem dX10_isBorrower_10 : decode cX10_isBorrower 10 = .ok (.invokestatic 54, 3) := by decide +kernel
theorem dX10_isBorrower_13 : decode cX10_isBorrower 13 = .ok (.ireturn, 1) := by decide +kernel
theorem dX10_of_0 : decode cX10_of 0 = .ok (.aload_n 0, 1) := by decide +kernel
theorem dX10_of_1 : decode cX10_of 1 = .ok (.getfield 13, 3) := by decide +kernel
theorem dX10_of_4 : decode cX10_of 4 = .ok (.bipush 22, 2) := by decide +kernel
theorem dX10_of_6 : decode cX10_of 6 = .ok (.bipush 6, 2) := by decide +kernel
theorem dX10_of_8 : decode cX10_of 8 = .ok (.iload_n 1, 1) := by decide +kernel
theorem dX10_of_9 : decode cX10_of 9 = .ok (.imul, 1) := by decide +kernel
theorem dX10_of_10 : decode cX10_of 10 = .ok (.iadd, 1) := by decide +kernel
theorem dX10_of_11 : decode cX10_of 11 = .ok (.iload_n 2, 1) := by decide +kernel
theorem dX10_of_12 : decode cX10_of 12 = .ok (.iadd, 1) := by decide +kernel
theorem dX10_of_13 : decode cX10_of 13 = .ok (.iaload, 1) := by decide +kernel
theorem dX10_of_14 : decode cX10_of 14 = .ok (.ireturn, 1) := by decide +kernel
theorem dX10_adds_0 : decode cX10_adds 0 = .ok (.aload_n 0, 1) := by decide +kernel
theorem dX10_adds_1 : decode cX10_adds 1 = .ok (.getfield 13, 3) := by decide +kernel
theorem dX10_adds_4 : decode cX10_adds 4 = .ok (.bipush 22, 2) := by decide +kernel
theorem dX10_adds_6 : decode cX10_adds 6 = .ok (.bipush 6, 2) := by decide +kernel
theorem dX10_adds_8 : decode cX10_adds 8 = .ok (.iload_n 1, 1) := by decide +kernel
theorem dX10_adds_9 : decode cX10_adds 9 = .ok (.imul, 1) := by decide +kernel
theorem dX10_adds_10 : decode cX10_adds 10 = .ok (.iadd, 1) := by decide +kernel
theorem dX10_adds_11 : decode cX10_adds 11 = .ok (.iload_n 2, 1) := by decide +kernel
theorem dX10_adds_12 : decode cX10_adds 12 = .ok (.iadd, 1) := by decide +kernel
theorem dX10_adds_13 : decode cX10_adds 13 = .ok (.dup2, 1) := by decide +kernel
theorem dX10_adds_14 : decode cX10_adds 14 = .ok (.iaload, 1) := by decide +kernel
theorem dX10_adds_15 : decode cX10_adds 15 = .ok (.iload_n 3, 1) := by decide +kernel
theorem dX10_adds_16 : decode cX10_adds 16 = .ok (.iadd, 1) := by decide +kernel
theorem dX10_adds_17 : decode cX10_adds 17 = .ok (.iastore, 1) := by decide +kernel
theorem dX10_adds_18 : decode cX10_adds 18 = .ok (.return_, 1) := by decide +kernel
theorem dX10_is_0 : decode cX10_is 0 = .ok (.aload_n 0, 1) := by decide +kernel
theorem dX10_is_1 : decode cX10_is 1 = .ok (.getfield 13, 3) := by decide +kernel
theorem dX10_is_4 : decode cX10_is 4 = .ok (.bipush 58, 2) := by decide +kernel
theorem dX10_is_6 : decode cX10_is 6 = .ok (.bipush 10, 2) := by decide +kernel
theorem dX10_is_8 : decode cX10_is 8 = .ok (.iload_n 1, 1) := by decide +kernel
theorem dX10_is_9 : decode cX10_is 9 = .ok (.imul, 1) := by decide +kernel
theorem dX10_is_10 : decode cX10_is 10 = .ok (.iadd, 1) := by decide +kernel
theorem dX10_is_11 : decode cX10_is 11 = .ok (.iload_n 2, 1) := by decide +kernel
theorem dX10_is_12 : decode cX10_is 12 = .ok (.iadd, 1) := by decide +kernel
theorem dX10_is_13 : decode cX10_is 13 = .ok (.iaload, 1) := by decide +kernel
theorem dX10_is_14 : decode cX10_is 14 = .ok (.ireturn, 1) := by decide +kernel
theorem dX10_puts_0 : decode cX10_puts 0 = .ok (.aload_n 0, 1) := by decide +kernel
theorem dX10_puts_1 : decode cX10_puts 1 = .ok (.getfield 13, 3) := by decide +kernel
theorem dX10_puts_4 : decode cX10_puts 4 = .ok (.bipush 58, 2) := by decide +kernel
theorem dX10_puts_6 : decode cX10_puts 6 = .ok (.bipush 10, 2) := by decide +kernel
theorem dX10_puts_8 : decode cX10_puts 8 = .ok (.iload_n 1, 1) := by decide +kernel
theorem dX10_puts_9 : decode cX10_puts 9 = .ok (.imul, 1) := by decide +kernel
theorem dX10_puts_10 : decode cX10_puts 10 = .ok (.iadd, 1) := by decide +kernel
theorem dX10_puts_11 : decode cX10_puts 11 = .ok (.iload_n 2, 1) := by decide +kernel
theorem dX10_puts_12 : decode cX10_puts 12 = .ok (.iadd, 1) := by decide +kernel
theorem dX10_puts_13 : decode cX10_puts 13 = .ok (.iload_n 3, 1) := by decide +kernel
theorem dX10_puts_14 : decode cX10_puts 14 = .ok (.iastore, 1) := by decide +kernel
theorem dX10_puts_15 : decode cX10_puts 15 = .ok (.return_, 1) := by decide +kernel
theorem dX10_slotOf_0 : decode cX10_slotOf 0 = .ok (.iconst 0, 1) := by decide +kernel
theorem dX10_slotOf_1 : decode cX10_slotOf 1 = .ok (.istore_n 2, 1) := by decide +kernel
theorem dX10_slotOf_2 : decode cX10_slotOf 2 = .ok (.iload_n 2, 1) := by decide +kernel
theorem dX10_slotOf_3 : decode cX10_slotOf 3 = .ok (.aload_n 0, 1) := by decide +kernel
theorem dX10_slotOf_4 : decode cX10_slotOf 4 = .ok (.getfield 13, 3) := by decide +kernel
theorem dX10_slotOf_7 : decode cX10_slotOf 7 = .ok (.iconst 2, 1) := by decide +kernel
theorem dX10_slotOf_8 : decode cX10_slotOf 8 = .ok (.iaload, 1) := by decide +kernel
theorem dX10_slotOf_9 : decode cX10_slotOf 9 = .ok (.if_icmp .ge 21, 3) := by decide +kernel
theorem dX10_slotOf_12 : decode cX10_slotOf 12 = .ok (.aload_n 0, 1) := by decide +kernel
theorem dX10_slotOf_13 : decode cX10_slotOf 13 = .ok (.iload_n 2, 1) := by decide +kernel
theorem dX10_slotOf_14 : decode cX10_slotOf 14 = .ok (.iconst 0, 1) := by decide +kernel
theorem dX10_slotOf_15 : decode cX10_slotOf 15 = .ok (.invokevirtual 58, 3) := by decide +kernel
theorem dX10_slotOf_18 : decode cX10_slotOf 18 = .ok (.iload_n 1, 1) := by decide +kernel
theorem dX10_slotOf_19 : decode cX10_slotOf 19 = .ok (.if_icmp .ne 5, 3) := by decide +kernel
theorem dX10_slotOf_22 : decode cX10_slotOf 22 = .ok (.iload_n 2, 1) := by decide +kernel
theorem dX10_slotOf_23 : decode cX10_slotOf 23 = .ok (.ireturn, 1) := by decide +kernel
theorem dX10_slotOf_24 : decode cX10_slotOf 24 = .ok (.iinc 2 1, 3) := by decide +kernel
theorem dX10_slotOf_27 : decode cX10_slotOf 27 = .ok (.goto (-25), 3) := by decide +kernel
theorem dX10_slotOf_30 : decode cX10_slotOf 30 = .ok (.iconst (-1), 1) := by decide +kernel
theorem dX10_slotOf_31 : decode cX10_slotOf 31 = .ok (.ireturn, 1) := by decide +kernel
theorem dX10_debtAt_0 : decode cX10_debtAt 0 = .ok (.aload_n 0, 1) := by decide +kernel
theorem dX10_debtAt_1 : decode cX10_debtAt 1 = .ok (.iload_n 1, 1) := by decide +kernel
theorem dX10_debtAt_2 : decode cX10_debtAt 2 = .ok (.iconst 2, 1) := by decide +kernel
theorem dX10_debtAt_3 : decode cX10_debtAt 3 = .ok (.invokevirtual 58, 3) := by decide +kernel
theorem dX10_debtAt_6 : decode cX10_debtAt 6 = .ok (.aload_n 0, 1) := by decide +kernel
theorem dX10_debtAt_7 : decode cX10_debtAt 7 = .ok (.iload_n 1, 1) := by decide +kernel
theorem dX10_debtAt_8 : decode cX10_debtAt 8 = .ok (.iconst 3, 1) := by decide +kernel
theorem dX10_debtAt_9 : decode cX10_debtAt 9 = .ok (.invokevirtual 58, 3) := by decide +kernel
theorem dX10_debtAt_12 : decode cX10_debtAt 12 = .ok (.iadd, 1) := by decide +kernel
theorem dX10_debtAt_13 : decode cX10_debtAt 13 = .ok (.ireturn, 1) := by decide +kernel
theorem dX10_valueAt_0 : decode cX10_valueAt 0 = .ok (.iconst 0, 1) := by decide +kernel
theorem dX10_valueAt_1 : decode cX10_valueAt 1 = .ok (.istore_n 2, 1) := by decide +kernel
theorem dX10_valueAt_2 : decode cX10_valueAt 2 = .ok (.iconst 0, 1) := by decide +kernel
theorem dX10_valueAt_3 : decode cX10_valueAt 3 = .ok (.istore_n 3, 1) := by decide +kernel
theorem dX10_valueAt_4 : decode cX10_valueAt 4 = .ok (.iload_n 3, 1) := by decide +kernel
theorem dX10_valueAt_5 : decode cX10_valueAt 5 = .ok (.iconst 4, 1) := by decide +kernel
theorem dX10_valueAt_6 : decode cX10_valueAt 6 = .ok (.if_icmp .ge 31, 3) := by decide +kernel
theorem dX10_valueAt_9 : decode cX10_valueAt 9 = .ok (.iload_n 2, 1) := by decide +kernel
theorem dX10_valueAt_10 : decode cX10_valueAt 10 = .ok (.aload_n 0, 1) := by decide +kernel
theorem dX10_valueAt_11 : decode cX10_valueAt 11 = .ok (.iload_n 1, 1) := by decide +kernel
theorem dX10_valueAt_12 : decode cX10_valueAt 12 = .ok (.bipush 6, 2) := by decide +kernel
theorem dX10_valueAt_14 : decode cX10_valueAt 14 = .ok (.iload_n 3, 1) := by decide +kernel
theorem dX10_valueAt_15 : decode cX10_valueAt 15 = .ok (.iadd, 1) := by decide +kernel
theorem dX10_valueAt_16 : decode cX10_valueAt 16 = .ok (.invokevirtual 58, 3) := by decide +kernel
theorem dX10_valueAt_19 : decode cX10_valueAt 19 = .ok (.aload_n 0, 1) := by decide +kernel
theorem dX10_valueAt_20 : decode cX10_valueAt 20 = .ok (.getfield 13, 3) := by decide +kernel
theorem dX10_valueAt_23 : decode cX10_valueAt 23 = .ok (.bipush 10, 2) := by decide +kernel
theorem dX10_valueAt_25 : decode cX10_valueAt 25 = .ok (.iload_n 3, 1) := by decide +kernel
theorem dX10_valueAt_26 : decode cX10_valueAt 26 = .ok (.iadd, 1) := by decide +kernel
theorem dX10_valueAt_27 : decode cX10_valueAt 27 = .ok (.iaload, 1) := by decide +kernel
theorem dX10_valueAt_28 : decode cX10_valueAt 28 = .ok (.imul, 1) := by decide +kernel
theorem dX10_valueAt_29 : decode cX10_valueAt 29 = .ok (.iadd, 1) := by decide +kernel
theorem dX10_valueAt_30 : decode cX10_valueAt 30 = .ok (.istore_n 2, 1) := by decide +kernel
theorem dX10_valueAt_31 : decode cX10_valueAt 31 = .ok (.iinc 3 1, 3) := by decide +kernel
theorem dX10_valueAt_34 : decode cX10_valueAt 34 = .ok (.goto (-30), 3) := by decide +kernel
theorem dX10_valueAt_37 : decode cX10_valueAt 37 = .ok (.iload_n 2, 1) := by decide +kernel
theorem dX10_valueAt_38 : decode cX10_valueAt 38 = .ok (.ireturn, 1) := by decide +kernel
theorem dX10_isCoveredAt_0 : decode cX10_isCoveredAt 0 = .ok (.iconst 3, 1) := by decide +kernel
theorem dX10_isCoveredAt_1 : decode cX10_isCoveredAt 1 = .ok (.aload_n 0, 1) := by decide +kernel
theorem dX10_isCoveredAt_2 : decode cX10_isCoveredAt 2 = .ok (.iload_n 1, 1) := by decide +kernel
theorem dX10_isCoveredAt_3 : decode cX10_isCoveredAt 3 = .ok (.invokevirtual 62, 3) := by decide +kernel
theorem dX10_isCoveredAt_6 : decode cX10_isCoveredAt 6 = .ok (.imul, 1) := by decide +kernel
theorem dX10_isCoveredAt_7 : decode cX10_isCoveredAt 7 = .ok (.iconst 2, 1) := by decide +kernel
theorem dX10_isCoveredAt_8 : decode cX10_isCoveredAt 8 = .ok (.aload_n 0, 1) := by decide +kernel
theorem dX10_isCoveredAt_9 : decode cX10_isCoveredAt 9 = .ok (.iload_n 1, 1) := by decide +kernel
theorem dX10_isCoveredAt_10 : decode cX10_isCoveredAt 10 = .ok (.invokevirtual 66, 3) := by decide +kernel
theorem dX10_isCoveredAt_13 : decode cX10_isCoveredAt 13 = .ok (.imul, 1) := by decide +kernel
theorem dX10_isCoveredAt_14 : decode cX10_isCoveredAt 14 = .ok (.if_icmp .gt 7, 3) := by decide +kernel
theorem dX10_isCoveredAt_17 : decode cX10_isCoveredAt 17 = .ok (.iconst 1, 1) := by decide +kernel
theorem dX10_isCoveredAt_18 : decode cX10_isCoveredAt 18 = .ok (.goto 4, 3) := by decide +kernel
theorem dX10_isCoveredAt_21 : decode cX10_isCoveredAt 21 = .ok (.iconst 0, 1) := by decide +kernel
theorem dX10_isCoveredAt_22 : decode cX10_isCoveredAt 22 = .ok (.ireturn, 1) := by decide +kernel
theorem dX10_loansWith_0 : decode cX10_loansWith 0 = .ok (.iconst 0, 1) := by decide +kernel
theorem dX10_loansWith_1 : decode cX10_loansWith 1 = .ok (.istore_n 2, 1) := by decide +kernel
theorem dX10_loansWith_2 : decode cX10_loansWith 2 = .ok (.iconst 0, 1) := by decide +kernel
theorem dX10_loansWith_3 : decode cX10_loansWith 3 = .ok (.istore_n 3, 1) := by decide +kernel
theorem dX10_loansWith_4 : decode cX10_loansWith 4 = .ok (.iload_n 3, 1) := by decide +kernel
theorem dX10_loansWith_5 : decode cX10_loansWith 5 = .ok (.aload_n 0, 1) := by decide +kernel
theorem dX10_loansWith_6 : decode cX10_loansWith 6 = .ok (.getfield 13, 3) := by decide +kernel
theorem dX10_loansWith_9 : decode cX10_loansWith 9 = .ok (.iconst 2, 1) := by decide +kernel
theorem dX10_loansWith_10 : decode cX10_loansWith 10 = .ok (.iaload, 1) := by decide +kernel
theorem dX10_loansWith_11 : decode cX10_loansWith 11 = .ok (.if_icmp .ge 27, 3) := by decide +kernel
theorem dX10_loansWith_14 : decode cX10_loansWith 14 = .ok (.iload_n 2, 1) := by decide +kernel
theorem dX10_loansWith_15 : decode cX10_loansWith 15 = .ok (.aload_n 0, 1) := by decide +kernel
theorem dX10_loansWith_16 : decode cX10_loansWith 16 = .ok (.iload_n 3, 1) := by decide +kernel
theorem dX10_loansWith_17 : decode cX10_loansWith 17 = .ok (.iconst 1, 1) := by decide +kernel
theorem dX10_loansWith_18 : decode cX10_loansWith 18 = .ok (.invokevirtual 58, 3) := by decide +kernel
theorem dX10_loansWith_21 : decode cX10_loansWith 21 = .ok (.iload_n 1, 1) := by decide +kernel
theorem dX10_loansWith_22 : decode cX10_loansWith 22 = .ok (.if_icmp .ne 7, 3) := by decide +kernel
theorem dX10_loansWith_25 : decode cX10_loansWith 25 = .ok (.iconst 1, 1) := by decide +kernel
theorem dX10_loansWith_26 : decode cX10_loansWith 26 = .ok (.goto 4, 3) := by decide +kernel
theorem dX10_loansWith_29 : decode cX10_loansWith 29 = .ok (.iconst 0, 1) := by decide +kernel
theorem dX10_loansWith_30 : decode cX10_loansWith 30 = .ok (.iadd, 1) := by decide +kernel
theorem dX10_loansWith_31 : decode cX10_loansWith 31 = .ok (.istore_n 2, 1) := by decide +kernel
theorem dX10_loansWith_32 : decode cX10_loansWith 32 = .ok (.iinc 3 1, 3) := by decide +kernel
theorem dX10_loansWith_35 : decode cX10_loansWith 35 = .ok (.goto (-31), 3) := by decide +kernel
theorem dX10_loansWith_38 : decode cX10_loansWith 38 = .ok (.iload_n 2, 1) := by decide +kernel
theorem dX10_loansWith_39 : decode cX10_loansWith 39 = .ok (.ireturn, 1) := by decide +kernel
theorem dX10_goes_0 : decode cX10_goes 0 = .ok (.aload_n 0, 1) := by decide +kernel
theorem dX10_goes_1 : decode cX10_goes 1 = .ok (.getfield 13, 3) := by decide +kernel
theorem dX10_goes_4 : decode cX10_goes 4 = .ok (.iconst 2, 1) := by decide +kernel
theorem dX10_goes_5 : decode cX10_goes 5 = .ok (.dup2, 1) := by decide +kernel
theorem dX10_goes_6 : decode cX10_goes 6 = .ok (.iaload, 1) := by decide +kernel
theorem dX10_goes_7 : decode cX10_goes 7 = .ok (.iconst 1, 1) := by decide +kernel
theorem dX10_goes_8 : decode cX10_goes 8 = .ok (.isub, 1) := by decide +kernel
theorem dX10_goes_9 : decode cX10_goes 9 = .ok (.iastore, 1) := by decide +kernel
theorem dX10_goes_10 : decode cX10_goes 10 = .ok (.bipush 58, 2) := by decide +kernel
theorem dX10_goes_12 : decode cX10_goes 12 = .ok (.bipush 10, 2) := by decide +kernel
theorem dX10_goes_14 : decode cX10_goes 14 = .ok (.aload_n 0, 1) := by decide +kernel
theorem dX10_goes_15 : decode cX10_goes 15 = .ok (.getfield 13, 3) := by decide +kernel
theorem dX10_goes_18 : decode cX10_goes 18 = .ok (.iconst 2, 1) := by decide +kernel
theorem dX10_goes_19 : decode cX10_goes 19 = .ok (.iaload, 1) := by decide +kernel
theorem dX10_goes_20 : decode cX10_goes 20 = .ok (.imul, 1) := by decide +kernel
theorem dX10_goes_21 : decode cX10_goes 21 = .ok (.iadd, 1) := by decide +kernel
theorem dX10_goes_22 : decode cX10_goes 22 = .ok (.istore_n 2, 1) := by decide +kernel
theorem dX10_goes_23 : decode cX10_goes 23 = .ok (.bipush 58, 2) := by decide +kernel
theorem dX10_goes_25 : decode cX10_goes 25 = .ok (.bipush 10, 2) := by decide +kernel
theorem dX10_goes_27 : decode cX10_goes 27 = .ok (.iload_n 1, 1) := by decide +kernel
theorem dX10_goes_28 : decode cX10_goes 28 = .ok (.imul, 1) := by decide +kernel
theorem dX10_goes_29 : decode cX10_goes 29 = .ok (.iadd, 1) := by decide +kernel
theorem dX10_goes_30 : decode cX10_goes 30 = .ok (.istore_n 3, 1) := by decide +kernel
theorem dX10_goes_31 : decode cX10_goes 31 = .ok (.iload_n 3, 1) := by decide +kernel
theorem dX10_goes_32 : decode cX10_goes 32 = .ok (.iload_n 2, 1) := by decide +kernel
theorem dX10_goes_33 : decode cX10_goes 33 = .ok (.if_icmp .ge 24, 3) := by decide +kernel
theorem dX10_goes_36 : decode cX10_goes 36 = .ok (.aload_n 0, 1) := by decide +kernel
theorem dX10_goes_37 : decode cX10_goes 37 = .ok (.getfield 13, 3) := by decide +kernel
theorem dX10_goes_40 : decode cX10_goes 40 = .ok (.iload_n 3, 1) := by decide +kernel
theorem dX10_goes_41 : decode cX10_goes 41 = .ok (.aload_n 0, 1) := by decide +kernel
theorem dX10_goes_42 : decode cX10_goes 42 = .ok (.getfield 13, 3) := by decide +kernel
theorem dX10_goes_45 : decode cX10_goes 45 = .ok (.iload_n 3, 1) := by decide +kernel
theorem dX10_goes_46 : decode cX10_goes 46 = .ok (.bipush 10, 2) := by decide +kernel
theorem dX10_goes_48 : decode cX10_goes 48 = .ok (.iadd, 1) := by decide +kernel
theorem dX10_goes_49 : decode cX10_goes 49 = .ok (.iaload, 1) := by decide +kernel
theorem dX10_goes_50 : decode cX10_goes 50 = .ok (.iastore, 1) := by decide +kernel
theorem dX10_goes_51 : decode cX10_goes 51 = .ok (.iinc 3 1, 3) := by decide +kernel
theorem dX10_goes_54 : decode cX10_goes 54 = .ok (.goto (-23), 3) := by decide +kernel
theorem dX10_goes_57 : decode cX10_goes 57 = .ok (.iconst 0, 1) := by decide +kernel
theorem dX10_goes_58 : decode cX10_goes 58 = .ok (.istore_n 3, 1) := by decide +kernel
theorem dX10_goes_59 : decode cX10_goes 59 = .ok (.iload_n 3, 1) := by decide +kernel
theorem dX10_goes_60 : decode cX10_goes 60 = .ok (.bipush 10, 2) := by decide +kernel
theorem dX10_goes_62 : decode cX10_goes 62 = .ok (.if_icmp .ge 18, 3) := by decide +kernel
theorem dX10_goes_65 : decode cX10_goes 65 = .ok (.aload_n 0, 1) := by decide +kernel
theorem dX10_goes_66 : decode cX10_goes 66 = .ok (.getfield 13, 3) := by decide +kernel
theorem dX10_goes_69 : decode cX10_goes 69 = .ok (.iload_n 2, 1) := by decide +kernel
theorem dX10_goes_70 : decode cX10_goes 70 = .ok (.iload_n 3, 1) := by decide +kernel
theorem dX10_goes_71 : decode cX10_goes 71 = .ok (.iadd, 1) := by decide +kernel
theorem dX10_goes_72 : decode cX10_goes 72 = .ok (.iconst 0, 1) := by decide +kernel
theorem dX10_goes_73 : decode cX10_goes 73 = .ok (.iastore, 1) := by decide +kernel
theorem dX10_goes_74 : decode cX10_goes 74 = .ok (.iinc 3 1, 3) := by decide +kernel
theorem dX10_goes_77 : decode cX10_goes 77 = .ok (.goto (-18), 3) := by decide +kernel
theorem dX10_goes_80 : decode cX10_goes 80 = .ok (.return_, 1) := by decide +kernel
theorem dX10_givesBack_0 : decode cX10_givesBack 0 = .ok (.iconst 0, 1) := by decide +kernel
theorem dX10_givesBack_1 : decode cX10_givesBack 1 = .ok (.istore_n 2, 1) := by decide +kernel
theorem dX10_givesBack_2 : decode cX10_givesBack 2 = .ok (.iload_n 2, 1) := by decide +kernel
theorem dX10_givesBack_3 : decode cX10_givesBack 3 = .ok (.iconst 4, 1) := by decide +kernel
theorem dX10_givesBack_4 : decode cX10_givesBack 4 = .ok (.if_icmp .ge 41, 3) := by decide +kernel
theorem dX10_givesBack_7 : decode cX10_givesBack 7 = .ok (.aload_n 0, 1) := by decide +kernel
theorem dX10_givesBack_8 : decode cX10_givesBack 8 = .ok (.aload_n 0, 1) := by decide +kernel
theorem dX10_givesBack_9 : decode cX10_givesBack 9 = .ok (.iload_n 1, 1) := by decide +kernel
theorem dX10_givesBack_10 : decode cX10_givesBack 10 = .ok (.iconst 1, 1) := by decide +kernel
theorem dX10_givesBack_11 : decode cX10_givesBack 11 = .ok (.invokevirtual 58, 3) := by decide +kernel
theorem dX10_givesBack_14 : decode cX10_givesBack 14 = .ok (.iconst 2, 1) := by decide +kernel
theorem dX10_givesBack_15 : decode cX10_givesBack 15 = .ok (.iload_n 2, 1) := by decide +kernel
theorem dX10_givesBack_16 : decode cX10_givesBack 16 = .ok (.iadd, 1) := by decide +kernel
theorem dX10_givesBack_17 : decode cX10_givesBack 17 = .ok (.aload_n 0, 1) := by decide +kernel
theorem dX10_givesBack_18 : decode cX10_givesBack 18 = .ok (.iload_n 1, 1) := by decide +kernel
theorem dX10_givesBack_19 : decode cX10_givesBack 19 = .ok (.bipush 6, 2) := by decide +kernel
theorem dX10_givesBack_21 : decode cX10_givesBack 21 = .ok (.iload_n 2, 1) := by decide +kernel
theorem dX10_givesBack_22 : decode cX10_givesBack 22 = .ok (.iadd, 1) := by decide +kernel
theorem dX10_givesBack_23 : decode cX10_givesBack 23 = .ok (.invokevirtual 58, 3) := by decide +kernel
theorem dX10_givesBack_26 : decode cX10_givesBack 26 = .ok (.invokevirtual 69, 3) := by decide +kernel
theorem dX10_givesBack_29 : decode cX10_givesBack 29 = .ok (.aload_n 0, 1) := by decide +kernel
theorem dX10_givesBack_30 : decode cX10_givesBack 30 = .ok (.iload_n 1, 1) := by decide +kernel
theorem dX10_givesBack_31 : decode cX10_givesBack 31 = .ok (.bipush 6, 2) := by decide +kernel
theorem dX10_givesBack_33 : decode cX10_givesBack 33 = .ok (.iload_n 2, 1) := by decide +kernel
theorem dX10_givesBack_34 : decode cX10_givesBack 34 = .ok (.iadd, 1) := by decide +kernel
theorem dX10_givesBack_35 : decode cX10_givesBack 35 = .ok (.iconst 0, 1) := by decide +kernel
theorem dX10_givesBack_36 : decode cX10_givesBack 36 = .ok (.invokevirtual 73, 3) := by decide +kernel
theorem dX10_givesBack_39 : decode cX10_givesBack 39 = .ok (.iinc 2 1, 3) := by decide +kernel
theorem dX10_givesBack_42 : decode cX10_givesBack 42 = .ok (.goto (-40), 3) := by decide +kernel
theorem dX10_givesBack_45 : decode cX10_givesBack 45 = .ok (.return_, 1) := by decide +kernel
theorem dX10_notBorrower_0 : decode cX10_notBorrower 0 = .ok (.iload_n 1, 1) := by decide +kernel
theorem dX10_notBorrower_1 : decode cX10_notBorrower 1 = .ok (.iconst 0, 1) := by decide +kernel
theorem dX10_notBorrower_2 : decode cX10_notBorrower 2 = .ok (.sipush 500, 3) := by decide +kernel
theorem dX10_notBorrower_5 : decode cX10_notBorrower 5 = .ok (.invokestatic 54, 3) := by decide +kernel
theorem dX10_notBorrower_8 : decode cX10_notBorrower 8 = .ok (.ifCond .ne 5, 3) := by decide +kernel
theorem dX10_notBorrower_11 : decode cX10_notBorrower 11 = .ok (.iconst 1, 1) := by decide +kernel
theorem dX10_notBorrower_12 : decode cX10_notBorrower 12 = .ok (.ireturn, 1) := by decide +kernel
theorem dX10_notBorrower_13 : decode cX10_notBorrower 13 = .ok (.aload_n 0, 1) := by decide +kernel
theorem dX10_notBorrower_14 : decode cX10_notBorrower 14 = .ok (.getfield 13, 3) := by decide +kernel
theorem dX10_notBorrower_17 : decode cX10_notBorrower 17 = .ok (.iconst 1, 1) := by decide +kernel
theorem dX10_notBorrower_18 : decode cX10_notBorrower 18 = .ok (.iaload, 1) := by decide +kernel
theorem dX10_notBorrower_19 : decode cX10_notBorrower 19 = .ok (.bipush 6, 2) := by decide +kernel
theorem dX10_notBorrower_21 : decode cX10_notBorrower 21 = .ok (.if_icmp .ne 7, 3) := by decide +kernel
theorem dX10_notBorrower_24 : decode cX10_notBorrower 24 = .ok (.iconst 2, 1) := by decide +kernel
theorem dX10_notBorrower_25 : decode cX10_notBorrower 25 = .ok (.goto 4, 3) := by decide +kernel
theorem dX10_notBorrower_28 : decode cX10_notBorrower 28 = .ok (.iconst 0, 1) := by decide +kernel
theorem dX10_notBorrower_29 : decode cX10_notBorrower 29 = .ok (.ireturn, 1) := by decide +kernel
theorem dX10_addsBorrower_0 : decode cX10_addsBorrower 0 = .ok (.aload_n 0, 1) := by decide +kernel
theorem dX10_addsBorrower_1 : decode cX10_addsBorrower 1 = .ok (.getfield 13, 3) := by decide +kernel
theorem dX10_addsBorrower_4 : decode cX10_addsBorrower 4 = .ok (.iconst 1, 1) := by decide +kernel
theorem dX10_addsBorrower_5 : decode cX10_addsBorrower 5 = .ok (.iaload, 1) := by decide +kernel
theorem dX10_addsBorrower_6 : decode cX10_addsBorrower 6 = .ok (.istore_n 2, 1) := by decide +kernel
theorem dX10_addsBorrower_7 : decode cX10_addsBorrower 7 = .ok (.aload_n 0, 1) := by decide +kernel
theorem dX10_addsBorrower_8 : decode cX10_addsBorrower 8 = .ok (.getfield 13, 3) := by decide +kernel
theorem dX10_addsBorrower_11 : decode cX10_addsBorrower 11 = .ok (.iconst 1, 1) := by decide +kernel
theorem dX10_addsBorrower_12 : decode cX10_addsBorrower 12 = .ok (.dup2, 1) := by decide +kernel
theorem dX10_addsBorrower_13 : decode cX10_addsBorrower 13 = .ok (.iaload, 1) := by decide +kernel
theorem dX10_addsBorrower_14 : decode cX10_addsBorrower 14 = .ok (.iconst 1, 1) := by decide +kernel
theorem dX10_addsBorrower_15 : decode cX10_addsBorrower 15 = .ok (.iadd, 1) := by decide +kernel
theorem dX10_addsBorrower_16 : decode cX10_addsBorrower 16 = .ok (.iastore, 1) := by decide +kernel
theorem dX10_addsBorrower_17 : decode cX10_addsBorrower 17 = .ok (.iconst 0, 1) := by decide +kernel
theorem dX10_addsBorrower_18 : decode cX10_addsBorrower 18 = .ok (.istore_n 3, 1) := by decide +kernel
theorem dX10_addsBorrower_19 : decode cX10_addsBorrower 19 = .ok (.iload_n 3, 1) := by decide +kernel
theorem dX10_addsBorrower_20 : decode cX10_addsBorrower 20 = .ok (.bipush 6, 2) := by decide +kernel
theorem dX10_addsBorrower_22 : decode cX10_addsBorrower 22 = .ok (.if_icmp .ge 24, 3) := by decide +kernel
theorem dX10_addsBorrower_25 : decode cX10_addsBorrower 25 = .ok (.aload_n 0, 1) := by decide +kernel
theorem dX10_addsBorrower_26 : decode cX10_addsBorrower 26 = .ok (.getfield 13, 3) := by decide +kernel
theorem dX10_addsBorrower_29 : decode cX10_addsBorrower 29 = .ok (.bipush 22, 2) := by decide +kernel
theorem dX10_addsBorrower_31 : decode cX10_addsBorrower 31 = .ok (.bipush 6, 2) := by decide +kernel
theorem dX10_addsBorrower_33 : decode cX10_addsBorrower 33 = .ok (.iload_n 2, 1) := by decide +kernel
theorem dX10_addsBorrower_34 : decode cX10_addsBorrower 34 = .ok (.imul, 1) := by decide +kernel
theorem dX10_addsBorrower_35 : decode cX10_addsBorrower 35 = .ok (.iadd, 1) := by decide +kernel
theorem dX10_addsBorrower_36 : decode cX10_addsBorrower 36 = .ok (.iload_n 3, 1) := by decide +kernel
theorem dX10_addsBorrower_37 : decode cX10_addsBorrower 37 = .ok (.iadd, 1) := by decide +kernel
theorem dX10_addsBorrower_38 : decode cX10_addsBorrower 38 = .ok (.iconst 0, 1) := by decide +kernel
theorem dX10_addsBorrower_39 : decode cX10_addsBorrower 39 = .ok (.iastore, 1) := by decide +kernel
theorem dX10_addsBorrower_40 : decode cX10_addsBorrower 40 = .ok (.iinc 3 1, 3) := by decide +kernel
theorem dX10_addsBorrower_43 : decode cX10_addsBorrower 43 = .ok (.goto (-24), 3) := by decide +kernel
theorem dX10_addsBorrower_46 : decode cX10_addsBorrower 46 = .ok (.aload_n 0, 1) := by decide +kernel
theorem dX10_addsBorrower_47 : decode cX10_addsBorrower 47 = .ok (.iload_n 2, 1) := by decide +kernel
theorem dX10_addsBorrower_48 : decode cX10_addsBorrower 48 = .ok (.iconst 0, 1) := by decide +kernel
theorem dX10_addsBorrower_49 : decode cX10_addsBorrower 49 = .ok (.iload_n 1, 1) := by decide +kernel
theorem dX10_addsBorrower_50 : decode cX10_addsBorrower 50 = .ok (.invokevirtual 69, 3) := by decide +kernel
theorem dX10_addsBorrower_53 : decode cX10_addsBorrower 53 = .ok (.aload_n 0, 1) := by decide +kernel
theorem dX10_addsBorrower_54 : decode cX10_addsBorrower 54 = .ok (.getfield 13, 3) := by decide +kernel
theorem dX10_addsBorrower_57 : decode cX10_addsBorrower 57 = .ok (.bipush 9, 2) := by decide +kernel
theorem dX10_addsBorrower_59 : decode cX10_addsBorrower 59 = .ok (.dup2, 1) := by decide +kernel
theorem dX10_addsBorrower_60 : decode cX10_addsBorrower 60 = .ok (.iaload, 1) := by decide +kernel
theorem dX10_addsBorrower_61 : decode cX10_addsBorrower 61 = .ok (.iload_n 1, 1) := by decide +kernel
theorem dX10_addsBorrower_62 : decode cX10_addsBorrower 62 = .ok (.iadd, 1) := by decide +kernel
theorem dX10_addsBorrower_63 : decode cX10_addsBorrower 63 = .ok (.iastore, 1) := by decide +kernel
theorem dX10_addsBorrower_64 : decode cX10_addsBorrower 64 = .ok (.iload_n 2, 1) := by decide +kernel
theorem dX10_addsBorrower_65 : decode cX10_addsBorrower 65 = .ok (.ireturn, 1) := by decide +kernel
theorem dX10_addBorrower_0 : decode cX10_addBorrower 0 = .ok (.aload_n 0, 1) := by decide +kernel
theorem dX10_addBorrower_1 : decode cX10_addBorrower 1 = .ok (.iconst 0, 1) := by decide +kernel
theorem dX10_addBorrower_2 : decode cX10_addBorrower 2 = .ok (.putfield 1, 3) := by decide +kernel
theorem dX10_addBorrower_5 : decode cX10_addBorrower 5 = .ok (.aload_n 0, 1) := by decide +kernel
theorem dX10_addBorrower_6 : decode cX10_addBorrower 6 = .ok (.iload_n 1, 1) := by decide +kernel
theorem dX10_addBorrower_7 : decode cX10_addBorrower 7 = .ok (.invokevirtual 76, 3) := by decide +kernel
theorem dX10_addBorrower_10 : decode cX10_addBorrower 10 = .ok (.istore_n 2, 1) := by decide +kernel
theorem dX10_addBorrower_11 : decode cX10_addBorrower 11 = .ok (.iload_n 2, 1) := by decide +kernel
theorem dX10_addBorrower_12 : decode cX10_addBorrower 12 = .ok (.ifCond .eq 9, 3) := by decide +kernel
theorem dX10_addBorrower_15 : decode cX10_addBorrower 15 = .ok (.aload_n 0, 1) := by decide +kernel
theorem dX10_addBorrower_16 : decode cX10_addBorrower 16 = .ok (.iload_n 2, 1) := by decide +kernel
theorem dX10_addBorrower_17 : decode cX10_addBorrower 17 = .ok (.invokevirtual 79, 3) := by decide +kernel
theorem dX10_addBorrower_20 : decode cX10_addBorrower 20 = .ok (.ireturn, 1) := by decide +kernel
theorem dX10_addBorrower_21 : decode cX10_addBorrower 21 = .ok (.aload_n 0, 1) := by decide +kernel
theorem dX10_addBorrower_22 : decode cX10_addBorrower 22 = .ok (.invokevirtual 82, 3) := by decide +kernel
theorem dX10_addBorrower_25 : decode cX10_addBorrower 25 = .ok (.aload_n 0, 1) := by decide +kernel
theorem dX10_addBorrower_26 : decode cX10_addBorrower 26 = .ok (.iload_n 1, 1) := by decide +kernel
theorem dX10_addBorrower_27 : decode cX10_addBorrower 27 = .ok (.invokevirtual 85, 3) := by decide +kernel
theorem dX10_addBorrower_30 : decode cX10_addBorrower 30 = .ok (.ireturn, 1) := by decide +kernel
theorem dX10_notBring_0 : decode cX10_notBring 0 = .ok (.aload_n 0, 1) := by decide +kernel
theorem dX10_notBring_1 : decode cX10_notBring 1 = .ok (.iload_n 1, 1) := by decide +kernel
theorem dX10_notBring_2 : decode cX10_notBring 2 = .ok (.invokevirtual 88, 3) := by decide +kernel
theorem dX10_notBring_5 : decode cX10_notBring 5 = .ok (.ifCond .eq 10, 3) := by decide +kernel
theorem dX10_notBring_8 : decode cX10_notBring 8 = .ok (.iload_n 2, 1) := by decide +kernel
theorem dX10_notBring_9 : decode cX10_notBring 9 = .ok (.invokestatic 92, 3) := by decide +kernel
theorem dX10_notBring_12 : decode cX10_notBring 12 = .ok (.ifCond .ne 5, 3) := by decide +kernel
theorem dX10_notBring_15 : decode cX10_notBring 15 = .ok (.iconst 1, 1) := by decide +kernel
theorem dX10_notBring_16 : decode cX10_notBring 16 = .ok (.ireturn, 1) := by decide +kernel
theorem dX10_notBring_17 : decode cX10_notBring 17 = .ok (.iload_n 3, 1) := by decide +kernel
theorem dX10_notBring_18 : decode cX10_notBring 18 = .ok (.iconst 1, 1) := by decide +kernel
theorem dX10_notBring_19 : decode cX10_notBring 19 = .ok (.bipush 99, 2) := by decide +kernel
theorem dX10_notBring_21 : decode cX10_notBring 21 = .ok (.invokestatic 54, 3) := by decide +kernel
theorem dX10_notBring_24 : decode cX10_notBring 24 = .ok (.ifCond .ne 5, 3) := by decide +kernel
theorem dX10_notBring_27 : decode cX10_notBring 27 = .ok (.iconst 2, 1) := by decide +kernel
theorem dX10_notBring_28 : decode cX10_notBring 28 = .ok (.ireturn, 1) := by decide +kernel
theorem dX10_notBring_29 : decode cX10_notBring 29 = .ok (.aload_n 0, 1) := by decide +kernel
theorem dX10_notBring_30 : decode cX10_notBring 30 = .ok (.iload_n 1, 1) := by decide +kernel
theorem dX10_notBring_31 : decode cX10_notBring 31 = .ok (.iconst 2, 1) := by decide +kernel
theorem dX10_notBring_32 : decode cX10_notBring 32 = .ok (.iload_n 2, 1) := by decide +kernel
theorem dX10_notBring_33 : decode cX10_notBring 33 = .ok (.iadd, 1) := by decide +kernel
theorem dX10_notBring_34 : decode cX10_notBring 34 = .ok (.invokevirtual 95, 3) := by decide +kernel
theorem dX10_notBring_37 : decode cX10_notBring 37 = .ok (.iload_n 3, 1) := by decide +kernel
theorem dX10_notBring_38 : decode cX10_notBring 38 = .ok (.iadd, 1) := by decide +kernel
theorem dX10_notBring_39 : decode cX10_notBring 39 = .ok (.sipush 999, 3) := by decide +kernel
theorem dX10_notBring_42 : decode cX10_notBring 42 = .ok (.if_icmp .le 7, 3) := by decide +kernel
theorem dX10_notBring_45 : decode cX10_notBring 45 = .ok (.iconst 3, 1) := by decide +kernel
theorem dX10_notBring_46 : decode cX10_notBring 46 = .ok (.goto 4, 3) := by decide +kernel
theorem dX10_notBring_49 : decode cX10_notBring 49 = .ok (.iconst 0, 1) := by decide +kernel
theorem dX10_notBring_50 : decode cX10_notBring 50 = .ok (.ireturn, 1) := by decide +kernel
theorem dX10_brings_0 : decode cX10_brings 0 = .ok (.aload_n 0, 1) := by decide +kernel
theorem dX10_brings_1 : decode cX10_brings 1 = .ok (.iload_n 1, 1) := by decide +kernel
theorem dX10_brings_2 : decode cX10_brings 2 = .ok (.iconst 2, 1) := by decide +kernel
theorem dX10_brings_3 : decode cX10_brings 3 = .ok (.iload_n 2, 1) := by decide +kernel
theorem dX10_brings_4 : decode cX10_brings 4 = .ok (.iadd, 1) := by decide +kernel
theorem dX10_brings_5 : decode cX10_brings 5 = .ok (.iload_n 3, 1) := by decide +kernel
theorem dX10_brings_6 : decode cX10_brings 6 = .ok (.invokevirtual 69, 3) := by decide +kernel
theorem dX10_brings_9 : decode cX10_brings 9 = .ok (.aload_n 0, 1) := by decide +kernel
theorem dX10_brings_10 : decode cX10_brings 10 = .ok (.getfield 13, 3) := by decide +kernel
theorem dX10_brings_13 : decode cX10_brings 13 = .ok (.bipush 18, 2) := by decide +kernel
theorem dX10_brings_15 : decode cX10_brings 15 = .ok (.iload_n 2, 1) := by decide +kernel
theorem dX10_brings_16 : decode cX10_brings 16 = .ok (.iadd, 1) := by decide +kernel
theorem dX10_brings_17 : decode cX10_brings 17 = .ok (.dup2, 1) := by decide +kernel
theorem dX10_brings_18 : decode cX10_brings 18 = .ok (.iaload, 1) := by decide +kernel
theorem dX10_brings_19 : decode cX10_brings 19 = .ok (.iload_n 3, 1) := by decide +kernel
theorem dX10_brings_20 : decode cX10_brings 20 = .ok (.iadd, 1) := by decide +kernel
theorem dX10_brings_21 : decode cX10_brings 21 = .ok (.iastore, 1) := by decide +kernel
theorem dX10_brings_22 : decode cX10_brings 22 = .ok (.aload_n 0, 1) := by decide +kernel
theorem dX10_brings_23 : decode cX10_brings 23 = .ok (.iload_n 1, 1) := by decide +kernel
theorem dX10_brings_24 : decode cX10_brings 24 = .ok (.iconst 2, 1) := by decide +kernel
theorem dX10_brings_25 : decode cX10_brings 25 = .ok (.iload_n 2, 1) := by decide +kernel
theorem dX10_brings_26 : decode cX10_brings 26 = .ok (.iadd, 1) := by decide +kernel
theorem dX10_brings_27 : decode cX10_brings 27 = .ok (.invokevirtual 95, 3) := by decide +kernel
theorem dX10_brings_30 : decode cX10_brings 30 = .ok (.ireturn, 1) := by decide +kernel
theorem dX10_bring_0 : decode cX10_bring 0 = .ok (.aload_n 0, 1) := by decide +kernel
theorem dX10_bring_1 : decode cX10_bring 1 = .ok (.iconst 0, 1) := by decide +kernel
theorem dX10_bring_2 : decode cX10_bring 2 = .ok (.putfield 1, 3) := by decide +kernel
theorem dX10_bring_5 : decode cX10_bring 5 = .ok (.aload_n 0, 1) := by decide +kernel
theorem dX10_bring_6 : decode cX10_bring 6 = .ok (.iload_n 1, 1) := by decide +kernel
theorem dX10_bring_7 : decode cX10_bring 7 = .ok (.iload_n 2, 1) := by decide +kernel
theorem dX10_bring_8 : decode cX10_bring 8 = .ok (.iload_n 3, 1) := by decide +kernel
theorem dX10_bring_9 : decode cX10_bring 9 = .ok (.invokevirtual 98, 3) := by decide +kernel
theorem dX10_bring_12 : decode cX10_bring 12 = .ok (.istore 4, 2) := by decide +kernel
theorem dX10_bring_14 : decode cX10_bring 14 = .ok (.iload 4, 2) := by decide +kernel
theorem dX10_bring_16 : decode cX10_bring 16 = .ok (.ifCond .eq 10, 3) := by decide +kernel
theorem dX10_bring_19 : decode cX10_bring 19 = .ok (.aload_n 0, 1) := by decide +kernel
theorem dX10_bring_20 : decode cX10_bring 20 = .ok (.iload 4, 2) := by decide +kernel
theorem dX10_bring_22 : decode cX10_bring 22 = .ok (.invokevirtual 79, 3) := by decide +kernel
theorem dX10_bring_25 : decode cX10_bring 25 = .ok (.ireturn, 1) := by decide +kernel
theorem dX10_bring_26 : decode cX10_bring 26 = .ok (.aload_n 0, 1) := by decide +kernel
theorem dX10_bring_27 : decode cX10_bring 27 = .ok (.invokevirtual 82, 3) := by decide +kernel
theorem dX10_bring_30 : decode cX10_bring 30 = .ok (.aload_n 0, 1) := by decide +kernel
theorem dX10_bring_31 : decode cX10_bring 31 = .ok (.iload_n 1, 1) := by decide +kernel
theorem dX10_bring_32 : decode cX10_bring 32 = .ok (.iload_n 2, 1) := by decide +kernel
theorem dX10_bring_33 : decode cX10_bring 33 = .ok (.iload_n 3, 1) := by decide +kernel
theorem dX10_bring_34 : decode cX10_bring 34 = .ok (.invokevirtual 102, 3) := by decide +kernel
theorem dX10_bring_37 : decode cX10_bring 37 = .ok (.ireturn, 1) := by decide +kernel
theorem dX10_notPrice_0 : decode cX10_notPrice 0 = .ok (.iload_n 0, 1) := by decide +kernel
theorem dX10_notPrice_1 : decode cX10_notPrice 1 = .ok (.invokestatic 92, 3) := by decide +kernel
theorem dX10_notPrice_4 : decode cX10_notPrice 4 = .ok (.ifCond .ne 5, 3) := by decide +kernel
theorem dX10_notPrice_7 : decode cX10_notPrice 7 = .ok (.iconst 1, 1) := by decide +kernel
theorem dX10_notPrice_8 : decode cX10_notPrice 8 = .ok (.ireturn, 1) := by decide +kernel
theorem dX10_notPrice_9 : decode cX10_notPrice 9 = .ok (.iload_n 1, 1) := by decide +kernel
theorem dX10_notPrice_10 : decode cX10_notPrice 10 = .ok (.iconst 1, 1) := by decide +kernel
theorem dX10_notPrice_11 : decode cX10_notPrice 11 = .ok (.bipush 99, 2) := by decide +kernel
theorem dX10_notPrice_13 : decode cX10_notPrice 13 = .ok (.invokestatic 54, 3) := by decide +kernel
theorem dX10_notPrice_16 : decode cX10_notPrice 16 = .ok (.ifCond .eq 7, 3) := by decide +kernel
theorem dX10_notPrice_19 : decode cX10_notPrice 19 = .ok (.iconst 0, 1) := by decide +kernel
theorem dX10_notPrice_20 : decode cX10_notPrice 20 = .ok (.goto 4, 3) := by decide +kernel
theorem dX10_notPrice_23 : decode cX10_notPrice 23 = .ok (.iconst 2, 1) := by decide +kernel
theorem dX10_notPrice_24 : decode cX10_notPrice 24 = .ok (.ireturn, 1) := by decide +kernel
theorem dX10_setsPrice_0 : decode cX10_setsPrice 0 = .ok (.aload_n 0, 1) := by decide +kernel
theorem dX10_setsPrice_1 : decode cX10_setsPrice 1 = .ok (.getfield 13, 3) := by decide +kernel
theorem dX10_setsPrice_4 : decode cX10_setsPrice 4 = .ok (.bipush 10, 2) := by decide +kernel
theorem dX10_setsPrice_6 : decode cX10_setsPrice 6 = .ok (.iload_n 1, 1) := by decide +kernel
theorem dX10_setsPrice_7 : decode cX10_setsPrice 7 = .ok (.iadd, 1) := by decide +kernel
theorem dX10_setsPrice_8 : decode cX10_setsPrice 8 = .ok (.iaload, 1) := by decide +kernel
theorem dX10_setsPrice_9 : decode cX10_setsPrice 9 = .ok (.istore_n 3, 1) := by decide +kernel
theorem dX10_setsPrice_10 : decode cX10_setsPrice 10 = .ok (.aload_n 0, 1) := by decide +kernel
theorem dX10_setsPrice_11 : decode cX10_setsPrice 11 = .ok (.getfield 13, 3) := by decide +kernel
theorem dX10_setsPrice_14 : decode cX10_setsPrice 14 = .ok (.bipush 10, 2) := by decide +kernel
theorem dX10_setsPrice_16 : decode cX10_setsPrice 16 = .ok (.iload_n 1, 1) := by decide +kernel
theorem dX10_setsPrice_17 : decode cX10_setsPrice 17 = .ok (.iadd, 1) := by decide +kernel
theorem dX10_setsPrice_18 : decode cX10_setsPrice 18 = .ok (.iload_n 2, 1) := by decide +kernel
theorem dX10_setsPrice_19 : decode cX10_setsPrice 19 = .ok (.iastore, 1) := by decide +kernel
theorem dX10_setsPrice_20 : decode cX10_setsPrice 20 = .ok (.iload_n 3, 1) := by decide +kernel
theorem dX10_setsPrice_21 : decode cX10_setsPrice 21 = .ok (.ireturn, 1) := by decide +kernel
theorem dX10_setPrice_0 : decode cX10_setPrice 0 = .ok (.aload_n 0, 1) := by decide +kernel
theorem dX10_setPrice_1 : decode cX10_setPrice 1 = .ok (.iconst 0, 1) := by decide +kernel
theorem dX10_setPrice_2 : decode cX10_setPrice 2 = .ok (.putfield 1, 3) := by decide +kernel
theorem dX10_setPrice_5 : decode cX10_setPrice 5 = .ok (.iload_n 1, 1) := by decide +kernel
theorem dX10_setPrice_6 : decode cX10_setPrice 6 = .ok (.iload_n 2, 1) := by decide +kernel
theorem dX10_setPrice_7 : decode cX10_setPrice 7 = .ok (.invokestatic 105, 3) := by decide +kernel
theorem dX10_setPrice_10 : decode cX10_setPrice 10 = .ok (.istore_n 3, 1) := by decide +kernel
theorem dX10_setPrice_11 : decode cX10_setPrice 11 = .ok (.iload_n 3, 1) := by decide +kernel
theorem dX10_setPrice_12 : decode cX10_setPrice 12 = .ok (.ifCond .eq 9, 3) := by decide +kernel
theorem dX10_setPrice_15 : decode cX10_setPrice 15 = .ok (.aload_n 0, 1) := by decide +kernel
theorem dX10_setPrice_16 : decode cX10_setPrice 16 = .ok (.iload_n 3, 1) := by decide +kernel
theorem dX10_setPrice_17 : decode cX10_setPrice 17 = .ok (.invokevirtual 79, 3) := by decide +kernel
theorem dX10_setPrice_20 : decode cX10_setPrice 20 = .ok (.ireturn, 1) := by decide +kernel
theorem dX10_setPrice_21 : decode cX10_setPrice 21 = .ok (.aload_n 0, 1) := by decide +kernel
theorem dX10_setPrice_22 : decode cX10_setPrice 22 = .ok (.invokevirtual 82, 3) := by decide +kernel
theorem dX10_setPrice_25 : decode cX10_setPrice 25 = .ok (.aload_n 0, 1) := by decide +kernel
theorem dX10_setPrice_26 : decode cX10_setPrice 26 = .ok (.iload_n 1, 1) := by decide +kernel
theorem dX10_setPrice_27 : decode cX10_setPrice 27 = .ok (.iload_n 2, 1) := by decide +kernel
theorem dX10_setPrice_28 : decode cX10_setPrice 28 = .ok (.invokevirtual 108, 3) := by decide +kernel
theorem dX10_setPrice_31 : decode cX10_setPrice 31 = .ok (.ireturn, 1) := by decide +kernel
theorem dX10_notLend_0 : decode cX10_notLend 0 = .ok (.aload_n 0, 1) := by decide +kernel
theorem dX10_notLend_1 : decode cX10_notLend 1 = .ok (.iload_n 1, 1) := by decide +kernel
theorem dX10_notLend_2 : decode cX10_notLend 2 = .ok (.invokevirtual 88, 3) := by decide +kernel
theorem dX10_notLend_5 : decode cX10_notLend 5 = .ok (.ifCond .eq 10, 3) := by decide +kernel
theorem dX10_notLend_8 : decode cX10_notLend 8 = .ok (.iload_n 2, 1) := by decide +kernel
theorem dX10_notLend_9 : decode cX10_notLend 9 = .ok (.invokestatic 92, 3) := by decide +kernel
theorem dX10_notLend_12 : decode cX10_notLend 12 = .ok (.ifCond .ne 5, 3) := by decide +kernel
theorem dX10_notLend_15 : decode cX10_notLend 15 = .ok (.iconst 1, 1) := by decide +kernel
theorem dX10_notLend_16 : decode cX10_notLend 16 = .ok (.ireturn, 1) := by decide +kernel
theorem dX10_notLend_17 : decode cX10_notLend 17 = .ok (.iload_n 3, 1) := by decide +kernel
theorem dX10_notLend_18 : decode cX10_notLend 18 = .ok (.iconst 1, 1) := by decide +kernel
theorem dX10_notLend_19 : decode cX10_notLend 19 = .ok (.bipush 99, 2) := by decide +kernel
theorem dX10_notLend_21 : decode cX10_notLend 21 = .ok (.invokestatic 54, 3) := by decide +kernel
theorem dX10_notLend_24 : decode cX10_notLend 24 = .ok (.ifCond .eq 26, 3) := by decide +kernel
theorem dX10_notLend_27 : decode cX10_notLend 27 = .ok (.iload 4, 2) := by decide +kernel
theorem dX10_notLend_29 : decode cX10_notLend 29 = .ok (.iconst 1, 1) := by decide +kernel
theorem dX10_notLend_30 : decode cX10_notLend 30 = .ok (.sipush 500, 3) := by decide +kernel
theorem dX10_notLend_33 : decode cX10_notLend 33 = .ok (.invokestatic 54, 3) := by decide +kernel
theorem dX10_notLend_36 : decode cX10_notLend 36 = .ok (.ifCond .eq 14, 3) := by decide +kernel
theorem dX10_notLend_39 : decode cX10_notLend 39 = .ok (.iload 5, 2) := by decide +kernel
theorem dX10_notLend_41 : decode cX10_notLend 41 = .ok (.iconst 1, 1) := by decide +kernel
theorem dX10_notLend_42 : decode cX10_notLend 42 = .ok (.bipush 60, 2) := by decide +kernel
theorem dX10_notLend_44 : decode cX10_notLend 44 = .ok (.invokestatic 54, 3) := by decide +kernel
theorem dX10_notLend_47 : decode cX10_notLend 47 = .ok (.ifCond .ne 5, 3) := by decide +kernel
theorem dX10_notLend_50 : decode cX10_notLend 50 = .ok (.iconst 2, 1) := by decide +kernel
theorem dX10_notLend_51 : decode cX10_notLend 51 = .ok (.ireturn, 1) := by decide +kernel
theorem dX10_notLend_52 : decode cX10_notLend 52 = .ok (.aload_n 0, 1) := by decide +kernel
theorem dX10_notLend_53 : decode cX10_notLend 53 = .ok (.getfield 13, 3) := by decide +kernel
theorem dX10_notLend_56 : decode cX10_notLend 56 = .ok (.iconst 2, 1) := by decide +kernel
theorem dX10_notLend_57 : decode cX10_notLend 57 = .ok (.iaload, 1) := by decide +kernel
theorem dX10_notLend_58 : decode cX10_notLend 58 = .ok (.bipush 10, 2) := by decide +kernel
theorem dX10_notLend_60 : decode cX10_notLend 60 = .ok (.if_icmp .eq 25, 3) := by decide +kernel
theorem dX10_notLend_63 : decode cX10_notLend 63 = .ok (.aload_n 0, 1) := by decide +kernel
theorem dX10_notLend_64 : decode cX10_notLend 64 = .ok (.iload_n 1, 1) := by decide +kernel
theorem dX10_notLend_65 : decode cX10_notLend 65 = .ok (.iconst 1, 1) := by decide +kernel
theorem dX10_notLend_66 : decode cX10_notLend 66 = .ok (.invokevirtual 95, 3) := by decide +kernel
theorem dX10_notLend_69 : decode cX10_notLend 69 = .ok (.iconst 2, 1) := by decide +kernel
theorem dX10_notLend_70 : decode cX10_notLend 70 = .ok (.if_icmp .ge 15, 3) := by decide +kernel
theorem dX10_notLend_73 : decode cX10_notLend 73 = .ok (.aload_n 0, 1) := by decide +kernel
theorem dX10_notLend_74 : decode cX10_notLend 74 = .ok (.iload_n 1, 1) := by decide +kernel
theorem dX10_notLend_75 : decode cX10_notLend 75 = .ok (.iconst 2, 1) := by decide +kernel
theorem dX10_notLend_76 : decode cX10_notLend 76 = .ok (.iload_n 2, 1) := by decide +kernel
theorem dX10_notLend_77 : decode cX10_notLend 77 = .ok (.iadd, 1) := by decide +kernel
theorem dX10_notLend_78 : decode cX10_notLend 78 = .ok (.invokevirtual 95, 3) := by decide +kernel
theorem dX10_notLend_81 : decode cX10_notLend 81 = .ok (.iload_n 3, 1) := by decide +kernel
theorem dX10_notLend_82 : decode cX10_notLend 82 = .ok (.if_icmp .ge 5, 3) := by decide +kernel
theorem dX10_notLend_85 : decode cX10_notLend 85 = .ok (.iconst 3, 1) := by decide +kernel
theorem dX10_notLend_86 : decode cX10_notLend 86 = .ok (.ireturn, 1) := by decide +kernel
theorem dX10_notLend_87 : decode cX10_notLend 87 = .ok (.aload_n 0, 1) := by decide +kernel
theorem dX10_notLend_88 : decode cX10_notLend 88 = .ok (.getfield 13, 3) := by decide +kernel
theorem dX10_notLend_91 : decode cX10_notLend 91 = .ok (.iconst 4, 1) := by decide +kernel
theorem dX10_notLend_92 : decode cX10_notLend 92 = .ok (.iaload, 1) := by decide +kernel
theorem dX10_notLend_93 : decode cX10_notLend 93 = .ok (.iload 4, 2) := by decide +kernel
theorem dX10_notLend_95 : decode cX10_notLend 95 = .ok (.if_icmp .lt 23, 3) := by decide +kernel
theorem dX10_notLend_98 : decode cX10_notLend 98 = .ok (.iconst 3, 1) := by decide +kernel
theorem dX10_notLend_99 : decode cX10_notLend 99 = .ok (.iload 4, 2) := by decide +kernel
theorem dX10_notLend_101 : decode cX10_notLend 101 = .ok (.imul, 1) := by decide +kernel
theorem dX10_notLend_102 : decode cX10_notLend 102 = .ok (.iconst 2, 1) := by decide +kernel
theorem dX10_notLend_103 : decode cX10_notLend 103 = .ok (.iload_n 3, 1) := by decide +kernel
theorem dX10_notLend_104 : decode cX10_notLend 104 = .ok (.imul, 1) := by decide +kernel
theorem dX10_notLend_105 : decode cX10_notLend 105 = .ok (.aload_n 0, 1) := by decide +kernel
theorem dX10_notLend_106 : decode cX10_notLend 106 = .ok (.getfield 13, 3) := by decide +kernel
theorem dX10_notLend_109 : decode cX10_notLend 109 = .ok (.bipush 10, 2) := by decide +kernel
theorem dX10_notLend_111 : decode cX10_notLend 111 = .ok (.iload_n 2, 1) := by decide +kernel
theorem dX10_notLend_112 : decode cX10_notLend 112 = .ok (.iadd, 1) := by decide +kernel
theorem dX10_notLend_113 : decode cX10_notLend 113 = .ok (.iaload, 1) := by decide +kernel
theorem dX10_notLend_114 : decode cX10_notLend 114 = .ok (.imul, 1) := by decide +kernel
theorem dX10_notLend_115 : decode cX10_notLend 115 = .ok (.if_icmp .le 7, 3) := by decide +kernel
theorem dX10_notLend_118 : decode cX10_notLend 118 = .ok (.iconst 3, 1) := by decide +kernel
theorem dX10_notLend_119 : decode cX10_notLend 119 = .ok (.goto 4, 3) := by decide +kernel
theorem dX10_notLend_122 : decode cX10_notLend 122 = .ok (.iconst 0, 1) := by decide +kernel
theorem dX10_notLend_123 : decode cX10_notLend 123 = .ok (.ireturn, 1) := by decide +kernel
theorem dX10_lends_0 : decode cX10_lends 0 = .ok (.aload_n 0, 1) := by decide +kernel
theorem dX10_lends_1 : decode cX10_lends 1 = .ok (.getfield 13, 3) := by decide +kernel
theorem dX10_lends_4 : decode cX10_lends 4 = .ok (.iconst 2, 1) := by decide +kernel
theorem dX10_lends_5 : decode cX10_lends 5 = .ok (.iaload, 1) := by decide +kernel
theorem dX10_lends_6 : decode cX10_lends 6 = .ok (.istore 6, 2) := by decide +kernel
theorem dX10_lends_8 : decode cX10_lends 8 = .ok (.aload_n 0, 1) := by decide +kernel
theorem dX10_lends_9 : decode cX10_lends 9 = .ok (.iload 6, 2) := by decide +kernel
theorem dX10_lends_11 : decode cX10_lends 11 = .ok (.iconst 0, 1) := by decide +kernel
theorem dX10_lends_12 : decode cX10_lends 12 = .ok (.aload_n 0, 1) := by decide +kernel
theorem dX10_lends_13 : decode cX10_lends 13 = .ok (.getfield 13, 3) := by decide +kernel
theorem dX10_lends_16 : decode cX10_lends 16 = .ok (.iconst 3, 1) := by decide +kernel
theorem dX10_lends_17 : decode cX10_lends 17 = .ok (.iaload, 1) := by decide +kernel
theorem dX10_lends_18 : decode cX10_lends 18 = .ok (.invokevirtual 73, 3) := by decide +kernel
theorem dX10_lends_21 : decode cX10_lends 21 = .ok (.aload_n 0, 1) := by decide +kernel
theorem dX10_lends_22 : decode cX10_lends 22 = .ok (.iload 6, 2) := by decide +kernel
theorem dX10_lends_24 : decode cX10_lends 24 = .ok (.iconst 1, 1) := by decide +kernel
theorem dX10_lends_25 : decode cX10_lends 25 = .ok (.iload_n 1, 1) := by decide +kernel
theorem dX10_lends_26 : decode cX10_lends 26 = .ok (.invokevirtual 73, 3) := by decide +kernel
theorem dX10_lends_29 : decode cX10_lends 29 = .ok (.aload_n 0, 1) := by decide +kernel
theorem dX10_lends_30 : decode cX10_lends 30 = .ok (.iload 6, 2) := by decide +kernel
theorem dX10_lends_32 : decode cX10_lends 32 = .ok (.iconst 2, 1) := by decide +kernel
theorem dX10_lends_33 : decode cX10_lends 33 = .ok (.iload 4, 2) := by decide +kernel
theorem dX10_lends_35 : decode cX10_lends 35 = .ok (.invokevirtual 73, 3) := by decide +kernel
theorem dX10_lends_38 : decode cX10_lends 38 = .ok (.aload_n 0, 1) := by decide +kernel
theorem dX10_lends_39 : decode cX10_lends 39 = .ok (.iload 6, 2) := by decide +kernel
theorem dX10_lends_41 : decode cX10_lends 41 = .ok (.iconst 3, 1) := by decide +kernel
theorem dX10_lends_42 : decode cX10_lends 42 = .ok (.iconst 0, 1) := by decide +kernel
theorem dX10_lends_43 : decode cX10_lends 43 = .ok (.invokevirtual 73, 3) := by decide +kernel
theorem dX10_lends_46 : decode cX10_lends 46 = .ok (.aload_n 0, 1) := by decide +kernel
theorem dX10_lends_47 : decode cX10_lends 47 = .ok (.iload 6, 2) := by decide +kernel
theorem dX10_lends_49 : decode cX10_lends 49 = .ok (.iconst 4, 1) := by decide +kernel
theorem dX10_lends_50 : decode cX10_lends 50 = .ok (.bipush 10, 2) := by decide +kernel
theorem dX10_lends_52 : decode cX10_lends 52 = .ok (.iconst 5, 1) := by decide +kernel
theorem dX10_lends_53 : decode cX10_lends 53 = .ok (.aload_n 0, 1) := by decide +kernel
theorem dX10_lends_54 : decode cX10_lends 54 = .ok (.iload_n 1, 1) := by decide +kernel
theorem dX10_lends_55 : decode cX10_lends 55 = .ok (.invokevirtual 111, 3) := by decide +kernel
theorem dX10_lends_58 : decode cX10_lends 58 = .ok (.imul, 1) := by decide +kernel
theorem dX10_lends_59 : decode cX10_lends 59 = .ok (.iadd, 1) := by decide +kernel
theorem dX10_lends_60 : decode cX10_lends 60 = .ok (.invokevirtual 73, 3) := by decide +kernel
theorem dX10_lends_63 : decode cX10_lends 63 = .ok (.aload_n 0, 1) := by decide +kernel
theorem dX10_lends_64 : decode cX10_lends 64 = .ok (.iload 6, 2) := by decide +kernel
theorem dX10_lends_66 : decode cX10_lends 66 = .ok (.iconst 5, 1) := by decide +kernel
theorem dX10_lends_67 : decode cX10_lends 67 = .ok (.aload_n 0, 1) := by decide +kernel
theorem dX10_lends_68 : decode cX10_lends 68 = .ok (.getfield 13, 3) := by decide +kernel
theorem dX10_lends_71 : decode cX10_lends 71 = .ok (.iconst 0, 1) := by decide +kernel
theorem dX10_lends_72 : decode cX10_lends 72 = .ok (.iaload, 1) := by decide +kernel
theorem dX10_lends_73 : decode cX10_lends 73 = .ok (.iload 5, 2) := by decide +kernel
theorem dX10_lends_75 : decode cX10_lends 75 = .ok (.iadd, 1) := by decide +kernel
theorem dX10_lends_76 : decode cX10_lends 76 = .ok (.invokevirtual 73, 3) := by decide +kernel
theorem dX10_lends_79 : decode cX10_lends 79 = .ok (.iconst 0, 1) := by decide +kernel
theorem dX10_lends_80 : decode cX10_lends 80 = .ok (.istore 7, 2) := by decide +kernel
theorem dX10_lends_82 : decode cX10_lends 82 = .ok (.iload 7, 2) := by decide +kernel
theorem dX10_lends_84 : decode cX10_lends 84 = .ok (.iconst 4, 1) := by decide +kernel
theorem dX10_lends_85 : decode cX10_lends 85 = .ok (.if_icmp .ge 31, 3) := by decide +kernel
theorem dX10_lends_88 : decode cX10_lends 88 = .ok (.aload_n 0, 1) := by decide +kernel
theorem dX10_lends_89 : decode cX10_lends 89 = .ok (.iload 6, 2) := by decide +kernel
theorem dX10_lends_91 : decode cX10_lends 91 = .ok (.bipush 6, 2) := by decide +kernel
theorem dX10_lends_93 : decode cX10_lends 93 = .ok (.iload 7, 2) := by decide +kernel
theorem dX10_lends_95 : decode cX10_lends 95 = .ok (.iadd, 1) := by decide +kernel
theorem dX10_lends_96 : decode cX10_lends 96 = .ok (.iload 7, 2) := by decide +kernel
theorem dX10_lends_98 : decode cX10_lends 98 = .ok (.iload_n 2, 1) := by decide +kernel
theorem dX10_lends_99 : decode cX10_lends 99 = .ok (.if_icmp .ne 7, 3) := by decide +kernel
theorem dX10_lends_102 : decode cX10_lends 102 = .ok (.iload_n 3, 1) := by decide +kernel
theorem dX10_lends_103 : decode cX10_lends 103 = .ok (.goto 4, 3) := by decide +kernel
theorem dX10_lends_106 : decode cX10_lends 106 = .ok (.iconst 0, 1) := by decide +kernel
theorem dX10_lends_107 : decode cX10_lends 107 = .ok (.invokevirtual 73, 3) := by decide +kernel
theorem dX10_lends_110 : decode cX10_lends 110 = .ok (.iinc 7 1, 3) := by decide +kernel
theorem dX10_lends_113 : decode cX10_lends 113 = .ok (.goto (-31), 3) := by decide +kernel
theorem dX10_lends_116 : decode cX10_lends 116 = .ok (.aload_n 0, 1) := by decide +kernel
theorem dX10_lends_117 : decode cX10_lends 117 = .ok (.iload_n 1, 1) := by decide +kernel
theorem dX10_lends_118 : decode cX10_lends 118 = .ok (.iconst 2, 1) := by decide +kernel
theorem dX10_lends_119 : decode cX10_lends 119 = .ok (.iload_n 2, 1) := by decide +kernel
theorem dX10_lends_120 : decode cX10_lends 120 = .ok (.iadd, 1) := by decide +kernel
theorem dX10_lends_121 : decode cX10_lends 121 = .ok (.iload_n 3, 1) := by decide +kernel
theorem dX10_lends_122 : decode cX10_lends 122 = .ok (.ineg, 1) := by decide +kernel
theorem dX10_lends_123 : decode cX10_lends 123 = .ok (.invokevirtual 69, 3) := by decide +kernel
theorem dX10_lends_126 : decode cX10_lends 126 = .ok (.aload_n 0, 1) := by decide +kernel
theorem dX10_lends_127 : decode cX10_lends 127 = .ok (.iload_n 1, 1) := by decide +kernel
theorem dX10_lends_128 : decode cX10_lends 128 = .ok (.iconst 0, 1) := by decide +kernel
theorem dX10_lends_129 : decode cX10_lends 129 = .ok (.iload 4, 2) := by decide +kernel
theorem dX10_lends_131 : decode cX10_lends 131 = .ok (.invokevirtual 69, 3) := by decide +kernel
theorem dX10_lends_134 : decode cX10_lends 134 = .ok (.aload_n 0, 1) := by decide +kernel
theorem dX10_lends_135 : decode cX10_lends 135 = .ok (.getfield 13, 3) := by decide +kernel
theorem dX10_lends_138 : decode cX10_lends 138 = .ok (.iconst 4, 1) := by decide +kernel
theorem dX10_lends_139 : decode cX10_lends 139 = .ok (.dup2, 1) := by decide +kernel
theorem dX10_lends_140 : decode cX10_lends 140 = .ok (.iaload, 1) := by decide +kernel
theorem dX10_lends_141 : decode cX10_lends 141 = .ok (.iload 4, 2) := by decide +kernel
theorem dX10_lends_143 : decode cX10_lends 143 = .ok (.isub, 1) := by decide +kernel
theorem dX10_lends_144 : decode cX10_lends 144 = .ok (.iastore, 1) := by decide +kernel
theorem dX10_lends_145 : decode cX10_lends 145 = .ok (.aload_n 0, 1) := by decide +kernel
theorem dX10_lends_146 : decode cX10_lends 146 = .ok (.getfield 13, 3) := by decide +kernel
theorem dX10_lends_149 : decode cX10_lends 149 = .ok (.iconst 2, 1) := by decide +kernel
theorem dX10_lends_150 : decode cX10_lends 150 = .ok (.dup2, 1) := by decide +kernel
theorem dX10_lends_151 : decode cX10_lends 151 = .ok (.iaload, 1) := by decide +kernel
theorem dX10_lends_152 : decode cX10_lends 152 = .ok (.iconst 1, 1) := by decide +kernel
theorem dX10_lends_153 : decode cX10_lends 153 = .ok (.iadd, 1) := by decide +kernel
theorem dX10_lends_154 : decode cX10_lends 154 = .ok (.iastore, 1) := by decide +kernel
theorem dX10_lends_155 : decode cX10_lends 155 = .ok (.aload_n 0, 1) := by decide +kernel
theorem dX10_lends_156 : decode cX10_lends 156 = .ok (.getfield 13, 3) := by decide +kernel
theorem dX10_lends_159 : decode cX10_lends 159 = .ok (.iconst 3, 1) := by decide +kernel
theorem dX10_lends_160 : decode cX10_lends 160 = .ok (.dup2, 1) := by decide +kernel
theorem dX10_lends_161 : decode cX10_lends 161 = .ok (.iaload, 1) := by decide +kernel
theorem dX10_lends_162 : decode cX10_lends 162 = .ok (.iconst 1, 1) := by decide +kernel
theorem dX10_lends_163 : decode cX10_lends 163 = .ok (.iadd, 1) := by decide +kernel
theorem dX10_lends_164 : decode cX10_lends 164 = .ok (.iastore, 1) := by decide +kernel
theorem dX10_lends_165 : decode cX10_lends 165 = .ok (.aload_n 0, 1) := by decide +kernel
theorem dX10_lends_166 : decode cX10_lends 166 = .ok (.getfield 13, 3) := by decide +kernel
theorem dX10_lends_169 : decode cX10_lends 169 = .ok (.iconst 3, 1) := by decide +kernel
theorem dX10_lends_170 : decode cX10_lends 170 = .ok (.iaload, 1) := by decide +kernel
theorem dX10_lends_171 : decode cX10_lends 171 = .ok (.iconst 1, 1) := by decide +kernel
theorem dX10_lends_172 : decode cX10_lends 172 = .ok (.isub, 1) := by decide +kernel
theorem dX10_lends_173 : decode cX10_lends 173 = .ok (.ireturn, 1) := by decide +kernel
theorem dX10_lend_0 : decode cX10_lend 0 = .ok (.aload_n 0, 1) := by decide +kernel
theorem dX10_lend_1 : decode cX10_lend 1 = .ok (.iconst 0, 1) := by decide +kernel
theorem dX10_lend_2 : decode cX10_lend 2 = .ok (.putfield 1, 3) := by decide +kernel
theorem dX10_lend_5 : decode cX10_lend 5 = .ok (.aload_n 0, 1) := by decide +kernel
theorem dX10_lend_6 : decode cX10_lend 6 = .ok (.iload_n 1, 1) := by decide +kernel
theorem dX10_lend_7 : decode cX10_lend 7 = .ok (.iload_n 2, 1) := by decide +kernel
theorem dX10_lend_8 : decode cX10_lend 8 = .ok (.iload_n 3, 1) := by decide +kernel
theorem dX10_lend_9 : decode cX10_lend 9 = .ok (.iload 4, 2) := by decide +kernel
theorem dX10_lend_11 : decode cX10_lend 11 = .ok (.iload 5, 2) := by decide +kernel
theorem dX10_lend_13 : decode cX10_lend 13 = .ok (.invokevirtual 114, 3) := by decide +kernel
theorem dX10_lend_16 : decode cX10_lend 16 = .ok (.istore 6, 2) := by decide +kernel
theorem dX10_lend_18 : decode cX10_lend 18 = .ok (.iload 6, 2) := by decide +kernel
theorem dX10_lend_20 : decode cX10_lend 20 = .ok (.ifCond .eq 10, 3) := by decide +kernel
theorem dX10_lend_23 : decode cX10_lend 23 = .ok (.aload_n 0, 1) := by decide +kernel
theorem dX10_lend_24 : decode cX10_lend 24 = .ok (.iload 6, 2) := by decide +kernel
theorem dX10_lend_26 : decode cX10_lend 26 = .ok (.invokevirtual 79, 3) := by decide +kernel
theorem dX10_lend_29 : decode cX10_lend 29 = .ok (.ireturn, 1) := by decide +kernel
theorem dX10_lend_30 : decode cX10_lend 30 = .ok (.aload_n 0, 1) := by decide +kernel
theorem dX10_lend_31 : decode cX10_lend 31 = .ok (.invokevirtual 82, 3) := by decide +kernel
theorem dX10_lend_34 : decode cX10_lend 34 = .ok (.aload_n 0, 1) := by decide +kernel
theorem dX10_lend_35 : decode cX10_lend 35 = .ok (.iload_n 1, 1) := by decide +kernel
theorem dX10_lend_36 : decode cX10_lend 36 = .ok (.iload_n 2, 1) := by decide +kernel
theorem dX10_lend_37 : decode cX10_lend 37 = .ok (.iload_n 3, 1) := by decide +kernel
theorem dX10_lend_38 : decode cX10_lend 38 = .ok (.iload 4, 2) := by decide +kernel
theorem dX10_lend_40 : decode cX10_lend 40 = .ok (.iload 5, 2) := by decide +kernel
theorem dX10_lend_42 : decode cX10_lend 42 = .ok (.invokevirtual 118, 3) := by decide +kernel
theorem dX10_lend_45 : decode cX10_lend 45 = .ok (.ireturn, 1) := by decide +kernel
theorem dX10_notPledge_0 : decode cX10_notPledge 0 = .ok (.aload_n 0, 1) := by decide +kernel
theorem dX10_notPledge_1 : decode cX10_notPledge 1 = .ok (.iload_n 1, 1) := by decide +kernel
theorem dX10_notPledge_2 : decode cX10_notPledge 2 = .ok (.invokevirtual 121, 3) := by decide +kernel
theorem dX10_notPledge_5 : decode cX10_notPledge 5 = .ok (.istore 4, 2) := by decide +kernel
theorem dX10_notPledge_7 : decode cX10_notPledge 7 = .ok (.iload 4, 2) := by decide +kernel
theorem dX10_notPledge_9 : decode cX10_notPledge 9 = .ok (.ifCond .ge 5, 3) := by decide +kernel
theorem dX10_notPledge_12 : decode cX10_notPledge 12 = .ok (.iconst 1, 1) := by decide +kernel
theorem dX10_notPledge_13 : decode cX10_notPledge 13 = .ok (.ireturn, 1) := by decide +kernel
theorem dX10_notPledge_14 : decode cX10_notPledge 14 = .ok (.iload_n 2, 1) := by decide +kernel
theorem dX10_notPledge_15 : decode cX10_notPledge 15 = .ok (.invokestatic 92, 3) := by decide +kernel
theorem dX10_notPledge_18 : decode cX10_notPledge 18 = .ok (.ifCond .ne 5, 3) := by decide +kernel
theorem dX10_notPledge_21 : decode cX10_notPledge 21 = .ok (.iconst 2, 1) := by decide +kernel
theorem dX10_notPledge_22 : decode cX10_notPledge 22 = .ok (.ireturn, 1) := by decide +kernel
theorem dX10_notPledge_23 : decode cX10_notPledge 23 = .ok (.iload_n 3, 1) := by decide +kernel
theorem dX10_notPledge_24 : decode cX10_notPledge 24 = .ok (.iconst 1, 1) := by decide +kernel
theorem dX10_notPledge_25 : decode cX10_notPledge 25 = .ok (.bipush 99, 2) := by decide +kernel
theorem dX10_notPledge_27 : decode cX10_notPledge 27 = .ok (.invokestatic 54, 3) := by decide +kernel
theorem dX10_notPledge_30 : decode cX10_notPledge 30 = .ok (.ifCond .ne 5, 3) := by decide +kernel
theorem dX10_notPledge_33 : decode cX10_notPledge 33 = .ok (.iconst 3, 1) := by decide +kernel
theorem dX10_notPledge_34 : decode cX10_notPledge 34 = .ok (.ireturn, 1) := by decide +kernel
theorem dX10_notPledge_35 : decode cX10_notPledge 35 = .ok (.aload_n 0, 1) := by decide +kernel
theorem dX10_notPledge_36 : decode cX10_notPledge 36 = .ok (.aload_n 0, 1) := by decide +kernel
theorem dX10_notPledge_37 : decode cX10_notPledge 37 = .ok (.iload 4, 2) := by decide +kernel
theorem dX10_notPledge_39 : decode cX10_notPledge 39 = .ok (.iconst 1, 1) := by decide +kernel
theorem dX10_notPledge_40 : decode cX10_notPledge 40 = .ok (.invokevirtual 58, 3) := by decide +kernel
theorem dX10_notPledge_43 : decode cX10_notPledge 43 = .ok (.iconst 2, 1) := by decide +kernel
theorem dX10_notPledge_44 : decode cX10_notPledge 44 = .ok (.iload_n 2, 1) := by decide +kernel
theorem dX10_notPledge_45 : decode cX10_notPledge 45 = .ok (.iadd, 1) := by decide +kernel
theorem dX10_notPledge_46 : decode cX10_notPledge 46 = .ok (.invokevirtual 95, 3) := by decide +kernel
theorem dX10_notPledge_49 : decode cX10_notPledge 49 = .ok (.iload_n 3, 1) := by decide +kernel
theorem dX10_notPledge_50 : decode cX10_notPledge 50 = .ok (.if_icmp .ge 7, 3) := by decide +kernel
theorem dX10_notPledge_53 : decode cX10_notPledge 53 = .ok (.iconst 4, 1) := by decide +kernel
theorem dX10_notPledge_54 : decode cX10_notPledge 54 = .ok (.goto 4, 3) := by decide +kernel
theorem dX10_notPledge_57 : decode cX10_notPledge 57 = .ok (.iconst 0, 1) := by decide +kernel
theorem dX10_notPledge_58 : decode cX10_notPledge 58 = .ok (.ireturn, 1) := by decide +kernel
theorem dX10_pledges_0 : decode cX10_pledges 0 = .ok (.aload_n 0, 1) := by decide +kernel
theorem dX10_pledges_1 : decode cX10_pledges 1 = .ok (.iload_n 1, 1) := by decide +kernel
theorem dX10_pledges_2 : decode cX10_pledges 2 = .ok (.invokevirtual 121, 3) := by decide +kernel
theorem dX10_pledges_5 : decode cX10_pledges 5 = .ok (.istore 4, 2) := by decide +kernel
theorem dX10_pledges_7 : decode cX10_pledges 7 = .ok (.aload_n 0, 1) := by decide +kernel
theorem dX10_pledges_8 : decode cX10_pledges 8 = .ok (.aload_n 0, 1) := by decide +kernel
theorem dX10_pledges_9 : decode cX10_pledges 9 = .ok (.iload 4, 2) := by decide +kernel
theorem dX10_pledges_11 : decode cX10_pledges 11 = .ok (.iconst 1, 1) := by decide +kernel
theorem dX10_pledges_12 : decode cX10_pledges 12 = .ok (.invokevirtual 58, 3) := by decide +kernel
theorem dX10_pledges_15 : decode cX10_pledges 15 = .ok (.iconst 2, 1) := by decide +kernel
theorem dX10_pledges_16 : decode cX10_pledges 16 = .ok (.iload_n 2, 1) := by decide +kernel
theorem dX10_pledges_17 : decode cX10_pledges 17 = .ok (.iadd, 1) := by decide +kernel
theorem dX10_pledges_18 : decode cX10_pledges 18 = .ok (.iload_n 3, 1) := by decide +kernel
theorem dX10_pledges_19 : decode cX10_pledges 19 = .ok (.ineg, 1) := by decide +kernel
theorem dX10_pledges_20 : decode cX10_pledges 20 = .ok (.invokevirtual 69, 3) := by decide +kernel
theorem dX10_pledges_23 : decode cX10_pledges 23 = .ok (.aload_n 0, 1) := by decide +kernel
theorem dX10_pledges_24 : decode cX10_pledges 24 = .ok (.iload 4, 2) := by decide +kernel
theorem dX10_pledges_26 : decode cX10_pledges 26 = .ok (.bipush 6, 2) := by decide +kernel
theorem dX10_pledges_28 : decode cX10_pledges 28 = .ok (.iload_n 2, 1) := by decide +kernel
theorem dX10_pledges_29 : decode cX10_pledges 29 = .ok (.iadd, 1) := by decide +kernel
theorem dX10_pledges_30 : decode cX10_pledges 30 = .ok (.aload_n 0, 1) := by decide +kernel
theorem dX10_pledges_31 : decode cX10_pledges 31 = .ok (.iload 4, 2) := by decide +kernel
theorem dX10_pledges_33 : decode cX10_pledges 33 = .ok (.bipush 6, 2) := by decide +kernel
theorem dX10_pledges_35 : decode cX10_pledges 35 = .ok (.iload_n 2, 1) := by decide +kernel
theorem dX10_pledges_36 : decode cX10_pledges 36 = .ok (.iadd, 1) := by decide +kernel
theorem dX10_pledges_37 : decode cX10_pledges 37 = .ok (.invokevirtual 58, 3) := by decide +kernel
theorem dX10_pledges_40 : decode cX10_pledges 40 = .ok (.iload_n 3, 1) := by decide +kernel
theorem dX10_pledges_41 : decode cX10_pledges 41 = .ok (.iadd, 1) := by decide +kernel
theorem dX10_pledges_42 : decode cX10_pledges 42 = .ok (.invokevirtual 73, 3) := by decide +kernel
theorem dX10_pledges_45 : decode cX10_pledges 45 = .ok (.aload_n 0, 1) := by decide +kernel
theorem dX10_pledges_46 : decode cX10_pledges 46 = .ok (.iload 4, 2) := by decide +kernel
theorem dX10_pledges_48 : decode cX10_pledges 48 = .ok (.invokevirtual 66, 3) := by decide +kernel
theorem dX10_pledges_51 : decode cX10_pledges 51 = .ok (.ireturn, 1) := by decide +kernel
theorem dX10_pledge_0 : decode cX10_pledge 0 = .ok (.aload_n 0, 1) := by decide +kernel
theorem dX10_pledge_1 : decode cX10_pledge 1 = .ok (.iconst 0, 1) := by decide +kernel
theorem dX10_pledge_2 : decode cX10_pledge 2 = .ok (.putfield 1, 3) := by decide +kernel
theorem dX10_pledge_5 : decode cX10_pledge 5 = .ok (.aload_n 0, 1) := by decide +kernel
theorem dX10_pledge_6 : decode cX10_pledge 6 = .ok (.iload_n 1, 1) := by decide +kernel
theorem dX10_pledge_7 : decode cX10_pledge 7 = .ok (.iload_n 2, 1) := by decide +kernel
theorem dX10_pledge_8 : decode cX10_pledge 8 = .ok (.iload_n 3, 1) := by decide +kernel
theorem dX10_pledge_9 : decode cX10_pledge 9 = .ok (.invokevirtual 124, 3) := by decide +kernel
theorem dX10_pledge_12 : decode cX10_pledge 12 = .ok (.istore 4, 2) := by decide +kernel
theorem dX10_pledge_14 : decode cX10_pledge 14 = .ok (.iload 4, 2) := by decide +kernel
theorem dX10_pledge_16 : decode cX10_pledge 16 = .ok (.ifCond .eq 10, 3) := by decide +kernel
theorem dX10_pledge_19 : decode cX10_pledge 19 = .ok (.aload_n 0, 1) := by decide +kernel
theorem dX10_pledge_20 : decode cX10_pledge 20 = .ok (.iload 4, 2) := by decide +kernel
theorem dX10_pledge_22 : decode cX10_pledge 22 = .ok (.invokevirtual 79, 3) := by decide +kernel
theorem dX10_pledge_25 : decode cX10_pledge 25 = .ok (.ireturn, 1) := by decide +kernel
theorem dX10_pledge_26 : decode cX10_pledge 26 = .ok (.aload_n 0, 1) := by decide +kernel
theorem dX10_pledge_27 : decode cX10_pledge 27 = .ok (.invokevirtual 82, 3) := by decide +kernel
theorem dX10_pledge_30 : decode cX10_pledge 30 = .ok (.aload_n 0, 1) := by decide +kernel
theorem dX10_pledge_31 : decode cX10_pledge 31 = .ok (.iload_n 1, 1) := by decide +kernel
theorem dX10_pledge_32 : decode cX10_pledge 32 = .ok (.iload_n 2, 1) := by decide +kernel
theorem dX10_pledge_33 : decode cX10_pledge 33 = .ok (.iload_n 3, 1) := by decide +kernel
theorem dX10_pledge_34 : decode cX10_pledge 34 = .ok (.invokevirtual 127, 3) := by decide +kernel
theorem dX10_pledge_37 : decode cX10_pledge 37 = .ok (.ireturn, 1) := by decide +kernel
theorem dX10_notRelease_0 : decode cX10_notRelease 0 = .ok (.aload_n 0, 1) := by decide +kernel
theorem dX10_notRelease_1 : decode cX10_notRelease 1 = .ok (.iload_n 1, 1) := by decide +kernel
theorem dX10_notRelease_2 : decode cX10_notRelease 2 = .ok (.invokevirtual 121, 3) := by decide +kernel
theorem dX10_notRelease_5 : decode cX10_notRelease 5 = .ok (.istore 4, 2) := by decide +kernel
theorem dX10_notRelease_7 : decode cX10_notRelease 7 = .ok (.iload 4, 2) := by decide +kernel
theorem dX10_notRelease_9 : decode cX10_notRelease 9 = .ok (.ifCond .ge 5, 3) := by decide +kernel
theorem dX10_notRelease_12 : decode cX10_notRelease 12 = .ok (.iconst 1, 1) := by decide +kernel
theorem dX10_notRelease_13 : decode cX10_notRelease 13 = .ok (.ireturn, 1) := by decide +kernel
theorem dX10_notRelease_14 : decode cX10_notRelease 14 = .ok (.iload_n 2, 1) := by decide +kernel
theorem dX10_notRelease_15 : decode cX10_notRelease 15 = .ok (.invokestatic 92, 3) := by decide +kernel
theorem dX10_notRelease_18 : decode cX10_notRelease 18 = .ok (.ifCond .ne 5, 3) := by decide +kernel
theorem dX10_notRelease_21 : decode cX10_notRelease 21 = .ok (.iconst 2, 1) := by decide +kernel
theorem dX10_notRelease_22 : decode cX10_notRelease 22 = .ok (.ireturn, 1) := by decide +kernel
theorem dX10_notRelease_23 : decode cX10_notRelease 23 = .ok (.iload_n 3, 1) := by decide +kernel
theorem dX10_notRelease_24 : decode cX10_notRelease 24 = .ok (.iconst 1, 1) := by decide +kernel
theorem dX10_notRelease_25 : decode cX10_notRelease 25 = .ok (.bipush 99, 2) := by decide +kernel
theorem dX10_notRelease_27 : decode cX10_notRelease 27 = .ok (.invokestatic 54, 3) := by decide +kernel
theorem dX10_notRelease_30 : decode cX10_notRelease 30 = .ok (.ifCond .ne 5, 3) := by decide +kernel
theorem dX10_notRelease_33 : decode cX10_notRelease 33 = .ok (.iconst 3, 1) := by decide +kernel
theorem dX10_notRelease_34 : decode cX10_notRelease 34 = .ok (.ireturn, 1) := by decide +kernel
theorem dX10_notRelease_35 : decode cX10_notRelease 35 = .ok (.aload_n 0, 1) := by decide +kernel
theorem dX10_notRelease_36 : decode cX10_notRelease 36 = .ok (.iload 4, 2) := by decide +kernel
theorem dX10_notRelease_38 : decode cX10_notRelease 38 = .ok (.invokevirtual 66, 3) := by decide +kernel
theorem dX10_notRelease_41 : decode cX10_notRelease 41 = .ok (.iload_n 3, 1) := by decide +kernel
theorem dX10_notRelease_42 : decode cX10_notRelease 42 = .ok (.aload_n 0, 1) := by decide +kernel
theorem dX10_notRelease_43 : decode cX10_notRelease 43 = .ok (.getfield 13, 3) := by decide +kernel
theorem dX10_notRelease_46 : decode cX10_notRelease 46 = .ok (.bipush 10, 2) := by decide +kernel
theorem dX10_notRelease_48 : decode cX10_notRelease 48 = .ok (.iload_n 2, 1) := by decide +kernel
theorem dX10_notRelease_49 : decode cX10_notRelease 49 = .ok (.iadd, 1) := by decide +kernel
theorem dX10_notRelease_50 : decode cX10_notRelease 50 = .ok (.iaload, 1) := by decide +kernel
theorem dX10_notRelease_51 : decode cX10_notRelease 51 = .ok (.imul, 1) := by decide +kernel
theorem dX10_notRelease_52 : decode cX10_notRelease 52 = .ok (.isub, 1) := by decide +kernel
theorem dX10_notRelease_53 : decode cX10_notRelease 53 = .ok (.istore 5, 2) := by decide +kernel
theorem dX10_notRelease_55 : decode cX10_notRelease 55 = .ok (.aload_n 0, 1) := by decide +kernel
theorem dX10_notRelease_56 : decode cX10_notRelease 56 = .ok (.iload 4, 2) := by decide +kernel
theorem dX10_notRelease_58 : decode cX10_notRelease 58 = .ok (.bipush 6, 2) := by decide +kernel
theorem dX10_notRelease_60 : decode cX10_notRelease 60 = .ok (.iload_n 2, 1) := by decide +kernel
theorem dX10_notRelease_61 : decode cX10_notRelease 61 = .ok (.iadd, 1) := by decide +kernel
theorem dX10_notRelease_62 : decode cX10_notRelease 62 = .ok (.invokevirtual 58, 3) := by decide +kernel
theorem dX10_notRelease_65 : decode cX10_notRelease 65 = .ok (.iload_n 3, 1) := by decide +kernel
theorem dX10_notRelease_66 : decode cX10_notRelease 66 = .ok (.if_icmp .lt 18, 3) := by decide +kernel
theorem dX10_notRelease_69 : decode cX10_notRelease 69 = .ok (.iconst 3, 1) := by decide +kernel
theorem dX10_notRelease_70 : decode cX10_notRelease 70 = .ok (.aload_n 0, 1) := by decide +kernel
theorem dX10_notRelease_71 : decode cX10_notRelease 71 = .ok (.iload 4, 2) := by decide +kernel
theorem dX10_notRelease_73 : decode cX10_notRelease 73 = .ok (.invokevirtual 62, 3) := by decide +kernel
theorem dX10_notRelease_76 : decode cX10_notRelease 76 = .ok (.imul, 1) := by decide +kernel
theorem dX10_notRelease_77 : decode cX10_notRelease 77 = .ok (.iconst 2, 1) := by decide +kernel
theorem dX10_notRelease_78 : decode cX10_notRelease 78 = .ok (.iload 5, 2) := by decide +kernel
theorem dX10_notRelease_80 : decode cX10_notRelease 80 = .ok (.imul, 1) := by decide +kernel
theorem dX10_notRelease_81 : decode cX10_notRelease 81 = .ok (.if_icmp .le 7, 3) := by decide +kernel
theorem dX10_notRelease_84 : decode cX10_notRelease 84 = .ok (.iconst 4, 1) := by decide +kernel
theorem dX10_notRelease_85 : decode cX10_notRelease 85 = .ok (.goto 4, 3) := by decide +kernel
theorem dX10_notRelease_88 : decode cX10_notRelease 88 = .ok (.iconst 0, 1) := by decide +kernel
theorem dX10_notRelease_89 : decode cX10_notRelease 89 = .ok (.ireturn, 1) := by decide +kernel
theorem dX10_release_0 : decode cX10_release 0 = .ok (.aload_n 0, 1) := by decide +kernel
theorem dX10_release_1 : decode cX10_release 1 = .ok (.iconst 0, 1) := by decide +kernel
theorem dX10_release_2 : decode cX10_release 2 = .ok (.putfield 1, 3) := by decide +kernel
theorem dX10_release_5 : decode cX10_release 5 = .ok (.aload_n 0, 1) := by decide +kernel
theorem dX10_release_6 : decode cX10_release 6 = .ok (.iload_n 1, 1) := by decide +kernel
theorem dX10_release_7 : decode cX10_release 7 = .ok (.iload_n 2, 1) := by decide +kernel
theorem dX10_release_8 : decode cX10_release 8 = .ok (.iload_n 3, 1) := by decide +kernel
theorem dX10_release_9 : decode cX10_release 9 = .ok (.invokevirtual 130, 3) := by decide +kernel
theorem dX10_release_12 : decode cX10_release 12 = .ok (.istore 4, 2) := by decide +kernel
theorem dX10_release_14 : decode cX10_release 14 = .ok (.iload 4, 2) := by decide +kernel
theorem dX10_release_16 : decode cX10_release 16 = .ok (.ifCond .eq 10, 3) := by decide +kernel
theorem dX10_release_19 : decode cX10_release 19 = .ok (.aload_n 0, 1) := by decide +kernel
theorem dX10_release_20 : decode cX10_release 20 = .ok (.iload 4, 2) := by decide +kernel
theorem dX10_release_22 : decode cX10_release 22 = .ok (.invokevirtual 79, 3) := by decide +kernel
theorem dX10_release_25 : decode cX10_release 25 = .ok (.ireturn, 1) := by decide +kernel
theorem dX10_release_26 : decode cX10_release 26 = .ok (.aload_n 0, 1) := by decide +kernel
theorem dX10_release_27 : decode cX10_release 27 = .ok (.invokevirtual 82, 3) := by decide +kernel
theorem dX10_release_30 : decode cX10_release 30 = .ok (.aload_n 0, 1) := by decide +kernel
theorem dX10_release_31 : decode cX10_release 31 = .ok (.iload_n 1, 1) := by decide +kernel
theorem dX10_release_32 : decode cX10_release 32 = .ok (.iload_n 2, 1) := by decide +kernel
theorem dX10_release_33 : decode cX10_release 33 = .ok (.iload_n 3, 1) := by decide +kernel
theorem dX10_release_34 : decode cX10_release 34 = .ok (.ineg, 1) := by decide +kernel
theorem dX10_release_35 : decode cX10_release 35 = .ok (.invokevirtual 127, 3) := by decide +kernel
theorem dX10_release_38 : decode cX10_release 38 = .ok (.ireturn, 1) := by decide +kernel
theorem dX10_entry_0 : decode cX10_entry 0 = .ok (.aload_n 0, 1) := by decide +kernel
theorem dX10_entry_1 : decode cX10_entry 1 = .ok (.getfield 13, 3) := by decide +kernel
theorem dX10_entry_4 : decode cX10_entry 4 = .ok (.sipush 158, 3) := by decide +kernel
theorem dX10_entry_7 : decode cX10_entry 7 = .ok (.iconst 3, 1) := by decide +kernel
theorem dX10_entry_8 : decode cX10_entry 8 = .ok (.iload_n 1, 1) := by decide +kernel
theorem dX10_entry_9 : decode cX10_entry 9 = .ok (.imul, 1) := by decide +kernel
theorem dX10_entry_10 : decode cX10_entry 10 = .ok (.iadd, 1) := by decide +kernel
theorem dX10_entry_11 : decode cX10_entry 11 = .ok (.iload_n 2, 1) := by decide +kernel
theorem dX10_entry_12 : decode cX10_entry 12 = .ok (.iadd, 1) := by decide +kernel
theorem dX10_entry_13 : decode cX10_entry 13 = .ok (.iaload, 1) := by decide +kernel
theorem dX10_entry_14 : decode cX10_entry 14 = .ok (.ireturn, 1) := by decide +kernel
theorem dX10_entryFor_0 : decode cX10_entryFor 0 = .ok (.iconst 0, 1) := by decide +kernel
theorem dX10_entryFor_1 : decode cX10_entryFor 1 = .ok (.istore_n 3, 1) := by decide +kernel
theorem dX10_entryFor_2 : decode cX10_entryFor 2 = .ok (.iload_n 3, 1) := by decide +kernel
theorem dX10_entryFor_3 : decode cX10_entryFor 3 = .ok (.aload_n 0, 1) := by decide +kernel
theorem dX10_entryFor_4 : decode cX10_entryFor 4 = .ok (.getfield 13, 3) := by decide +kernel
theorem dX10_entryFor_7 : decode cX10_entryFor 7 = .ok (.iconst 5, 1) := by decide +kernel
theorem dX10_entryFor_8 : decode cX10_entryFor 8 = .ok (.iaload, 1) := by decide +kernel
theorem dX10_entryFor_9 : decode cX10_entryFor 9 = .ok (.if_icmp .ge 31, 3) := by decide +kernel
theorem dX10_entryFor_12 : decode cX10_entryFor 12 = .ok (.aload_n 0, 1) := by decide +kernel
theorem dX10_entryFor_13 : decode cX10_entryFor 13 = .ok (.iload_n 3, 1) := by decide +kernel
theorem dX10_entryFor_14 : decode cX10_entryFor 14 = .ok (.iconst 0, 1) := by decide +kernel
theorem dX10_entryFor_15 : decode cX10_entryFor 15 = .ok (.invokevirtual 133, 3) := by decide +kernel
theorem dX10_entryFor_18 : decode cX10_entryFor 18 = .ok (.iload_n 1, 1) := by decide +kernel
theorem dX10_entryFor_19 : decode cX10_entryFor 19 = .ok (.if_icmp .ne 15, 3) := by decide +kernel
theorem dX10_entryFor_22 : decode cX10_entryFor 22 = .ok (.aload_n 0, 1) := by decide +kernel
theorem dX10_entryFor_23 : decode cX10_entryFor 23 = .ok (.iload_n 3, 1) := by decide +kernel
theorem dX10_entryFor_24 : decode cX10_entryFor 24 = .ok (.iconst 1, 1) := by decide +kernel
theorem dX10_entryFor_25 : decode cX10_entryFor 25 = .ok (.invokevirtual 133, 3) := by decide +kernel
theorem dX10_entryFor_28 : decode cX10_entryFor 28 = .ok (.iload_n 2, 1) := by decide +kernel
theorem dX10_entryFor_29 : decode cX10_entryFor 29 = .ok (.if_icmp .ne 5, 3) := by decide +kernel
theorem dX10_entryFor_32 : decode cX10_entryFor 32 = .ok (.iload_n 3, 1) := by decide +kernel
theorem dX10_entryFor_33 : decode cX10_entryFor 33 = .ok (.ireturn, 1) := by decide +kernel
theorem dX10_entryFor_34 : decode cX10_entryFor 34 = .ok (.iinc 3 1, 3) := by decide +kernel
theorem dX10_entryFor_37 : decode cX10_entryFor 37 = .ok (.goto (-35), 3) := by decide +kernel
theorem dX10_entryFor_40 : decode cX10_entryFor 40 = .ok (.iconst (-1), 1) := by decide +kernel
theorem dX10_entryFor_41 : decode cX10_entryFor 41 = .ok (.ireturn, 1) := by decide +kernel
theorem dX10_enters_0 : decode cX10_enters 0 = .ok (.aload_n 0, 1) := by decide +kernel
theorem dX10_enters_1 : decode cX10_enters 1 = .ok (.aload_n 0, 1) := by decide +kernel
theorem dX10_enters_2 : decode cX10_enters 2 = .ok (.getfield 13, 3) := by decide +kernel
theorem dX10_enters_5 : decode cX10_enters 5 = .ok (.iconst 0, 1) := by decide +kernel
theorem dX10_enters_6 : decode cX10_enters 6 = .ok (.iaload, 1) := by decide +kernel
theorem dX10_enters_7 : decode cX10_enters 7 = .ok (.iload_n 1, 1) := by decide +kernel
theorem dX10_enters_8 : decode cX10_enters 8 = .ok (.invokevirtual 136, 3) := by decide +kernel
theorem dX10_enters_11 : decode cX10_enters 11 = .ok (.istore_n 3, 1) := by decide +kernel
theorem dX10_enters_12 : decode cX10_enters 12 = .ok (.iload_n 3, 1) := by decide +kernel
theorem dX10_enters_13 : decode cX10_enters 13 = .ok (.ifCond .ge 124, 3) := by decide +kernel
theorem dX10_enters_16 : decode cX10_enters 16 = .ok (.aload_n 0, 1) := by decide +kernel
theorem dX10_enters_17 : decode cX10_enters 17 = .ok (.getfield 13, 3) := by decide +kernel
theorem dX10_enters_20 : decode cX10_enters 20 = .ok (.iconst 5, 1) := by decide +kernel
theorem dX10_enters_21 : decode cX10_enters 21 = .ok (.iaload, 1) := by decide +kernel
theorem dX10_enters_22 : decode cX10_enters 22 = .ok (.bipush 20, 2) := by decide +kernel
theorem dX10_enters_24 : decode cX10_enters 24 = .ok (.if_icmp .ne 48, 3) := by decide +kernel
theorem dX10_enters_27 : decode cX10_enters 27 = .ok (.sipush 158, 3) := by decide +kernel
theorem dX10_enters_30 : decode cX10_enters 30 = .ok (.istore 4, 2) := by decide +kernel
theorem dX10_enters_32 : decode cX10_enters 32 = .ok (.iload 4, 2) := by decide +kernel
theorem dX10_enters_34 : decode cX10_enters 34 = .ok (.sipush 215, 3) := by decide +kernel
theorem dX10_enters_37 : decode cX10_enters 37 = .ok (.if_icmp .ge 25, 3) := by decide +kernel
theorem dX10_enters_40 : decode cX10_enters 40 = .ok (.aload_n 0, 1) := by decide +kernel
theorem dX10_enters_41 : decode cX10_enters 41 = .ok (.getfield 13, 3) := by decide +kernel
theorem dX10_enters_44 : decode cX10_enters 44 = .ok (.iload 4, 2) := by decide +kernel
theorem dX10_enters_46 : decode cX10_enters 46 = .ok (.aload_n 0, 1) := by decide +kernel
theorem dX10_enters_47 : decode cX10_enters 47 = .ok (.getfield 13, 3) := by decide +kernel
theorem dX10_enters_50 : decode cX10_enters 50 = .ok (.iload 4, 2) := by decide +kernel
theorem dX10_enters_52 : decode cX10_enters 52 = .ok (.iconst 3, 1) := by decide +kernel
theorem dX10_enters_53 : decode cX10_enters 53 = .ok (.iadd, 1) := by decide +kernel
theorem dX10_enters_54 : decode cX10_enters 54 = .ok (.iaload, 1) := by decide +kernel
theorem dX10_enters_55 : decode cX10_enters 55 = .ok (.iastore, 1) := by decide +kernel
theorem dX10_enters_56 : decode cX10_enters 56 = .ok (.iinc 4 1, 3) := by decide +kernel
theorem dX10_enters_59 : decode cX10_enters 59 = .ok (.goto (-27), 3) := by decide +kernel
theorem dX10_enters_62 : decode cX10_enters 62 = .ok (.aload_n 0, 1) := by decide +kernel
theorem dX10_enters_63 : decode cX10_enters 63 = .ok (.getfield 13, 3) := by decide +kernel
theorem dX10_enters_66 : decode cX10_enters 66 = .ok (.iconst 5, 1) := by decide +kernel
theorem dX10_enters_67 : decode cX10_enters 67 = .ok (.dup2, 1) := by decide +kernel
theorem dX10_enters_68 : decode cX10_enters 68 = .ok (.iaload, 1) := by decide +kernel
theorem dX10_enters_69 : decode cX10_enters 69 = .ok (.iconst 1, 1) := by decide +kernel
theorem dX10_enters_70 : decode cX10_enters 70 = .ok (.isub, 1) := by decide +kernel
theorem dX10_enters_71 : decode cX10_enters 71 = .ok (.iastore, 1) := by decide +kernel
theorem dX10_enters_72 : decode cX10_enters 72 = .ok (.aload_n 0, 1) := by decide +kernel
theorem dX10_enters_73 : decode cX10_enters 73 = .ok (.getfield 13, 3) := by decide +kernel
theorem dX10_enters_76 : decode cX10_enters 76 = .ok (.iconst 5, 1) := by decide +kernel
theorem dX10_enters_77 : decode cX10_enters 77 = .ok (.iaload, 1) := by decide +kernel
theorem dX10_enters_78 : decode cX10_enters 78 = .ok (.istore_n 3, 1) := by decide +kernel
theorem dX10_enters_79 : decode cX10_enters 79 = .ok (.aload_n 0, 1) := by decide +kernel
theorem dX10_enters_80 : decode cX10_enters 80 = .ok (.getfield 13, 3) := by decide +kernel
theorem dX10_enters_83 : decode cX10_enters 83 = .ok (.iconst 5, 1) := by decide +kernel
theorem dX10_enters_84 : decode cX10_enters 84 = .ok (.dup2, 1) := by decide +kernel
theorem dX10_enters_85 : decode cX10_enters 85 = .ok (.iaload, 1) := by decide +kernel
theorem dX10_enters_86 : decode cX10_enters 86 = .ok (.iconst 1, 1) := by decide +kernel
theorem dX10_enters_87 : decode cX10_enters 87 = .ok (.iadd, 1) := by decide +kernel
theorem dX10_enters_88 : decode cX10_enters 88 = .ok (.iastore, 1) := by decide +kernel
theorem dX10_enters_89 : decode cX10_enters 89 = .ok (.aload_n 0, 1) := by decide +kernel
theorem dX10_enters_90 : decode cX10_enters 90 = .ok (.getfield 13, 3) := by decide +kernel
theorem dX10_enters_93 : decode cX10_enters 93 = .ok (.sipush 158, 3) := by decide +kernel
theorem dX10_enters_96 : decode cX10_enters 96 = .ok (.iconst 3, 1) := by decide +kernel
theorem dX10_enters_97 : decode cX10_enters 97 = .ok (.iload_n 3, 1) := by decide +kernel
theorem dX10_enters_98 : decode cX10_enters 98 = .ok (.imul, 1) := by decide +kernel
theorem dX10_enters_99 : decode cX10_enters 99 = .ok (.iadd, 1) := by decide +kernel
theorem dX10_enters_100 : decode cX10_enters 100 = .ok (.aload_n 0, 1) := by decide +kernel
theorem dX10_enters_101 : decode cX10_enters 101 = .ok (.getfield 13, 3) := by decide +kernel
theorem dX10_enters_104 : decode cX10_enters 104 = .ok (.iconst 0, 1) := by decide +kernel
theorem dX10_enters_105 : decode cX10_enters 105 = .ok (.iaload, 1) := by decide +kernel
theorem dX10_enters_106 : decode cX10_enters 106 = .ok (.iastore, 1) := by decide +kernel
theorem dX10_enters_107 : decode cX10_enters 107 = .ok (.aload_n 0, 1) := by decide +kernel
theorem dX10_enters_108 : decode cX10_enters 108 = .ok (.getfield 13, 3) := by decide +kernel
theorem dX10_enters_111 : decode cX10_enters 111 = .ok (.sipush 158, 3) := by decide +kernel
theorem dX10_enters_114 : decode cX10_enters 114 = .ok (.iconst 3, 1) := by decide +kernel
theorem dX10_enters_115 : decode cX10_enters 115 = .ok (.iload_n 3, 1) := by decide +kernel
theorem dX10_enters_116 : decode cX10_enters 116 = .ok (.imul, 1) := by decide +kernel
theorem dX10_enters_117 : decode cX10_enters 117 = .ok (.iadd, 1) := by decide +kernel
theorem dX10_enters_118 : decode cX10_enters 118 = .ok (.iconst 1, 1) := by decide +kernel
theorem dX10_enters_119 : decode cX10_enters 119 = .ok (.iadd, 1) := by decide +kernel
theorem dX10_enters_120 : decode cX10_enters 120 = .ok (.iload_n 1, 1) := by decide +kernel
theorem dX10_enters_121 : decode cX10_enters 121 = .ok (.iastore, 1) := by decide +kernel
theorem dX10_enters_122 : decode cX10_enters 122 = .ok (.aload_n 0, 1) := by decide +kernel
theorem dX10_enters_123 : decode cX10_enters 123 = .ok (.getfield 13, 3) := by decide +kernel
theorem dX10_enters_126 : decode cX10_enters 126 = .ok (.sipush 158, 3) := by decide +kernel
theorem dX10_enters_129 : decode cX10_enters 129 = .ok (.iconst 3, 1) := by decide +kernel
theorem dX10_enters_130 : decode cX10_enters 130 = .ok (.iload_n 3, 1) := by decide +kernel
theorem dX10_enters_131 : decode cX10_enters 131 = .ok (.imul, 1) := by decide +kernel
theorem dX10_enters_132 : decode cX10_enters 132 = .ok (.iadd, 1) := by decide +kernel
theorem dX10_enters_133 : decode cX10_enters 133 = .ok (.iconst 2, 1) := by decide +kernel
theorem dX10_enters_134 : decode cX10_enters 134 = .ok (.iadd, 1) := by decide +kernel
theorem dX10_enters_135 : decode cX10_enters 135 = .ok (.iconst 0, 1) := by decide +kernel
theorem dX10_enters_136 : decode cX10_enters 136 = .ok (.iastore, 1) := by decide +kernel
theorem dX10_enters_137 : decode cX10_enters 137 = .ok (.aload_n 0, 1) := by decide +kernel
theorem dX10_enters_138 : decode cX10_enters 138 = .ok (.getfield 13, 3) := by decide +kernel
theorem dX10_enters_141 : decode cX10_enters 141 = .ok (.sipush 158, 3) := by decide +kernel
theorem dX10_enters_144 : decode cX10_enters 144 = .ok (.iconst 3, 1) := by decide +kernel
theorem dX10_enters_145 : decode cX10_enters 145 = .ok (.iload_n 3, 1) := by decide +kernel
theorem dX10_enters_146 : decode cX10_enters 146 = .ok (.imul, 1) := by decide +kernel
theorem dX10_enters_147 : decode cX10_enters 147 = .ok (.iadd, 1) := by decide +kernel
theorem dX10_enters_148 : decode cX10_enters 148 = .ok (.iconst 2, 1) := by decide +kernel
theorem dX10_enters_149 : decode cX10_enters 149 = .ok (.iadd, 1) := by decide +kernel
theorem dX10_enters_150 : decode cX10_enters 150 = .ok (.dup2, 1) := by decide +kernel
theorem dX10_enters_151 : decode cX10_enters 151 = .ok (.iaload, 1) := by decide +kernel
theorem dX10_enters_152 : decode cX10_enters 152 = .ok (.iload_n 2, 1) := by decide +kernel
theorem dX10_enters_153 : decode cX10_enters 153 = .ok (.iadd, 1) := by decide +kernel
theorem dX10_enters_154 : decode cX10_enters 154 = .ok (.iastore, 1) := by decide +kernel
theorem dX10_enters_155 : decode cX10_enters 155 = .ok (.return_, 1) := by decide +kernel
theorem dX10_notRepay_0 : decode cX10_notRepay 0 = .ok (.aload_n 0, 1) := by decide +kernel
theorem dX10_notRepay_1 : decode cX10_notRepay 1 = .ok (.iload_n 1, 1) := by decide +kernel
theorem dX10_notRepay_2 : decode cX10_notRepay 2 = .ok (.invokevirtual 121, 3) := by decide +kernel
theorem dX10_notRepay_5 : decode cX10_notRepay 5 = .ok (.istore_n 3, 1) := by decide +kernel
theorem dX10_notRepay_6 : decode cX10_notRepay 6 = .ok (.iload_n 3, 1) := by decide +kernel
theorem dX10_notRepay_7 : decode cX10_notRepay 7 = .ok (.ifCond .ge 5, 3) := by decide +kernel
theorem dX10_notRepay_10 : decode cX10_notRepay 10 = .ok (.iconst 1, 1) := by decide +kernel
theorem dX10_notRepay_11 : decode cX10_notRepay 11 = .ok (.ireturn, 1) := by decide +kernel
theorem dX10_notRepay_12 : decode cX10_notRepay 12 = .ok (.iload_n 2, 1) := by decide +kernel
theorem dX10_notRepay_13 : decode cX10_notRepay 13 = .ok (.iconst 1, 1) := by decide +kernel
theorem dX10_notRepay_14 : decode cX10_notRepay 14 = .ok (.sipush 999, 3) := by decide +kernel
theorem dX10_notRepay_17 : decode cX10_notRepay 17 = .ok (.invokestatic 54, 3) := by decide +kernel
theorem dX10_notRepay_20 : decode cX10_notRepay 20 = .ok (.ifCond .ne 5, 3) := by decide +kernel
theorem dX10_notRepay_23 : decode cX10_notRepay 23 = .ok (.iconst 2, 1) := by decide +kernel
theorem dX10_notRepay_24 : decode cX10_notRepay 24 = .ok (.ireturn, 1) := by decide +kernel
theorem dX10_notRepay_25 : decode cX10_notRepay 25 = .ok (.iload_n 2, 1) := by decide +kernel
theorem dX10_notRepay_26 : decode cX10_notRepay 26 = .ok (.aload_n 0, 1) := by decide +kernel
theorem dX10_notRepay_27 : decode cX10_notRepay 27 = .ok (.iload_n 3, 1) := by decide +kernel
theorem dX10_notRepay_28 : decode cX10_notRepay 28 = .ok (.invokevirtual 62, 3) := by decide +kernel
theorem dX10_notRepay_31 : decode cX10_notRepay 31 = .ok (.if_icmp .gt 18, 3) := by decide +kernel
theorem dX10_notRepay_34 : decode cX10_notRepay 34 = .ok (.iload_n 2, 1) := by decide +kernel
theorem dX10_notRepay_35 : decode cX10_notRepay 35 = .ok (.aload_n 0, 1) := by decide +kernel
theorem dX10_notRepay_36 : decode cX10_notRepay 36 = .ok (.aload_n 0, 1) := by decide +kernel
theorem dX10_notRepay_37 : decode cX10_notRepay 37 = .ok (.iload_n 3, 1) := by decide +kernel
theorem dX10_notRepay_38 : decode cX10_notRepay 38 = .ok (.iconst 1, 1) := by decide +kernel
theorem dX10_notRepay_39 : decode cX10_notRepay 39 = .ok (.invokevirtual 58, 3) := by decide +kernel
theorem dX10_notRepay_42 : decode cX10_notRepay 42 = .ok (.iconst 0, 1) := by decide +kernel
theorem dX10_notRepay_43 : decode cX10_notRepay 43 = .ok (.invokevirtual 95, 3) := by decide +kernel
theorem dX10_notRepay_46 : decode cX10_notRepay 46 = .ok (.if_icmp .le 7, 3) := by decide +kernel
theorem dX10_notRepay_49 : decode cX10_notRepay 49 = .ok (.iconst 3, 1) := by decide +kernel
theorem dX10_notRepay_50 : decode cX10_notRepay 50 = .ok (.goto 4, 3) := by decide +kernel
theorem dX10_notRepay_53 : decode cX10_notRepay 53 = .ok (.iconst 0, 1) := by decide +kernel
theorem dX10_notRepay_54 : decode cX10_notRepay 54 = .ok (.ireturn, 1) := by decide +kernel
theorem dX10_repays_0 : decode cX10_repays 0 = .ok (.aload_n 0, 1) := by decide +kernel
theorem dX10_repays_1 : decode cX10_repays 1 = .ok (.iload_n 1, 1) := by decide +kernel
theorem dX10_repays_2 : decode cX10_repays 2 = .ok (.invokevirtual 121, 3) := by decide +kernel
theorem dX10_repays_5 : decode cX10_repays 5 = .ok (.istore_n 3, 1) := by decide +kernel
theorem dX10_repays_6 : decode cX10_repays 6 = .ok (.iload_n 2, 1) := by decide +kernel
theorem dX10_repays_7 : decode cX10_repays 7 = .ok (.aload_n 0, 1) := by decide +kernel
theorem dX10_repays_8 : decode cX10_repays 8 = .ok (.iload_n 3, 1) := by decide +kernel
theorem dX10_repays_9 : decode cX10_repays 9 = .ok (.iconst 3, 1) := by decide +kernel
theorem dX10_repays_10 : decode cX10_repays 10 = .ok (.invokevirtual 58, 3) := by decide +kernel
theorem dX10_repays_13 : decode cX10_repays 13 = .ok (.if_icmp .ge 7, 3) := by decide +kernel
theorem dX10_repays_16 : decode cX10_repays 16 = .ok (.iload_n 2, 1) := by decide +kernel
theorem dX10_repays_17 : decode cX10_repays 17 = .ok (.goto 9, 3) := by decide +kernel
theorem dX10_repays_20 : decode cX10_repays 20 = .ok (.aload_n 0, 1) := by decide +kernel
theorem dX10_repays_21 : decode cX10_repays 21 = .ok (.iload_n 3, 1) := by decide +kernel
theorem dX10_repays_22 : decode cX10_repays 22 = .ok (.iconst 3, 1) := by decide +kernel
theorem dX10_repays_23 : decode cX10_repays 23 = .ok (.invokevirtual 58, 3) := by decide +kernel
theorem dX10_repays_26 : decode cX10_repays 26 = .ok (.istore 4, 2) := by decide +kernel
theorem dX10_repays_28 : decode cX10_repays 28 = .ok (.aload_n 0, 1) := by decide +kernel
theorem dX10_repays_29 : decode cX10_repays 29 = .ok (.iload_n 3, 1) := by decide +kernel
theorem dX10_repays_30 : decode cX10_repays 30 = .ok (.iconst 3, 1) := by decide +kernel
theorem dX10_repays_31 : decode cX10_repays 31 = .ok (.aload_n 0, 1) := by decide +kernel
theorem dX10_repays_32 : decode cX10_repays 32 = .ok (.iload_n 3, 1) := by decide +kernel
theorem dX10_repays_33 : decode cX10_repays 33 = .ok (.iconst 3, 1) := by decide +kernel
theorem dX10_repays_34 : decode cX10_repays 34 = .ok (.invokevirtual 58, 3) := by decide +kernel
theorem dX10_repays_37 : decode cX10_repays 37 = .ok (.iload 4, 2) := by decide +kernel
theorem dX10_repays_39 : decode cX10_repays 39 = .ok (.isub, 1) := by decide +kernel
theorem dX10_repays_40 : decode cX10_repays 40 = .ok (.invokevirtual 73, 3) := by decide +kernel
theorem dX10_repays_43 : decode cX10_repays 43 = .ok (.aload_n 0, 1) := by decide +kernel
theorem dX10_repays_44 : decode cX10_repays 44 = .ok (.iload_n 3, 1) := by decide +kernel
theorem dX10_repays_45 : decode cX10_repays 45 = .ok (.iconst 2, 1) := by decide +kernel
theorem dX10_repays_46 : decode cX10_repays 46 = .ok (.aload_n 0, 1) := by decide +kernel
theorem dX10_repays_47 : decode cX10_repays 47 = .ok (.iload_n 3, 1) := by decide +kernel
theorem dX10_repays_48 : decode cX10_repays 48 = .ok (.iconst 2, 1) := by decide +kernel
theorem dX10_repays_49 : decode cX10_repays 49 = .ok (.invokevirtual 58, 3) := by decide +kernel
theorem dX10_repays_52 : decode cX10_repays 52 = .ok (.iload_n 2, 1) := by decide +kernel
theorem dX10_repays_53 : decode cX10_repays 53 = .ok (.isub, 1) := by decide +kernel
theorem dX10_repays_54 : decode cX10_repays 54 = .ok (.iload 4, 2) := by decide +kernel
theorem dX10_repays_56 : decode cX10_repays 56 = .ok (.iadd, 1) := by decide +kernel
theorem dX10_repays_57 : decode cX10_repays 57 = .ok (.invokevirtual 73, 3) := by decide +kernel
theorem dX10_repays_60 : decode cX10_repays 60 = .ok (.aload_n 0, 1) := by decide +kernel
theorem dX10_repays_61 : decode cX10_repays 61 = .ok (.aload_n 0, 1) := by decide +kernel
theorem dX10_repays_62 : decode cX10_repays 62 = .ok (.iload_n 3, 1) := by decide +kernel
theorem dX10_repays_63 : decode cX10_repays 63 = .ok (.iconst 1, 1) := by decide +kernel
theorem dX10_repays_64 : decode cX10_repays 64 = .ok (.invokevirtual 58, 3) := by decide +kernel
theorem dX10_repays_67 : decode cX10_repays 67 = .ok (.iconst 0, 1) := by decide +kernel
theorem dX10_repays_68 : decode cX10_repays 68 = .ok (.iload_n 2, 1) := by decide +kernel
theorem dX10_repays_69 : decode cX10_repays 69 = .ok (.ineg, 1) := by decide +kernel
theorem dX10_repays_70 : decode cX10_repays 70 = .ok (.invokevirtual 69, 3) := by decide +kernel
theorem dX10_repays_73 : decode cX10_repays 73 = .ok (.aload_n 0, 1) := by decide +kernel
theorem dX10_repays_74 : decode cX10_repays 74 = .ok (.getfield 13, 3) := by decide +kernel
theorem dX10_repays_77 : decode cX10_repays 77 = .ok (.iconst 4, 1) := by decide +kernel
theorem dX10_repays_78 : decode cX10_repays 78 = .ok (.dup2, 1) := by decide +kernel
theorem dX10_repays_79 : decode cX10_repays 79 = .ok (.iaload, 1) := by decide +kernel
theorem dX10_repays_80 : decode cX10_repays 80 = .ok (.iload_n 2, 1) := by decide +kernel
theorem dX10_repays_81 : decode cX10_repays 81 = .ok (.iadd, 1) := by decide +kernel
theorem dX10_repays_82 : decode cX10_repays 82 = .ok (.iastore, 1) := by decide +kernel
theorem dX10_repays_83 : decode cX10_repays 83 = .ok (.aload_n 0, 1) := by decide +kernel
theorem dX10_repays_84 : decode cX10_repays 84 = .ok (.iload_n 1, 1) := by decide +kernel
theorem dX10_repays_85 : decode cX10_repays 85 = .ok (.iload_n 2, 1) := by decide +kernel
theorem dX10_repays_86 : decode cX10_repays 86 = .ok (.invokevirtual 139, 3) := by decide +kernel
theorem dX10_repays_89 : decode cX10_repays 89 = .ok (.aload_n 0, 1) := by decide +kernel
theorem dX10_repays_90 : decode cX10_repays 90 = .ok (.iload_n 3, 1) := by decide +kernel
theorem dX10_repays_91 : decode cX10_repays 91 = .ok (.invokevirtual 62, 3) := by decide +kernel
theorem dX10_repays_94 : decode cX10_repays 94 = .ok (.istore 5, 2) := by decide +kernel
theorem dX10_repays_96 : decode cX10_repays 96 = .ok (.iload 5, 2) := by decide +kernel
theorem dX10_repays_98 : decode cX10_repays 98 = .ok (.ifCond .ne 24, 3) := by decide +kernel
theorem dX10_repays_101 : decode cX10_repays 101 = .ok (.aload_n 0, 1) := by decide +kernel
theorem dX10_repays_102 : decode cX10_repays 102 = .ok (.iload_n 3, 1) := by decide +kernel
theorem dX10_repays_103 : decode cX10_repays 103 = .ok (.invokevirtual 143, 3) := by decide +kernel
theorem dX10_repays_106 : decode cX10_repays 106 = .ok (.aload_n 0, 1) := by decide +kernel
theorem dX10_repays_107 : decode cX10_repays 107 = .ok (.iload_n 3, 1) := by decide +kernel
theorem dX10_repays_108 : decode cX10_repays 108 = .ok (.invokevirtual 147, 3) := by decide +kernel
theorem dX10_repays_111 : decode cX10_repays 111 = .ok (.aload_n 0, 1) := by decide +kernel
theorem dX10_repays_112 : decode cX10_repays 112 = .ok (.getfield 13, 3) := by decide +kernel
theorem dX10_repays_115 : decode cX10_repays 115 = .ok (.bipush 6, 2) := by decide +kernel
theorem dX10_repays_117 : decode cX10_repays 117 = .ok (.dup2, 1) := by decide +kernel
theorem dX10_repays_118 : decode cX10_repays 118 = .ok (.iaload, 1) := by decide +kernel
theorem dX10_repays_119 : decode cX10_repays 119 = .ok (.iconst 1, 1) := by decide +kernel
theorem dX10_repays_120 : decode cX10_repays 120 = .ok (.iadd, 1) := by decide +kernel
theorem dX10_repays_121 : decode cX10_repays 121 = .ok (.iastore, 1) := by decide +kernel
theorem dX10_repays_122 : decode cX10_repays 122 = .ok (.iload 5, 2) := by decide +kernel
theorem dX10_repays_124 : decode cX10_repays 124 = .ok (.ireturn, 1) := by decide +kernel
theorem dX10_repay_0 : decode cX10_repay 0 = .ok (.aload_n 0, 1) := by decide +kernel
theorem dX10_repay_1 : decode cX10_repay 1 = .ok (.iconst 0, 1) := by decide +kernel
theorem dX10_repay_2 : decode cX10_repay 2 = .ok (.putfield 1, 3) := by decide +kernel
theorem dX10_repay_5 : decode cX10_repay 5 = .ok (.aload_n 0, 1) := by decide +kernel
theorem dX10_repay_6 : decode cX10_repay 6 = .ok (.iload_n 1, 1) := by decide +kernel
theorem dX10_repay_7 : decode cX10_repay 7 = .ok (.iload_n 2, 1) := by decide +kernel
theorem dX10_repay_8 : decode cX10_repay 8 = .ok (.invokevirtual 150, 3) := by decide +kernel
theorem dX10_repay_11 : decode cX10_repay 11 = .ok (.istore_n 3, 1) := by decide +kernel
theorem dX10_repay_12 : decode cX10_repay 12 = .ok (.iload_n 3, 1) := by decide +kernel
theorem dX10_repay_13 : decode cX10_repay 13 = .ok (.ifCond .eq 9, 3) := by decide +kernel
theorem dX10_repay_16 : decode cX10_repay 16 = .ok (.aload_n 0, 1) := by decide +kernel
theorem dX10_repay_17 : decode cX10_repay 17 = .ok (.iload_n 3, 1) := by decide +kernel
theorem dX10_repay_18 : decode cX10_repay 18 = .ok (.invokevirtual 79, 3) := by decide +kernel
theorem dX10_repay_21 : decode cX10_repay 21 = .ok (.ireturn, 1) := by decide +kernel
theorem dX10_repay_22 : decode cX10_repay 22 = .ok (.aload_n 0, 1) := by decide +kernel
theorem dX10_repay_23 : decode cX10_repay 23 = .ok (.invokevirtual 82, 3) := by decide +kernel
theorem dX10_repay_26 : decode cX10_repay 26 = .ok (.aload_n 0, 1) := by decide +kernel
theorem dX10_repay_27 : decode cX10_repay 27 = .ok (.iload_n 1, 1) := by decide +kernel
theorem dX10_repay_28 : decode cX10_repay 28 = .ok (.iload_n 2, 1) := by decide +kernel
theorem dX10_repay_29 : decode cX10_repay 29 = .ok (.invokevirtual 153, 3) := by decide +kernel
theorem dX10_repay_32 : decode cX10_repay 32 = .ok (.ireturn, 1) := by decide +kernel
theorem dX10_notBuy_0 : decode cX10_notBuy 0 = .ok (.aload_n 0, 1) := by decide +kernel
theorem dX10_notBuy_1 : decode cX10_notBuy 1 = .ok (.iload_n 1, 1) := by decide +kernel
theorem dX10_notBuy_2 : decode cX10_notBuy 2 = .ok (.invokevirtual 88, 3) := by decide +kernel
theorem dX10_notBuy_5 : decode cX10_notBuy 5 = .ok (.ifCond .eq 10, 3) := by decide +kernel
theorem dX10_notBuy_8 : decode cX10_notBuy 8 = .ok (.iload_n 2, 1) := by decide +kernel
theorem dX10_notBuy_9 : decode cX10_notBuy 9 = .ok (.invokestatic 92, 3) := by decide +kernel
theorem dX10_notBuy_12 : decode cX10_notBuy 12 = .ok (.ifCond .ne 5, 3) := by decide +kernel
theorem dX10_notBuy_15 : decode cX10_notBuy 15 = .ok (.iconst 1, 1) := by decide +kernel
theorem dX10_notBuy_16 : decode cX10_notBuy 16 = .ok (.ireturn, 1) := by decide +kernel
theorem dX10_notBuy_17 : decode cX10_notBuy 17 = .ok (.iload_n 3, 1) := by decide +kernel
theorem dX10_notBuy_18 : decode cX10_notBuy 18 = .ok (.iconst 1, 1) := by decide +kernel
theorem dX10_notBuy_19 : decode cX10_notBuy 19 = .ok (.bipush 99, 2) := by decide +kernel
theorem dX10_notBuy_21 : decode cX10_notBuy 21 = .ok (.invokestatic 54, 3) := by decide +kernel
theorem dX10_notBuy_24 : decode cX10_notBuy 24 = .ok (.ifCond .ne 5, 3) := by decide +kernel
theorem dX10_notBuy_27 : decode cX10_notBuy 27 = .ok (.iconst 2, 1) := by decide +kernel
theorem dX10_notBuy_28 : decode cX10_notBuy 28 = .ok (.ireturn, 1) := by decide +kernel
theorem dX10_notBuy_29 : decode cX10_notBuy 29 = .ok (.aload_n 0, 1) := by decide +kernel
theorem dX10_notBuy_30 : decode cX10_notBuy 30 = .ok (.getfield 13, 3) := by decide +kernel
theorem dX10_notBuy_33 : decode cX10_notBuy 33 = .ok (.bipush 14, 2) := by decide +kernel
theorem dX10_notBuy_35 : decode cX10_notBuy 35 = .ok (.iload_n 2, 1) := by decide +kernel
theorem dX10_notBuy_36 : decode cX10_notBuy 36 = .ok (.iadd, 1) := by decide +kernel
theorem dX10_notBuy_37 : decode cX10_notBuy 37 = .ok (.iaload, 1) := by decide +kernel
theorem dX10_notBuy_38 : decode cX10_notBuy 38 = .ok (.iload_n 3, 1) := by decide +kernel
theorem dX10_notBuy_39 : decode cX10_notBuy 39 = .ok (.if_icmp .lt 23, 3) := by decide +kernel
theorem dX10_notBuy_42 : decode cX10_notBuy 42 = .ok (.aload_n 0, 1) := by decide +kernel
theorem dX10_notBuy_43 : decode cX10_notBuy 43 = .ok (.iload_n 1, 1) := by decide +kernel
theorem dX10_notBuy_44 : decode cX10_notBuy 44 = .ok (.iconst 0, 1) := by decide +kernel
theorem dX10_notBuy_45 : decode cX10_notBuy 45 = .ok (.invokevirtual 95, 3) := by decide +kernel
theorem dX10_notBuy_48 : decode cX10_notBuy 48 = .ok (.iload_n 3, 1) := by decide +kernel
theorem dX10_notBuy_49 : decode cX10_notBuy 49 = .ok (.aload_n 0, 1) := by decide +kernel
theorem dX10_notBuy_50 : decode cX10_notBuy 50 = .ok (.getfield 13, 3) := by decide +kernel
theorem dX10_notBuy_53 : decode cX10_notBuy 53 = .ok (.bipush 10, 2) := by decide +kernel
theorem dX10_notBuy_55 : decode cX10_notBuy 55 = .ok (.iload_n 2, 1) := by decide +kernel
theorem dX10_notBuy_56 : decode cX10_notBuy 56 = .ok (.iadd, 1) := by decide +kernel
theorem dX10_notBuy_57 : decode cX10_notBuy 57 = .ok (.iaload, 1) := by decide +kernel
theorem dX10_notBuy_58 : decode cX10_notBuy 58 = .ok (.imul, 1) := by decide +kernel
theorem dX10_notBuy_59 : decode cX10_notBuy 59 = .ok (.if_icmp .ge 5, 3) := by decide +kernel
theorem dX10_notBuy_62 : decode cX10_notBuy 62 = .ok (.iconst 3, 1) := by decide +kernel
theorem dX10_notBuy_63 : decode cX10_notBuy 63 = .ok (.ireturn, 1) := by decide +kernel
theorem dX10_notBuy_64 : decode cX10_notBuy 64 = .ok (.aload_n 0, 1) := by decide +kernel
theorem dX10_notBuy_65 : decode cX10_notBuy 65 = .ok (.iload_n 1, 1) := by decide +kernel
theorem dX10_notBuy_66 : decode cX10_notBuy 66 = .ok (.iconst 2, 1) := by decide +kernel
theorem dX10_notBuy_67 : decode cX10_notBuy 67 = .ok (.iload_n 2, 1) := by decide +kernel
theorem dX10_notBuy_68 : decode cX10_notBuy 68 = .ok (.iadd, 1) := by decide +kernel
theorem dX10_notBuy_69 : decode cX10_notBuy 69 = .ok (.invokevirtual 95, 3) := by decide +kernel
theorem dX10_notBuy_72 : decode cX10_notBuy 72 = .ok (.iload_n 3, 1) := by decide +kernel
theorem dX10_notBuy_73 : decode cX10_notBuy 73 = .ok (.iadd, 1) := by decide +kernel
theorem dX10_notBuy_74 : decode cX10_notBuy 74 = .ok (.sipush 999, 3) := by decide +kernel
theorem dX10_notBuy_77 : decode cX10_notBuy 77 = .ok (.if_icmp .le 7, 3) := by decide +kernel
theorem dX10_notBuy_80 : decode cX10_notBuy 80 = .ok (.iconst 3, 1) := by decide +kernel
theorem dX10_notBuy_81 : decode cX10_notBuy 81 = .ok (.goto 4, 3) := by decide +kernel
theorem dX10_notBuy_84 : decode cX10_notBuy 84 = .ok (.iconst 0, 1) := by decide +kernel
theorem dX10_notBuy_85 : decode cX10_notBuy 85 = .ok (.ireturn, 1) := by decide +kernel
theorem dX10_buys_0 : decode cX10_buys 0 = .ok (.iload_n 3, 1) := by decide +kernel
theorem dX10_buys_1 : decode cX10_buys 1 = .ok (.aload_n 0, 1) := by decide +kernel
theorem dX10_buys_2 : decode cX10_buys 2 = .ok (.getfield 13, 3) := by decide +kernel
theorem dX10_buys_5 : decode cX10_buys 5 = .ok (.bipush 10, 2) := by decide +kernel
theorem dX10_buys_7 : decode cX10_buys 7 = .ok (.iload_n 2, 1) := by decide +kernel
theorem dX10_buys_8 : decode cX10_buys 8 = .ok (.iadd, 1) := by decide +kernel
theorem dX10_buys_9 : decode cX10_buys 9 = .ok (.iaload, 1) := by decide +kernel
theorem dX10_buys_10 : decode cX10_buys 10 = .ok (.imul, 1) := by decide +kernel
theorem dX10_buys_11 : decode cX10_buys 11 = .ok (.istore 4, 2) := by decide +kernel
theorem dX10_buys_13 : decode cX10_buys 13 = .ok (.aload_n 0, 1) := by decide +kernel
theorem dX10_buys_14 : decode cX10_buys 14 = .ok (.getfield 13, 3) := by decide +kernel
theorem dX10_buys_17 : decode cX10_buys 17 = .ok (.bipush 14, 2) := by decide +kernel
theorem dX10_buys_19 : decode cX10_buys 19 = .ok (.iload_n 2, 1) := by decide +kernel
theorem dX10_buys_20 : decode cX10_buys 20 = .ok (.iadd, 1) := by decide +kernel
theorem dX10_buys_21 : decode cX10_buys 21 = .ok (.dup2, 1) := by decide +kernel
theorem dX10_buys_22 : decode cX10_buys 22 = .ok (.iaload, 1) := by decide +kernel
theorem dX10_buys_23 : decode cX10_buys 23 = .ok (.iload_n 3, 1) := by decide +kernel
theorem dX10_buys_24 : decode cX10_buys 24 = .ok (.isub, 1) := by decide +kernel
theorem dX10_buys_25 : decode cX10_buys 25 = .ok (.iastore, 1) := by decide +kernel
theorem dX10_buys_26 : decode cX10_buys 26 = .ok (.aload_n 0, 1) := by decide +kernel
theorem dX10_buys_27 : decode cX10_buys 27 = .ok (.iload_n 1, 1) := by decide +kernel
theorem dX10_buys_28 : decode cX10_buys 28 = .ok (.iconst 2, 1) := by decide +kernel
theorem dX10_buys_29 : decode cX10_buys 29 = .ok (.iload_n 2, 1) := by decide +kernel
theorem dX10_buys_30 : decode cX10_buys 30 = .ok (.iadd, 1) := by decide +kernel
theorem dX10_buys_31 : decode cX10_buys 31 = .ok (.iload_n 3, 1) := by decide +kernel
theorem dX10_buys_32 : decode cX10_buys 32 = .ok (.invokevirtual 69, 3) := by decide +kernel
theorem dX10_buys_35 : decode cX10_buys 35 = .ok (.aload_n 0, 1) := by decide +kernel
theorem dX10_buys_36 : decode cX10_buys 36 = .ok (.iload_n 1, 1) := by decide +kernel
theorem dX10_buys_37 : decode cX10_buys 37 = .ok (.iconst 0, 1) := by decide +kernel
theorem dX10_buys_38 : decode cX10_buys 38 = .ok (.iload 4, 2) := by decide +kernel
theorem dX10_buys_40 : decode cX10_buys 40 = .ok (.ineg, 1) := by decide +kernel
theorem dX10_buys_41 : decode cX10_buys 41 = .ok (.invokevirtual 69, 3) := by decide +kernel
theorem dX10_buys_44 : decode cX10_buys 44 = .ok (.aload_n 0, 1) := by decide +kernel
theorem dX10_buys_45 : decode cX10_buys 45 = .ok (.getfield 13, 3) := by decide +kernel
theorem dX10_buys_48 : decode cX10_buys 48 = .ok (.iconst 4, 1) := by decide +kernel
theorem dX10_buys_49 : decode cX10_buys 49 = .ok (.dup2, 1) := by decide +kernel
theorem dX10_buys_50 : decode cX10_buys 50 = .ok (.iaload, 1) := by decide +kernel
theorem dX10_buys_51 : decode cX10_buys 51 = .ok (.iload 4, 2) := by decide +kernel
theorem dX10_buys_53 : decode cX10_buys 53 = .ok (.iadd, 1) := by decide +kernel
theorem dX10_buys_54 : decode cX10_buys 54 = .ok (.iastore, 1) := by decide +kernel
theorem dX10_buys_55 : decode cX10_buys 55 = .ok (.iload 4, 2) := by decide +kernel
theorem dX10_buys_57 : decode cX10_buys 57 = .ok (.ireturn, 1) := by decide +kernel
theorem dX10_buy_0 : decode cX10_buy 0 = .ok (.aload_n 0, 1) := by decide +kernel
theorem dX10_buy_1 : decode cX10_buy 1 = .ok (.iconst 0, 1) := by decide +kernel
theorem dX10_buy_2 : decode cX10_buy 2 = .ok (.putfield 1, 3) := by decide +kernel
theorem dX10_buy_5 : decode cX10_buy 5 = .ok (.aload_n 0, 1) := by decide +kernel
theorem dX10_buy_6 : decode cX10_buy 6 = .ok (.iload_n 1, 1) := by decide +kernel
theorem dX10_buy_7 : decode cX10_buy 7 = .ok (.iload_n 2, 1) := by decide +kernel
theorem dX10_buy_8 : decode cX10_buy 8 = .ok (.iload_n 3, 1) := by decide +kernel
theorem dX10_buy_9 : decode cX10_buy 9 = .ok (.invokevirtual 156, 3) := by decide +kernel
theorem dX10_buy_12 : decode cX10_buy 12 = .ok (.istore 4, 2) := by decide +kernel
theorem dX10_buy_14 : decode cX10_buy 14 = .ok (.iload 4, 2) := by decide +kernel
theorem dX10_buy_16 : decode cX10_buy 16 = .ok (.ifCond .eq 10, 3) := by decide +kernel
theorem dX10_buy_19 : decode cX10_buy 19 = .ok (.aload_n 0, 1) := by decide +kernel
theorem dX10_buy_20 : decode cX10_buy 20 = .ok (.iload 4, 2) := by decide +kernel
theorem dX10_buy_22 : decode cX10_buy 22 = .ok (.invokevirtual 79, 3) := by decide +kernel
theorem dX10_buy_25 : decode cX10_buy 25 = .ok (.ireturn, 1) := by decide +kernel
theorem dX10_buy_26 : decode cX10_buy 26 = .ok (.aload_n 0, 1) := by decide +kernel
theorem dX10_buy_27 : decode cX10_buy 27 = .ok (.invokevirtual 82, 3) := by decide +kernel
theorem dX10_buy_30 : decode cX10_buy 30 = .ok (.aload_n 0, 1) := by decide +kernel
theorem dX10_buy_31 : decode cX10_buy 31 = .ok (.iload_n 1, 1) := by decide +kernel
theorem dX10_buy_32 : decode cX10_buy 32 = .ok (.iload_n 2, 1) := by decide +kernel
theorem dX10_buy_33 : decode cX10_buy 33 = .ok (.iload_n 3, 1) := by decide +kernel
theorem dX10_buy_34 : decode cX10_buy 34 = .ok (.invokevirtual 159, 3) := by decide +kernel
theorem dX10_buy_37 : decode cX10_buy 37 = .ok (.ireturn, 1) := by decide +kernel
theorem dX10_interestPerDay_0 : decode cX10_interestPerDay 0 = .ok (.aload_n 0, 1) := by decide +kernel
theorem dX10_interestPerDay_1 : decode cX10_interestPerDay 1 = .ok (.iload_n 1, 1) := by decide +kernel
theorem dX10_interestPerDay_2 : decode cX10_interestPerDay 2 = .ok (.iconst 2, 1) := by decide +kernel
theorem dX10_interestPerDay_3 : decode cX10_interestPerDay 3 = .ok (.invokevirtual 58, 3) := by decide +kernel
theorem dX10_interestPerDay_6 : decode cX10_interestPerDay 6 = .ok (.aload_n 0, 1) := by decide +kernel
theorem dX10_interestPerDay_7 : decode cX10_interestPerDay 7 = .ok (.iload_n 1, 1) := by decide +kernel
theorem dX10_interestPerDay_8 : decode cX10_interestPerDay 8 = .ok (.iconst 4, 1) := by decide +kernel
theorem dX10_interestPerDay_9 : decode cX10_interestPerDay 9 = .ok (.invokevirtual 58, 3) := by decide +kernel
theorem dX10_interestPerDay_12 : decode cX10_interestPerDay 12 = .ok (.imul, 1) := by decide +kernel
theorem dX10_interestPerDay_13 : decode cX10_interestPerDay 13 = .ok (.sipush 999, 3) := by decide +kernel
theorem dX10_interestPerDay_16 : decode cX10_interestPerDay 16 = .ok (.iadd, 1) := by decide +kernel
theorem dX10_interestPerDay_17 : decode cX10_interestPerDay 17 = .ok (.sipush 1000, 3) := by decide +kernel
theorem dX10_interestPerDay_20 : decode cX10_interestPerDay 20 = .ok (.idiv, 1) := by decide +kernel
theorem dX10_interestPerDay_21 : decode cX10_interestPerDay 21 = .ok (.ireturn, 1) := by decide +kernel
theorem dX10_isFailing_0 : decode cX10_isFailing 0 = .ok (.aload_n 0, 1) := by decide +kernel
theorem dX10_isFailing_1 : decode cX10_isFailing 1 = .ok (.getfield 13, 3) := by decide +kernel
theorem dX10_isFailing_4 : decode cX10_isFailing 4 = .ok (.iconst 0, 1) := by decide +kernel
theorem dX10_isFailing_5 : decode cX10_isFailing 5 = .ok (.iaload, 1) := by decide +kernel
theorem dX10_isFailing_6 : decode cX10_isFailing 6 = .ok (.aload_n 0, 1) := by decide +kernel
theorem dX10_isFailing_7 : decode cX10_isFailing 7 = .ok (.iload_n 1, 1) := by decide +kernel
theorem dX10_isFailing_8 : decode cX10_isFailing 8 = .ok (.iconst 5, 1) := by decide +kernel
theorem dX10_isFailing_9 : decode cX10_isFailing 9 = .ok (.invokevirtual 58, 3) := by decide +kernel
theorem dX10_isFailing_12 : decode cX10_isFailing 12 = .ok (.if_icmp .gt 16, 3) := by decide +kernel
theorem dX10_isFailing_15 : decode cX10_isFailing 15 = .ok (.aload_n 0, 1) := by decide +kernel
theorem dX10_isFailing_16 : decode cX10_isFailing 16 = .ok (.iload_n 1, 1) := by decide +kernel
theorem dX10_isFailing_17 : decode cX10_isFailing 17 = .ok (.invokevirtual 62, 3) := by decide +kernel
theorem dX10_isFailing_20 : decode cX10_isFailing 20 = .ok (.aload_n 0, 1) := by decide +kernel
theorem dX10_isFailing_21 : decode cX10_isFailing 21 = .ok (.iload_n 1, 1) := by decide +kernel
theorem dX10_isFailing_22 : decode cX10_isFailing 22 = .ok (.invokevirtual 66, 3) := by decide +kernel
theorem dX10_isFailing_25 : decode cX10_isFailing 25 = .ok (.if_icmp .le 7, 3) := by decide +kernel
theorem dX10_isFailing_28 : decode cX10_isFailing 28 = .ok (.iconst 1, 1) := by decide +kernel
theorem dX10_isFailing_29 : decode cX10_isFailing 29 = .ok (.goto 4, 3) := by decide +kernel
theorem dX10_isFailing_32 : decode cX10_isFailing 32 = .ok (.iconst 0, 1) := by decide +kernel
theorem dX10_isFailing_33 : decode cX10_isFailing 33 = .ok (.ireturn, 1) := by decide +kernel
theorem dX10_defaultsNow_0 : decode cX10_defaultsNow 0 = .ok (.iconst 0, 1) := by decide +kernel
theorem dX10_defaultsNow_1 : decode cX10_defaultsNow 1 = .ok (.istore_n 2, 1) := by decide +kernel
theorem dX10_defaultsNow_2 : decode cX10_defaultsNow 2 = .ok (.iconst 0, 1) := by decide +kernel
theorem dX10_defaultsNow_3 : decode cX10_defaultsNow 3 = .ok (.istore_n 3, 1) := by decide +kernel
theorem dX10_defaultsNow_4 : decode cX10_defaultsNow 4 = .ok (.iload_n 3, 1) := by decide +kernel
theorem dX10_defaultsNow_5 : decode cX10_defaultsNow 5 = .ok (.iconst 4, 1) := by decide +kernel
theorem dX10_defaultsNow_6 : decode cX10_defaultsNow 6 = .ok (.if_icmp .ge 78, 3) := by decide +kernel
theorem dX10_defaultsNow_9 : decode cX10_defaultsNow 9 = .ok (.iload_n 2, 1) := by decide +kernel
theorem dX10_defaultsNow_10 : decode cX10_defaultsNow 10 = .ok (.aload_n 0, 1) := by decide +kernel
theorem dX10_defaultsNow_11 : decode cX10_defaultsNow 11 = .ok (.iload_n 1, 1) := by decide +kernel
theorem dX10_defaultsNow_12 : decode cX10_defaultsNow 12 = .ok (.invokevirtual 62, 3) := by decide +kernel
theorem dX10_defaultsNow_15 : decode cX10_defaultsNow 15 = .ok (.if_icmp .ge 63, 3) := by decide +kernel
theorem dX10_defaultsNow_18 : decode cX10_defaultsNow 18 = .ok (.aload_n 0, 1) := by decide +kernel
theorem dX10_defaultsNow_19 : decode cX10_defaultsNow 19 = .ok (.iload_n 1, 1) := by decide +kernel
theorem dX10_defaultsNow_20 : decode cX10_defaultsNow 20 = .ok (.bipush 6, 2) := by decide +kernel
theorem dX10_defaultsNow_22 : decode cX10_defaultsNow 22 = .ok (.iload_n 3, 1) := by decide +kernel
theorem dX10_defaultsNow_23 : decode cX10_defaultsNow 23 = .ok (.iadd, 1) := by decide +kernel
theorem dX10_defaultsNow_24 : decode cX10_defaultsNow 24 = .ok (.invokevirtual 58, 3) := by decide +kernel
theorem dX10_defaultsNow_27 : decode cX10_defaultsNow 27 = .ok (.ifCond .le 51, 3) := by decide +kernel
theorem dX10_defaultsNow_30 : decode cX10_defaultsNow 30 = .ok (.aload_n 0, 1) := by decide +kernel
theorem dX10_defaultsNow_31 : decode cX10_defaultsNow 31 = .ok (.iload_n 1, 1) := by decide +kernel
theorem dX10_defaultsNow_32 : decode cX10_defaultsNow 32 = .ok (.bipush 6, 2) := by decide +kernel
theorem dX10_defaultsNow_34 : decode cX10_defaultsNow 34 = .ok (.iload_n 3, 1) := by decide +kernel
theorem dX10_defaultsNow_35 : decode cX10_defaultsNow 35 = .ok (.iadd, 1) := by decide +kernel
theorem dX10_defaultsNow_36 : decode cX10_defaultsNow 36 = .ok (.aload_n 0, 1) := by decide +kernel
theorem dX10_defaultsNow_37 : decode cX10_defaultsNow 37 = .ok (.iload_n 1, 1) := by decide +kernel
theorem dX10_defaultsNow_38 : decode cX10_defaultsNow 38 = .ok (.bipush 6, 2) := by decide +kernel
theorem dX10_defaultsNow_40 : decode cX10_defaultsNow 40 = .ok (.iload_n 3, 1) := by decide +kernel
theorem dX10_defaultsNow_41 : decode cX10_defaultsNow 41 = .ok (.iadd, 1) := by decide +kernel
theorem dX10_defaultsNow_42 : decode cX10_defaultsNow 42 = .ok (.invokevirtual 58, 3) := by decide +kernel
theorem dX10_defaultsNow_45 : decode cX10_defaultsNow 45 = .ok (.iconst 1, 1) := by decide +kernel
theorem dX10_defaultsNow_46 : decode cX10_defaultsNow 46 = .ok (.isub, 1) := by decide +kernel
theorem dX10_defaultsNow_47 : decode cX10_defaultsNow 47 = .ok (.invokevirtual 73, 3) := by decide +kernel
theorem dX10_defaultsNow_50 : decode cX10_defaultsNow 50 = .ok (.aload_n 0, 1) := by decide +kernel
theorem dX10_defaultsNow_51 : decode cX10_defaultsNow 51 = .ok (.getfield 13, 3) := by decide +kernel
theorem dX10_defaultsNow_54 : decode cX10_defaultsNow 54 = .ok (.bipush 14, 2) := by decide +kernel
theorem dX10_defaultsNow_56 : decode cX10_defaultsNow 56 = .ok (.iload_n 3, 1) := by decide +kernel
theorem dX10_defaultsNow_57 : decode cX10_defaultsNow 57 = .ok (.iadd, 1) := by decide +kernel
theorem dX10_defaultsNow_58 : decode cX10_defaultsNow 58 = .ok (.dup2, 1) := by decide +kernel
theorem dX10_defaultsNow_59 : decode cX10_defaultsNow 59 = .ok (.iaload, 1) := by decide +kernel
theorem dX10_defaultsNow_60 : decode cX10_defaultsNow 60 = .ok (.iconst 1, 1) := by decide +kernel
theorem dX10_defaultsNow_61 : decode cX10_defaultsNow 61 = .ok (.iadd, 1) := by decide +kernel
theorem dX10_defaultsNow_62 : decode cX10_defaultsNow 62 = .ok (.iastore, 1) := by decide +kernel
theorem dX10_defaultsNow_63 : decode cX10_defaultsNow 63 = .ok (.iload_n 2, 1) := by decide +kernel
theorem dX10_defaultsNow_64 : decode cX10_defaultsNow 64 = .ok (.aload_n 0, 1) := by decide +kernel
theorem dX10_defaultsNow_65 : decode cX10_defaultsNow 65 = .ok (.getfield 13, 3) := by decide +kernel
theorem dX10_defaultsNow_68 : decode cX10_defaultsNow 68 = .ok (.bipush 10, 2) := by decide +kernel
theorem dX10_defaultsNow_70 : decode cX10_defaultsNow 70 = .ok (.iload_n 3, 1) := by decide +kernel
theorem dX10_defaultsNow_71 : decode cX10_defaultsNow 71 = .ok (.iadd, 1) := by decide +kernel
theorem dX10_defaultsNow_72 : decode cX10_defaultsNow 72 = .ok (.iaload, 1) := by decide +kernel
theorem dX10_defaultsNow_73 : decode cX10_defaultsNow 73 = .ok (.iadd, 1) := by decide +kernel
theorem dX10_defaultsNow_74 : decode cX10_defaultsNow 74 = .ok (.istore_n 2, 1) := by decide +kernel
theorem dX10_defaultsNow_75 : decode cX10_defaultsNow 75 = .ok (.goto (-66), 3) := by decide +kernel
theorem dX10_defaultsNow_78 : decode cX10_defaultsNow 78 = .ok (.iinc 3 1, 3) := by decide +kernel
theorem dX10_defaultsNow_81 : decode cX10_defaultsNow 81 = .ok (.goto (-77), 3) := by decide +kernel
theorem dX10_defaultsNow_84 : decode cX10_defaultsNow 84 = .ok (.aload_n 0, 1) := by decide +kernel
theorem dX10_defaultsNow_85 : decode cX10_defaultsNow 85 = .ok (.iload_n 1, 1) := by decide +kernel
theorem dX10_defaultsNow_86 : decode cX10_defaultsNow 86 = .ok (.invokevirtual 62, 3) := by decide +kernel
theorem dX10_defaultsNow_89 : decode cX10_defaultsNow 89 = .ok (.iload_n 2, 1) := by decide +kernel
theorem dX10_defaultsNow_90 : decode cX10_defaultsNow 90 = .ok (.if_icmp .le 20, 3) := by decide +kernel
theorem dX10_defaultsNow_93 : decode cX10_defaultsNow 93 = .ok (.aload_n 0, 1) := by decide +kernel
theorem dX10_defaultsNow_94 : decode cX10_defaultsNow 94 = .ok (.getfield 13, 3) := by decide +kernel
theorem dX10_defaultsNow_97 : decode cX10_defaultsNow 97 = .ok (.bipush 8, 2) := by decide +kernel
theorem dX10_defaultsNow_99 : decode cX10_defaultsNow 99 = .ok (.dup2, 1) := by decide +kernel
theorem dX10_defaultsNow_100 : decode cX10_defaultsNow 100 = .ok (.iaload, 1) := by decide +kernel
theorem dX10_defaultsNow_101 : decode cX10_defaultsNow 101 = .ok (.aload_n 0, 1) := by decide +kernel
theorem dX10_defaultsNow_102 : decode cX10_defaultsNow 102 = .ok (.iload_n 1, 1) := by decide +kernel
theorem dX10_defaultsNow_103 : decode cX10_defaultsNow 103 = .ok (.invokevirtual 62, 3) := by decide +kernel
theorem dX10_defaultsNow_106 : decode cX10_defaultsNow 106 = .ok (.iload_n 2, 1) := by decide +kernel
theorem dX10_defaultsNow_107 : decode cX10_defaultsNow 107 = .ok (.isub, 1) := by decide +kernel
theorem dX10_defaultsNow_108 : decode cX10_defaultsNow 108 = .ok (.iadd, 1) := by decide +kernel
theorem dX10_defaultsNow_109 : decode cX10_defaultsNow 109 = .ok (.iastore, 1) := by decide +kernel
theorem dX10_defaultsNow_110 : decode cX10_defaultsNow 110 = .ok (.aload_n 0, 1) := by decide +kernel
theorem dX10_defaultsNow_111 : decode cX10_defaultsNow 111 = .ok (.iload_n 1, 1) := by decide +kernel
theorem dX10_defaultsNow_112 : decode cX10_defaultsNow 112 = .ok (.invokevirtual 143, 3) := by decide +kernel
theorem dX10_defaultsNow_115 : decode cX10_defaultsNow 115 = .ok (.aload_n 0, 1) := by decide +kernel
theorem dX10_defaultsNow_116 : decode cX10_defaultsNow 116 = .ok (.aload_n 0, 1) := by decide +kernel
theorem dX10_defaultsNow_117 : decode cX10_defaultsNow 117 = .ok (.iload_n 1, 1) := by decide +kernel
theorem dX10_defaultsNow_118 : decode cX10_defaultsNow 118 = .ok (.iconst 1, 1) := by decide +kernel
theorem dX10_defaultsNow_119 : decode cX10_defaultsNow 119 = .ok (.invokevirtual 58, 3) := by decide +kernel
theorem dX10_defaultsNow_122 : decode cX10_defaultsNow 122 = .ok (.iconst 1, 1) := by decide +kernel
theorem dX10_defaultsNow_123 : decode cX10_defaultsNow 123 = .ok (.iconst 1, 1) := by decide +kernel
theorem dX10_defaultsNow_124 : decode cX10_defaultsNow 124 = .ok (.invokevirtual 69, 3) := by decide +kernel
theorem dX10_defaultsNow_127 : decode cX10_defaultsNow 127 = .ok (.aload_n 0, 1) := by decide +kernel
theorem dX10_defaultsNow_128 : decode cX10_defaultsNow 128 = .ok (.getfield 13, 3) := by decide +kernel
theorem dX10_defaultsNow_131 : decode cX10_defaultsNow 131 = .ok (.bipush 7, 2) := by decide +kernel
theorem dX10_defaultsNow_133 : decode cX10_defaultsNow 133 = .ok (.dup2, 1) := by decide +kernel
theorem dX10_defaultsNow_134 : decode cX10_defaultsNow 134 = .ok (.iaload, 1) := by decide +kernel
theorem dX10_defaultsNow_135 : decode cX10_defaultsNow 135 = .ok (.iconst 1, 1) := by decide +kernel
theorem dX10_defaultsNow_136 : decode cX10_defaultsNow 136 = .ok (.iadd, 1) := by decide +kernel
theorem dX10_defaultsNow_137 : decode cX10_defaultsNow 137 = .ok (.iastore, 1) := by decide +kernel
theorem dX10_defaultsNow_138 : decode cX10_defaultsNow 138 = .ok (.aload_n 0, 1) := by decide +kernel
theorem dX10_defaultsNow_139 : decode cX10_defaultsNow 139 = .ok (.iload_n 1, 1) := by decide +kernel
theorem dX10_defaultsNow_140 : decode cX10_defaultsNow 140 = .ok (.invokevirtual 147, 3) := by decide +kernel
theorem dX10_defaultsNow_143 : decode cX10_defaultsNow 143 = .ok (.return_, 1) := by decide +kernel
theorem dX10_passesOne_0 : decode cX10_passesOne 0 = .ok (.aload_n 0, 1) := by decide +kernel
theorem dX10_passesOne_1 : decode cX10_passesOne 1 = .ok (.getfield 13, 3) := by decide +kernel
theorem dX10_passesOne_4 : decode cX10_passesOne 4 = .ok (.iconst 0, 1) := by decide +kernel
theorem dX10_passesOne_5 : decode cX10_passesOne 5 = .ok (.dup2, 1) := by decide +kernel
theorem dX10_passesOne_6 : decode cX10_passesOne 6 = .ok (.iaload, 1) := by decide +kernel
theorem dX10_passesOne_7 : decode cX10_passesOne 7 = .ok (.iconst 1, 1) := by decide +kernel
theorem dX10_passesOne_8 : decode cX10_passesOne 8 = .ok (.iadd, 1) := by decide +kernel
theorem dX10_passesOne_9 : decode cX10_passesOne 9 = .ok (.iastore, 1) := by decide +kernel
theorem dX10_passesOne_10 : decode cX10_passesOne 10 = .ok (.iconst 0, 1) := by decide +kernel
theorem dX10_passesOne_11 : decode cX10_passesOne 11 = .ok (.istore_n 1, 1) := by decide +kernel
theorem dX10_passesOne_12 : decode cX10_passesOne 12 = .ok (.iload_n 1, 1) := by decide +kernel
theorem dX10_passesOne_13 : decode cX10_passesOne 13 = .ok (.aload_n 0, 1) := by decide +kernel
theorem dX10_passesOne_14 : decode cX10_passesOne 14 = .ok (.getfield 13, 3) := by decide +kernel
theorem dX10_passesOne_17 : decode cX10_passesOne 17 = .ok (.iconst 2, 1) := by decide +kernel
theorem dX10_passesOne_18 : decode cX10_passesOne 18 = .ok (.iaload, 1) := by decide +kernel
theorem dX10_passesOne_19 : decode cX10_passesOne 19 = .ok (.if_icmp .ge 27, 3) := by decide +kernel
theorem dX10_passesOne_22 : decode cX10_passesOne 22 = .ok (.aload_n 0, 1) := by decide +kernel
theorem dX10_passesOne_23 : decode cX10_passesOne 23 = .ok (.iload_n 1, 1) := by decide +kernel
theorem dX10_passesOne_24 : decode cX10_passesOne 24 = .ok (.iconst 3, 1) := by decide +kernel
theorem dX10_passesOne_25 : decode cX10_passesOne 25 = .ok (.aload_n 0, 1) := by decide +kernel
theorem dX10_passesOne_26 : decode cX10_passesOne 26 = .ok (.iload_n 1, 1) := by decide +kernel
theorem dX10_passesOne_27 : decode cX10_passesOne 27 = .ok (.iconst 3, 1) := by decide +kernel
theorem dX10_passesOne_28 : decode cX10_passesOne 28 = .ok (.invokevirtual 58, 3) := by decide +kernel
theorem dX10_passesOne_31 : decode cX10_passesOne 31 = .ok (.aload_n 0, 1) := by decide +kernel
theorem dX10_passesOne_32 : decode cX10_passesOne 32 = .ok (.iload_n 1, 1) := by decide +kernel
theorem dX10_passesOne_33 : decode cX10_passesOne 33 = .ok (.invokevirtual 162, 3) := by decide +kernel
theorem dX10_passesOne_36 : decode cX10_passesOne 36 = .ok (.iadd, 1) := by decide +kernel
theorem dX10_passesOne_37 : decode cX10_passesOne 37 = .ok (.invokevirtual 73, 3) := by decide +kernel
theorem dX10_passesOne_40 : decode cX10_passesOne 40 = .ok (.iinc 1 1, 3) := by decide +kernel
theorem dX10_passesOne_43 : decode cX10_passesOne 43 = .ok (.goto (-31), 3) := by decide +kernel
theorem dX10_passesOne_46 : decode cX10_passesOne 46 = .ok (.iconst 0, 1) := by decide +kernel
theorem dX10_passesOne_47 : decode cX10_passesOne 47 = .ok (.istore_n 1, 1) := by decide +kernel
theorem dX10_passesOne_48 : decode cX10_passesOne 48 = .ok (.iconst 0, 1) := by decide +kernel
theorem dX10_passesOne_49 : decode cX10_passesOne 49 = .ok (.istore_n 2, 1) := by decide +kernel
theorem dX10_passesOne_50 : decode cX10_passesOne 50 = .ok (.iload_n 2, 1) := by decide +kernel
theorem dX10_passesOne_51 : decode cX10_passesOne 51 = .ok (.aload_n 0, 1) := by decide +kernel
theorem dX10_passesOne_52 : decode cX10_passesOne 52 = .ok (.getfield 13, 3) := by decide +kernel
theorem dX10_passesOne_55 : decode cX10_passesOne 55 = .ok (.iconst 2, 1) := by decide +kernel
theorem dX10_passesOne_56 : decode cX10_passesOne 56 = .ok (.iaload, 1) := by decide +kernel
theorem dX10_passesOne_57 : decode cX10_passesOne 57 = .ok (.if_icmp .ge 28, 3) := by decide +kernel
theorem dX10_passesOne_60 : decode cX10_passesOne 60 = .ok (.aload_n 0, 1) := by decide +kernel
theorem dX10_passesOne_61 : decode cX10_passesOne 61 = .ok (.iload_n 2, 1) := by decide +kernel
theorem dX10_passesOne_62 : decode cX10_passesOne 62 = .ok (.invokevirtual 165, 3) := by decide +kernel
theorem dX10_passesOne_65 : decode cX10_passesOne 65 = .ok (.ifCond .eq 14, 3) := by decide +kernel
theorem dX10_passesOne_68 : decode cX10_passesOne 68 = .ok (.aload_n 0, 1) := by decide +kernel
theorem dX10_passesOne_69 : decode cX10_passesOne 69 = .ok (.iload_n 2, 1) := by decide +kernel
theorem dX10_passesOne_70 : decode cX10_passesOne 70 = .ok (.invokevirtual 168, 3) := by decide +kernel
theorem dX10_passesOne_73 : decode cX10_passesOne 73 = .ok (.iinc 1 1, 3) := by decide +kernel
theorem dX10_passesOne_76 : decode cX10_passesOne 76 = .ok (.goto (-26), 3) := by decide +kernel
theorem dX10_passesOne_79 : decode cX10_passesOne 79 = .ok (.iinc 2 1, 3) := by decide +kernel
theorem dX10_passesOne_82 : decode cX10_passesOne 82 = .ok (.goto (-32), 3) := by decide +kernel
theorem dX10_passesOne_85 : decode cX10_passesOne 85 = .ok (.iload_n 1, 1) := by decide +kernel
theorem dX10_passesOne_86 : decode cX10_passesOne 86 = .ok (.ireturn, 1) := by decide +kernel
theorem dX10_passes_0 : decode cX10_passes 0 = .ok (.iconst 0, 1) := by decide +kernel
theorem dX10_passes_1 : decode cX10_passes 1 = .ok (.istore_n 2, 1) := by decide +kernel
theorem dX10_passes_2 : decode cX10_passes 2 = .ok (.iconst 0, 1) := by decide +kernel
theorem dX10_passes_3 : decode cX10_passes 3 = .ok (.istore_n 3, 1) := by decide +kernel
theorem dX10_passes_4 : decode cX10_passes 4 = .ok (.iload_n 3, 1) := by decide +kernel
theorem dX10_passes_5 : decode cX10_passes 5 = .ok (.iload_n 1, 1) := by decide +kernel
theorem dX10_passes_6 : decode cX10_passes 6 = .ok (.if_icmp .ge 16, 3) := by decide +kernel
theorem dX10_passes_9 : decode cX10_passes 9 = .ok (.iload_n 2, 1) := by decide +kernel
theorem dX10_passes_10 : decode cX10_passes 10 = .ok (.aload_n 0, 1) := by decide +kernel
theorem dX10_passes_11 : decode cX10_passes 11 = .ok (.invokevirtual 171, 3) := by decide +kernel
theorem dX10_passes_14 : decode cX10_passes 14 = .ok (.iadd, 1) := by decide +kernel
theorem dX10_passes_15 : decode cX10_passes 15 = .ok (.istore_n 2, 1) := by decide +kernel
theorem dX10_passes_16 : decode cX10_passes 16 = .ok (.iinc 3 1, 3) := by decide +kernel
theorem dX10_passes_19 : decode cX10_passes 19 = .ok (.goto (-15), 3) := by decide +kernel
theorem dX10_passes_22 : decode cX10_passes 22 = .ok (.iload_n 2, 1) := by decide +kernel
theorem dX10_passes_23 : decode cX10_passes 23 = .ok (.ireturn, 1) := by decide +kernel
theorem dX10_notPass_0 : decode cX10_notPass 0 = .ok (.iload_n 0, 1) := by decide +kernel
theorem dX10_notPass_1 : decode cX10_notPass 1 = .ok (.iconst 1, 1) := by decide +kernel
theorem dX10_notPass_2 : decode cX10_notPass 2 = .ok (.bipush 60, 2) := by decide +kernel
theorem dX10_notPass_4 : decode cX10_notPass 4 = .ok (.invokestatic 54, 3) := by decide +kernel
theorem dX10_notPass_7 : decode cX10_notPass 7 = .ok (.ifCond .eq 7, 3) := by decide +kernel
theorem dX10_notPass_10 : decode cX10_notPass 10 = .ok (.iconst 0, 1) := by decide +kernel
theorem dX10_notPass_11 : decode cX10_notPass 11 = .ok (.goto 4, 3) := by decide +kernel
theorem dX10_notPass_14 : decode cX10_notPass 14 = .ok (.iconst 1, 1) := by decide +kernel
theorem dX10_notPass_15 : decode cX10_notPass 15 = .ok (.ireturn, 1) := by decide +kernel
theorem dX10_pass_0 : decode cX10_pass 0 = .ok (.aload_n 0, 1) := by decide +kernel
theorem dX10_pass_1 : decode cX10_pass 1 = .ok (.iconst 0, 1) := by decide +kernel
theorem dX10_pass_2 : decode cX10_pass 2 = .ok (.putfield 1, 3) := by decide +kernel
theorem dX10_pass_5 : decode cX10_pass 5 = .ok (.iload_n 1, 1) := by decide +kernel
theorem dX10_pass_6 : decode cX10_pass 6 = .ok (.invokestatic 175, 3) := by decide +kernel
theorem dX10_pass_9 : decode cX10_pass 9 = .ok (.ifCond .eq 9, 3) := by decide +kernel
theorem dX10_pass_12 : decode cX10_pass 12 = .ok (.aload_n 0, 1) := by decide +kernel
theorem dX10_pass_13 : decode cX10_pass 13 = .ok (.iconst 1, 1) := by decide +kernel
theorem dX10_pass_14 : decode cX10_pass 14 = .ok (.invokevirtual 79, 3) := by decide +kernel
theorem dX10_pass_17 : decode cX10_pass 17 = .ok (.ireturn, 1) := by decide +kernel
theorem dX10_pass_18 : decode cX10_pass 18 = .ok (.aload_n 0, 1) := by decide +kernel
theorem dX10_pass_19 : decode cX10_pass 19 = .ok (.invokevirtual 82, 3) := by decide +kernel
theorem dX10_pass_22 : decode cX10_pass 22 = .ok (.aload_n 0, 1) := by decide +kernel
theorem dX10_pass_23 : decode cX10_pass 23 = .ok (.iload_n 1, 1) := by decide +kernel
theorem dX10_pass_24 : decode cX10_pass 24 = .ok (.invokevirtual 178, 3) := by decide +kernel
theorem dX10_pass_27 : decode cX10_pass 27 = .ok (.ireturn, 1) := by decide +kernel
theorem dX10_asks_0 : decode cX10_asks 0 = .ok (.aload_n 0, 1) := by decide +kernel
theorem dX10_asks_1 : decode cX10_asks 1 = .ok (.iconst 0, 1) := by decide +kernel
theorem dX10_asks_2 : decode cX10_asks 2 = .ok (.putfield 1, 3) := by decide +kernel
theorem dX10_asks_5 : decode cX10_asks 5 = .ok (.aload_n 0, 1) := by decide +kernel
theorem dX10_asks_6 : decode cX10_asks 6 = .ok (.getfield 13, 3) := by decide +kernel
theorem dX10_asks_9 : decode cX10_asks 9 = .ok (.iload_n 1, 1) := by decide +kernel
theorem dX10_asks_10 : decode cX10_asks 10 = .ok (.iaload, 1) := by decide +kernel
theorem dX10_asks_11 : decode cX10_asks 11 = .ok (.ireturn, 1) := by decide +kernel
theorem dX10_day_0 : decode cX10_day 0 = .ok (.aload_n 0, 1) := by decide +kernel
theorem dX10_day_1 : decode cX10_day 1 = .ok (.iconst 0, 1) := by decide +kernel
theorem dX10_day_2 : decode cX10_day 2 = .ok (.invokevirtual 181, 3) := by decide +kernel
theorem dX10_day_5 : decode cX10_day 5 = .ok (.ireturn, 1) := by decide +kernel
theorem dX10_asksKind_0 : decode cX10_asksKind 0 = .ok (.aload_n 0, 1) := by decide +kernel
theorem dX10_asksKind_1 : decode cX10_asksKind 1 = .ok (.iconst 0, 1) := by decide +kernel
theorem dX10_asksKind_2 : decode cX10_asksKind 2 = .ok (.putfield 1, 3) := by decide +kernel
theorem dX10_asksKind_5 : decode cX10_asksKind 5 = .ok (.iload_n 1, 1) := by decide +kernel
theorem dX10_asksKind_6 : decode cX10_asksKind 6 = .ok (.invokestatic 92, 3) := by decide +kernel
theorem dX10_asksKind_9 : decode cX10_asksKind 9 = .ok (.ifCond .eq 14, 3) := by decide +kernel
theorem dX10_asksKind_12 : decode cX10_asksKind 12 = .ok (.aload_n 0, 1) := by decide +kernel
theorem dX10_asksKind_13 : decode cX10_asksKind 13 = .ok (.getfield 13, 3) := by decide +kernel
theorem dX10_asksKind_16 : decode cX10_asksKind 16 = .ok (.iload_n 2, 1) := by decide +kernel
theorem dX10_asksKind_17 : decode cX10_asksKind 17 = .ok (.iload_n 1, 1) := by decide +kernel
theorem dX10_asksKind_18 : decode cX10_asksKind 18 = .ok (.iadd, 1) := by decide +kernel
theorem dX10_asksKind_19 : decode cX10_asksKind 19 = .ok (.iaload, 1) := by decide +kernel
theorem dX10_asksKind_20 : decode cX10_asksKind 20 = .ok (.goto 8, 3) := by decide +kernel
theorem dX10_asksKind_23 : decode cX10_asksKind 23 = .ok (.aload_n 0, 1) := by decide +kernel
theorem dX10_asksKind_24 : decode cX10_asksKind 24 = .ok (.iconst 1, 1) := by decide +kernel
theorem dX10_asksKind_25 : decode cX10_asksKind 25 = .ok (.invokevirtual 79, 3) := by decide +kernel
theorem dX10_asksKind_28 : decode cX10_asksKind 28 = .ok (.ireturn, 1) := by decide +kernel
theorem dX10_price_0 : decode cX10_price 0 = .ok (.aload_n 0, 1) := by decide +kernel
theorem dX10_price_1 : decode cX10_price 1 = .ok (.iload_n 1, 1) := by decide +kernel
theorem dX10_price_2 : decode cX10_price 2 = .ok (.bipush 10, 2) := by decide +kernel
theorem dX10_price_4 : decode cX10_price 4 = .ok (.invokevirtual 184, 3) := by decide +kernel
theorem dX10_price_7 : decode cX10_price 7 = .ok (.ireturn, 1) := by decide +kernel
theorem dX10_capital_0 : decode cX10_capital 0 = .ok (.aload_n 0, 1) := by decide +kernel
theorem dX10_capital_1 : decode cX10_capital 1 = .ok (.iconst 4, 1) := by decide +kernel
theorem dX10_capital_2 : decode cX10_capital 2 = .ok (.invokevirtual 181, 3) := by decide +kernel
theorem dX10_capital_5 : decode cX10_capital 5 = .ok (.ireturn, 1) := by decide +kernel
theorem dX10_stock_0 : decode cX10_stock 0 = .ok (.aload_n 0, 1) := by decide +kernel
theorem dX10_stock_1 : decode cX10_stock 1 = .ok (.iload_n 1, 1) := by decide +kernel
theorem dX10_stock_2 : decode cX10_stock 2 = .ok (.bipush 14, 2) := by decide +kernel
theorem dX10_stock_4 : decode cX10_stock 4 = .ok (.invokevirtual 184, 3) := by decide +kernel
theorem dX10_stock_7 : decode cX10_stock 7 = .ok (.ireturn, 1) := by decide +kernel
theorem dX10_borrowerCount_0 : decode cX10_borrowerCount 0 = .ok (.aload_n 0, 1) := by decide +kernel
theorem dX10_borrowerCount_1 : decode cX10_borrowerCount 1 = .ok (.iconst 1, 1) := by decide +kernel
theorem dX10_borrowerCount_2 : decode cX10_borrowerCount 2 = .ok (.invokevirtual 181, 3) := by decide +kernel
theorem dX10_borrowerCount_5 : decode cX10_borrowerCount 5 = .ok (.ireturn, 1) := by decide +kernel
theorem dX10_asksBorrower_0 : decode cX10_asksBorrower 0 = .ok (.aload_n 0, 1) := by decide +kernel
theorem dX10_asksBorrower_1 : decode cX10_asksBorrower 1 = .ok (.iconst 0, 1) := by decide +kernel
theorem dX10_asksBorrower_2 : decode cX10_asksBorrower 2 = .ok (.putfield 1, 3) := by decide +kernel
theorem dX10_asksBorrower_5 : decode cX10_asksBorrower 5 = .ok (.aload_n 0, 1) := by decide +kernel
theorem dX10_asksBorrower_6 : decode cX10_asksBorrower 6 = .ok (.iload_n 1, 1) := by decide +kernel
theorem dX10_asksBorrower_7 : decode cX10_asksBorrower 7 = .ok (.invokevirtual 88, 3) := by decide +kernel
theorem dX10_asksBorrower_10 : decode cX10_asksBorrower 10 = .ok (.ifCond .eq 12, 3) := by decide +kernel
theorem dX10_asksBorrower_13 : decode cX10_asksBorrower 13 = .ok (.aload_n 0, 1) := by decide +kernel
theorem dX10_asksBorrower_14 : decode cX10_asksBorrower 14 = .ok (.iload_n 1, 1) := by decide +kernel
theorem dX10_asksBorrower_15 : decode cX10_asksBorrower 15 = .ok (.iload_n 2, 1) := by decide +kernel
theorem dX10_asksBorrower_16 : decode cX10_asksBorrower 16 = .ok (.invokevirtual 95, 3) := by decide +kernel
theorem dX10_asksBorrower_19 : decode cX10_asksBorrower 19 = .ok (.goto 8, 3) := by decide +kernel
theorem dX10_asksBorrower_22 : decode cX10_asksBorrower 22 = .ok (.aload_n 0, 1) := by decide +kernel
theorem dX10_asksBorrower_23 : decode cX10_asksBorrower 23 = .ok (.iconst 1, 1) := by decide +kernel
theorem dX10_asksBorrower_24 : decode cX10_asksBorrower 24 = .ok (.invokevirtual 79, 3) := by decide +kernel
theorem dX10_asksBorrower_27 : decode cX10_asksBorrower 27 = .ok (.ireturn, 1) := by decide +kernel
theorem dX10_coins_0 : decode cX10_coins 0 = .ok (.aload_n 0, 1) := by decide +kernel
theorem dX10_coins_1 : decode cX10_coins 1 = .ok (.iload_n 1, 1) := by decide +kernel
theorem dX10_coins_2 : decode cX10_coins 2 = .ok (.iconst 0, 1) := by decide +kernel
theorem dX10_coins_3 : decode cX10_coins 3 = .ok (.invokevirtual 187, 3) := by decide +kernel
theorem dX10_coins_6 : decode cX10_coins 6 = .ok (.ireturn, 1) := by decide +kernel
theorem dX10_units_0 : decode cX10_units 0 = .ok (.aload_n 0, 1) := by decide +kernel
theorem dX10_units_1 : decode cX10_units 1 = .ok (.iconst 0, 1) := by decide +kernel
theorem dX10_units_2 : decode cX10_units 2 = .ok (.putfield 1, 3) := by decide +kernel
theorem dX10_units_5 : decode cX10_units 5 = .ok (.aload_n 0, 1) := by decide +kernel
theorem dX10_units_6 : decode cX10_units 6 = .ok (.iload_n 1, 1) := by decide +kernel
theorem dX10_units_7 : decode cX10_units 7 = .ok (.invokevirtual 88, 3) := by decide +kernel
theorem dX10_units_10 : decode cX10_units 10 = .ok (.ifCond .eq 21, 3) := by decide +kernel
theorem dX10_units_13 : decode cX10_units 13 = .ok (.iload_n 2, 1) := by decide +kernel
theorem dX10_units_14 : decode cX10_units 14 = .ok (.invokestatic 92, 3) := by decide +kernel
theorem dX10_units_17 : decode cX10_units 17 = .ok (.ifCond .eq 14, 3) := by decide +kernel
theorem dX10_units_20 : decode cX10_units 20 = .ok (.aload_n 0, 1) := by decide +kernel
theorem dX10_units_21 : decode cX10_units 21 = .ok (.iload_n 1, 1) := by decide +kernel
theorem dX10_units_22 : decode cX10_units 22 = .ok (.iconst 2, 1) := by decide +kernel
theorem dX10_units_23 : decode cX10_units 23 = .ok (.iload_n 2, 1) := by decide +kernel
theorem dX10_units_24 : decode cX10_units 24 = .ok (.iadd, 1) := by decide +kernel
theorem dX10_units_25 : decode cX10_units 25 = .ok (.invokevirtual 95, 3) := by decide +kernel
theorem dX10_units_28 : decode cX10_units 28 = .ok (.goto 8, 3) := by decide +kernel
theorem dX10_units_31 : decode cX10_units 31 = .ok (.aload_n 0, 1) := by decide +kernel
theorem dX10_units_32 : decode cX10_units 32 = .ok (.iconst 1, 1) := by decide +kernel
theorem dX10_units_33 : decode cX10_units 33 = .ok (.invokevirtual 79, 3) := by decide +kernel
theorem dX10_units_36 : decode cX10_units 36 = .ok (.ireturn, 1) := by decide +kernel
theorem dX10_pledgedBy_0 : decode cX10_pledgedBy 0 = .ok (.iconst 0, 1) := by decide +kernel
theorem dX10_pledgedBy_1 : decode cX10_pledgedBy 1 = .ok (.istore_n 3, 1) := by decide +kernel
theorem dX10_pledgedBy_2 : decode cX10_pledgedBy 2 = .ok (.iconst 0, 1) := by decide +kernel
theorem dX10_pledgedBy_3 : decode cX10_pledgedBy 3 = .ok (.istore 4, 2) := by decide +kernel
theorem dX10_pledgedBy_5 : decode cX10_pledgedBy 5 = .ok (.iload 4, 2) := by decide +kernel
theorem dX10_pledgedBy_7 : decode cX10_pledgedBy 7 = .ok (.aload_n 0, 1) := by decide +kernel
theorem dX10_pledgedBy_8 : decode cX10_pledgedBy 8 = .ok (.getfield 13, 3) := by decide +kernel
theorem dX10_pledgedBy_11 : decode cX10_pledgedBy 11 = .ok (.iconst 2, 1) := by decide +kernel
theorem dX10_pledgedBy_12 : decode cX10_pledgedBy 12 = .ok (.iaload, 1) := by decide +kernel
theorem dX10_pledgedBy_13 : decode cX10_pledgedBy 13 = .ok (.if_icmp .ge 37, 3) := by decide +kernel
theorem dX10_pledgedBy_16 : decode cX10_pledgedBy 16 = .ok (.iload_n 3, 1) := by decide +kernel
theorem dX10_pledgedBy_17 : decode cX10_pledgedBy 17 = .ok (.aload_n 0, 1) := by decide +kernel
theorem dX10_pledgedBy_18 : decode cX10_pledgedBy 18 = .ok (.iload 4, 2) := by decide +kernel
theorem dX10_pledgedBy_20 : decode cX10_pledgedBy 20 = .ok (.iconst 1, 1) := by decide +kernel
theorem dX10_pledgedBy_21 : decode cX10_pledgedBy 21 = .ok (.invokevirtual 58, 3) := by decide +kernel
theorem dX10_pledgedBy_24 : decode cX10_pledgedBy 24 = .ok (.iload_n 1, 1) := by decide +kernel
theorem dX10_pledgedBy_25 : decode cX10_pledgedBy 25 = .ok (.if_icmp .ne 16, 3) := by decide +kernel
theorem dX10_pledgedBy_28 : decode cX10_pledgedBy 28 = .ok (.aload_n 0, 1) := by decide +kernel
theorem dX10_pledgedBy_29 : decode cX10_pledgedBy 29 = .ok (.iload 4, 2) := by decide +kernel
theorem dX10_pledgedBy_31 : decode cX10_pledgedBy 31 = .ok (.bipush 6, 2) := by decide +kernel
theorem dX10_pledgedBy_33 : decode cX10_pledgedBy 33 = .ok (.iload_n 2, 1) := by decide +kernel
theorem dX10_pledgedBy_34 : decode cX10_pledgedBy 34 = .ok (.iadd, 1) := by decide +kernel
theorem dX10_pledgedBy_35 : decode cX10_pledgedBy 35 = .ok (.invokevirtual 58, 3) := by decide +kernel
theorem dX10_pledgedBy_38 : decode cX10_pledgedBy 38 = .ok (.goto 4, 3) := by decide +kernel
theorem dX10_pledgedBy_41 : decode cX10_pledgedBy 41 = .ok (.iconst 0, 1) := by decide +kernel
theorem dX10_pledgedBy_42 : decode cX10_pledgedBy 42 = .ok (.iadd, 1) := by decide +kernel
theorem dX10_pledgedBy_43 : decode cX10_pledgedBy 43 = .ok (.istore_n 3, 1) := by decide +kernel
theorem dX10_pledgedBy_44 : decode cX10_pledgedBy 44 = .ok (.iinc 4 1, 3) := by decide +kernel
theorem dX10_pledgedBy_47 : decode cX10_pledgedBy 47 = .ok (.goto (-42), 3) := by decide +kernel
theorem dX10_pledgedBy_50 : decode cX10_pledgedBy 50 = .ok (.iload_n 3, 1) := by decide +kernel
theorem dX10_pledgedBy_51 : decode cX10_pledgedBy 51 = .ok (.ireturn, 1) := by decide +kernel
theorem dX10_pledgedUnits_0 : decode cX10_pledgedUnits 0 = .ok (.aload_n 0, 1) := by decide +kernel
theorem dX10_pledgedUnits_1 : decode cX10_pledgedUnits 1 = .ok (.iconst 0, 1) := by decide +kernel
theorem dX10_pledgedUnits_2 : decode cX10_pledgedUnits 2 = .ok (.putfield 1, 3) := by decide +kernel
theorem dX10_pledgedUnits_5 : decode cX10_pledgedUnits 5 = .ok (.aload_n 0, 1) := by decide +kernel
theorem dX10_pledgedUnits_6 : decode cX10_pledgedUnits 6 = .ok (.iload_n 1, 1) := by decide +kernel
theorem dX10_pledgedUnits_7 : decode cX10_pledgedUnits 7 = .ok (.invokevirtual 88, 3) := by decide +kernel
theorem dX10_pledgedUnits_10 : decode cX10_pledgedUnits 10 = .ok (.ifCond .eq 19, 3) := by decide +kernel
theorem dX10_pledgedUnits_13 : decode cX10_pledgedUnits 13 = .ok (.iload_n 2, 1) := by decide +kernel
theorem dX10_pledgedUnits_14 : decode cX10_pledgedUnits 14 = .ok (.invokestatic 92, 3) := by decide +kernel
theorem dX10_pledgedUnits_17 : decode cX10_pledgedUnits 17 = .ok (.ifCond .eq 12, 3) := by decide +kernel
theorem dX10_pledgedUnits_20 : decode cX10_pledgedUnits 20 = .ok (.aload_n 0, 1) := by decide +kernel
theorem dX10_pledgedUnits_21 : decode cX10_pledgedUnits 21 = .ok (.iload_n 1, 1) := by decide +kernel
theorem dX10_pledgedUnits_22 : decode cX10_pledgedUnits 22 = .ok (.iload_n 2, 1) := by decide +kernel
theorem dX10_pledgedUnits_23 : decode cX10_pledgedUnits 23 = .ok (.invokevirtual 190, 3) := by decide +kernel
theorem dX10_pledgedUnits_26 : decode cX10_pledgedUnits 26 = .ok (.goto 8, 3) := by decide +kernel
theorem dX10_pledgedUnits_29 : decode cX10_pledgedUnits 29 = .ok (.aload_n 0, 1) := by decide +kernel
theorem dX10_pledgedUnits_30 : decode cX10_pledgedUnits 30 = .ok (.iconst 1, 1) := by decide +kernel
theorem dX10_pledgedUnits_31 : decode cX10_pledgedUnits 31 = .ok (.invokevirtual 79, 3) := by decide +kernel
theorem dX10_pledgedUnits_34 : decode cX10_pledgedUnits 34 = .ok (.ireturn, 1) := by decide +kernel
theorem dX10_defaults_0 : decode cX10_defaults 0 = .ok (.aload_n 0, 1) := by decide +kernel
theorem dX10_defaults_1 : decode cX10_defaults 1 = .ok (.iload_n 1, 1) := by decide +kernel
theorem dX10_defaults_2 : decode cX10_defaults 2 = .ok (.iconst 1, 1) := by decide +kernel
theorem dX10_defaults_3 : decode cX10_defaults 3 = .ok (.invokevirtual 187, 3) := by decide +kernel
theorem dX10_defaults_6 : decode cX10_defaults 6 = .ok (.ireturn, 1) := by decide +kernel
theorem dX10_canBorrow_0 : decode cX10_canBorrow 0 = .ok (.aload_n 0, 1) := by decide +kernel
theorem dX10_canBorrow_1 : decode cX10_canBorrow 1 = .ok (.iload_n 1, 1) := by decide +kernel
theorem dX10_canBorrow_2 : decode cX10_canBorrow 2 = .ok (.iconst 1, 1) := by decide +kernel
theorem dX10_canBorrow_3 : decode cX10_canBorrow 3 = .ok (.invokevirtual 187, 3) := by decide +kernel
theorem dX10_canBorrow_6 : decode cX10_canBorrow 6 = .ok (.istore_n 2, 1) := by decide +kernel
theorem dX10_canBorrow_7 : decode cX10_canBorrow 7 = .ok (.aload_n 0, 1) := by decide +kernel
theorem dX10_canBorrow_8 : decode cX10_canBorrow 8 = .ok (.getfield 1, 3) := by decide +kernel
theorem dX10_canBorrow_11 : decode cX10_canBorrow 11 = .ok (.ifCond .ne 12, 3) := by decide +kernel
theorem dX10_canBorrow_14 : decode cX10_canBorrow 14 = .ok (.iload_n 2, 1) := by decide +kernel
theorem dX10_canBorrow_15 : decode cX10_canBorrow 15 = .ok (.iconst 2, 1) := by decide +kernel
theorem dX10_canBorrow_16 : decode cX10_canBorrow 16 = .ok (.if_icmp .ge 7, 3) := by decide +kernel
theorem dX10_canBorrow_19 : decode cX10_canBorrow 19 = .ok (.iconst 1, 1) := by decide +kernel
theorem dX10_canBorrow_20 : decode cX10_canBorrow 20 = .ok (.goto 4, 3) := by decide +kernel
theorem dX10_canBorrow_23 : decode cX10_canBorrow 23 = .ok (.iconst 0, 1) := by decide +kernel
theorem dX10_canBorrow_24 : decode cX10_canBorrow 24 = .ok (.ireturn, 1) := by decide +kernel
theorem dX10_loansOf_0 : decode cX10_loansOf 0 = .ok (.aload_n 0, 1) := by decide +kernel
theorem dX10_loansOf_1 : decode cX10_loansOf 1 = .ok (.iconst 0, 1) := by decide +kernel
theorem dX10_loansOf_2 : decode cX10_loansOf 2 = .ok (.putfield 1, 3) := by decide +kernel
theorem dX10_loansOf_5 : decode cX10_loansOf 5 = .ok (.aload_n 0, 1) := by decide +kernel
theorem dX10_loansOf_6 : decode cX10_loansOf 6 = .ok (.iload_n 1, 1) := by decide +kernel
theorem dX10_loansOf_7 : decode cX10_loansOf 7 = .ok (.invokevirtual 88, 3) := by decide +kernel
theorem dX10_loansOf_10 : decode cX10_loansOf 10 = .ok (.ifCond .eq 11, 3) := by decide +kernel
theorem dX10_loansOf_13 : decode cX10_loansOf 13 = .ok (.aload_n 0, 1) := by decide +kernel
theorem dX10_loansOf_14 : decode cX10_loansOf 14 = .ok (.iload_n 1, 1) := by decide +kernel
theorem dX10_loansOf_15 : decode cX10_loansOf 15 = .ok (.invokevirtual 111, 3) := by decide +kernel
theorem dX10_loansOf_18 : decode cX10_loansOf 18 = .ok (.goto 8, 3) := by decide +kernel
theorem dX10_loansOf_21 : decode cX10_loansOf 21 = .ok (.aload_n 0, 1) := by decide +kernel
theorem dX10_loansOf_22 : decode cX10_loansOf 22 = .ok (.iconst 1, 1) := by decide +kernel
theorem dX10_loansOf_23 : decode cX10_loansOf 23 = .ok (.invokevirtual 79, 3) := by decide +kernel
theorem dX10_loansOf_26 : decode cX10_loansOf 26 = .ok (.ireturn, 1) := by decide +kernel
theorem dX10_debtsOf_0 : decode cX10_debtsOf 0 = .ok (.iconst 0, 1) := by decide +kernel
theorem dX10_debtsOf_1 : decode cX10_debtsOf 1 = .ok (.istore_n 2, 1) := by decide +kernel
theorem dX10_debtsOf_2 : decode cX10_debtsOf 2 = .ok (.iconst 0, 1) := by decide +kernel
theorem dX10_debtsOf_3 : decode cX10_debtsOf 3 = .ok (.istore_n 3, 1) := by decide +kernel
theorem dX10_debtsOf_4 : decode cX10_debtsOf 4 = .ok (.iload_n 3, 1) := by decide +kernel
theorem dX10_debtsOf_5 : decode cX10_debtsOf 5 = .ok (.aload_n 0, 1) := by decide +kernel
theorem dX10_debtsOf_6 : decode cX10_debtsOf 6 = .ok (.getfield 13, 3) := by decide +kernel
theorem dX10_debtsOf_9 : decode cX10_debtsOf 9 = .ok (.iconst 2, 1) := by decide +kernel
theorem dX10_debtsOf_10 : decode cX10_debtsOf 10 = .ok (.iaload, 1) := by decide +kernel
theorem dX10_debtsOf_11 : decode cX10_debtsOf 11 = .ok (.if_icmp .ge 31, 3) := by decide +kernel
theorem dX10_debtsOf_14 : decode cX10_debtsOf 14 = .ok (.iload_n 2, 1) := by decide +kernel
theorem dX10_debtsOf_15 : decode cX10_debtsOf 15 = .ok (.aload_n 0, 1) := by decide +kernel
theorem dX10_debtsOf_16 : decode cX10_debtsOf 16 = .ok (.iload_n 3, 1) := by decide +kernel
theorem dX10_debtsOf_17 : decode cX10_debtsOf 17 = .ok (.iconst 1, 1) := by decide +kernel
theorem dX10_debtsOf_18 : decode cX10_debtsOf 18 = .ok (.invokevirtual 58, 3) := by decide +kernel
theorem dX10_debtsOf_21 : decode cX10_debtsOf 21 = .ok (.iload_n 1, 1) := by decide +kernel
theorem dX10_debtsOf_22 : decode cX10_debtsOf 22 = .ok (.if_icmp .ne 11, 3) := by decide +kernel
theorem dX10_debtsOf_25 : decode cX10_debtsOf 25 = .ok (.aload_n 0, 1) := by decide +kernel
theorem dX10_debtsOf_26 : decode cX10_debtsOf 26 = .ok (.iload_n 3, 1) := by decide +kernel
theorem dX10_debtsOf_27 : decode cX10_debtsOf 27 = .ok (.invokevirtual 62, 3) := by decide +kernel
theorem dX10_debtsOf_30 : decode cX10_debtsOf 30 = .ok (.goto 4, 3) := by decide +kernel
theorem dX10_debtsOf_33 : decode cX10_debtsOf 33 = .ok (.iconst 0, 1) := by decide +kernel
theorem dX10_debtsOf_34 : decode cX10_debtsOf 34 = .ok (.iadd, 1) := by decide +kernel
theorem dX10_debtsOf_35 : decode cX10_debtsOf 35 = .ok (.istore_n 2, 1) := by decide +kernel
theorem dX10_debtsOf_36 : decode cX10_debtsOf 36 = .ok (.iinc 3 1, 3) := by decide +kernel
theorem dX10_debtsOf_39 : decode cX10_debtsOf 39 = .ok (.goto (-35), 3) := by decide +kernel
theorem dX10_debtsOf_42 : decode cX10_debtsOf 42 = .ok (.iload_n 2, 1) := by decide +kernel
theorem dX10_debtsOf_43 : decode cX10_debtsOf 43 = .ok (.ireturn, 1) := by decide +kernel
theorem dX10_debtOf_0 : decode cX10_debtOf 0 = .ok (.aload_n 0, 1) := by decide +kernel
theorem dX10_debtOf_1 : decode cX10_debtOf 1 = .ok (.iconst 0, 1) := by decide +kernel
theorem dX10_debtOf_2 : decode cX10_debtOf 2 = .ok (.putfield 1, 3) := by decide +kernel
theorem dX10_debtOf_5 : decode cX10_debtOf 5 = .ok (.aload_n 0, 1) := by decide +kernel
theorem dX10_debtOf_6 : decode cX10_debtOf 6 = .ok (.iload_n 1, 1) := by decide +kernel
theorem dX10_debtOf_7 : decode cX10_debtOf 7 = .ok (.invokevirtual 88, 3) := by decide +kernel
theorem dX10_debtOf_10 : decode cX10_debtOf 10 = .ok (.ifCond .eq 11, 3) := by decide +kernel
theorem dX10_debtOf_13 : decode cX10_debtOf 13 = .ok (.aload_n 0, 1) := by decide +kernel
theorem dX10_debtOf_14 : decode cX10_debtOf 14 = .ok (.iload_n 1, 1) := by decide +kernel
theorem dX10_debtOf_15 : decode cX10_debtOf 15 = .ok (.invokevirtual 193, 3) := by decide +kernel
theorem dX10_debtOf_18 : decode cX10_debtOf 18 = .ok (.goto 8, 3) := by decide +kernel
theorem dX10_debtOf_21 : decode cX10_debtOf 21 = .ok (.aload_n 0, 1) := by decide +kernel
theorem dX10_debtOf_22 : decode cX10_debtOf 22 = .ok (.iconst 1, 1) := by decide +kernel
theorem dX10_debtOf_23 : decode cX10_debtOf 23 = .ok (.invokevirtual 79, 3) := by decide +kernel
theorem dX10_debtOf_26 : decode cX10_debtOf 26 = .ok (.ireturn, 1) := by decide +kernel
theorem dX10_wealth_0 : decode cX10_wealth 0 = .ok (.aload_n 0, 1) := by decide +kernel
theorem dX10_wealth_1 : decode cX10_wealth 1 = .ok (.iconst 0, 1) := by decide +kernel
theorem dX10_wealth_2 : decode cX10_wealth 2 = .ok (.putfield 1, 3) := by decide +kernel
theorem dX10_wealth_5 : decode cX10_wealth 5 = .ok (.aload_n 0, 1) := by decide +kernel
theorem dX10_wealth_6 : decode cX10_wealth 6 = .ok (.iload_n 1, 1) := by decide +kernel
theorem dX10_wealth_7 : decode cX10_wealth 7 = .ok (.invokevirtual 88, 3) := by decide +kernel
theorem dX10_wealth_10 : decode cX10_wealth 10 = .ok (.ifCond .ne 9, 3) := by decide +kernel
theorem dX10_wealth_13 : decode cX10_wealth 13 = .ok (.aload_n 0, 1) := by decide +kernel
theorem dX10_wealth_14 : decode cX10_wealth 14 = .ok (.iconst 1, 1) := by decide +kernel
theorem dX10_wealth_15 : decode cX10_wealth 15 = .ok (.invokevirtual 79, 3) := by decide +kernel
theorem dX10_wealth_18 : decode cX10_wealth 18 = .ok (.ireturn, 1) := by decide +kernel
theorem dX10_wealth_19 : decode cX10_wealth 19 = .ok (.aload_n 0, 1) := by decide +kernel
theorem dX10_wealth_20 : decode cX10_wealth 20 = .ok (.iload_n 1, 1) := by decide +kernel
theorem dX10_wealth_21 : decode cX10_wealth 21 = .ok (.iconst 0, 1) := by decide +kernel
theorem dX10_wealth_22 : decode cX10_wealth 22 = .ok (.invokevirtual 95, 3) := by decide +kernel
theorem dX10_wealth_25 : decode cX10_wealth 25 = .ok (.aload_n 0, 1) := by decide +kernel
theorem dX10_wealth_26 : decode cX10_wealth 26 = .ok (.iload_n 1, 1) := by decide +kernel
theorem dX10_wealth_27 : decode cX10_wealth 27 = .ok (.invokevirtual 193, 3) := by decide +kernel
theorem dX10_wealth_30 : decode cX10_wealth 30 = .ok (.isub, 1) := by decide +kernel
theorem dX10_wealth_31 : decode cX10_wealth 31 = .ok (.istore_n 2, 1) := by decide +kernel
theorem dX10_wealth_32 : decode cX10_wealth 32 = .ok (.iconst 0, 1) := by decide +kernel
theorem dX10_wealth_33 : decode cX10_wealth 33 = .ok (.istore_n 3, 1) := by decide +kernel
theorem dX10_wealth_34 : decode cX10_wealth 34 = .ok (.iload_n 3, 1) := by decide +kernel
theorem dX10_wealth_35 : decode cX10_wealth 35 = .ok (.iconst 4, 1) := by decide +kernel
theorem dX10_wealth_36 : decode cX10_wealth 36 = .ok (.if_icmp .ge 37, 3) := by decide +kernel
theorem dX10_wealth_39 : decode cX10_wealth 39 = .ok (.iload_n 2, 1) := by decide +kernel
theorem dX10_wealth_40 : decode cX10_wealth 40 = .ok (.aload_n 0, 1) := by decide +kernel
theorem dX10_wealth_41 : decode cX10_wealth 41 = .ok (.iload_n 1, 1) := by decide +kernel
theorem dX10_wealth_42 : decode cX10_wealth 42 = .ok (.iconst 2, 1) := by decide +kernel
theorem dX10_wealth_43 : decode cX10_wealth 43 = .ok (.iload_n 3, 1) := by decide +kernel
theorem dX10_wealth_44 : decode cX10_wealth 44 = .ok (.iadd, 1) := by decide +kernel
theorem dX10_wealth_45 : decode cX10_wealth 45 = .ok (.invokevirtual 95, 3) := by decide +kernel
theorem dX10_wealth_48 : decode cX10_wealth 48 = .ok (.aload_n 0, 1) := by decide +kernel
theorem dX10_wealth_49 : decode cX10_wealth 49 = .ok (.iload_n 1, 1) := by decide +kernel
theorem dX10_wealth_50 : decode cX10_wealth 50 = .ok (.iload_n 3, 1) := by decide +kernel
theorem dX10_wealth_51 : decode cX10_wealth 51 = .ok (.invokevirtual 190, 3) := by decide +kernel
theorem dX10_wealth_54 : decode cX10_wealth 54 = .ok (.iadd, 1) := by decide +kernel
theorem dX10_wealth_55 : decode cX10_wealth 55 = .ok (.aload_n 0, 1) := by decide +kernel
theorem dX10_wealth_56 : decode cX10_wealth 56 = .ok (.getfield 13, 3) := by decide +kernel
theorem dX10_wealth_59 : decode cX10_wealth 59 = .ok (.bipush 10, 2) := by decide +kernel
theorem dX10_wealth_61 : decode cX10_wealth 61 = .ok (.iload_n 3, 1) := by decide +kernel
theorem dX10_wealth_62 : decode cX10_wealth 62 = .ok (.iadd, 1) := by decide +kernel
theorem dX10_wealth_63 : decode cX10_wealth 63 = .ok (.iaload, 1) := by decide +kernel
theorem dX10_wealth_64 : decode cX10_wealth 64 = .ok (.imul, 1) := by decide +kernel
theorem dX10_wealth_65 : decode cX10_wealth 65 = .ok (.iadd, 1) := by decide +kernel
theorem dX10_wealth_66 : decode cX10_wealth 66 = .ok (.istore_n 2, 1) := by decide +kernel
theorem dX10_wealth_67 : decode cX10_wealth 67 = .ok (.iinc 3 1, 3) := by decide +kernel
theorem dX10_wealth_70 : decode cX10_wealth 70 = .ok (.goto (-36), 3) := by decide +kernel
theorem dX10_wealth_73 : decode cX10_wealth 73 = .ok (.iload_n 2, 1) := by decide +kernel
theorem dX10_wealth_74 : decode cX10_wealth 74 = .ok (.ireturn, 1) := by decide +kernel
theorem dX10_loanCount_0 : decode cX10_loanCount 0 = .ok (.aload_n 0, 1) := by decide +kernel
theorem dX10_loanCount_1 : decode cX10_loanCount 1 = .ok (.iconst 2, 1) := by decide +kernel
theorem dX10_loanCount_2 : decode cX10_loanCount 2 = .ok (.invokevirtual 181, 3) := by decide +kernel
theorem dX10_loanCount_5 : decode cX10_loanCount 5 = .ok (.ireturn, 1) := by decide +kernel
theorem dX10_exists_0 : decode cX10_exists 0 = .ok (.aload_n 0, 1) := by decide +kernel
theorem dX10_exists_1 : decode cX10_exists 1 = .ok (.iconst 0, 1) := by decide +kernel
theorem dX10_exists_2 : decode cX10_exists 2 = .ok (.putfield 1, 3) := by decide +kernel
theorem dX10_exists_5 : decode cX10_exists 5 = .ok (.aload_n 0, 1) := by decide +kernel
theorem dX10_exists_6 : decode cX10_exists 6 = .ok (.iload_n 1, 1) := by decide +kernel
theorem dX10_exists_7 : decode cX10_exists 7 = .ok (.invokevirtual 121, 3) := by decide +kernel
theorem dX10_exists_10 : decode cX10_exists 10 = .ok (.ifCond .lt 7, 3) := by decide +kernel
theorem dX10_exists_13 : decode cX10_exists 13 = .ok (.iconst 1, 1) := by decide +kernel
theorem dX10_exists_14 : decode cX10_exists 14 = .ok (.goto 4, 3) := by decide +kernel
theorem dX10_exists_17 : decode cX10_exists 17 = .ok (.iconst 0, 1) := by decide +kernel
theorem dX10_exists_18 : decode cX10_exists 18 = .ok (.ireturn, 1) := by decide +kernel
theorem dX10_idAt_0 : decode cX10_idAt 0 = .ok (.aload_n 0, 1) := by decide +kernel
theorem dX10_idAt_1 : decode cX10_idAt 1 = .ok (.iconst 0, 1) := by decide +kernel
theorem dX10_idAt_2 : decode cX10_idAt 2 = .ok (.putfield 1, 3) := by decide +kernel
theorem dX10_idAt_5 : decode cX10_idAt 5 = .ok (.iload_n 1, 1) := by decide +kernel
theorem dX10_idAt_6 : decode cX10_idAt 6 = .ok (.iconst 0, 1) := by decide +kernel
theorem dX10_idAt_7 : decode cX10_idAt 7 = .ok (.aload_n 0, 1) := by decide +kernel
theorem dX10_idAt_8 : decode cX10_idAt 8 = .ok (.getfield 13, 3) := by decide +kernel
theorem dX10_idAt_11 : decode cX10_idAt 11 = .ok (.iconst 2, 1) := by decide +kernel
theorem dX10_idAt_12 : decode cX10_idAt 12 = .ok (.iaload, 1) := by decide +kernel
theorem dX10_idAt_13 : decode cX10_idAt 13 = .ok (.iconst 1, 1) := by decide +kernel
theorem dX10_idAt_14 : decode cX10_idAt 14 = .ok (.isub, 1) := by decide +kernel
theorem dX10_idAt_15 : decode cX10_idAt 15 = .ok (.invokestatic 54, 3) := by decide +kernel
theorem dX10_idAt_18 : decode cX10_idAt 18 = .ok (.ifCond .eq 12, 3) := by decide +kernel
theorem dX10_idAt_21 : decode cX10_idAt 21 = .ok (.aload_n 0, 1) := by decide +kernel
theorem dX10_idAt_22 : decode cX10_idAt 22 = .ok (.iload_n 1, 1) := by decide +kernel
theorem dX10_idAt_23 : decode cX10_idAt 23 = .ok (.iconst 0, 1) := by decide +kernel
theorem dX10_idAt_24 : decode cX10_idAt 24 = .ok (.invokevirtual 58, 3) := by decide +kernel
theorem dX10_idAt_27 : decode cX10_idAt 27 = .ok (.goto 8, 3) := by decide +kernel
theorem dX10_idAt_30 : decode cX10_idAt 30 = .ok (.aload_n 0, 1) := by decide +kernel
theorem dX10_idAt_31 : decode cX10_idAt 31 = .ok (.iconst 1, 1) := by decide +kernel
theorem dX10_idAt_32 : decode cX10_idAt 32 = .ok (.invokevirtual 79, 3) := by decide +kernel
theorem dX10_idAt_35 : decode cX10_idAt 35 = .ok (.ireturn, 1) := by decide +kernel
theorem dX10_asksLoan_0 : decode cX10_asksLoan 0 = .ok (.aload_n 0, 1) := by decide +kernel
theorem dX10_asksLoan_1 : decode cX10_asksLoan 1 = .ok (.iconst 0, 1) := by decide +kernel
theorem dX10_asksLoan_2 : decode cX10_asksLoan 2 = .ok (.putfield 1, 3) := by decide +kernel
theorem dX10_asksLoan_5 : decode cX10_asksLoan 5 = .ok (.aload_n 0, 1) := by decide +kernel
theorem dX10_asksLoan_6 : decode cX10_asksLoan 6 = .ok (.iload_n 1, 1) := by decide +kernel
theorem dX10_asksLoan_7 : decode cX10_asksLoan 7 = .ok (.invokevirtual 121, 3) := by decide +kernel
theorem dX10_asksLoan_10 : decode cX10_asksLoan 10 = .ok (.ifCond .ge 11, 3) := by decide +kernel
theorem dX10_asksLoan_13 : decode cX10_asksLoan 13 = .ok (.aload_n 0, 1) := by decide +kernel
theorem dX10_asksLoan_14 : decode cX10_asksLoan 14 = .ok (.iconst 1, 1) := by decide +kernel
theorem dX10_asksLoan_15 : decode cX10_asksLoan 15 = .ok (.invokevirtual 79, 3) := by decide +kernel
theorem dX10_asksLoan_18 : decode cX10_asksLoan 18 = .ok (.goto 13, 3) := by decide +kernel
theorem dX10_asksLoan_21 : decode cX10_asksLoan 21 = .ok (.aload_n 0, 1) := by decide +kernel
theorem dX10_asksLoan_22 : decode cX10_asksLoan 22 = .ok (.aload_n 0, 1) := by decide +kernel
theorem dX10_asksLoan_23 : decode cX10_asksLoan 23 = .ok (.iload_n 1, 1) := by decide +kernel
theorem dX10_asksLoan_24 : decode cX10_asksLoan 24 = .ok (.invokevirtual 121, 3) := by decide +kernel
theorem dX10_asksLoan_27 : decode cX10_asksLoan 27 = .ok (.iload_n 2, 1) := by decide +kernel
theorem dX10_asksLoan_28 : decode cX10_asksLoan 28 = .ok (.invokevirtual 58, 3) := by decide +kernel
theorem dX10_asksLoan_31 : decode cX10_asksLoan 31 = .ok (.ireturn, 1) := by decide +kernel
theorem dX10_borrowerOf_0 : decode cX10_borrowerOf 0 = .ok (.aload_n 0, 1) := by decide +kernel
theorem dX10_borrowerOf_1 : decode cX10_borrowerOf 1 = .ok (.iload_n 1, 1) := by decide +kernel
theorem dX10_borrowerOf_2 : decode cX10_borrowerOf 2 = .ok (.iconst 1, 1) := by decide +kernel
theorem dX10_borrowerOf_3 : decode cX10_borrowerOf 3 = .ok (.invokevirtual 196, 3) := by decide +kernel
theorem dX10_borrowerOf_6 : decode cX10_borrowerOf 6 = .ok (.ireturn, 1) := by decide +kernel
theorem dX10_principal_0 : decode cX10_principal 0 = .ok (.aload_n 0, 1) := by decide +kernel
theorem dX10_principal_1 : decode cX10_principal 1 = .ok (.iload_n 1, 1) := by decide +kernel
theorem dX10_principal_2 : decode cX10_principal 2 = .ok (.iconst 2, 1) := by decide +kernel
theorem dX10_principal_3 : decode cX10_principal 3 = .ok (.invokevirtual 196, 3) := by decide +kernel
theorem dX10_principal_6 : decode cX10_principal 6 = .ok (.ireturn, 1) := by decide +kernel
theorem dX10_interest_0 : decode cX10_interest 0 = .ok (.aload_n 0, 1) := by decide +kernel
theorem dX10_interest_1 : decode cX10_interest 1 = .ok (.iload_n 1, 1) := by decide +kernel
theorem dX10_interest_2 : decode cX10_interest 2 = .ok (.iconst 3, 1) := by decide +kernel
theorem dX10_interest_3 : decode cX10_interest 3 = .ok (.invokevirtual 196, 3) := by decide +kernel
theorem dX10_interest_6 : decode cX10_interest 6 = .ok (.ireturn, 1) := by decide +kernel
theorem dX10_debt_0 : decode cX10_debt 0 = .ok (.aload_n 0, 1) := by decide +kernel
theorem dX10_debt_1 : decode cX10_debt 1 = .ok (.iconst 0, 1) := by decide +kernel
theorem dX10_debt_2 : decode cX10_debt 2 = .ok (.putfield 1, 3) := by decide +kernel
theorem dX10_debt_5 : decode cX10_debt 5 = .ok (.aload_n 0, 1) := by decide +kernel
theorem dX10_debt_6 : decode cX10_debt 6 = .ok (.iload_n 1, 1) := by decide +kernel
theorem dX10_debt_7 : decode cX10_debt 7 = .ok (.invokevirtual 121, 3) := by decide +kernel
theorem dX10_debt_10 : decode cX10_debt 10 = .ok (.ifCond .ge 11, 3) := by decide +kernel
theorem dX10_debt_13 : decode cX10_debt 13 = .ok (.aload_n 0, 1) := by decide +kernel
theorem dX10_debt_14 : decode cX10_debt 14 = .ok (.iconst 1, 1) := by decide +kernel
theorem dX10_debt_15 : decode cX10_debt 15 = .ok (.invokevirtual 79, 3) := by decide +kernel
theorem dX10_debt_18 : decode cX10_debt 18 = .ok (.goto 12, 3) := by decide +kernel
theorem dX10_debt_21 : decode cX10_debt 21 = .ok (.aload_n 0, 1) := by decide +kernel
theorem dX10_debt_22 : decode cX10_debt 22 = .ok (.aload_n 0, 1) := by decide +kernel
theorem dX10_debt_23 : decode cX10_debt 23 = .ok (.iload_n 1, 1) := by decide +kernel
theorem dX10_debt_24 : decode cX10_debt 24 = .ok (.invokevirtual 121, 3) := by decide +kernel
theorem dX10_debt_27 : decode cX10_debt 27 = .ok (.invokevirtual 62, 3) := by decide +kernel
theorem dX10_debt_30 : decode cX10_debt 30 = .ok (.ireturn, 1) := by decide +kernel
theorem dX10_rate_0 : decode cX10_rate 0 = .ok (.aload_n 0, 1) := by decide +kernel
theorem dX10_rate_1 : decode cX10_rate 1 = .ok (.iload_n 1, 1) := by decide +kernel
theorem dX10_rate_2 : decode cX10_rate 2 = .ok (.iconst 4, 1) := by decide +kernel
theorem dX10_rate_3 : decode cX10_rate 3 = .ok (.invokevirtual 196, 3) := by decide +kernel
theorem dX10_rate_6 : decode cX10_rate 6 = .ok (.ireturn, 1) := by decide +kernel
theorem dX10_dueDay_0 : decode cX10_dueDay 0 = .ok (.aload_n 0, 1) := by decide +kernel
theorem dX10_dueDay_1 : decode cX10_dueDay 1 = .ok (.iload_n 1, 1) := by decide +kernel
theorem dX10_dueDay_2 : decode cX10_dueDay 2 = .ok (.iconst 5, 1) := by decide +kernel
theorem dX10_dueDay_3 : decode cX10_dueDay 3 = .ok (.invokevirtual 196, 3) := by decide +kernel
theorem dX10_dueDay_6 : decode cX10_dueDay 6 = .ok (.ireturn, 1) := by decide +kernel
theorem dX10_collateral_0 : decode cX10_collateral 0 = .ok (.aload_n 0, 1) := by decide +kernel
theorem dX10_collateral_1 : decode cX10_collateral 1 = .ok (.iconst 0, 1) := by decide +kernel
theorem dX10_collateral_2 : decode cX10_collateral 2 = .ok (.putfield 1, 3) := by decide +kernel
theorem dX10_collateral_5 : decode cX10_collateral 5 = .ok (.aload_n 0, 1) := by decide +kernel
theorem dX10_collateral_6 : decode cX10_collateral 6 = .ok (.iload_n 1, 1) := by decide +kernel
theorem dX10_collateral_7 : decode cX10_collateral 7 = .ok (.invokevirtual 121, 3) := by decide +kernel
theorem dX10_collateral_10 : decode cX10_collateral 10 = .ok (.ifCond .ge 9, 3) := by decide +kernel
theorem dX10_collateral_13 : decode cX10_collateral 13 = .ok (.aload_n 0, 1) := by decide +kernel
theorem dX10_collateral_14 : decode cX10_collateral 14 = .ok (.iconst 1, 1) := by decide +kernel
theorem dX10_collateral_15 : decode cX10_collateral 15 = .ok (.invokevirtual 79, 3) := by decide +kernel
theorem dX10_collateral_18 : decode cX10_collateral 18 = .ok (.ireturn, 1) := by decide +kernel
theorem dX10_collateral_19 : decode cX10_collateral 19 = .ok (.iload_n 2, 1) := by decide +kernel
theorem dX10_collateral_20 : decode cX10_collateral 20 = .ok (.invokestatic 92, 3) := by decide +kernel
theorem dX10_collateral_23 : decode cX10_collateral 23 = .ok (.ifCond .eq 19, 3) := by decide +kernel
theorem dX10_collateral_26 : decode cX10_collateral 26 = .ok (.aload_n 0, 1) := by decide +kernel
theorem dX10_collateral_27 : decode cX10_collateral 27 = .ok (.aload_n 0, 1) := by decide +kernel
theorem dX10_collateral_28 : decode cX10_collateral 28 = .ok (.iload_n 1, 1) := by decide +kernel
theorem dX10_collateral_29 : decode cX10_collateral 29 = .ok (.invokevirtual 121, 3) := by decide +kernel
theorem dX10_collateral_32 : decode cX10_collateral 32 = .ok (.bipush 6, 2) := by decide +kernel
theorem dX10_collateral_34 : decode cX10_collateral 34 = .ok (.iload_n 2, 1) := by decide +kernel
theorem dX10_collateral_35 : decode cX10_collateral 35 = .ok (.iadd, 1) := by decide +kernel
theorem dX10_collateral_36 : decode cX10_collateral 36 = .ok (.invokevirtual 58, 3) := by decide +kernel
theorem dX10_collateral_39 : decode cX10_collateral 39 = .ok (.goto 8, 3) := by decide +kernel
theorem dX10_collateral_42 : decode cX10_collateral 42 = .ok (.aload_n 0, 1) := by decide +kernel
theorem dX10_collateral_43 : decode cX10_collateral 43 = .ok (.iconst 2, 1) := by decide +kernel
theorem dX10_collateral_44 : decode cX10_collateral 44 = .ok (.invokevirtual 79, 3) := by decide +kernel
theorem dX10_collateral_47 : decode cX10_collateral 47 = .ok (.ireturn, 1) := by decide +kernel
theorem dX10_collateralValue_0 : decode cX10_collateralValue 0 = .ok (.aload_n 0, 1) := by decide +kernel
theorem dX10_collateralValue_1 : decode cX10_collateralValue 1 = .ok (.iconst 0, 1) := by decide +kernel
theorem dX10_collateralValue_2 : decode cX10_collateralValue 2 = .ok (.putfield 1, 3) := by decide +kernel
theorem dX10_collateralValue_5 : decode cX10_collateralValue 5 = .ok (.aload_n 0, 1) := by decide +kernel
theorem dX10_collateralValue_6 : decode cX10_collateralValue 6 = .ok (.iload_n 1, 1) := by decide +kernel
theorem dX10_collateralValue_7 : decode cX10_collateralValue 7 = .ok (.invokevirtual 121, 3) := by decide +kernel
theorem dX10_collateralValue_10 : decode cX10_collateralValue 10 = .ok (.ifCond .ge 11, 3) := by decide +kernel
theorem dX10_collateralValue_13 : decode cX10_collateralValue 13 = .ok (.aload_n 0, 1) := by decide +kernel
theorem dX10_collateralValue_14 : decode cX10_collateralValue 14 = .ok (.iconst 1, 1) := by decide +kernel
theorem dX10_collateralValue_15 : decode cX10_collateralValue 15 = .ok (.invokevirtual 79, 3) := by decide +kernel
theorem dX10_collateralValue_18 : decode cX10_collateralValue 18 = .ok (.goto 12, 3) := by decide +kernel
theorem dX10_collateralValue_21 : decode cX10_collateralValue 21 = .ok (.aload_n 0, 1) := by decide +kernel
theorem dX10_collateralValue_22 : decode cX10_collateralValue 22 = .ok (.aload_n 0, 1) := by decide +kernel
theorem dX10_collateralValue_23 : decode cX10_collateralValue 23 = .ok (.iload_n 1, 1) := by decide +kernel
theorem dX10_collateralValue_24 : decode cX10_collateralValue 24 = .ok (.invokevirtual 121, 3) := by decide +kernel
theorem dX10_collateralValue_27 : decode cX10_collateralValue 27 = .ok (.invokevirtual 66, 3) := by decide +kernel
theorem dX10_collateralValue_30 : decode cX10_collateralValue 30 = .ok (.ireturn, 1) := by decide +kernel
theorem dX10_isCovered_0 : decode cX10_isCovered 0 = .ok (.aload_n 0, 1) := by decide +kernel
theorem dX10_isCovered_1 : decode cX10_isCovered 1 = .ok (.iconst 0, 1) := by decide +kernel
theorem dX10_isCovered_2 : decode cX10_isCovered 2 = .ok (.putfield 1, 3) := by decide +kernel
theorem dX10_isCovered_5 : decode cX10_isCovered 5 = .ok (.aload_n 0, 1) := by decide +kernel
theorem dX10_isCovered_6 : decode cX10_isCovered 6 = .ok (.iload_n 1, 1) := by decide +kernel
theorem dX10_isCovered_7 : decode cX10_isCovered 7 = .ok (.invokevirtual 121, 3) := by decide +kernel
theorem dX10_isCovered_10 : decode cX10_isCovered 10 = .ok (.ifCond .ge 17, 3) := by decide +kernel
theorem dX10_isCovered_13 : decode cX10_isCovered 13 = .ok (.aload_n 0, 1) := by decide +kernel
theorem dX10_isCovered_14 : decode cX10_isCovered 14 = .ok (.iconst 1, 1) := by decide +kernel
theorem dX10_isCovered_15 : decode cX10_isCovered 15 = .ok (.invokevirtual 79, 3) := by decide +kernel
theorem dX10_isCovered_18 : decode cX10_isCovered 18 = .ok (.ifCond .le 7, 3) := by decide +kernel
theorem dX10_isCovered_21 : decode cX10_isCovered 21 = .ok (.iconst 1, 1) := by decide +kernel
theorem dX10_isCovered_22 : decode cX10_isCovered 22 = .ok (.goto 4, 3) := by decide +kernel
theorem dX10_isCovered_25 : decode cX10_isCovered 25 = .ok (.iconst 0, 1) := by decide +kernel
theorem dX10_isCovered_26 : decode cX10_isCovered 26 = .ok (.ireturn, 1) := by decide +kernel
theorem dX10_isCovered_27 : decode cX10_isCovered 27 = .ok (.aload_n 0, 1) := by decide +kernel
theorem dX10_isCovered_28 : decode cX10_isCovered 28 = .ok (.aload_n 0, 1) := by decide +kernel
theorem dX10_isCovered_29 : decode cX10_isCovered 29 = .ok (.iload_n 1, 1) := by decide +kernel
theorem dX10_isCovered_30 : decode cX10_isCovered 30 = .ok (.invokevirtual 121, 3) := by decide +kernel
theorem dX10_isCovered_33 : decode cX10_isCovered 33 = .ok (.invokevirtual 199, 3) := by decide +kernel
theorem dX10_isCovered_36 : decode cX10_isCovered 36 = .ok (.ireturn, 1) := by decide +kernel
theorem dX10_missingUnits_0 : decode cX10_missingUnits 0 = .ok (.aload_n 0, 1) := by decide +kernel
theorem dX10_missingUnits_1 : decode cX10_missingUnits 1 = .ok (.iconst 0, 1) := by decide +kernel
theorem dX10_missingUnits_2 : decode cX10_missingUnits 2 = .ok (.putfield 1, 3) := by decide +kernel
theorem dX10_missingUnits_5 : decode cX10_missingUnits 5 = .ok (.aload_n 0, 1) := by decide +kernel
theorem dX10_missingUnits_6 : decode cX10_missingUnits 6 = .ok (.iload_n 1, 1) := by decide +kernel
theorem dX10_missingUnits_7 : decode cX10_missingUnits 7 = .ok (.invokevirtual 121, 3) := by decide +kernel
theorem dX10_missingUnits_10 : decode cX10_missingUnits 10 = .ok (.istore_n 3, 1) := by decide +kernel
theorem dX10_missingUnits_11 : decode cX10_missingUnits 11 = .ok (.iload_n 3, 1) := by decide +kernel
theorem dX10_missingUnits_12 : decode cX10_missingUnits 12 = .ok (.ifCond .ge 9, 3) := by decide +kernel
theorem dX10_missingUnits_15 : decode cX10_missingUnits 15 = .ok (.aload_n 0, 1) := by decide +kernel
theorem dX10_missingUnits_16 : decode cX10_missingUnits 16 = .ok (.iconst 1, 1) := by decide +kernel
theorem dX10_missingUnits_17 : decode cX10_missingUnits 17 = .ok (.invokevirtual 79, 3) := by decide +kernel
theorem dX10_missingUnits_20 : decode cX10_missingUnits 20 = .ok (.ireturn, 1) := by decide +kernel
theorem dX10_missingUnits_21 : decode cX10_missingUnits 21 = .ok (.iload_n 2, 1) := by decide +kernel
theorem dX10_missingUnits_22 : decode cX10_missingUnits 22 = .ok (.invokestatic 92, 3) := by decide +kernel
theorem dX10_missingUnits_25 : decode cX10_missingUnits 25 = .ok (.ifCond .ne 9, 3) := by decide +kernel
theorem dX10_missingUnits_28 : decode cX10_missingUnits 28 = .ok (.aload_n 0, 1) := by decide +kernel
theorem dX10_missingUnits_29 : decode cX10_missingUnits 29 = .ok (.iconst 2, 1) := by decide +kernel
theorem dX10_missingUnits_30 : decode cX10_missingUnits 30 = .ok (.invokevirtual 79, 3) := by decide +kernel
theorem dX10_missingUnits_33 : decode cX10_missingUnits 33 = .ok (.ireturn, 1) := by decide +kernel
theorem dX10_missingUnits_34 : decode cX10_missingUnits 34 = .ok (.iconst 0, 1) := by decide +kernel
theorem dX10_missingUnits_35 : decode cX10_missingUnits 35 = .ok (.istore 4, 2) := by decide +kernel
theorem dX10_missingUnits_37 : decode cX10_missingUnits 37 = .ok (.iconst 3, 1) := by decide +kernel
theorem dX10_missingUnits_38 : decode cX10_missingUnits 38 = .ok (.aload_n 0, 1) := by decide +kernel
theorem dX10_missingUnits_39 : decode cX10_missingUnits 39 = .ok (.iload_n 3, 1) := by decide +kernel
theorem dX10_missingUnits_40 : decode cX10_missingUnits 40 = .ok (.invokevirtual 62, 3) := by decide +kernel
theorem dX10_missingUnits_43 : decode cX10_missingUnits 43 = .ok (.imul, 1) := by decide +kernel
theorem dX10_missingUnits_44 : decode cX10_missingUnits 44 = .ok (.iconst 2, 1) := by decide +kernel
theorem dX10_missingUnits_45 : decode cX10_missingUnits 45 = .ok (.aload_n 0, 1) := by decide +kernel
theorem dX10_missingUnits_46 : decode cX10_missingUnits 46 = .ok (.iload_n 3, 1) := by decide +kernel
theorem dX10_missingUnits_47 : decode cX10_missingUnits 47 = .ok (.invokevirtual 66, 3) := by decide +kernel
theorem dX10_missingUnits_50 : decode cX10_missingUnits 50 = .ok (.iload 4, 2) := by decide +kernel
theorem dX10_missingUnits_52 : decode cX10_missingUnits 52 = .ok (.aload_n 0, 1) := by decide +kernel
theorem dX10_missingUnits_53 : decode cX10_missingUnits 53 = .ok (.getfield 13, 3) := by decide +kernel
theorem dX10_missingUnits_56 : decode cX10_missingUnits 56 = .ok (.bipush 10, 2) := by decide +kernel
theorem dX10_missingUnits_58 : decode cX10_missingUnits 58 = .ok (.iload_n 2, 1) := by decide +kernel
theorem dX10_missingUnits_59 : decode cX10_missingUnits 59 = .ok (.iadd, 1) := by decide +kernel
theorem dX10_missingUnits_60 : decode cX10_missingUnits 60 = .ok (.iaload, 1) := by decide +kernel
theorem dX10_missingUnits_61 : decode cX10_missingUnits 61 = .ok (.imul, 1) := by decide +kernel
theorem dX10_missingUnits_62 : decode cX10_missingUnits 62 = .ok (.iadd, 1) := by decide +kernel
theorem dX10_missingUnits_63 : decode cX10_missingUnits 63 = .ok (.imul, 1) := by decide +kernel
theorem dX10_missingUnits_64 : decode cX10_missingUnits 64 = .ok (.if_icmp .le 9, 3) := by decide +kernel
theorem dX10_missingUnits_67 : decode cX10_missingUnits 67 = .ok (.iinc 4 1, 3) := by decide +kernel
theorem dX10_missingUnits_70 : decode cX10_missingUnits 70 = .ok (.goto (-33), 3) := by decide +kernel
theorem dX10_missingUnits_73 : decode cX10_missingUnits 73 = .ok (.iload 4, 2) := by decide +kernel
theorem dX10_missingUnits_75 : decode cX10_missingUnits 75 = .ok (.ireturn, 1) := by decide +kernel
theorem dX10_daysLeft_0 : decode cX10_daysLeft 0 = .ok (.iconst 1, 1) := by decide +kernel
theorem dX10_daysLeft_1 : decode cX10_daysLeft 1 = .ok (.istore_n 2, 1) := by decide +kernel
theorem dX10_daysLeft_2 : decode cX10_daysLeft 2 = .ok (.aload_n 0, 1) := by decide +kernel
theorem dX10_daysLeft_3 : decode cX10_daysLeft 3 = .ok (.getfield 13, 3) := by decide +kernel
theorem dX10_daysLeft_6 : decode cX10_daysLeft 6 = .ok (.iconst 0, 1) := by decide +kernel
theorem dX10_daysLeft_7 : decode cX10_daysLeft 7 = .ok (.iaload, 1) := by decide +kernel
theorem dX10_daysLeft_8 : decode cX10_daysLeft 8 = .ok (.iload_n 2, 1) := by decide +kernel
theorem dX10_daysLeft_9 : decode cX10_daysLeft 9 = .ok (.iadd, 1) := by decide +kernel
theorem dX10_daysLeft_10 : decode cX10_daysLeft 10 = .ok (.aload_n 0, 1) := by decide +kernel
theorem dX10_daysLeft_11 : decode cX10_daysLeft 11 = .ok (.iload_n 1, 1) := by decide +kernel
theorem dX10_daysLeft_12 : decode cX10_daysLeft 12 = .ok (.iconst 5, 1) := by decide +kernel
theorem dX10_daysLeft_13 : decode cX10_daysLeft 13 = .ok (.invokevirtual 58, 3) := by decide +kernel
theorem dX10_daysLeft_16 : decode cX10_daysLeft 16 = .ok (.if_icmp .gt 30, 3) := by decide +kernel
theorem dX10_daysLeft_19 : decode cX10_daysLeft 19 = .ok (.aload_n 0, 1) := by decide +kernel
theorem dX10_daysLeft_20 : decode cX10_daysLeft 20 = .ok (.iload_n 1, 1) := by decide +kernel
theorem dX10_daysLeft_21 : decode cX10_daysLeft 21 = .ok (.invokevirtual 62, 3) := by decide +kernel
theorem dX10_daysLeft_24 : decode cX10_daysLeft 24 = .ok (.iload_n 2, 1) := by decide +kernel
theorem dX10_daysLeft_25 : decode cX10_daysLeft 25 = .ok (.aload_n 0, 1) := by decide +kernel
theorem dX10_daysLeft_26 : decode cX10_daysLeft 26 = .ok (.iload_n 1, 1) := by decide +kernel
theorem dX10_daysLeft_27 : decode cX10_daysLeft 27 = .ok (.invokevirtual 162, 3) := by decide +kernel
theorem dX10_daysLeft_30 : decode cX10_daysLeft 30 = .ok (.imul, 1) := by decide +kernel
theorem dX10_daysLeft_31 : decode cX10_daysLeft 31 = .ok (.iadd, 1) := by decide +kernel
theorem dX10_daysLeft_32 : decode cX10_daysLeft 32 = .ok (.aload_n 0, 1) := by decide +kernel
theorem dX10_daysLeft_33 : decode cX10_daysLeft 33 = .ok (.iload_n 1, 1) := by decide +kernel
theorem dX10_daysLeft_34 : decode cX10_daysLeft 34 = .ok (.invokevirtual 66, 3) := by decide +kernel
theorem dX10_daysLeft_37 : decode cX10_daysLeft 37 = .ok (.if_icmp .gt 9, 3) := by decide +kernel
theorem dX10_daysLeft_40 : decode cX10_daysLeft 40 = .ok (.iinc 2 1, 3) := by decide +kernel
theorem dX10_daysLeft_43 : decode cX10_daysLeft 43 = .ok (.goto (-41), 3) := by decide +kernel
theorem dX10_daysLeft_46 : decode cX10_daysLeft 46 = .ok (.iload_n 2, 1) := by decide +kernel
theorem dX10_daysLeft_47 : decode cX10_daysLeft 47 = .ok (.ireturn, 1) := by decide +kernel
theorem dX10_daysToDefault_0 : decode cX10_daysToDefault 0 = .ok (.aload_n 0, 1) := by decide +kernel
theorem dX10_daysToDefault_1 : decode cX10_daysToDefault 1 = .ok (.iconst 0, 1) := by decide +kernel
theorem dX10_daysToDefault_2 : decode cX10_daysToDefault 2 = .ok (.putfield 1, 3) := by decide +kernel
theorem dX10_daysToDefault_5 : decode cX10_daysToDefault 5 = .ok (.aload_n 0, 1) := by decide +kernel
theorem dX10_daysToDefault_6 : decode cX10_daysToDefault 6 = .ok (.iload_n 1, 1) := by decide +kernel
theorem dX10_daysToDefault_7 : decode cX10_daysToDefault 7 = .ok (.invokevirtual 121, 3) := by decide +kernel
theorem dX10_daysToDefault_10 : decode cX10_daysToDefault 10 = .ok (.ifCond .ge 11, 3) := by decide +kernel
theorem dX10_daysToDefault_13 : decode cX10_daysToDefault 13 = .ok (.aload_n 0, 1) := by decide +kernel
theorem dX10_daysToDefault_14 : decode cX10_daysToDefault 14 = .ok (.iconst 1, 1) := by decide +kernel
theorem dX10_daysToDefault_15 : decode cX10_daysToDefault 15 = .ok (.invokevirtual 79, 3) := by decide +kernel
theorem dX10_daysToDefault_18 : decode cX10_daysToDefault 18 = .ok (.goto 12, 3) := by decide +kernel
theorem dX10_daysToDefault_21 : decode cX10_daysToDefault 21 = .ok (.aload_n 0, 1) := by decide +kernel
theorem dX10_daysToDefault_22 : decode cX10_daysToDefault 22 = .ok (.aload_n 0, 1) := by decide +kernel
theorem dX10_daysToDefault_23 : decode cX10_daysToDefault 23 = .ok (.iload_n 1, 1) := by decide +kernel
theorem dX10_daysToDefault_24 : decode cX10_daysToDefault 24 = .ok (.invokevirtual 121, 3) := by decide +kernel
theorem dX10_daysToDefault_27 : decode cX10_daysToDefault 27 = .ok (.invokevirtual 202, 3) := by decide +kernel
theorem dX10_daysToDefault_30 : decode cX10_daysToDefault 30 = .ok (.ireturn, 1) := by decide +kernel
theorem dX10_daysToDefaultByDays_0 : decode cX10_daysToDefaultByDays 0 = .ok (.aload_n 0, 1) := by decide +kernel
theorem dX10_daysToDefaultByDays_1 : decode cX10_daysToDefaultByDays 1 = .ok (.iload_n 1, 1) := by decide +kernel
theorem dX10_daysToDefaultByDays_2 : decode cX10_daysToDefaultByDays 2 = .ok (.invokevirtual 205, 3) := by decide +kernel
theorem dX10_daysToDefaultByDays_5 : decode cX10_daysToDefaultByDays 5 = .ok (.ireturn, 1) := by decide +kernel
theorem dX10_interestAfter_0 : decode cX10_interestAfter 0 = .ok (.aload_n 0, 1) := by decide +kernel
theorem dX10_interestAfter_1 : decode cX10_interestAfter 1 = .ok (.iconst 0, 1) := by decide +kernel
theorem dX10_interestAfter_2 : decode cX10_interestAfter 2 = .ok (.putfield 1, 3) := by decide +kernel
theorem dX10_interestAfter_5 : decode cX10_interestAfter 5 = .ok (.aload_n 0, 1) := by decide +kernel
theorem dX10_interestAfter_6 : decode cX10_interestAfter 6 = .ok (.iload_n 1, 1) := by decide +kernel
theorem dX10_interestAfter_7 : decode cX10_interestAfter 7 = .ok (.invokevirtual 121, 3) := by decide +kernel
theorem dX10_interestAfter_10 : decode cX10_interestAfter 10 = .ok (.istore_n 3, 1) := by decide +kernel
theorem dX10_interestAfter_11 : decode cX10_interestAfter 11 = .ok (.iload_n 3, 1) := by decide +kernel
theorem dX10_interestAfter_12 : decode cX10_interestAfter 12 = .ok (.ifCond .ge 9, 3) := by decide +kernel
theorem dX10_interestAfter_15 : decode cX10_interestAfter 15 = .ok (.aload_n 0, 1) := by decide +kernel
theorem dX10_interestAfter_16 : decode cX10_interestAfter 16 = .ok (.iconst 1, 1) := by decide +kernel
theorem dX10_interestAfter_17 : decode cX10_interestAfter 17 = .ok (.invokevirtual 79, 3) := by decide +kernel
theorem dX10_interestAfter_20 : decode cX10_interestAfter 20 = .ok (.ireturn, 1) := by decide +kernel
theorem dX10_interestAfter_21 : decode cX10_interestAfter 21 = .ok (.iload_n 2, 1) := by decide +kernel
theorem dX10_interestAfter_22 : decode cX10_interestAfter 22 = .ok (.iconst 0, 1) := by decide +kernel
theorem dX10_interestAfter_23 : decode cX10_interestAfter 23 = .ok (.bipush 60, 2) := by decide +kernel
theorem dX10_interestAfter_25 : decode cX10_interestAfter 25 = .ok (.invokestatic 54, 3) := by decide +kernel
theorem dX10_interestAfter_28 : decode cX10_interestAfter 28 = .ok (.ifCond .eq 20, 3) := by decide +kernel
theorem dX10_interestAfter_31 : decode cX10_interestAfter 31 = .ok (.aload_n 0, 1) := by decide +kernel
theorem dX10_interestAfter_32 : decode cX10_interestAfter 32 = .ok (.iload_n 3, 1) := by decide +kernel
theorem dX10_interestAfter_33 : decode cX10_interestAfter 33 = .ok (.iconst 3, 1) := by decide +kernel
theorem dX10_interestAfter_34 : decode cX10_interestAfter 34 = .ok (.invokevirtual 58, 3) := by decide +kernel
theorem dX10_interestAfter_37 : decode cX10_interestAfter 37 = .ok (.iload_n 2, 1) := by decide +kernel
theorem dX10_interestAfter_38 : decode cX10_interestAfter 38 = .ok (.aload_n 0, 1) := by decide +kernel
theorem dX10_interestAfter_39 : decode cX10_interestAfter 39 = .ok (.iload_n 3, 1) := by decide +kernel
theorem dX10_interestAfter_40 : decode cX10_interestAfter 40 = .ok (.invokevirtual 162, 3) := by decide +kernel
theorem dX10_interestAfter_43 : decode cX10_interestAfter 43 = .ok (.imul, 1) := by decide +kernel
theorem dX10_interestAfter_44 : decode cX10_interestAfter 44 = .ok (.iadd, 1) := by decide +kernel
theorem dX10_interestAfter_45 : decode cX10_interestAfter 45 = .ok (.goto 8, 3) := by decide +kernel
theorem dX10_interestAfter_48 : decode cX10_interestAfter 48 = .ok (.aload_n 0, 1) := by decide +kernel
theorem dX10_interestAfter_49 : decode cX10_interestAfter 49 = .ok (.iconst 2, 1) := by decide +kernel
theorem dX10_interestAfter_50 : decode cX10_interestAfter 50 = .ok (.invokevirtual 79, 3) := by decide +kernel
theorem dX10_interestAfter_53 : decode cX10_interestAfter 53 = .ok (.ireturn, 1) := by decide +kernel
theorem dX10_greatestPrincipal_0 : decode cX10_greatestPrincipal 0 = .ok (.aload_n 0, 1) := by decide +kernel
theorem dX10_greatestPrincipal_1 : decode cX10_greatestPrincipal 1 = .ok (.iconst 0, 1) := by decide +kernel
theorem dX10_greatestPrincipal_2 : decode cX10_greatestPrincipal 2 = .ok (.putfield 1, 3) := by decide +kernel
theorem dX10_greatestPrincipal_5 : decode cX10_greatestPrincipal 5 = .ok (.aload_n 0, 1) := by decide +kernel
theorem dX10_greatestPrincipal_6 : decode cX10_greatestPrincipal 6 = .ok (.iload_n 1, 1) := by decide +kernel
theorem dX10_greatestPrincipal_7 : decode cX10_greatestPrincipal 7 = .ok (.invokevirtual 88, 3) := by decide +kernel
theorem dX10_greatestPrincipal_10 : decode cX10_greatestPrincipal 10 = .ok (.ifCond .eq 10, 3) := by decide +kernel
theorem dX10_greatestPrincipal_13 : decode cX10_greatestPrincipal 13 = .ok (.iload_n 2, 1) := by decide +kernel
theorem dX10_greatestPrincipal_14 : decode cX10_greatestPrincipal 14 = .ok (.invokestatic 92, 3) := by decide +kernel
theorem dX10_greatestPrincipal_17 : decode cX10_greatestPrincipal 17 = .ok (.ifCond .ne 9, 3) := by decide +kernel
theorem dX10_greatestPrincipal_20 : decode cX10_greatestPrincipal 20 = .ok (.aload_n 0, 1) := by decide +kernel
theorem dX10_greatestPrincipal_21 : decode cX10_greatestPrincipal 21 = .ok (.iconst 1, 1) := by decide +kernel
theorem dX10_greatestPrincipal_22 : decode cX10_greatestPrincipal 22 = .ok (.invokevirtual 79, 3) := by decide +kernel
theorem dX10_greatestPrincipal_25 : decode cX10_greatestPrincipal 25 = .ok (.ireturn, 1) := by decide +kernel
theorem dX10_greatestPrincipal_26 : decode cX10_greatestPrincipal 26 = .ok (.iload_n 3, 1) := by decide +kernel
theorem dX10_greatestPrincipal_27 : decode cX10_greatestPrincipal 27 = .ok (.iconst 1, 1) := by decide +kernel
theorem dX10_greatestPrincipal_28 : decode cX10_greatestPrincipal 28 = .ok (.bipush 99, 2) := by decide +kernel
theorem dX10_greatestPrincipal_30 : decode cX10_greatestPrincipal 30 = .ok (.invokestatic 54, 3) := by decide +kernel
theorem dX10_greatestPrincipal_33 : decode cX10_greatestPrincipal 33 = .ok (.ifCond .ne 9, 3) := by decide +kernel
theorem dX10_greatestPrincipal_36 : decode cX10_greatestPrincipal 36 = .ok (.aload_n 0, 1) := by decide +kernel
theorem dX10_greatestPrincipal_37 : decode cX10_greatestPrincipal 37 = .ok (.iconst 2, 1) := by decide +kernel
theorem dX10_greatestPrincipal_38 : decode cX10_greatestPrincipal 38 = .ok (.invokevirtual 79, 3) := by decide +kernel
theorem dX10_greatestPrincipal_41 : decode cX10_greatestPrincipal 41 = .ok (.ireturn, 1) := by decide +kernel
theorem dX10_greatestPrincipal_42 : decode cX10_greatestPrincipal 42 = .ok (.sipush 500, 3) := by decide +kernel
theorem dX10_greatestPrincipal_45 : decode cX10_greatestPrincipal 45 = .ok (.istore 4, 2) := by decide +kernel
theorem dX10_greatestPrincipal_47 : decode cX10_greatestPrincipal 47 = .ok (.iload 4, 2) := by decide +kernel
theorem dX10_greatestPrincipal_49 : decode cX10_greatestPrincipal 49 = .ok (.ifCond .le 22, 3) := by decide +kernel
theorem dX10_greatestPrincipal_52 : decode cX10_greatestPrincipal 52 = .ok (.aload_n 0, 1) := by decide +kernel
theorem dX10_greatestPrincipal_53 : decode cX10_greatestPrincipal 53 = .ok (.iload_n 1, 1) := by decide +kernel
theorem dX10_greatestPrincipal_54 : decode cX10_greatestPrincipal 54 = .ok (.iload_n 2, 1) := by decide +kernel
theorem dX10_greatestPrincipal_55 : decode cX10_greatestPrincipal 55 = .ok (.iload_n 3, 1) := by decide +kernel
theorem dX10_greatestPrincipal_56 : decode cX10_greatestPrincipal 56 = .ok (.iload 4, 2) := by decide +kernel
theorem dX10_greatestPrincipal_58 : decode cX10_greatestPrincipal 58 = .ok (.iconst 1, 1) := by decide +kernel
theorem dX10_greatestPrincipal_59 : decode cX10_greatestPrincipal 59 = .ok (.invokevirtual 114, 3) := by decide +kernel
theorem dX10_greatestPrincipal_62 : decode cX10_greatestPrincipal 62 = .ok (.ifCond .eq 9, 3) := by decide +kernel
theorem dX10_greatestPrincipal_65 : decode cX10_greatestPrincipal 65 = .ok (.iinc 4 (-1), 3) := by decide +kernel
theorem dX10_greatestPrincipal_68 : decode cX10_greatestPrincipal 68 = .ok (.goto (-21), 3) := by decide +kernel
theorem dX10_greatestPrincipal_71 : decode cX10_greatestPrincipal 71 = .ok (.iload 4, 2) := by decide +kernel
theorem dX10_greatestPrincipal_73 : decode cX10_greatestPrincipal 73 = .ok (.ifCond .ne 11, 3) := by decide +kernel
theorem dX10_greatestPrincipal_76 : decode cX10_greatestPrincipal 76 = .ok (.aload_n 0, 1) := by decide +kernel
theorem dX10_greatestPrincipal_77 : decode cX10_greatestPrincipal 77 = .ok (.iconst 3, 1) := by decide +kernel
theorem dX10_greatestPrincipal_78 : decode cX10_greatestPrincipal 78 = .ok (.invokevirtual 79, 3) := by decide +kernel
theorem dX10_greatestPrincipal_81 : decode cX10_greatestPrincipal 81 = .ok (.goto 5, 3) := by decide +kernel
theorem dX10_greatestPrincipal_84 : decode cX10_greatestPrincipal 84 = .ok (.iload 4, 2) := by decide +kernel
theorem dX10_greatestPrincipal_86 : decode cX10_greatestPrincipal 86 = .ok (.ireturn, 1) := by decide +kernel
theorem dX10_riskiest_0 : decode cX10_riskiest 0 = .ok (.aload_n 0, 1) := by decide +kernel
theorem dX10_riskiest_1 : decode cX10_riskiest 1 = .ok (.iconst 0, 1) := by decide +kernel
theorem dX10_riskiest_2 : decode cX10_riskiest 2 = .ok (.putfield 1, 3) := by decide +kernel
theorem dX10_riskiest_5 : decode cX10_riskiest 5 = .ok (.aload_n 0, 1) := by decide +kernel
theorem dX10_riskiest_6 : decode cX10_riskiest 6 = .ok (.getfield 13, 3) := by decide +kernel
theorem dX10_riskiest_9 : decode cX10_riskiest 9 = .ok (.iconst 2, 1) := by decide +kernel
theorem dX10_riskiest_10 : decode cX10_riskiest 10 = .ok (.iaload, 1) := by decide +kernel
theorem dX10_riskiest_11 : decode cX10_riskiest 11 = .ok (.ifCond .ne 9, 3) := by decide +kernel
theorem dX10_riskiest_14 : decode cX10_riskiest 14 = .ok (.aload_n 0, 1) := by decide +kernel
theorem dX10_riskiest_15 : decode cX10_riskiest 15 = .ok (.iconst 1, 1) := by decide +kernel
theorem dX10_riskiest_16 : decode cX10_riskiest 16 = .ok (.invokevirtual 79, 3) := by decide +kernel
theorem dX10_riskiest_19 : decode cX10_riskiest 19 = .ok (.ireturn, 1) := by decide +kernel
theorem dX10_riskiest_20 : decode cX10_riskiest 20 = .ok (.iconst 0, 1) := by decide +kernel
theorem dX10_riskiest_21 : decode cX10_riskiest 21 = .ok (.istore_n 1, 1) := by decide +kernel
theorem dX10_riskiest_22 : decode cX10_riskiest 22 = .ok (.iconst 1, 1) := by decide +kernel
theorem dX10_riskiest_23 : decode cX10_riskiest 23 = .ok (.istore_n 2, 1) := by decide +kernel
theorem dX10_riskiest_24 : decode cX10_riskiest 24 = .ok (.iload_n 2, 1) := by decide +kernel
theorem dX10_riskiest_25 : decode cX10_riskiest 25 = .ok (.aload_n 0, 1) := by decide +kernel
theorem dX10_riskiest_26 : decode cX10_riskiest 26 = .ok (.getfield 13, 3) := by decide +kernel
theorem dX10_riskiest_29 : decode cX10_riskiest 29 = .ok (.iconst 2, 1) := by decide +kernel
theorem dX10_riskiest_30 : decode cX10_riskiest 30 = .ok (.iaload, 1) := by decide +kernel
theorem dX10_riskiest_31 : decode cX10_riskiest 31 = .ok (.if_icmp .ge 28, 3) := by decide +kernel
theorem dX10_riskiest_34 : decode cX10_riskiest 34 = .ok (.aload_n 0, 1) := by decide +kernel
theorem dX10_riskiest_35 : decode cX10_riskiest 35 = .ok (.iload_n 2, 1) := by decide +kernel
theorem dX10_riskiest_36 : decode cX10_riskiest 36 = .ok (.invokevirtual 202, 3) := by decide +kernel
theorem dX10_riskiest_39 : decode cX10_riskiest 39 = .ok (.aload_n 0, 1) := by decide +kernel
theorem dX10_riskiest_40 : decode cX10_riskiest 40 = .ok (.iload_n 1, 1) := by decide +kernel
theorem dX10_riskiest_41 : decode cX10_riskiest 41 = .ok (.invokevirtual 202, 3) := by decide +kernel
theorem dX10_riskiest_44 : decode cX10_riskiest 44 = .ok (.if_icmp .ge 7, 3) := by decide +kernel
theorem dX10_riskiest_47 : decode cX10_riskiest 47 = .ok (.iload_n 2, 1) := by decide +kernel
theorem dX10_riskiest_48 : decode cX10_riskiest 48 = .ok (.goto 4, 3) := by decide +kernel
theorem dX10_riskiest_51 : decode cX10_riskiest 51 = .ok (.iload_n 1, 1) := by decide +kernel
theorem dX10_riskiest_52 : decode cX10_riskiest 52 = .ok (.istore_n 1, 1) := by decide +kernel
theorem dX10_riskiest_53 : decode cX10_riskiest 53 = .ok (.iinc 2 1, 3) := by decide +kernel
theorem dX10_riskiest_56 : decode cX10_riskiest 56 = .ok (.goto (-32), 3) := by decide +kernel
theorem dX10_riskiest_59 : decode cX10_riskiest 59 = .ok (.aload_n 0, 1) := by decide +kernel
theorem dX10_riskiest_60 : decode cX10_riskiest 60 = .ok (.iload_n 1, 1) := by decide +kernel
theorem dX10_riskiest_61 : decode cX10_riskiest 61 = .ok (.iconst 0, 1) := by decide +kernel
theorem dX10_riskiest_62 : decode cX10_riskiest 62 = .ok (.invokevirtual 58, 3) := by decide +kernel
theorem dX10_riskiest_65 : decode cX10_riskiest 65 = .ok (.ireturn, 1) := by decide +kernel
theorem dX10_isAhead_0 : decode cX10_isAhead 0 = .ok (.aload_n 0, 1) := by decide +kernel
theorem dX10_isAhead_1 : decode cX10_isAhead 1 = .ok (.iload_n 1, 1) := by decide +kernel
theorem dX10_isAhead_2 : decode cX10_isAhead 2 = .ok (.invokevirtual 62, 3) := by decide +kernel
theorem dX10_isAhead_5 : decode cX10_isAhead 5 = .ok (.aload_n 0, 1) := by decide +kernel
theorem dX10_isAhead_6 : decode cX10_isAhead 6 = .ok (.iload_n 2, 1) := by decide +kernel
theorem dX10_isAhead_7 : decode cX10_isAhead 7 = .ok (.invokevirtual 62, 3) := by decide +kernel
theorem dX10_isAhead_10 : decode cX10_isAhead 10 = .ok (.isub, 1) := by decide +kernel
theorem dX10_isAhead_11 : decode cX10_isAhead 11 = .ok (.istore_n 3, 1) := by decide +kernel
theorem dX10_isAhead_12 : decode cX10_isAhead 12 = .ok (.aload_n 0, 1) := by decide +kernel
theorem dX10_isAhead_13 : decode cX10_isAhead 13 = .ok (.iload_n 2, 1) := by decide +kernel
theorem dX10_isAhead_14 : decode cX10_isAhead 14 = .ok (.iconst 5, 1) := by decide +kernel
theorem dX10_isAhead_15 : decode cX10_isAhead 15 = .ok (.invokevirtual 58, 3) := by decide +kernel
theorem dX10_isAhead_18 : decode cX10_isAhead 18 = .ok (.aload_n 0, 1) := by decide +kernel
theorem dX10_isAhead_19 : decode cX10_isAhead 19 = .ok (.iload_n 1, 1) := by decide +kernel
theorem dX10_isAhead_20 : decode cX10_isAhead 20 = .ok (.iconst 5, 1) := by decide +kernel
theorem dX10_isAhead_21 : decode cX10_isAhead 21 = .ok (.invokevirtual 58, 3) := by decide +kernel
theorem dX10_isAhead_24 : decode cX10_isAhead 24 = .ok (.isub, 1) := by decide +kernel
theorem dX10_isAhead_25 : decode cX10_isAhead 25 = .ok (.istore 4, 2) := by decide +kernel
theorem dX10_isAhead_27 : decode cX10_isAhead 27 = .ok (.iload_n 3, 1) := by decide +kernel
theorem dX10_isAhead_28 : decode cX10_isAhead 28 = .ok (.ifCond .eq 13, 3) := by decide +kernel
theorem dX10_isAhead_31 : decode cX10_isAhead 31 = .ok (.iload_n 3, 1) := by decide +kernel
theorem dX10_isAhead_32 : decode cX10_isAhead 32 = .ok (.ifCond .le 7, 3) := by decide +kernel
theorem dX10_isAhead_35 : decode cX10_isAhead 35 = .ok (.iconst 1, 1) := by decide +kernel
theorem dX10_isAhead_36 : decode cX10_isAhead 36 = .ok (.goto 4, 3) := by decide +kernel
theorem dX10_isAhead_39 : decode cX10_isAhead 39 = .ok (.iconst 0, 1) := by decide +kernel
theorem dX10_isAhead_40 : decode cX10_isAhead 40 = .ok (.ireturn, 1) := by decide +kernel
theorem dX10_isAhead_41 : decode cX10_isAhead 41 = .ok (.iload 4, 2) := by decide +kernel
theorem dX10_isAhead_43 : decode cX10_isAhead 43 = .ok (.ifCond .eq 16, 3) := by decide +kernel
theorem dX10_isAhead_46 : decode cX10_isAhead 46 = .ok (.iload 4, 2) := by decide +kernel
theorem dX10_isAhead_48 : decode cX10_isAhead 48 = .ok (.ifCond .le 7, 3) := by decide +kernel
theorem dX10_isAhead_51 : decode cX10_isAhead 51 = .ok (.iconst 1, 1) := by decide +kernel
theorem dX10_isAhead_52 : decode cX10_isAhead 52 = .ok (.goto 17, 3) := by decide +kernel
theorem dX10_isAhead_55 : decode cX10_isAhead 55 = .ok (.iconst 0, 1) := by decide +kernel
theorem dX10_isAhead_56 : decode cX10_isAhead 56 = .ok (.goto 13, 3) := by decide +kernel
theorem dX10_isAhead_59 : decode cX10_isAhead 59 = .ok (.iload_n 1, 1) := by decide +kernel
theorem dX10_isAhead_60 : decode cX10_isAhead 60 = .ok (.iload_n 2, 1) := by decide +kernel
theorem dX10_isAhead_61 : decode cX10_isAhead 61 = .ok (.if_icmp .ge 7, 3) := by decide +kernel
theorem dX10_isAhead_64 : decode cX10_isAhead 64 = .ok (.iconst 1, 1) := by decide +kernel
theorem dX10_isAhead_65 : decode cX10_isAhead 65 = .ok (.goto 4, 3) := by decide +kernel
theorem dX10_isAhead_68 : decode cX10_isAhead 68 = .ok (.iconst 0, 1) := by decide +kernel
theorem dX10_isAhead_69 : decode cX10_isAhead 69 = .ok (.ireturn, 1) := by decide +kernel
theorem dX10_loanByDebt_0 : decode cX10_loanByDebt 0 = .ok (.aload_n 0, 1) := by decide +kernel
theorem dX10_loanByDebt_1 : decode cX10_loanByDebt 1 = .ok (.iconst 0, 1) := by decide +kernel
theorem dX10_loanByDebt_2 : decode cX10_loanByDebt 2 = .ok (.putfield 1, 3) := by decide +kernel
theorem dX10_loanByDebt_5 : decode cX10_loanByDebt 5 = .ok (.iconst 0, 1) := by decide +kernel
theorem dX10_loanByDebt_6 : decode cX10_loanByDebt 6 = .ok (.istore_n 2, 1) := by decide +kernel
theorem dX10_loanByDebt_7 : decode cX10_loanByDebt 7 = .ok (.iload_n 2, 1) := by decide +kernel
theorem dX10_loanByDebt_8 : decode cX10_loanByDebt 8 = .ok (.aload_n 0, 1) := by decide +kernel
theorem dX10_loanByDebt_9 : decode cX10_loanByDebt 9 = .ok (.getfield 13, 3) := by decide +kernel
theorem dX10_loanByDebt_12 : decode cX10_loanByDebt 12 = .ok (.iconst 2, 1) := by decide +kernel
theorem dX10_loanByDebt_13 : decode cX10_loanByDebt 13 = .ok (.iaload, 1) := by decide +kernel
theorem dX10_loanByDebt_14 : decode cX10_loanByDebt 14 = .ok (.if_icmp .ge 61, 3) := by decide +kernel
theorem dX10_loanByDebt_17 : decode cX10_loanByDebt 17 = .ok (.iconst 0, 1) := by decide +kernel
theorem dX10_loanByDebt_18 : decode cX10_loanByDebt 18 = .ok (.istore_n 3, 1) := by decide +kernel
theorem dX10_loanByDebt_19 : decode cX10_loanByDebt 19 = .ok (.iconst 0, 1) := by decide +kernel
theorem dX10_loanByDebt_20 : decode cX10_loanByDebt 20 = .ok (.istore 4, 2) := by decide +kernel
theorem dX10_loanByDebt_22 : decode cX10_loanByDebt 22 = .ok (.iload 4, 2) := by decide +kernel
theorem dX10_loanByDebt_24 : decode cX10_loanByDebt 24 = .ok (.aload_n 0, 1) := by decide +kernel
theorem dX10_loanByDebt_25 : decode cX10_loanByDebt 25 = .ok (.getfield 13, 3) := by decide +kernel
theorem dX10_loanByDebt_28 : decode cX10_loanByDebt 28 = .ok (.iconst 2, 1) := by decide +kernel
theorem dX10_loanByDebt_29 : decode cX10_loanByDebt 29 = .ok (.iaload, 1) := by decide +kernel
theorem dX10_loanByDebt_30 : decode cX10_loanByDebt 30 = .ok (.if_icmp .ge 27, 3) := by decide +kernel
theorem dX10_loanByDebt_33 : decode cX10_loanByDebt 33 = .ok (.iload_n 3, 1) := by decide +kernel
theorem dX10_loanByDebt_34 : decode cX10_loanByDebt 34 = .ok (.aload_n 0, 1) := by decide +kernel
theorem dX10_loanByDebt_35 : decode cX10_loanByDebt 35 = .ok (.iload 4, 2) := by decide +kernel
theorem dX10_loanByDebt_37 : decode cX10_loanByDebt 37 = .ok (.iload_n 2, 1) := by decide +kernel
theorem dX10_loanByDebt_38 : decode cX10_loanByDebt 38 = .ok (.invokevirtual 208, 3) := by decide +kernel
theorem dX10_loanByDebt_41 : decode cX10_loanByDebt 41 = .ok (.ifCond .eq 7, 3) := by decide +kernel
theorem dX10_loanByDebt_44 : decode cX10_loanByDebt 44 = .ok (.iconst 1, 1) := by decide +kernel
theorem dX10_loanByDebt_45 : decode cX10_loanByDebt 45 = .ok (.goto 4, 3) := by decide +kernel
theorem dX10_loanByDebt_48 : decode cX10_loanByDebt 48 = .ok (.iconst 0, 1) := by decide +kernel
theorem dX10_loanByDebt_49 : decode cX10_loanByDebt 49 = .ok (.iadd, 1) := by decide +kernel
theorem dX10_loanByDebt_50 : decode cX10_loanByDebt 50 = .ok (.istore_n 3, 1) := by decide +kernel
theorem dX10_loanByDebt_51 : decode cX10_loanByDebt 51 = .ok (.iinc 4 1, 3) := by decide +kernel
theorem dX10_loanByDebt_54 : decode cX10_loanByDebt 54 = .ok (.goto (-32), 3) := by decide +kernel
theorem dX10_loanByDebt_57 : decode cX10_loanByDebt 57 = .ok (.iload_n 3, 1) := by decide +kernel
theorem dX10_loanByDebt_58 : decode cX10_loanByDebt 58 = .ok (.iload_n 1, 1) := by decide +kernel
theorem dX10_loanByDebt_59 : decode cX10_loanByDebt 59 = .ok (.if_icmp .ne 10, 3) := by decide +kernel
theorem dX10_loanByDebt_62 : decode cX10_loanByDebt 62 = .ok (.aload_n 0, 1) := by decide +kernel
theorem dX10_loanByDebt_63 : decode cX10_loanByDebt 63 = .ok (.iload_n 2, 1) := by decide +kernel
theorem dX10_loanByDebt_64 : decode cX10_loanByDebt 64 = .ok (.iconst 0, 1) := by decide +kernel
theorem dX10_loanByDebt_65 : decode cX10_loanByDebt 65 = .ok (.invokevirtual 58, 3) := by decide +kernel
theorem dX10_loanByDebt_68 : decode cX10_loanByDebt 68 = .ok (.ireturn, 1) := by decide +kernel
theorem dX10_loanByDebt_69 : decode cX10_loanByDebt 69 = .ok (.iinc 2 1, 3) := by decide +kernel
theorem dX10_loanByDebt_72 : decode cX10_loanByDebt 72 = .ok (.goto (-65), 3) := by decide +kernel
theorem dX10_loanByDebt_75 : decode cX10_loanByDebt 75 = .ok (.aload_n 0, 1) := by decide +kernel
theorem dX10_loanByDebt_76 : decode cX10_loanByDebt 76 = .ok (.iconst 1, 1) := by decide +kernel
theorem dX10_loanByDebt_77 : decode cX10_loanByDebt 77 = .ok (.invokevirtual 79, 3) := by decide +kernel
theorem dX10_loanByDebt_80 : decode cX10_loanByDebt 80 = .ok (.ireturn, 1) := by decide +kernel
theorem dX10_ledgerSize_0 : decode cX10_ledgerSize 0 = .ok (.aload_n 0, 1) := by decide +kernel
theorem dX10_ledgerSize_1 : decode cX10_ledgerSize 1 = .ok (.iconst 5, 1) := by decide +kernel
theorem dX10_ledgerSize_2 : decode cX10_ledgerSize 2 = .ok (.invokevirtual 181, 3) := by decide +kernel
theorem dX10_ledgerSize_5 : decode cX10_ledgerSize 5 = .ok (.ireturn, 1) := by decide +kernel
theorem dX10_ledgerAmount_0 : decode cX10_ledgerAmount 0 = .ok (.aload_n 0, 1) := by decide +kernel
theorem dX10_ledgerAmount_1 : decode cX10_ledgerAmount 1 = .ok (.iconst 0, 1) := by decide +kernel
theorem dX10_ledgerAmount_2 : decode cX10_ledgerAmount 2 = .ok (.putfield 1, 3) := by decide +kernel
theorem dX10_ledgerAmount_5 : decode cX10_ledgerAmount 5 = .ok (.aload_n 0, 1) := by decide +kernel
theorem dX10_ledgerAmount_6 : decode cX10_ledgerAmount 6 = .ok (.iload_n 1, 1) := by decide +kernel
theorem dX10_ledgerAmount_7 : decode cX10_ledgerAmount 7 = .ok (.iload_n 2, 1) := by decide +kernel
theorem dX10_ledgerAmount_8 : decode cX10_ledgerAmount 8 = .ok (.invokevirtual 136, 3) := by decide +kernel
theorem dX10_ledgerAmount_11 : decode cX10_ledgerAmount 11 = .ok (.istore_n 3, 1) := by decide +kernel
theorem dX10_ledgerAmount_12 : decode cX10_ledgerAmount 12 = .ok (.iload_n 3, 1) := by decide +kernel
theorem dX10_ledgerAmount_13 : decode cX10_ledgerAmount 13 = .ok (.ifCond .ge 11, 3) := by decide +kernel
theorem dX10_ledgerAmount_16 : decode cX10_ledgerAmount 16 = .ok (.aload_n 0, 1) := by decide +kernel
theorem dX10_ledgerAmount_17 : decode cX10_ledgerAmount 17 = .ok (.iconst 1, 1) := by decide +kernel
theorem dX10_ledgerAmount_18 : decode cX10_ledgerAmount 18 = .ok (.invokevirtual 79, 3) := by decide +kernel
theorem dX10_ledgerAmount_21 : decode cX10_ledgerAmount 21 = .ok (.goto 9, 3) := by decide +kernel
theorem dX10_ledgerAmount_24 : decode cX10_ledgerAmount 24 = .ok (.aload_n 0, 1) := by decide +kernel
theorem dX10_ledgerAmount_25 : decode cX10_ledgerAmount 25 = .ok (.iload_n 3, 1) := by decide +kernel
theorem dX10_ledgerAmount_26 : decode cX10_ledgerAmount 26 = .ok (.iconst 2, 1) := by decide +kernel
theorem dX10_ledgerAmount_27 : decode cX10_ledgerAmount 27 = .ok (.invokevirtual 133, 3) := by decide +kernel
theorem dX10_ledgerAmount_30 : decode cX10_ledgerAmount 30 = .ok (.ireturn, 1) := by decide +kernel
theorem dX10_asksEntry_0 : decode cX10_asksEntry 0 = .ok (.aload_n 0, 1) := by decide +kernel
theorem dX10_asksEntry_1 : decode cX10_asksEntry 1 = .ok (.iconst 0, 1) := by decide +kernel
theorem dX10_asksEntry_2 : decode cX10_asksEntry 2 = .ok (.putfield 1, 3) := by decide +kernel
theorem dX10_asksEntry_5 : decode cX10_asksEntry 5 = .ok (.iload_n 1, 1) := by decide +kernel
theorem dX10_asksEntry_6 : decode cX10_asksEntry 6 = .ok (.iconst 0, 1) := by decide +kernel
theorem dX10_asksEntry_7 : decode cX10_asksEntry 7 = .ok (.aload_n 0, 1) := by decide +kernel
theorem dX10_asksEntry_8 : decode cX10_asksEntry 8 = .ok (.getfield 13, 3) := by decide +kernel
theorem dX10_asksEntry_11 : decode cX10_asksEntry 11 = .ok (.iconst 5, 1) := by decide +kernel
theorem dX10_asksEntry_12 : decode cX10_asksEntry 12 = .ok (.iaload, 1) := by decide +kernel
theorem dX10_asksEntry_13 : decode cX10_asksEntry 13 = .ok (.iconst 1, 1) := by decide +kernel
theorem dX10_asksEntry_14 : decode cX10_asksEntry 14 = .ok (.isub, 1) := by decide +kernel
theorem dX10_asksEntry_15 : decode cX10_asksEntry 15 = .ok (.invokestatic 54, 3) := by decide +kernel
theorem dX10_asksEntry_18 : decode cX10_asksEntry 18 = .ok (.ifCond .eq 12, 3) := by decide +kernel
theorem dX10_asksEntry_21 : decode cX10_asksEntry 21 = .ok (.aload_n 0, 1) := by decide +kernel
theorem dX10_asksEntry_22 : decode cX10_asksEntry 22 = .ok (.iload_n 1, 1) := by decide +kernel
theorem dX10_asksEntry_23 : decode cX10_asksEntry 23 = .ok (.iload_n 2, 1) := by decide +kernel
theorem dX10_asksEntry_24 : decode cX10_asksEntry 24 = .ok (.invokevirtual 133, 3) := by decide +kernel
theorem dX10_asksEntry_27 : decode cX10_asksEntry 27 = .ok (.goto 8, 3) := by decide +kernel
theorem dX10_asksEntry_30 : decode cX10_asksEntry 30 = .ok (.aload_n 0, 1) := by decide +kernel
theorem dX10_asksEntry_31 : decode cX10_asksEntry 31 = .ok (.iconst 1, 1) := by decide +kernel
theorem dX10_asksEntry_32 : decode cX10_asksEntry 32 = .ok (.invokevirtual 79, 3) := by decide +kernel
theorem dX10_asksEntry_35 : decode cX10_asksEntry 35 = .ok (.ireturn, 1) := by decide +kernel
theorem dX10_ledgerDay_0 : decode cX10_ledgerDay 0 = .ok (.aload_n 0, 1) := by decide +kernel
theorem dX10_ledgerDay_1 : decode cX10_ledgerDay 1 = .ok (.iload_n 1, 1) := by decide +kernel
theorem dX10_ledgerDay_2 : decode cX10_ledgerDay 2 = .ok (.iconst 0, 1) := by decide +kernel
theorem dX10_ledgerDay_3 : decode cX10_ledgerDay 3 = .ok (.invokevirtual 212, 3) := by decide +kernel
theorem dX10_ledgerDay_6 : decode cX10_ledgerDay 6 = .ok (.ireturn, 1) := by decide +kernel
theorem dX10_ledgerLoan_0 : decode cX10_ledgerLoan 0 = .ok (.aload_n 0, 1) := by decide +kernel
theorem dX10_ledgerLoan_1 : decode cX10_ledgerLoan 1 = .ok (.iload_n 1, 1) := by decide +kernel
theorem dX10_ledgerLoan_2 : decode cX10_ledgerLoan 2 = .ok (.iconst 1, 1) := by decide +kernel
theorem dX10_ledgerLoan_3 : decode cX10_ledgerLoan 3 = .ok (.invokevirtual 212, 3) := by decide +kernel
theorem dX10_ledgerLoan_6 : decode cX10_ledgerLoan 6 = .ok (.ireturn, 1) := by decide +kernel
theorem dX10_ledgerOf_0 : decode cX10_ledgerOf 0 = .ok (.aload_n 0, 1) := by decide +kernel
theorem dX10_ledgerOf_1 : decode cX10_ledgerOf 1 = .ok (.iconst 0, 1) := by decide +kernel
theorem dX10_ledgerOf_2 : decode cX10_ledgerOf 2 = .ok (.putfield 1, 3) := by decide +kernel
theorem dX10_ledgerOf_5 : decode cX10_ledgerOf 5 = .ok (.iconst 0, 1) := by decide +kernel
theorem dX10_ledgerOf_6 : decode cX10_ledgerOf 6 = .ok (.istore_n 2, 1) := by decide +kernel
theorem dX10_ledgerOf_7 : decode cX10_ledgerOf 7 = .ok (.iconst 0, 1) := by decide +kernel
theorem dX10_ledgerOf_8 : decode cX10_ledgerOf 8 = .ok (.istore_n 3, 1) := by decide +kernel
theorem dX10_ledgerOf_9 : decode cX10_ledgerOf 9 = .ok (.iload_n 3, 1) := by decide +kernel
theorem dX10_ledgerOf_10 : decode cX10_ledgerOf 10 = .ok (.aload_n 0, 1) := by decide +kernel
theorem dX10_ledgerOf_11 : decode cX10_ledgerOf 11 = .ok (.getfield 13, 3) := by decide +kernel
theorem dX10_ledgerOf_14 : decode cX10_ledgerOf 14 = .ok (.iconst 5, 1) := by decide +kernel
theorem dX10_ledgerOf_15 : decode cX10_ledgerOf 15 = .ok (.iaload, 1) := by decide +kernel
theorem dX10_ledgerOf_16 : decode cX10_ledgerOf 16 = .ok (.if_icmp .ge 32, 3) := by decide +kernel
theorem dX10_ledgerOf_19 : decode cX10_ledgerOf 19 = .ok (.iload_n 2, 1) := by decide +kernel
theorem dX10_ledgerOf_20 : decode cX10_ledgerOf 20 = .ok (.aload_n 0, 1) := by decide +kernel
theorem dX10_ledgerOf_21 : decode cX10_ledgerOf 21 = .ok (.iload_n 3, 1) := by decide +kernel
theorem dX10_ledgerOf_22 : decode cX10_ledgerOf 22 = .ok (.iconst 1, 1) := by decide +kernel
theorem dX10_ledgerOf_23 : decode cX10_ledgerOf 23 = .ok (.invokevirtual 133, 3) := by decide +kernel
theorem dX10_ledgerOf_26 : decode cX10_ledgerOf 26 = .ok (.iload_n 1, 1) := by decide +kernel
theorem dX10_ledgerOf_27 : decode cX10_ledgerOf 27 = .ok (.if_icmp .ne 12, 3) := by decide +kernel
theorem dX10_ledgerOf_30 : decode cX10_ledgerOf 30 = .ok (.aload_n 0, 1) := by decide +kernel
theorem dX10_ledgerOf_31 : decode cX10_ledgerOf 31 = .ok (.iload_n 3, 1) := by decide +kernel
theorem dX10_ledgerOf_32 : decode cX10_ledgerOf 32 = .ok (.iconst 2, 1) := by decide +kernel
theorem dX10_ledgerOf_33 : decode cX10_ledgerOf 33 = .ok (.invokevirtual 133, 3) := by decide +kernel
theorem dX10_ledgerOf_36 : decode cX10_ledgerOf 36 = .ok (.goto 4, 3) := by decide +kernel
theorem dX10_ledgerOf_39 : decode cX10_ledgerOf 39 = .ok (.iconst 0, 1) := by decide +kernel
theorem dX10_ledgerOf_40 : decode cX10_ledgerOf 40 = .ok (.iadd, 1) := by decide +kernel
theorem dX10_ledgerOf_41 : decode cX10_ledgerOf 41 = .ok (.istore_n 2, 1) := by decide +kernel
theorem dX10_ledgerOf_42 : decode cX10_ledgerOf 42 = .ok (.iinc 3 1, 3) := by decide +kernel
theorem dX10_ledgerOf_45 : decode cX10_ledgerOf 45 = .ok (.goto (-36), 3) := by decide +kernel
theorem dX10_ledgerOf_48 : decode cX10_ledgerOf 48 = .ok (.iload_n 2, 1) := by decide +kernel
theorem dX10_ledgerOf_49 : decode cX10_ledgerOf 49 = .ok (.ireturn, 1) := by decide +kernel
theorem dX10_repaidLoans_0 : decode cX10_repaidLoans 0 = .ok (.aload_n 0, 1) := by decide +kernel
theorem dX10_repaidLoans_1 : decode cX10_repaidLoans 1 = .ok (.bipush 6, 2) := by decide +kernel
theorem dX10_repaidLoans_3 : decode cX10_repaidLoans 3 = .ok (.invokevirtual 181, 3) := by decide +kernel
theorem dX10_repaidLoans_6 : decode cX10_repaidLoans 6 = .ok (.ireturn, 1) := by decide +kernel
theorem dX10_defaultedLoans_0 : decode cX10_defaultedLoans 0 = .ok (.aload_n 0, 1) := by decide +kernel
theorem dX10_defaultedLoans_1 : decode cX10_defaultedLoans 1 = .ok (.bipush 7, 2) := by decide +kernel
theorem dX10_defaultedLoans_3 : decode cX10_defaultedLoans 3 = .ok (.invokevirtual 181, 3) := by decide +kernel
theorem dX10_defaultedLoans_6 : decode cX10_defaultedLoans 6 = .ok (.ireturn, 1) := by decide +kernel
theorem dX10_losses_0 : decode cX10_losses 0 = .ok (.aload_n 0, 1) := by decide +kernel
theorem dX10_losses_1 : decode cX10_losses 1 = .ok (.bipush 8, 2) := by decide +kernel
theorem dX10_losses_3 : decode cX10_losses 3 = .ok (.invokevirtual 181, 3) := by decide +kernel
theorem dX10_losses_6 : decode cX10_losses 6 = .ok (.ireturn, 1) := by decide +kernel
theorem dX10_coinsAll_0 : decode cX10_coinsAll 0 = .ok (.aload_n 0, 1) := by decide +kernel
theorem dX10_coinsAll_1 : decode cX10_coinsAll 1 = .ok (.getfield 13, 3) := by decide +kernel
theorem dX10_coinsAll_4 : decode cX10_coinsAll 4 = .ok (.iconst 4, 1) := by decide +kernel
theorem dX10_coinsAll_5 : decode cX10_coinsAll 5 = .ok (.iaload, 1) := by decide +kernel
theorem dX10_coinsAll_6 : decode cX10_coinsAll 6 = .ok (.istore_n 1, 1) := by decide +kernel
theorem dX10_coinsAll_7 : decode cX10_coinsAll 7 = .ok (.iconst 0, 1) := by decide +kernel
theorem dX10_coinsAll_8 : decode cX10_coinsAll 8 = .ok (.istore_n 2, 1) := by decide +kernel
theorem dX10_coinsAll_9 : decode cX10_coinsAll 9 = .ok (.iload_n 2, 1) := by decide +kernel
theorem dX10_coinsAll_10 : decode cX10_coinsAll 10 = .ok (.aload_n 0, 1) := by decide +kernel
theorem dX10_coinsAll_11 : decode cX10_coinsAll 11 = .ok (.getfield 13, 3) := by decide +kernel
theorem dX10_coinsAll_14 : decode cX10_coinsAll 14 = .ok (.iconst 1, 1) := by decide +kernel
theorem dX10_coinsAll_15 : decode cX10_coinsAll 15 = .ok (.iaload, 1) := by decide +kernel
theorem dX10_coinsAll_16 : decode cX10_coinsAll 16 = .ok (.if_icmp .ge 18, 3) := by decide +kernel
theorem dX10_coinsAll_19 : decode cX10_coinsAll 19 = .ok (.iload_n 1, 1) := by decide +kernel
theorem dX10_coinsAll_20 : decode cX10_coinsAll 20 = .ok (.aload_n 0, 1) := by decide +kernel
theorem dX10_coinsAll_21 : decode cX10_coinsAll 21 = .ok (.iload_n 2, 1) := by decide +kernel
theorem dX10_coinsAll_22 : decode cX10_coinsAll 22 = .ok (.iconst 0, 1) := by decide +kernel
theorem dX10_coinsAll_23 : decode cX10_coinsAll 23 = .ok (.invokevirtual 95, 3) := by decide +kernel
theorem dX10_coinsAll_26 : decode cX10_coinsAll 26 = .ok (.iadd, 1) := by decide +kernel
theorem dX10_coinsAll_27 : decode cX10_coinsAll 27 = .ok (.istore_n 1, 1) := by decide +kernel
theorem dX10_coinsAll_28 : decode cX10_coinsAll 28 = .ok (.iinc 2 1, 3) := by decide +kernel
theorem dX10_coinsAll_31 : decode cX10_coinsAll 31 = .ok (.goto (-22), 3) := by decide +kernel
theorem dX10_coinsAll_34 : decode cX10_coinsAll 34 = .ok (.iload_n 1, 1) := by decide +kernel
theorem dX10_coinsAll_35 : decode cX10_coinsAll 35 = .ok (.ireturn, 1) := by decide +kernel
theorem dX10_unitsAll_0 : decode cX10_unitsAll 0 = .ok (.aload_n 0, 1) := by decide +kernel
theorem dX10_unitsAll_1 : decode cX10_unitsAll 1 = .ok (.getfield 13, 3) := by decide +kernel
theorem dX10_unitsAll_4 : decode cX10_unitsAll 4 = .ok (.bipush 14, 2) := by decide +kernel
theorem dX10_unitsAll_6 : decode cX10_unitsAll 6 = .ok (.iload_n 1, 1) := by decide +kernel
theorem dX10_unitsAll_7 : decode cX10_unitsAll 7 = .ok (.iadd, 1) := by decide +kernel
theorem dX10_unitsAll_8 : decode cX10_unitsAll 8 = .ok (.iaload, 1) := by decide +kernel
theorem dX10_unitsAll_9 : decode cX10_unitsAll 9 = .ok (.istore_n 2, 1) := by decide +kernel
theorem dX10_unitsAll_10 : decode cX10_unitsAll 10 = .ok (.iconst 0, 1) := by decide +kernel
theorem dX10_unitsAll_11 : decode cX10_unitsAll 11 = .ok (.istore_n 3, 1) := by decide +kernel
theorem dX10_unitsAll_12 : decode cX10_unitsAll 12 = .ok (.iload_n 3, 1) := by decide +kernel
theorem dX10_unitsAll_13 : decode cX10_unitsAll 13 = .ok (.aload_n 0, 1) := by decide +kernel
theorem dX10_unitsAll_14 : decode cX10_unitsAll 14 = .ok (.getfield 13, 3) := by decide +kernel
theorem dX10_unitsAll_17 : decode cX10_unitsAll 17 = .ok (.iconst 1, 1) := by decide +kernel
theorem dX10_unitsAll_18 : decode cX10_unitsAll 18 = .ok (.iaload, 1) := by decide +kernel
theorem dX10_unitsAll_19 : decode cX10_unitsAll 19 = .ok (.if_icmp .ge 27, 3) := by decide +kernel
theorem dX10_unitsAll_22 : decode cX10_unitsAll 22 = .ok (.iload_n 2, 1) := by decide +kernel
theorem dX10_unitsAll_23 : decode cX10_unitsAll 23 = .ok (.aload_n 0, 1) := by decide +kernel
theorem dX10_unitsAll_24 : decode cX10_unitsAll 24 = .ok (.iload_n 3, 1) := by decide +kernel
theorem dX10_unitsAll_25 : decode cX10_unitsAll 25 = .ok (.iconst 2, 1) := by decide +kernel
theorem dX10_unitsAll_26 : decode cX10_unitsAll 26 = .ok (.iload_n 1, 1) := by decide +kernel
theorem dX10_unitsAll_27 : decode cX10_unitsAll 27 = .ok (.iadd, 1) := by decide +kernel
theorem dX10_unitsAll_28 : decode cX10_unitsAll 28 = .ok (.invokevirtual 95, 3) := by decide +kernel
theorem dX10_unitsAll_31 : decode cX10_unitsAll 31 = .ok (.aload_n 0, 1) := by decide +kernel
theorem dX10_unitsAll_32 : decode cX10_unitsAll 32 = .ok (.iload_n 3, 1) := by decide +kernel
theorem dX10_unitsAll_33 : decode cX10_unitsAll 33 = .ok (.iload_n 1, 1) := by decide +kernel
theorem dX10_unitsAll_34 : decode cX10_unitsAll 34 = .ok (.invokevirtual 190, 3) := by decide +kernel
theorem dX10_unitsAll_37 : decode cX10_unitsAll 37 = .ok (.iadd, 1) := by decide +kernel
theorem dX10_unitsAll_38 : decode cX10_unitsAll 38 = .ok (.iadd, 1) := by decide +kernel
theorem dX10_unitsAll_39 : decode cX10_unitsAll 39 = .ok (.istore_n 2, 1) := by decide +kernel
theorem dX10_unitsAll_40 : decode cX10_unitsAll 40 = .ok (.iinc 3 1, 3) := by decide +kernel
theorem dX10_unitsAll_43 : decode cX10_unitsAll 43 = .ok (.goto (-31), 3) := by decide +kernel
theorem dX10_unitsAll_46 : decode cX10_unitsAll 46 = .ok (.iload_n 2, 1) := by decide +kernel
theorem dX10_unitsAll_47 : decode cX10_unitsAll 47 = .ok (.ireturn, 1) := by decide +kernel
theorem dX10_totalCoins_0 : decode cX10_totalCoins 0 = .ok (.aload_n 0, 1) := by decide +kernel
theorem dX10_totalCoins_1 : decode cX10_totalCoins 1 = .ok (.iconst 0, 1) := by decide +kernel
theorem dX10_totalCoins_2 : decode cX10_totalCoins 2 = .ok (.putfield 1, 3) := by decide +kernel
theorem dX10_totalCoins_5 : decode cX10_totalCoins 5 = .ok (.aload_n 0, 1) := by decide +kernel
theorem dX10_totalCoins_6 : decode cX10_totalCoins 6 = .ok (.invokevirtual 215, 3) := by decide +kernel
theorem dX10_totalCoins_9 : decode cX10_totalCoins 9 = .ok (.ireturn, 1) := by decide +kernel
theorem dX10_totalUnits_0 : decode cX10_totalUnits 0 = .ok (.aload_n 0, 1) := by decide +kernel
theorem dX10_totalUnits_1 : decode cX10_totalUnits 1 = .ok (.iconst 0, 1) := by decide +kernel
theorem dX10_totalUnits_2 : decode cX10_totalUnits 2 = .ok (.putfield 1, 3) := by decide +kernel
theorem dX10_totalUnits_5 : decode cX10_totalUnits 5 = .ok (.iload_n 1, 1) := by decide +kernel
theorem dX10_totalUnits_6 : decode cX10_totalUnits 6 = .ok (.invokestatic 92, 3) := by decide +kernel
theorem dX10_totalUnits_9 : decode cX10_totalUnits 9 = .ok (.ifCond .eq 11, 3) := by decide +kernel
theorem dX10_totalUnits_12 : decode cX10_totalUnits 12 = .ok (.aload_n 0, 1) := by decide +kernel
theorem dX10_totalUnits_13 : decode cX10_totalUnits 13 = .ok (.iload_n 1, 1) := by decide +kernel
theorem dX10_totalUnits_14 : decode cX10_totalUnits 14 = .ok (.invokevirtual 218, 3) := by decide +kernel
theorem dX10_totalUnits_17 : decode cX10_totalUnits 17 = .ok (.goto 8, 3) := by decide +kernel
theorem dX10_totalUnits_20 : decode cX10_totalUnits 20 = .ok (.aload_n 0, 1) := by decide +kernel
theorem dX10_totalUnits_21 : decode cX10_totalUnits 21 = .ok (.iconst 1, 1) := by decide +kernel
theorem dX10_totalUnits_22 : decode cX10_totalUnits 22 = .ok (.invokevirtual 79, 3) := by decide +kernel
theorem dX10_totalUnits_25 : decode cX10_totalUnits 25 = .ok (.ireturn, 1) := by decide +kernel
theorem dX10_meanDebt_0 : decode cX10_meanDebt 0 = .ok (.aload_n 0, 1) := by decide +kernel
theorem dX10_meanDebt_1 : decode cX10_meanDebt 1 = .ok (.iconst 0, 1) := by decide +kernel
theorem dX10_meanDebt_2 : decode cX10_meanDebt 2 = .ok (.putfield 1, 3) := by decide +kernel
theorem dX10_meanDebt_5 : decode cX10_meanDebt 5 = .ok (.aload_n 0, 1) := by decide +kernel
theorem dX10_meanDebt_6 : decode cX10_meanDebt 6 = .ok (.getfield 13, 3) := by decide +kernel
theorem dX10_meanDebt_9 : decode cX10_meanDebt 9 = .ok (.iconst 2, 1) := by decide +kernel
theorem dX10_meanDebt_10 : decode cX10_meanDebt 10 = .ok (.iaload, 1) := by decide +kernel
theorem dX10_meanDebt_11 : decode cX10_meanDebt 11 = .ok (.ifCond .ne 10, 3) := by decide +kernel
theorem dX10_meanDebt_14 : decode cX10_meanDebt 14 = .ok (.aload_n 0, 1) := by decide +kernel
theorem dX10_meanDebt_15 : decode cX10_meanDebt 15 = .ok (.iconst 1, 1) := by decide +kernel
theorem dX10_meanDebt_16 : decode cX10_meanDebt 16 = .ok (.invokevirtual 79, 3) := by decide +kernel
theorem dX10_meanDebt_19 : decode cX10_meanDebt 19 = .ok (.i2d, 1) := by decide +kernel
theorem dX10_meanDebt_20 : decode cX10_meanDebt 20 = .ok (.dreturn, 1) := by decide +kernel
theorem dX10_meanDebt_21 : decode cX10_meanDebt 21 = .ok (.iconst 0, 1) := by decide +kernel
theorem dX10_meanDebt_22 : decode cX10_meanDebt 22 = .ok (.istore_n 1, 1) := by decide +kernel
theorem dX10_meanDebt_23 : decode cX10_meanDebt 23 = .ok (.iconst 0, 1) := by decide +kernel
theorem dX10_meanDebt_24 : decode cX10_meanDebt 24 = .ok (.istore_n 2, 1) := by decide +kernel
theorem dX10_meanDebt_25 : decode cX10_meanDebt 25 = .ok (.iload_n 2, 1) := by decide +kernel
theorem dX10_meanDebt_26 : decode cX10_meanDebt 26 = .ok (.aload_n 0, 1) := by decide +kernel
theorem dX10_meanDebt_27 : decode cX10_meanDebt 27 = .ok (.getfield 13, 3) := by decide +kernel
theorem dX10_meanDebt_30 : decode cX10_meanDebt 30 = .ok (.iconst 2, 1) := by decide +kernel
theorem dX10_meanDebt_31 : decode cX10_meanDebt 31 = .ok (.iaload, 1) := by decide +kernel
theorem dX10_meanDebt_32 : decode cX10_meanDebt 32 = .ok (.if_icmp .ge 17, 3) := by decide +kernel
theorem dX10_meanDebt_35 : decode cX10_meanDebt 35 = .ok (.iload_n 1, 1) := by decide +kernel
theorem dX10_meanDebt_36 : decode cX10_meanDebt 36 = .ok (.aload_n 0, 1) := by decide +kernel
theorem dX10_meanDebt_37 : decode cX10_meanDebt 37 = .ok (.iload_n 2, 1) := by decide +kernel
theorem dX10_meanDebt_38 : decode cX10_meanDebt 38 = .ok (.invokevirtual 62, 3) := by decide +kernel
theorem dX10_meanDebt_41 : decode cX10_meanDebt 41 = .ok (.iadd, 1) := by decide +kernel
theorem dX10_meanDebt_42 : decode cX10_meanDebt 42 = .ok (.istore_n 1, 1) := by decide +kernel
theorem dX10_meanDebt_43 : decode cX10_meanDebt 43 = .ok (.iinc 2 1, 3) := by decide +kernel
theorem dX10_meanDebt_46 : decode cX10_meanDebt 46 = .ok (.goto (-21), 3) := by decide +kernel
theorem dX10_meanDebt_49 : decode cX10_meanDebt 49 = .ok (.iload_n 1, 1) := by decide +kernel
theorem dX10_meanDebt_50 : decode cX10_meanDebt 50 = .ok (.i2d, 1) := by decide +kernel
theorem dX10_meanDebt_51 : decode cX10_meanDebt 51 = .ok (.aload_n 0, 1) := by decide +kernel
theorem dX10_meanDebt_52 : decode cX10_meanDebt 52 = .ok (.getfield 13, 3) := by decide +kernel
theorem dX10_meanDebt_55 : decode cX10_meanDebt 55 = .ok (.iconst 2, 1) := by decide +kernel
theorem dX10_meanDebt_56 : decode cX10_meanDebt 56 = .ok (.iaload, 1) := by decide +kernel
theorem dX10_meanDebt_57 : decode cX10_meanDebt 57 = .ok (.i2d, 1) := by decide +kernel
theorem dX10_meanDebt_58 : decode cX10_meanDebt 58 = .ok (.ddiv, 1) := by decide +kernel
theorem dX10_meanDebt_59 : decode cX10_meanDebt 59 = .ok (.dreturn, 1) := by decide +kernel
theorem dX10_defaultShare_0 : decode cX10_defaultShare 0 = .ok (.aload_n 0, 1) := by decide +kernel
theorem dX10_defaultShare_1 : decode cX10_defaultShare 1 = .ok (.iconst 0, 1) := by decide +kernel
theorem dX10_defaultShare_2 : decode cX10_defaultShare 2 = .ok (.putfield 1, 3) := by decide +kernel
theorem dX10_defaultShare_5 : decode cX10_defaultShare 5 = .ok (.aload_n 0, 1) := by decide +kernel
theorem dX10_defaultShare_6 : decode cX10_defaultShare 6 = .ok (.getfield 13, 3) := by decide +kernel
theorem dX10_defaultShare_9 : decode cX10_defaultShare 9 = .ok (.iconst 3, 1) := by decide +kernel
theorem dX10_defaultShare_10 : decode cX10_defaultShare 10 = .ok (.iaload, 1) := by decide +kernel
theorem dX10_defaultShare_11 : decode cX10_defaultShare 11 = .ok (.ifCond .ne 12, 3) := by decide +kernel
theorem dX10_defaultShare_14 : decode cX10_defaultShare 14 = .ok (.aload_n 0, 1) := by decide +kernel
theorem dX10_defaultShare_15 : decode cX10_defaultShare 15 = .ok (.iconst 1, 1) := by decide +kernel
theorem dX10_defaultShare_16 : decode cX10_defaultShare 16 = .ok (.invokevirtual 79, 3) := by decide +kernel
theorem dX10_defaultShare_19 : decode cX10_defaultShare 19 = .ok (.i2f, 1) := by decide +kernel
theorem dX10_defaultShare_20 : decode cX10_defaultShare 20 = .ok (.goto 19, 3) := by decide +kernel
theorem dX10_defaultShare_23 : decode cX10_defaultShare 23 = .ok (.aload_n 0, 1) := by decide +kernel
theorem dX10_defaultShare_24 : decode cX10_defaultShare 24 = .ok (.getfield 13, 3) := by decide +kernel
theorem dX10_defaultShare_27 : decode cX10_defaultShare 27 = .ok (.bipush 7, 2) := by decide +kernel
theorem dX10_defaultShare_29 : decode cX10_defaultShare 29 = .ok (.iaload, 1) := by decide +kernel
theorem dX10_defaultShare_30 : decode cX10_defaultShare 30 = .ok (.i2f, 1) := by decide +kernel
theorem dX10_defaultShare_31 : decode cX10_defaultShare 31 = .ok (.aload_n 0, 1) := by decide +kernel
theorem dX10_defaultShare_32 : decode cX10_defaultShare 32 = .ok (.getfield 13, 3) := by decide +kernel
theorem dX10_defaultShare_35 : decode cX10_defaultShare 35 = .ok (.iconst 3, 1) := by decide +kernel
theorem dX10_defaultShare_36 : decode cX10_defaultShare 36 = .ok (.iaload, 1) := by decide +kernel
theorem dX10_defaultShare_37 : decode cX10_defaultShare 37 = .ok (.i2f, 1) := by decide +kernel
theorem dX10_defaultShare_38 : decode cX10_defaultShare 38 = .ok (.fdiv, 1) := by decide +kernel
theorem dX10_defaultShare_39 : decode cX10_defaultShare 39 = .ok (.freturn, 1) := by decide +kernel
theorem dX10_isBalanced_0 : decode cX10_isBalanced 0 = .ok (.aload_n 0, 1) := by decide +kernel
theorem dX10_isBalanced_1 : decode cX10_isBalanced 1 = .ok (.iconst 0, 1) := by decide +kernel
theorem dX10_isBalanced_2 : decode cX10_isBalanced 2 = .ok (.putfield 1, 3) := by decide +kernel
theorem dX10_isBalanced_5 : decode cX10_isBalanced 5 = .ok (.iconst 0, 1) := by decide +kernel
theorem dX10_isBalanced_6 : decode cX10_isBalanced 6 = .ok (.istore_n 1, 1) := by decide +kernel
theorem dX10_isBalanced_7 : decode cX10_isBalanced 7 = .ok (.iload_n 1, 1) := by decide +kernel
theorem dX10_isBalanced_8 : decode cX10_isBalanced 8 = .ok (.iconst 4, 1) := by decide +kernel
theorem dX10_isBalanced_9 : decode cX10_isBalanced 9 = .ok (.if_icmp .ge 28, 3) := by decide +kernel
theorem dX10_isBalanced_12 : decode cX10_isBalanced 12 = .ok (.aload_n 0, 1) := by decide +kernel
theorem dX10_isBalanced_13 : decode cX10_isBalanced 13 = .ok (.iload_n 1, 1) := by decide +kernel
theorem dX10_isBalanced_14 : decode cX10_isBalanced 14 = .ok (.invokevirtual 218, 3) := by decide +kernel
theorem dX10_isBalanced_17 : decode cX10_isBalanced 17 = .ok (.aload_n 0, 1) := by decide +kernel
theorem dX10_isBalanced_18 : decode cX10_isBalanced 18 = .ok (.getfield 13, 3) := by decide +kernel
theorem dX10_isBalanced_21 : decode cX10_isBalanced 21 = .ok (.bipush 18, 2) := by decide +kernel
theorem dX10_isBalanced_23 : decode cX10_isBalanced 23 = .ok (.iload_n 1, 1) := by decide +kernel
theorem dX10_isBalanced_24 : decode cX10_isBalanced 24 = .ok (.iadd, 1) := by decide +kernel
theorem dX10_isBalanced_25 : decode cX10_isBalanced 25 = .ok (.iaload, 1) := by decide +kernel
theorem dX10_isBalanced_26 : decode cX10_isBalanced 26 = .ok (.if_icmp .eq 5, 3) := by decide +kernel
theorem dX10_isBalanced_29 : decode cX10_isBalanced 29 = .ok (.iconst 0, 1) := by decide +kernel
theorem dX10_isBalanced_30 : decode cX10_isBalanced 30 = .ok (.ireturn, 1) := by decide +kernel
theorem dX10_isBalanced_31 : decode cX10_isBalanced 31 = .ok (.iinc 1 1, 3) := by decide +kernel
theorem dX10_isBalanced_34 : decode cX10_isBalanced 34 = .ok (.goto (-27), 3) := by decide +kernel
theorem dX10_isBalanced_37 : decode cX10_isBalanced 37 = .ok (.aload_n 0, 1) := by decide +kernel
theorem dX10_isBalanced_38 : decode cX10_isBalanced 38 = .ok (.invokevirtual 215, 3) := by decide +kernel
theorem dX10_isBalanced_41 : decode cX10_isBalanced 41 = .ok (.sipush 1000, 3) := by decide +kernel
theorem dX10_isBalanced_44 : decode cX10_isBalanced 44 = .ok (.aload_n 0, 1) := by decide +kernel
theorem dX10_isBalanced_45 : decode cX10_isBalanced 45 = .ok (.getfield 13, 3) := by decide +kernel
theorem dX10_isBalanced_48 : decode cX10_isBalanced 48 = .ok (.bipush 9, 2) := by decide +kernel
theorem dX10_isBalanced_50 : decode cX10_isBalanced 50 = .ok (.iaload, 1) := by decide +kernel
theorem dX10_isBalanced_51 : decode cX10_isBalanced 51 = .ok (.iadd, 1) := by decide +kernel
theorem dX10_isBalanced_52 : decode cX10_isBalanced 52 = .ok (.if_icmp .ne 7, 3) := by decide +kernel
theorem dX10_isBalanced_55 : decode cX10_isBalanced 55 = .ok (.iconst 1, 1) := by decide +kernel
theorem dX10_isBalanced_56 : decode cX10_isBalanced 56 = .ok (.goto 4, 3) := by decide +kernel
theorem dX10_isBalanced_59 : decode cX10_isBalanced 59 = .ok (.iconst 0, 1) := by decide +kernel
theorem dX10_isBalanced_60 : decode cX10_isBalanced 60 = .ok (.ireturn, 1) := by decide +kernel
theorem dX10_writes_0 : decode cX10_writes 0 = .ok (.aload_n 0, 1) := by decide +kernel
theorem dX10_writes_1 : decode cX10_writes 1 = .ok (.getfield 26, 3) := by decide +kernel
theorem dX10_writes_4 : decode cX10_writes 4 = .ok (.aload_n 0, 1) := by decide +kernel
theorem dX10_writes_5 : decode cX10_writes 5 = .ok (.getfield 221, 3) := by decide +kernel
theorem dX10_writes_8 : decode cX10_writes 8 = .ok (.iload_n 1, 1) := by decide +kernel
theorem dX10_writes_9 : decode cX10_writes 9 = .ok (.i2c, 1) := by decide +kernel
theorem dX10_writes_10 : decode cX10_writes 10 = .ok (.castore, 1) := by decide +kernel
theorem dX10_writes_11 : decode cX10_writes 11 = .ok (.aload_n 0, 1) := by decide +kernel
theorem dX10_writes_12 : decode cX10_writes 12 = .ok (.dup, 1) := by decide +kernel
theorem dX10_writes_13 : decode cX10_writes 13 = .ok (.getfield 221, 3) := by decide +kernel
theorem dX10_writes_16 : decode cX10_writes 16 = .ok (.iconst 1, 1) := by decide +kernel
theorem dX10_writes_17 : decode cX10_writes 17 = .ok (.iadd, 1) := by decide +kernel
theorem dX10_writes_18 : decode cX10_writes 18 = .ok (.putfield 221, 3) := by decide +kernel
theorem dX10_writes_21 : decode cX10_writes 21 = .ok (.return_, 1) := by decide +kernel
theorem dX10_writesNumber_0 : decode cX10_writesNumber 0 = .ok (.iconst 1, 1) := by decide +kernel
theorem dX10_writesNumber_1 : decode cX10_writesNumber 1 = .ok (.istore_n 2, 1) := by decide +kernel
theorem dX10_writesNumber_2 : decode cX10_writesNumber 2 = .ok (.iload_n 1, 1) := by decide +kernel
theorem dX10_writesNumber_3 : decode cX10_writesNumber 3 = .ok (.iload_n 2, 1) := by decide +kernel
theorem dX10_writesNumber_4 : decode cX10_writesNumber 4 = .ok (.idiv, 1) := by decide +kernel
theorem dX10_writesNumber_5 : decode cX10_writesNumber 5 = .ok (.bipush 9, 2) := by decide +kernel
theorem dX10_writesNumber_7 : decode cX10_writesNumber 7 = .ok (.if_icmp .le 11, 3) := by decide +kernel
theorem dX10_writesNumber_10 : decode cX10_writesNumber 10 = .ok (.iload_n 2, 1) := by decide +kernel
theorem dX10_writesNumber_11 : decode cX10_writesNumber 11 = .ok (.bipush 10, 2) := by decide +kernel
theorem dX10_writesNumber_13 : decode cX10_writesNumber 13 = .ok (.imul, 1) := by decide +kernel
theorem dX10_writesNumber_14 : decode cX10_writesNumber 14 = .ok (.istore_n 2, 1) := by decide +kernel
theorem dX10_writesNumber_15 : decode cX10_writesNumber 15 = .ok (.goto (-13), 3) := by decide +kernel
theorem dX10_writesNumber_18 : decode cX10_writesNumber 18 = .ok (.iload_n 2, 1) := by decide +kernel
theorem dX10_writesNumber_19 : decode cX10_writesNumber 19 = .ok (.istore_n 3, 1) := by decide +kernel
theorem dX10_writesNumber_20 : decode cX10_writesNumber 20 = .ok (.iload_n 3, 1) := by decide +kernel
theorem dX10_writesNumber_21 : decode cX10_writesNumber 21 = .ok (.ifCond .le 24, 3) := by decide +kernel
theorem dX10_writesNumber_24 : decode cX10_writesNumber 24 = .ok (.aload_n 0, 1) := by decide +kernel
theorem dX10_writesNumber_25 : decode cX10_writesNumber 25 = .ok (.bipush 48, 2) := by decide +kernel
theorem dX10_writesNumber_27 : decode cX10_writesNumber 27 = .ok (.iload_n 1, 1) := by decide +kernel
theorem dX10_writesNumber_28 : decode cX10_writesNumber 28 = .ok (.iload_n 3, 1) := by decide +kernel
theorem dX10_writesNumber_29 : decode cX10_writesNumber 29 = .ok (.idiv, 1) := by decide +kernel
theorem dX10_writesNumber_30 : decode cX10_writesNumber 30 = .ok (.bipush 10, 2) := by decide +kernel
theorem dX10_writesNumber_32 : decode cX10_writesNumber 32 = .ok (.irem, 1) := by decide +kernel
theorem dX10_writesNumber_33 : decode cX10_writesNumber 33 = .ok (.iadd, 1) := by decide +kernel
theorem dX10_writesNumber_34 : decode cX10_writesNumber 34 = .ok (.invokevirtual 224, 3) := by decide +kernel
theorem dX10_writesNumber_37 : decode cX10_writesNumber 37 = .ok (.iload_n 3, 1) := by decide +kernel
theorem dX10_writesNumber_38 : decode cX10_writesNumber 38 = .ok (.bipush 10, 2) := by decide +kernel
theorem dX10_writesNumber_40 : decode cX10_writesNumber 40 = .ok (.idiv, 1) := by decide +kernel
theorem dX10_writesNumber_41 : decode cX10_writesNumber 41 = .ok (.istore_n 3, 1) := by decide +kernel
theorem dX10_writesNumber_42 : decode cX10_writesNumber 42 = .ok (.goto (-22), 3) := by decide +kernel
theorem dX10_writesNumber_45 : decode cX10_writesNumber 45 = .ok (.return_, 1) := by decide +kernel
theorem dX10_writesPart_0 : decode cX10_writesPart 0 = .ok (.aload_n 0, 1) := by decide +kernel
theorem dX10_writesPart_1 : decode cX10_writesPart 1 = .ok (.bipush 32, 2) := by decide +kernel
theorem dX10_writesPart_3 : decode cX10_writesPart 3 = .ok (.invokevirtual 224, 3) := by decide +kernel
theorem dX10_writesPart_6 : decode cX10_writesPart 6 = .ok (.iload_n 1, 1) := by decide +kernel
theorem dX10_writesPart_7 : decode cX10_writesPart 7 = .ok (.bipush 32, 2) := by decide +kernel
theorem dX10_writesPart_9 : decode cX10_writesPart 9 = .ok (.if_icmp .eq 8, 3) := by decide +kernel
theorem dX10_writesPart_12 : decode cX10_writesPart 12 = .ok (.aload_n 0, 1) := by decide +kernel
theorem dX10_writesPart_13 : decode cX10_writesPart 13 = .ok (.iload_n 1, 1) := by decide +kernel
theorem dX10_writesPart_14 : decode cX10_writesPart 14 = .ok (.invokevirtual 224, 3) := by decide +kernel
theorem dX10_writesPart_17 : decode cX10_writesPart 17 = .ok (.aload_n 0, 1) := by decide +kernel
theorem dX10_writesPart_18 : decode cX10_writesPart 18 = .ok (.iload_n 2, 1) := by decide +kernel
theorem dX10_writesPart_19 : decode cX10_writesPart 19 = .ok (.invokevirtual 227, 3) := by decide +kernel
theorem dX10_writesPart_22 : decode cX10_writesPart 22 = .ok (.return_, 1) := by decide +kernel
theorem dX10_formatLoan_0 : decode cX10_formatLoan 0 = .ok (.aload_n 0, 1) := by decide +kernel
theorem dX10_formatLoan_1 : decode cX10_formatLoan 1 = .ok (.iconst 0, 1) := by decide +kernel
theorem dX10_formatLoan_2 : decode cX10_formatLoan 2 = .ok (.putfield 1, 3) := by decide +kernel
theorem dX10_formatLoan_5 : decode cX10_formatLoan 5 = .ok (.aload_n 0, 1) := by decide +kernel
theorem dX10_formatLoan_6 : decode cX10_formatLoan 6 = .ok (.iload_n 1, 1) := by decide +kernel
theorem dX10_formatLoan_7 : decode cX10_formatLoan 7 = .ok (.invokevirtual 121, 3) := by decide +kernel
theorem dX10_formatLoan_10 : decode cX10_formatLoan 10 = .ok (.istore_n 2, 1) := by decide +kernel
theorem dX10_formatLoan_11 : decode cX10_formatLoan 11 = .ok (.iload_n 2, 1) := by decide +kernel
theorem dX10_formatLoan_12 : decode cX10_formatLoan 12 = .ok (.ifCond .ge 9, 3) := by decide +kernel
theorem dX10_formatLoan_15 : decode cX10_formatLoan 15 = .ok (.aload_n 0, 1) := by decide +kernel
theorem dX10_formatLoan_16 : decode cX10_formatLoan 16 = .ok (.iconst 1, 1) := by decide +kernel
theorem dX10_formatLoan_17 : decode cX10_formatLoan 17 = .ok (.invokevirtual 79, 3) := by decide +kernel
theorem dX10_formatLoan_20 : decode cX10_formatLoan 20 = .ok (.ireturn, 1) := by decide +kernel
theorem dX10_formatLoan_21 : decode cX10_formatLoan 21 = .ok (.aload_n 0, 1) := by decide +kernel
theorem dX10_formatLoan_22 : decode cX10_formatLoan 22 = .ok (.iconst 0, 1) := by decide +kernel
theorem dX10_formatLoan_23 : decode cX10_formatLoan 23 = .ok (.putfield 221, 3) := by decide +kernel
theorem dX10_formatLoan_26 : decode cX10_formatLoan 26 = .ok (.aload_n 0, 1) := by decide +kernel
theorem dX10_formatLoan_27 : decode cX10_formatLoan 27 = .ok (.bipush 76, 2) := by decide +kernel
theorem dX10_formatLoan_29 : decode cX10_formatLoan 29 = .ok (.invokevirtual 224, 3) := by decide +kernel
theorem dX10_formatLoan_32 : decode cX10_formatLoan 32 = .ok (.aload_n 0, 1) := by decide +kernel
theorem dX10_formatLoan_33 : decode cX10_formatLoan 33 = .ok (.iload_n 1, 1) := by decide +kernel
theorem dX10_formatLoan_34 : decode cX10_formatLoan 34 = .ok (.invokevirtual 227, 3) := by decide +kernel
theorem dX10_formatLoan_37 : decode cX10_formatLoan 37 = .ok (.aload_n 0, 1) := by decide +kernel
theorem dX10_formatLoan_38 : decode cX10_formatLoan 38 = .ok (.bipush 98, 2) := by decide +kernel
theorem dX10_formatLoan_40 : decode cX10_formatLoan 40 = .ok (.aload_n 0, 1) := by decide +kernel
theorem dX10_formatLoan_41 : decode cX10_formatLoan 41 = .ok (.iload_n 2, 1) := by decide +kernel
theorem dX10_formatLoan_42 : decode cX10_formatLoan 42 = .ok (.iconst 1, 1) := by decide +kernel
theorem dX10_formatLoan_43 : decode cX10_formatLoan 43 = .ok (.invokevirtual 58, 3) := by decide +kernel
theorem dX10_formatLoan_46 : decode cX10_formatLoan 46 = .ok (.invokevirtual 230, 3) := by decide +kernel
theorem dX10_formatLoan_49 : decode cX10_formatLoan 49 = .ok (.aload_n 0, 1) := by decide +kernel
theorem dX10_formatLoan_50 : decode cX10_formatLoan 50 = .ok (.bipush 32, 2) := by decide +kernel
theorem dX10_formatLoan_52 : decode cX10_formatLoan 52 = .ok (.aload_n 0, 1) := by decide +kernel
theorem dX10_formatLoan_53 : decode cX10_formatLoan 53 = .ok (.iload_n 2, 1) := by decide +kernel
theorem dX10_formatLoan_54 : decode cX10_formatLoan 54 = .ok (.iconst 2, 1) := by decide +kernel
theorem dX10_formatLoan_55 : decode cX10_formatLoan 55 = .ok (.invokevirtual 58, 3) := by decide +kernel
theorem dX10_formatLoan_58 : decode cX10_formatLoan 58 = .ok (.invokevirtual 230, 3) := by decide +kernel
theorem dX10_formatLoan_61 : decode cX10_formatLoan 61 = .ok (.aload_n 0, 1) := by decide +kernel
theorem dX10_formatLoan_62 : decode cX10_formatLoan 62 = .ok (.bipush 43, 2) := by decide +kernel
theorem dX10_formatLoan_64 : decode cX10_formatLoan 64 = .ok (.invokevirtual 224, 3) := by decide +kernel
theorem dX10_formatLoan_67 : decode cX10_formatLoan 67 = .ok (.aload_n 0, 1) := by decide +kernel
theorem dX10_formatLoan_68 : decode cX10_formatLoan 68 = .ok (.aload_n 0, 1) := by decide +kernel
theorem dX10_formatLoan_69 : decode cX10_formatLoan 69 = .ok (.iload_n 2, 1) := by decide +kernel
theorem dX10_formatLoan_70 : decode cX10_formatLoan 70 = .ok (.iconst 3, 1) := by decide +kernel
theorem dX10_formatLoan_71 : decode cX10_formatLoan 71 = .ok (.invokevirtual 58, 3) := by decide +kernel
theorem dX10_formatLoan_74 : decode cX10_formatLoan 74 = .ok (.invokevirtual 227, 3) := by decide +kernel
theorem dX10_formatLoan_77 : decode cX10_formatLoan 77 = .ok (.aload_n 0, 1) := by decide +kernel
theorem dX10_formatLoan_78 : decode cX10_formatLoan 78 = .ok (.bipush 64, 2) := by decide +kernel
theorem dX10_formatLoan_80 : decode cX10_formatLoan 80 = .ok (.aload_n 0, 1) := by decide +kernel
theorem dX10_formatLoan_81 : decode cX10_formatLoan 81 = .ok (.iload_n 2, 1) := by decide +kernel
theorem dX10_formatLoan_82 : decode cX10_formatLoan 82 = .ok (.iconst 4, 1) := by decide +kernel
theorem dX10_formatLoan_83 : decode cX10_formatLoan 83 = .ok (.invokevirtual 58, 3) := by decide +kernel
theorem dX10_formatLoan_86 : decode cX10_formatLoan 86 = .ok (.invokevirtual 230, 3) := by decide +kernel
theorem dX10_formatLoan_89 : decode cX10_formatLoan 89 = .ok (.aload_n 0, 1) := by decide +kernel
theorem dX10_formatLoan_90 : decode cX10_formatLoan 90 = .ok (.bipush 100, 2) := by decide +kernel
theorem dX10_formatLoan_92 : decode cX10_formatLoan 92 = .ok (.aload_n 0, 1) := by decide +kernel
theorem dX10_formatLoan_93 : decode cX10_formatLoan 93 = .ok (.iload_n 2, 1) := by decide +kernel
theorem dX10_formatLoan_94 : decode cX10_formatLoan 94 = .ok (.iconst 5, 1) := by decide +kernel
theorem dX10_formatLoan_95 : decode cX10_formatLoan 95 = .ok (.invokevirtual 58, 3) := by decide +kernel
theorem dX10_formatLoan_98 : decode cX10_formatLoan 98 = .ok (.invokevirtual 230, 3) := by decide +kernel
theorem dX10_formatLoan_101 : decode cX10_formatLoan 101 = .ok (.iconst 0, 1) := by decide +kernel
theorem dX10_formatLoan_102 : decode cX10_formatLoan 102 = .ok (.istore_n 3, 1) := by decide +kernel
theorem dX10_formatLoan_103 : decode cX10_formatLoan 103 = .ok (.iload_n 3, 1) := by decide +kernel
theorem dX10_formatLoan_104 : decode cX10_formatLoan 104 = .ok (.iconst 4, 1) := by decide +kernel
theorem dX10_formatLoan_105 : decode cX10_formatLoan 105 = .ok (.if_icmp .ge 50, 3) := by decide +kernel
theorem dX10_formatLoan_108 : decode cX10_formatLoan 108 = .ok (.aload_n 0, 1) := by decide +kernel
theorem dX10_formatLoan_109 : decode cX10_formatLoan 109 = .ok (.iload_n 2, 1) := by decide +kernel
theorem dX10_formatLoan_110 : decode cX10_formatLoan 110 = .ok (.bipush 6, 2) := by decide +kernel
theorem dX10_formatLoan_112 : decode cX10_formatLoan 112 = .ok (.iload_n 3, 1) := by decide +kernel
theorem dX10_formatLoan_113 : decode cX10_formatLoan 113 = .ok (.iadd, 1) := by decide +kernel
theorem dX10_formatLoan_114 : decode cX10_formatLoan 114 = .ok (.invokevirtual 58, 3) := by decide +kernel
theorem dX10_formatLoan_117 : decode cX10_formatLoan 117 = .ok (.ifCond .ne 6, 3) := by decide +kernel
theorem dX10_formatLoan_120 : decode cX10_formatLoan 120 = .ok (.goto 29, 3) := by decide +kernel
theorem dX10_formatLoan_123 : decode cX10_formatLoan 123 = .ok (.aload_n 0, 1) := by decide +kernel
theorem dX10_formatLoan_124 : decode cX10_formatLoan 124 = .ok (.bipush 32, 2) := by decide +kernel
theorem dX10_formatLoan_126 : decode cX10_formatLoan 126 = .ok (.iload_n 3, 1) := by decide +kernel
theorem dX10_formatLoan_127 : decode cX10_formatLoan 127 = .ok (.invokevirtual 230, 3) := by decide +kernel
theorem dX10_formatLoan_130 : decode cX10_formatLoan 130 = .ok (.aload_n 0, 1) := by decide +kernel
theorem dX10_formatLoan_131 : decode cX10_formatLoan 131 = .ok (.bipush 120, 2) := by decide +kernel
theorem dX10_formatLoan_133 : decode cX10_formatLoan 133 = .ok (.invokevirtual 224, 3) := by decide +kernel
theorem dX10_formatLoan_136 : decode cX10_formatLoan 136 = .ok (.aload_n 0, 1) := by decide +kernel
theorem dX10_formatLoan_137 : decode cX10_formatLoan 137 = .ok (.aload_n 0, 1) := by decide +kernel
theorem dX10_formatLoan_138 : decode cX10_formatLoan 138 = .ok (.iload_n 2, 1) := by decide +kernel
theorem dX10_formatLoan_139 : decode cX10_formatLoan 139 = .ok (.bipush 6, 2) := by decide +kernel
theorem dX10_formatLoan_141 : decode cX10_formatLoan 141 = .ok (.iload_n 3, 1) := by decide +kernel
theorem dX10_formatLoan_142 : decode cX10_formatLoan 142 = .ok (.iadd, 1) := by decide +kernel
theorem dX10_formatLoan_143 : decode cX10_formatLoan 143 = .ok (.invokevirtual 58, 3) := by decide +kernel
theorem dX10_formatLoan_146 : decode cX10_formatLoan 146 = .ok (.invokevirtual 227, 3) := by decide +kernel
theorem dX10_formatLoan_149 : decode cX10_formatLoan 149 = .ok (.iinc 3 1, 3) := by decide +kernel
theorem dX10_formatLoan_152 : decode cX10_formatLoan 152 = .ok (.goto (-49), 3) := by decide +kernel
theorem dX10_formatLoan_155 : decode cX10_formatLoan 155 = .ok (.aload_n 0, 1) := by decide +kernel
theorem dX10_formatLoan_156 : decode cX10_formatLoan 156 = .ok (.getfield 221, 3) := by decide +kernel
theorem dX10_formatLoan_159 : decode cX10_formatLoan 159 = .ok (.ireturn, 1) := by decide +kernel
theorem dX10_lineChar_0 : decode cX10_lineChar 0 = .ok (.aload_n 0, 1) := by decide +kernel
theorem dX10_lineChar_1 : decode cX10_lineChar 1 = .ok (.iconst 0, 1) := by decide +kernel
theorem dX10_lineChar_2 : decode cX10_lineChar 2 = .ok (.putfield 1, 3) := by decide +kernel
theorem dX10_lineChar_5 : decode cX10_lineChar 5 = .ok (.iload_n 1, 1) := by decide +kernel
theorem dX10_lineChar_6 : decode cX10_lineChar 6 = .ok (.iconst 0, 1) := by decide +kernel
theorem dX10_lineChar_7 : decode cX10_lineChar 7 = .ok (.aload_n 0, 1) := by decide +kernel
theorem dX10_lineChar_8 : decode cX10_lineChar 8 = .ok (.getfield 221, 3) := by decide +kernel
theorem dX10_lineChar_11 : decode cX10_lineChar 11 = .ok (.iconst 1, 1) := by decide +kernel
theorem dX10_lineChar_12 : decode cX10_lineChar 12 = .ok (.isub, 1) := by decide +kernel
theorem dX10_lineChar_13 : decode cX10_lineChar 13 = .ok (.invokestatic 54, 3) := by decide +kernel
theorem dX10_lineChar_16 : decode cX10_lineChar 16 = .ok (.ifCond .eq 10, 3) := by decide +kernel
theorem dX10_lineChar_19 : decode cX10_lineChar 19 = .ok (.aload_n 0, 1) := by decide +kernel
theorem dX10_lineChar_20 : decode cX10_lineChar 20 = .ok (.getfield 26, 3) := by decide +kernel
theorem dX10_lineChar_23 : decode cX10_lineChar 23 = .ok (.iload_n 1, 1) := by decide +kernel
theorem dX10_lineChar_24 : decode cX10_lineChar 24 = .ok (.caload, 1) := by decide +kernel
theorem dX10_lineChar_25 : decode cX10_lineChar 25 = .ok (.ireturn, 1) := by decide +kernel
theorem dX10_lineChar_26 : decode cX10_lineChar 26 = .ok (.aload_n 0, 1) := by decide +kernel
theorem dX10_lineChar_27 : decode cX10_lineChar 27 = .ok (.iconst 1, 1) := by decide +kernel
theorem dX10_lineChar_28 : decode cX10_lineChar 28 = .ok (.invokevirtual 79, 3) := by decide +kernel
theorem dX10_lineChar_31 : decode cX10_lineChar 31 = .ok (.i2c, 1) := by decide +kernel
theorem dX10_lineChar_32 : decode cX10_lineChar 32 = .ok (.ireturn, 1) := by decide +kernel
theorem dX10_append_0 : decode cX10_append 0 = .ok (.aload_n 0, 1) := by decide +kernel
theorem dX10_append_1 : decode cX10_append 1 = .ok (.iconst 0, 1) := by decide +kernel
theorem dX10_append_2 : decode cX10_append 2 = .ok (.putfield 1, 3) := by decide +kernel
theorem dX10_append_5 : decode cX10_append 5 = .ok (.iload_n 1, 1) := by decide +kernel
theorem dX10_append_6 : decode cX10_append 6 = .ok (.bipush 32, 2) := by decide +kernel
theorem dX10_append_8 : decode cX10_append 8 = .ok (.bipush 126, 2) := by decide +kernel
theorem dX10_append_10 : decode cX10_append 10 = .ok (.invokestatic 54, 3) := by decide +kernel
theorem dX10_append_13 : decode cX10_append 13 = .ok (.ifCond .ne 9, 3) := by decide +kernel
theorem dX10_append_16 : decode cX10_append 16 = .ok (.aload_n 0, 1) := by decide +kernel
theorem dX10_append_17 : decode cX10_append 17 = .ok (.iconst 1, 1) := by decide +kernel
theorem dX10_append_18 : decode cX10_append 18 = .ok (.invokevirtual 79, 3) := by decide +kernel
theorem dX10_append_21 : decode cX10_append 21 = .ok (.ireturn, 1) := by decide +kernel
theorem dX10_append_22 : decode cX10_append 22 = .ok (.aload_n 0, 1) := by decide +kernel
theorem dX10_append_23 : decode cX10_append 23 = .ok (.getfield 233, 3) := by decide +kernel
theorem dX10_append_26 : decode cX10_append 26 = .ok (.bipush 60, 2) := by decide +kernel
theorem dX10_append_28 : decode cX10_append 28 = .ok (.if_icmp .ne 9, 3) := by decide +kernel
theorem dX10_append_31 : decode cX10_append 31 = .ok (.aload_n 0, 1) := by decide +kernel
theorem dX10_append_32 : decode cX10_append 32 = .ok (.iconst 2, 1) := by decide +kernel
theorem dX10_append_33 : decode cX10_append 33 = .ok (.invokevirtual 79, 3) := by decide +kernel
theorem dX10_append_36 : decode cX10_append 36 = .ok (.ireturn, 1) := by decide +kernel
theorem dX10_append_37 : decode cX10_append 37 = .ok (.aload_n 0, 1) := by decide +kernel
theorem dX10_append_38 : decode cX10_append 38 = .ok (.getfield 30, 3) := by decide +kernel
theorem dX10_append_41 : decode cX10_append 41 = .ok (.aload_n 0, 1) := by decide +kernel
theorem dX10_append_42 : decode cX10_append 42 = .ok (.getfield 233, 3) := by decide +kernel
theorem dX10_append_45 : decode cX10_append 45 = .ok (.iload_n 1, 1) := by decide +kernel
theorem dX10_append_46 : decode cX10_append 46 = .ok (.castore, 1) := by decide +kernel
theorem dX10_append_47 : decode cX10_append 47 = .ok (.aload_n 0, 1) := by decide +kernel
theorem dX10_append_48 : decode cX10_append 48 = .ok (.dup, 1) := by decide +kernel
theorem dX10_append_49 : decode cX10_append 49 = .ok (.getfield 233, 3) := by decide +kernel
theorem dX10_append_52 : decode cX10_append 52 = .ok (.iconst 1, 1) := by decide +kernel
theorem dX10_append_53 : decode cX10_append 53 = .ok (.iadd, 1) := by decide +kernel
theorem dX10_append_54 : decode cX10_append 54 = .ok (.putfield 233, 3) := by decide +kernel
theorem dX10_append_57 : decode cX10_append 57 = .ok (.aload_n 0, 1) := by decide +kernel
theorem dX10_append_58 : decode cX10_append 58 = .ok (.getfield 233, 3) := by decide +kernel
theorem dX10_append_61 : decode cX10_append 61 = .ok (.ireturn, 1) := by decide +kernel
theorem dX10_nextChar_0 : decode cX10_nextChar 0 = .ok (.aload_n 0, 1) := by decide +kernel
theorem dX10_nextChar_1 : decode cX10_nextChar 1 = .ok (.getfield 236, 3) := by decide +kernel
theorem dX10_nextChar_4 : decode cX10_nextChar 4 = .ok (.aload_n 0, 1) := by decide +kernel
theorem dX10_nextChar_5 : decode cX10_nextChar 5 = .ok (.getfield 233, 3) := by decide +kernel
theorem dX10_nextChar_8 : decode cX10_nextChar 8 = .ok (.if_icmp .ge 15, 3) := by decide +kernel
theorem dX10_nextChar_11 : decode cX10_nextChar 11 = .ok (.aload_n 0, 1) := by decide +kernel
theorem dX10_nextChar_12 : decode cX10_nextChar 12 = .ok (.getfield 30, 3) := by decide +kernel
theorem dX10_nextChar_15 : decode cX10_nextChar 15 = .ok (.aload_n 0, 1) := by decide +kernel
theorem dX10_nextChar_16 : decode cX10_nextChar 16 = .ok (.getfield 236, 3) := by decide +kernel
theorem dX10_nextChar_19 : decode cX10_nextChar 19 = .ok (.caload, 1) := by decide +kernel
theorem dX10_nextChar_20 : decode cX10_nextChar 20 = .ok (.goto 4, 3) := by decide +kernel
theorem dX10_nextChar_23 : decode cX10_nextChar 23 = .ok (.iconst (-1), 1) := by decide +kernel
theorem dX10_nextChar_24 : decode cX10_nextChar 24 = .ok (.ireturn, 1) := by decide +kernel
theorem dX10_reads_0 : decode cX10_reads 0 = .ok (.aload_n 0, 1) := by decide +kernel
theorem dX10_reads_1 : decode cX10_reads 1 = .ok (.invokevirtual 239, 3) := by decide +kernel
theorem dX10_reads_4 : decode cX10_reads 4 = .ok (.iload_n 1, 1) := by decide +kernel
theorem dX10_reads_5 : decode cX10_reads 5 = .ok (.if_icmp .eq 5, 3) := by decide +kernel
theorem dX10_reads_8 : decode cX10_reads 8 = .ok (.iconst 0, 1) := by decide +kernel
theorem dX10_reads_9 : decode cX10_reads 9 = .ok (.ireturn, 1) := by decide +kernel
theorem dX10_reads_10 : decode cX10_reads 10 = .ok (.aload_n 0, 1) := by decide +kernel
theorem dX10_reads_11 : decode cX10_reads 11 = .ok (.dup, 1) := by decide +kernel
theorem dX10_reads_12 : decode cX10_reads 12 = .ok (.getfield 236, 3) := by decide +kernel
theorem dX10_reads_15 : decode cX10_reads 15 = .ok (.iconst 1, 1) := by decide +kernel
theorem dX10_reads_16 : decode cX10_reads 16 = .ok (.iadd, 1) := by decide +kernel
theorem dX10_reads_17 : decode cX10_reads 17 = .ok (.putfield 236, 3) := by decide +kernel
theorem dX10_reads_20 : decode cX10_reads 20 = .ok (.iconst 1, 1) := by decide +kernel
theorem dX10_reads_21 : decode cX10_reads 21 = .ok (.ireturn, 1) := by decide +kernel
theorem dX10_isDigitNext_0 : decode cX10_isDigitNext 0 = .ok (.aload_n 0, 1) := by decide +kernel
theorem dX10_isDigitNext_1 : decode cX10_isDigitNext 1 = .ok (.invokevirtual 239, 3) := by decide +kernel
theorem dX10_isDigitNext_4 : decode cX10_isDigitNext 4 = .ok (.bipush 48, 2) := by decide +kernel
theorem dX10_isDigitNext_6 : decode cX10_isDigitNext 6 = .ok (.bipush 57, 2) := by decide +kernel
theorem dX10_isDigitNext_8 : decode cX10_isDigitNext 8 = .ok (.invokestatic 54, 3) := by decide +kernel
theorem dX10_isDigitNext_11 : decode cX10_isDigitNext 11 = .ok (.ireturn, 1) := by decide +kernel
theorem dX10_readsDigit_0 : decode cX10_readsDigit 0 = .ok (.aload_n 0, 1) := by decide +kernel
theorem dX10_readsDigit_1 : decode cX10_readsDigit 1 = .ok (.bipush 32, 2) := by decide +kernel
theorem dX10_readsDigit_3 : decode cX10_readsDigit 3 = .ok (.invokevirtual 242, 3) := by decide +kernel
theorem dX10_readsDigit_6 : decode cX10_readsDigit 6 = .ok (.ifCond .eq 10, 3) := by decide +kernel
theorem dX10_readsDigit_9 : decode cX10_readsDigit 9 = .ok (.aload_n 0, 1) := by decide +kernel
theorem dX10_readsDigit_10 : decode cX10_readsDigit 10 = .ok (.invokevirtual 245, 3) := by decide +kernel
theorem dX10_readsDigit_13 : decode cX10_readsDigit 13 = .ok (.ifCond .ne 5, 3) := by decide +kernel
theorem dX10_readsDigit_16 : decode cX10_readsDigit 16 = .ok (.iconst 0, 1) := by decide +kernel
theorem dX10_readsDigit_17 : decode cX10_readsDigit 17 = .ok (.ireturn, 1) := by decide +kernel
theorem dX10_readsDigit_18 : decode cX10_readsDigit 18 = .ok (.aload_n 0, 1) := by decide +kernel
theorem dX10_readsDigit_19 : decode cX10_readsDigit 19 = .ok (.getfield 39, 3) := by decide +kernel
theorem dX10_readsDigit_22 : decode cX10_readsDigit 22 = .ok (.iload_n 1, 1) := by decide +kernel
theorem dX10_readsDigit_23 : decode cX10_readsDigit 23 = .ok (.aload_n 0, 1) := by decide +kernel
theorem dX10_readsDigit_24 : decode cX10_readsDigit 24 = .ok (.invokevirtual 239, 3) := by decide +kernel
theorem dX10_readsDigit_27 : decode cX10_readsDigit 27 = .ok (.bipush 48, 2) := by decide +kernel
theorem dX10_readsDigit_29 : decode cX10_readsDigit 29 = .ok (.isub, 1) := by decide +kernel
theorem dX10_readsDigit_30 : decode cX10_readsDigit 30 = .ok (.iastore, 1) := by decide +kernel
theorem dX10_readsDigit_31 : decode cX10_readsDigit 31 = .ok (.aload_n 0, 1) := by decide +kernel
theorem dX10_readsDigit_32 : decode cX10_readsDigit 32 = .ok (.dup, 1) := by decide +kernel
theorem dX10_readsDigit_33 : decode cX10_readsDigit 33 = .ok (.getfield 236, 3) := by decide +kernel
theorem dX10_readsDigit_36 : decode cX10_readsDigit 36 = .ok (.iconst 1, 1) := by decide +kernel
theorem dX10_readsDigit_37 : decode cX10_readsDigit 37 = .ok (.iadd, 1) := by decide +kernel
theorem dX10_readsDigit_38 : decode cX10_readsDigit 38 = .ok (.putfield 236, 3) := by decide +kernel
theorem dX10_readsDigit_41 : decode cX10_readsDigit 41 = .ok (.iconst 1, 1) := by decide +kernel
theorem dX10_readsDigit_42 : decode cX10_readsDigit 42 = .ok (.ireturn, 1) := by decide +kernel
theorem dX10_readsNumber_0 : decode cX10_readsNumber 0 = .ok (.aload_n 0, 1) := by decide +kernel
theorem dX10_readsNumber_1 : decode cX10_readsNumber 1 = .ok (.iload_n 1, 1) := by decide +kernel
theorem dX10_readsNumber_2 : decode cX10_readsNumber 2 = .ok (.invokevirtual 249, 3) := by decide +kernel
theorem dX10_readsNumber_5 : decode cX10_readsNumber 5 = .ok (.ifCond .ne 5, 3) := by decide +kernel
theorem dX10_readsNumber_8 : decode cX10_readsNumber 8 = .ok (.iconst 0, 1) := by decide +kernel
theorem dX10_readsNumber_9 : decode cX10_readsNumber 9 = .ok (.ireturn, 1) := by decide +kernel
theorem dX10_readsNumber_10 : decode cX10_readsNumber 10 = .ok (.iconst 0, 1) := by decide +kernel
theorem dX10_readsNumber_11 : decode cX10_readsNumber 11 = .ok (.istore_n 2, 1) := by decide +kernel
theorem dX10_readsNumber_12 : decode cX10_readsNumber 12 = .ok (.iload_n 2, 1) := by decide +kernel
theorem dX10_readsNumber_13 : decode cX10_readsNumber 13 = .ok (.iconst 2, 1) := by decide +kernel
theorem dX10_readsNumber_14 : decode cX10_readsNumber 14 = .ok (.if_icmp .ge 49, 3) := by decide +kernel
theorem dX10_readsNumber_17 : decode cX10_readsNumber 17 = .ok (.aload_n 0, 1) := by decide +kernel
theorem dX10_readsNumber_18 : decode cX10_readsNumber 18 = .ok (.invokevirtual 245, 3) := by decide +kernel
theorem dX10_readsNumber_21 : decode cX10_readsNumber 21 = .ok (.ifCond .eq 42, 3) := by decide +kernel
theorem dX10_readsNumber_24 : decode cX10_readsNumber 24 = .ok (.aload_n 0, 1) := by decide +kernel
theorem dX10_readsNumber_25 : decode cX10_readsNumber 25 = .ok (.getfield 39, 3) := by decide +kernel
theorem dX10_readsNumber_28 : decode cX10_readsNumber 28 = .ok (.iload_n 1, 1) := by decide +kernel
theorem dX10_readsNumber_29 : decode cX10_readsNumber 29 = .ok (.bipush 10, 2) := by decide +kernel
theorem dX10_readsNumber_31 : decode cX10_readsNumber 31 = .ok (.aload_n 0, 1) := by decide +kernel
theorem dX10_readsNumber_32 : decode cX10_readsNumber 32 = .ok (.getfield 39, 3) := by decide +kernel
theorem dX10_readsNumber_35 : decode cX10_readsNumber 35 = .ok (.iload_n 1, 1) := by decide +kernel
theorem dX10_readsNumber_36 : decode cX10_readsNumber 36 = .ok (.iaload, 1) := by decide +kernel
theorem dX10_readsNumber_37 : decode cX10_readsNumber 37 = .ok (.imul, 1) := by decide +kernel
theorem dX10_readsNumber_38 : decode cX10_readsNumber 38 = .ok (.aload_n 0, 1) := by decide +kernel
theorem dX10_readsNumber_39 : decode cX10_readsNumber 39 = .ok (.invokevirtual 239, 3) := by decide +kernel
theorem dX10_readsNumber_42 : decode cX10_readsNumber 42 = .ok (.iadd, 1) := by decide +kernel
theorem dX10_readsNumber_43 : decode cX10_readsNumber 43 = .ok (.bipush 48, 2) := by decide +kernel
theorem dX10_readsNumber_45 : decode cX10_readsNumber 45 = .ok (.isub, 1) := by decide +kernel
theorem dX10_readsNumber_46 : decode cX10_readsNumber 46 = .ok (.iastore, 1) := by decide +kernel
theorem dX10_readsNumber_47 : decode cX10_readsNumber 47 = .ok (.aload_n 0, 1) := by decide +kernel
theorem dX10_readsNumber_48 : decode cX10_readsNumber 48 = .ok (.dup, 1) := by decide +kernel
theorem dX10_readsNumber_49 : decode cX10_readsNumber 49 = .ok (.getfield 236, 3) := by decide +kernel
theorem dX10_readsNumber_52 : decode cX10_readsNumber 52 = .ok (.iconst 1, 1) := by decide +kernel
theorem dX10_readsNumber_53 : decode cX10_readsNumber 53 = .ok (.iadd, 1) := by decide +kernel
theorem dX10_readsNumber_54 : decode cX10_readsNumber 54 = .ok (.putfield 236, 3) := by decide +kernel
theorem dX10_readsNumber_57 : decode cX10_readsNumber 57 = .ok (.iinc 2 1, 3) := by decide +kernel
theorem dX10_readsNumber_60 : decode cX10_readsNumber 60 = .ok (.goto (-48), 3) := by decide +kernel
theorem dX10_readsNumber_63 : decode cX10_readsNumber 63 = .ok (.iconst 1, 1) := by decide +kernel
theorem dX10_readsNumber_64 : decode cX10_readsNumber 64 = .ok (.ireturn, 1) := by decide +kernel
theorem dX10_readsB_0 : decode cX10_readsB 0 = .ok (.aload_n 0, 1) := by decide +kernel
theorem dX10_readsB_1 : decode cX10_readsB 1 = .ok (.bipush 111, 2) := by decide +kernel
theorem dX10_readsB_3 : decode cX10_readsB 3 = .ok (.putfield 252, 3) := by decide +kernel
theorem dX10_readsB_6 : decode cX10_readsB 6 = .ok (.aload_n 0, 1) := by decide +kernel
theorem dX10_readsB_7 : decode cX10_readsB 7 = .ok (.bipush 111, 2) := by decide +kernel
theorem dX10_readsB_9 : decode cX10_readsB 9 = .ok (.invokevirtual 242, 3) := by decide +kernel
theorem dX10_readsB_12 : decode cX10_readsB 12 = .ok (.ifCond .eq 71, 3) := by decide +kernel
theorem dX10_readsB_15 : decode cX10_readsB 15 = .ok (.aload_n 0, 1) := by decide +kernel
theorem dX10_readsB_16 : decode cX10_readsB 16 = .ok (.bipush 114, 2) := by decide +kernel
theorem dX10_readsB_18 : decode cX10_readsB 18 = .ok (.invokevirtual 242, 3) := by decide +kernel
theorem dX10_readsB_21 : decode cX10_readsB 21 = .ok (.ifCond .eq 60, 3) := by decide +kernel
theorem dX10_readsB_24 : decode cX10_readsB 24 = .ok (.aload_n 0, 1) := by decide +kernel
theorem dX10_readsB_25 : decode cX10_readsB 25 = .ok (.bipush 114, 2) := by decide +kernel
theorem dX10_readsB_27 : decode cX10_readsB 27 = .ok (.invokevirtual 242, 3) := by decide +kernel
theorem dX10_readsB_30 : decode cX10_readsB 30 = .ok (.ifCond .eq 51, 3) := by decide +kernel
theorem dX10_readsB_33 : decode cX10_readsB 33 = .ok (.aload_n 0, 1) := by decide +kernel
theorem dX10_readsB_34 : decode cX10_readsB 34 = .ok (.bipush 111, 2) := by decide +kernel
theorem dX10_readsB_36 : decode cX10_readsB 36 = .ok (.invokevirtual 242, 3) := by decide +kernel
theorem dX10_readsB_39 : decode cX10_readsB 39 = .ok (.ifCond .eq 42, 3) := by decide +kernel
theorem dX10_readsB_42 : decode cX10_readsB 42 = .ok (.aload_n 0, 1) := by decide +kernel
theorem dX10_readsB_43 : decode cX10_readsB 43 = .ok (.bipush 119, 2) := by decide +kernel
theorem dX10_readsB_45 : decode cX10_readsB 45 = .ok (.invokevirtual 242, 3) := by decide +kernel
theorem dX10_readsB_48 : decode cX10_readsB 48 = .ok (.ifCond .eq 33, 3) := by decide +kernel
theorem dX10_readsB_51 : decode cX10_readsB 51 = .ok (.aload_n 0, 1) := by decide +kernel
theorem dX10_readsB_52 : decode cX10_readsB 52 = .ok (.bipush 101, 2) := by decide +kernel
theorem dX10_readsB_54 : decode cX10_readsB 54 = .ok (.invokevirtual 242, 3) := by decide +kernel
theorem dX10_readsB_57 : decode cX10_readsB 57 = .ok (.ifCond .eq 24, 3) := by decide +kernel
theorem dX10_readsB_60 : decode cX10_readsB 60 = .ok (.aload_n 0, 1) := by decide +kernel
theorem dX10_readsB_61 : decode cX10_readsB 61 = .ok (.bipush 114, 2) := by decide +kernel
theorem dX10_readsB_63 : decode cX10_readsB 63 = .ok (.invokevirtual 242, 3) := by decide +kernel
theorem dX10_readsB_66 : decode cX10_readsB 66 = .ok (.ifCond .eq 15, 3) := by decide +kernel
theorem dX10_readsB_69 : decode cX10_readsB 69 = .ok (.aload_n 0, 1) := by decide +kernel
theorem dX10_readsB_70 : decode cX10_readsB 70 = .ok (.iconst 0, 1) := by decide +kernel
theorem dX10_readsB_71 : decode cX10_readsB 71 = .ok (.invokevirtual 255, 3) := by decide +kernel
theorem dX10_readsB_74 : decode cX10_readsB 74 = .ok (.ifCond .eq 7, 3) := by decide +kernel
theorem dX10_readsB_77 : decode cX10_readsB 77 = .ok (.iconst 1, 1) := by decide +kernel
theorem dX10_readsB_78 : decode cX10_readsB 78 = .ok (.goto 4, 3) := by decide +kernel
theorem dX10_readsB_81 : decode cX10_readsB 81 = .ok (.iconst 0, 1) := by decide +kernel
theorem dX10_readsB_82 : decode cX10_readsB 82 = .ok (.ireturn, 1) := by decide +kernel
theorem dX10_readsB_83 : decode cX10_readsB 83 = .ok (.aload_n 0, 1) := by decide +kernel
theorem dX10_readsB_84 : decode cX10_readsB 84 = .ok (.bipush 103, 2) := by decide +kernel
theorem dX10_readsB_86 : decode cX10_readsB 86 = .ok (.putfield 252, 3) := by decide +kernel
theorem dX10_readsB_89 : decode cX10_readsB 89 = .ok (.aload_n 0, 1) := by decide +kernel
theorem dX10_readsB_90 : decode cX10_readsB 90 = .ok (.bipush 114, 2) := by decide +kernel
theorem dX10_readsB_92 : decode cX10_readsB 92 = .ok (.invokevirtual 242, 3) := by decide +kernel
theorem dX10_readsB_95 : decode cX10_readsB 95 = .ok (.ifCond .eq 60, 3) := by decide +kernel
theorem dX10_readsB_98 : decode cX10_readsB 98 = .ok (.aload_n 0, 1) := by decide +kernel
theorem dX10_readsB_99 : decode cX10_readsB 99 = .ok (.bipush 105, 2) := by decide +kernel
theorem dX10_readsB_101 : decode cX10_readsB 101 = .ok (.invokevirtual 242, 3) := by decide +kernel
theorem dX10_readsB_104 : decode cX10_readsB 104 = .ok (.ifCond .eq 49, 3) := by decide +kernel
theorem dX10_readsB_107 : decode cX10_readsB 107 = .ok (.aload_n 0, 1) := by decide +kernel
theorem dX10_readsB_108 : decode cX10_readsB 108 = .ok (.bipush 110, 2) := by decide +kernel
theorem dX10_readsB_110 : decode cX10_readsB 110 = .ok (.invokevirtual 242, 3) := by decide +kernel
theorem dX10_readsB_113 : decode cX10_readsB 113 = .ok (.ifCond .eq 40, 3) := by decide +kernel
theorem dX10_readsB_116 : decode cX10_readsB 116 = .ok (.aload_n 0, 1) := by decide +kernel
theorem dX10_readsB_117 : decode cX10_readsB 117 = .ok (.bipush 103, 2) := by decide +kernel
theorem dX10_readsB_119 : decode cX10_readsB 119 = .ok (.invokevirtual 242, 3) := by decide +kernel
theorem dX10_readsB_122 : decode cX10_readsB 122 = .ok (.ifCond .eq 31, 3) := by decide +kernel
theorem dX10_readsB_125 : decode cX10_readsB 125 = .ok (.aload_n 0, 1) := by decide +kernel
theorem dX10_readsB_126 : decode cX10_readsB 126 = .ok (.iconst 0, 1) := by decide +kernel
theorem dX10_readsB_127 : decode cX10_readsB 127 = .ok (.invokevirtual 249, 3) := by decide +kernel
theorem dX10_readsB_130 : decode cX10_readsB 130 = .ok (.ifCond .eq 23, 3) := by decide +kernel
theorem dX10_readsB_133 : decode cX10_readsB 133 = .ok (.aload_n 0, 1) := by decide +kernel
theorem dX10_readsB_134 : decode cX10_readsB 134 = .ok (.iconst 1, 1) := by decide +kernel
theorem dX10_readsB_135 : decode cX10_readsB 135 = .ok (.invokevirtual 249, 3) := by decide +kernel
theorem dX10_readsB_138 : decode cX10_readsB 138 = .ok (.ifCond .eq 15, 3) := by decide +kernel
theorem dX10_readsB_141 : decode cX10_readsB 141 = .ok (.aload_n 0, 1) := by decide +kernel
theorem dX10_readsB_142 : decode cX10_readsB 142 = .ok (.iconst 2, 1) := by decide +kernel
theorem dX10_readsB_143 : decode cX10_readsB 143 = .ok (.invokevirtual 255, 3) := by decide +kernel
theorem dX10_readsB_146 : decode cX10_readsB 146 = .ok (.ifCond .eq 7, 3) := by decide +kernel
theorem dX10_readsB_149 : decode cX10_readsB 149 = .ok (.iconst 1, 1) := by decide +kernel
theorem dX10_readsB_150 : decode cX10_readsB 150 = .ok (.goto 4, 3) := by decide +kernel
theorem dX10_readsB_153 : decode cX10_readsB 153 = .ok (.iconst 0, 1) := by decide +kernel
theorem dX10_readsB_154 : decode cX10_readsB 154 = .ok (.ireturn, 1) := by decide +kernel
theorem dX10_readsB_155 : decode cX10_readsB 155 = .ok (.aload_n 0, 1) := by decide +kernel
theorem dX10_readsB_156 : decode cX10_readsB 156 = .ok (.bipush 117, 2) := by decide +kernel
theorem dX10_readsB_158 : decode cX10_readsB 158 = .ok (.putfield 252, 3) := by decide +kernel
theorem dX10_readsB_161 : decode cX10_readsB 161 = .ok (.aload_n 0, 1) := by decide +kernel
theorem dX10_readsB_162 : decode cX10_readsB 162 = .ok (.bipush 117, 2) := by decide +kernel
theorem dX10_readsB_164 : decode cX10_readsB 164 = .ok (.invokevirtual 242, 3) := by decide +kernel
theorem dX10_readsB_167 : decode cX10_readsB 167 = .ok (.ifCond .eq 40, 3) := by decide +kernel
theorem dX10_readsB_170 : decode cX10_readsB 170 = .ok (.aload_n 0, 1) := by decide +kernel
theorem dX10_readsB_171 : decode cX10_readsB 171 = .ok (.bipush 121, 2) := by decide +kernel
theorem dX10_readsB_173 : decode cX10_readsB 173 = .ok (.invokevirtual 242, 3) := by decide +kernel
theorem dX10_readsB_176 : decode cX10_readsB 176 = .ok (.ifCond .eq 31, 3) := by decide +kernel
theorem dX10_readsB_179 : decode cX10_readsB 179 = .ok (.aload_n 0, 1) := by decide +kernel
theorem dX10_readsB_180 : decode cX10_readsB 180 = .ok (.iconst 0, 1) := by decide +kernel
theorem dX10_readsB_181 : decode cX10_readsB 181 = .ok (.invokevirtual 249, 3) := by decide +kernel
theorem dX10_readsB_184 : decode cX10_readsB 184 = .ok (.ifCond .eq 23, 3) := by decide +kernel
theorem dX10_readsB_187 : decode cX10_readsB 187 = .ok (.aload_n 0, 1) := by decide +kernel
theorem dX10_readsB_188 : decode cX10_readsB 188 = .ok (.iconst 1, 1) := by decide +kernel
theorem dX10_readsB_189 : decode cX10_readsB 189 = .ok (.invokevirtual 249, 3) := by decide +kernel
theorem dX10_readsB_192 : decode cX10_readsB 192 = .ok (.ifCond .eq 15, 3) := by decide +kernel
theorem dX10_readsB_195 : decode cX10_readsB 195 = .ok (.aload_n 0, 1) := by decide +kernel
theorem dX10_readsB_196 : decode cX10_readsB 196 = .ok (.iconst 2, 1) := by decide +kernel
theorem dX10_readsB_197 : decode cX10_readsB 197 = .ok (.invokevirtual 255, 3) := by decide +kernel
theorem dX10_readsB_200 : decode cX10_readsB 200 = .ok (.ifCond .eq 7, 3) := by decide +kernel
theorem dX10_readsB_203 : decode cX10_readsB 203 = .ok (.iconst 1, 1) := by decide +kernel
theorem dX10_readsB_204 : decode cX10_readsB 204 = .ok (.goto 4, 3) := by decide +kernel
theorem dX10_readsB_207 : decode cX10_readsB 207 = .ok (.iconst 0, 1) := by decide +kernel
theorem dX10_readsB_208 : decode cX10_readsB 208 = .ok (.ireturn, 1) := by decide +kernel
theorem dX10_readsP_0 : decode cX10_readsP 0 = .ok (.aload_n 0, 1) := by decide +kernel
theorem dX10_readsP_1 : decode cX10_readsP 1 = .ok (.bipush 114, 2) := by decide +kernel
theorem dX10_readsP_3 : decode cX10_readsP 3 = .ok (.invokevirtual 242, 3) := by decide +kernel
theorem dX10_readsP_6 : decode cX10_readsP 6 = .ok (.ifCond .eq 52, 3) := by decide +kernel
theorem dX10_readsP_9 : decode cX10_readsP 9 = .ok (.aload_n 0, 1) := by decide +kernel
theorem dX10_readsP_10 : decode cX10_readsP 10 = .ok (.bipush 105, 2) := by decide +kernel
theorem dX10_readsP_12 : decode cX10_readsP 12 = .ok (.invokevirtual 242, 3) := by decide +kernel
theorem dX10_readsP_15 : decode cX10_readsP 15 = .ok (.ifCond .eq 41, 3) := by decide +kernel
theorem dX10_readsP_18 : decode cX10_readsP 18 = .ok (.aload_n 0, 1) := by decide +kernel
theorem dX10_readsP_19 : decode cX10_readsP 19 = .ok (.bipush 99, 2) := by decide +kernel
theorem dX10_readsP_21 : decode cX10_readsP 21 = .ok (.invokevirtual 242, 3) := by decide +kernel
theorem dX10_readsP_24 : decode cX10_readsP 24 = .ok (.ifCond .eq 32, 3) := by decide +kernel
theorem dX10_readsP_27 : decode cX10_readsP 27 = .ok (.aload_n 0, 1) := by decide +kernel
theorem dX10_readsP_28 : decode cX10_readsP 28 = .ok (.bipush 101, 2) := by decide +kernel
theorem dX10_readsP_30 : decode cX10_readsP 30 = .ok (.invokevirtual 242, 3) := by decide +kernel
theorem dX10_readsP_33 : decode cX10_readsP 33 = .ok (.ifCond .eq 23, 3) := by decide +kernel
theorem dX10_readsP_36 : decode cX10_readsP 36 = .ok (.aload_n 0, 1) := by decide +kernel
theorem dX10_readsP_37 : decode cX10_readsP 37 = .ok (.iconst 0, 1) := by decide +kernel
theorem dX10_readsP_38 : decode cX10_readsP 38 = .ok (.invokevirtual 249, 3) := by decide +kernel
theorem dX10_readsP_41 : decode cX10_readsP 41 = .ok (.ifCond .eq 15, 3) := by decide +kernel
theorem dX10_readsP_44 : decode cX10_readsP 44 = .ok (.aload_n 0, 1) := by decide +kernel
theorem dX10_readsP_45 : decode cX10_readsP 45 = .ok (.iconst 1, 1) := by decide +kernel
theorem dX10_readsP_46 : decode cX10_readsP 46 = .ok (.invokevirtual 255, 3) := by decide +kernel
theorem dX10_readsP_49 : decode cX10_readsP 49 = .ok (.ifCond .eq 7, 3) := by decide +kernel
theorem dX10_readsP_52 : decode cX10_readsP 52 = .ok (.iconst 1, 1) := by decide +kernel
theorem dX10_readsP_53 : decode cX10_readsP 53 = .ok (.goto 4, 3) := by decide +kernel
theorem dX10_readsP_56 : decode cX10_readsP 56 = .ok (.iconst 0, 1) := by decide +kernel
theorem dX10_readsP_57 : decode cX10_readsP 57 = .ok (.ireturn, 1) := by decide +kernel
theorem dX10_readsP_58 : decode cX10_readsP 58 = .ok (.aload_n 0, 1) := by decide +kernel
theorem dX10_readsP_59 : decode cX10_readsP 59 = .ok (.bipush 101, 2) := by decide +kernel
theorem dX10_readsP_61 : decode cX10_readsP 61 = .ok (.putfield 252, 3) := by decide +kernel
theorem dX10_readsP_64 : decode cX10_readsP 64 = .ok (.aload_n 0, 1) := by decide +kernel
theorem dX10_readsP_65 : decode cX10_readsP 65 = .ok (.bipush 108, 2) := by decide +kernel
theorem dX10_readsP_67 : decode cX10_readsP 67 = .ok (.invokevirtual 242, 3) := by decide +kernel
theorem dX10_readsP_70 : decode cX10_readsP 70 = .ok (.ifCond .eq 67, 3) := by decide +kernel
theorem dX10_readsP_73 : decode cX10_readsP 73 = .ok (.aload_n 0, 1) := by decide +kernel
theorem dX10_readsP_74 : decode cX10_readsP 74 = .ok (.bipush 101, 2) := by decide +kernel
theorem dX10_readsP_76 : decode cX10_readsP 76 = .ok (.invokevirtual 242, 3) := by decide +kernel
theorem dX10_readsP_79 : decode cX10_readsP 79 = .ok (.ifCond .eq 58, 3) := by decide +kernel
theorem dX10_readsP_82 : decode cX10_readsP 82 = .ok (.aload_n 0, 1) := by decide +kernel
theorem dX10_readsP_83 : decode cX10_readsP 83 = .ok (.bipush 100, 2) := by decide +kernel
theorem dX10_readsP_85 : decode cX10_readsP 85 = .ok (.invokevirtual 242, 3) := by decide +kernel
theorem dX10_readsP_88 : decode cX10_readsP 88 = .ok (.ifCond .eq 49, 3) := by decide +kernel
theorem dX10_readsP_91 : decode cX10_readsP 91 = .ok (.aload_n 0, 1) := by decide +kernel
theorem dX10_readsP_92 : decode cX10_readsP 92 = .ok (.bipush 103, 2) := by decide +kernel
theorem dX10_readsP_94 : decode cX10_readsP 94 = .ok (.invokevirtual 242, 3) := by decide +kernel
theorem dX10_readsP_97 : decode cX10_readsP 97 = .ok (.ifCond .eq 40, 3) := by decide +kernel
theorem dX10_readsP_100 : decode cX10_readsP 100 = .ok (.aload_n 0, 1) := by decide +kernel
theorem dX10_readsP_101 : decode cX10_readsP 101 = .ok (.bipush 101, 2) := by decide +kernel
theorem dX10_readsP_103 : decode cX10_readsP 103 = .ok (.invokevirtual 242, 3) := by decide +kernel
theorem dX10_readsP_106 : decode cX10_readsP 106 = .ok (.ifCond .eq 31, 3) := by decide +kernel
theorem dX10_readsP_109 : decode cX10_readsP 109 = .ok (.aload_n 0, 1) := by decide +kernel
theorem dX10_readsP_110 : decode cX10_readsP 110 = .ok (.iconst 0, 1) := by decide +kernel
theorem dX10_readsP_111 : decode cX10_readsP 111 = .ok (.invokevirtual 255, 3) := by decide +kernel
theorem dX10_readsP_114 : decode cX10_readsP 114 = .ok (.ifCond .eq 23, 3) := by decide +kernel
theorem dX10_readsP_117 : decode cX10_readsP 117 = .ok (.aload_n 0, 1) := by decide +kernel
theorem dX10_readsP_118 : decode cX10_readsP 118 = .ok (.iconst 1, 1) := by decide +kernel
theorem dX10_readsP_119 : decode cX10_readsP 119 = .ok (.invokevirtual 249, 3) := by decide +kernel
theorem dX10_readsP_122 : decode cX10_readsP 122 = .ok (.ifCond .eq 15, 3) := by decide +kernel
theorem dX10_readsP_125 : decode cX10_readsP 125 = .ok (.aload_n 0, 1) := by decide +kernel
theorem dX10_readsP_126 : decode cX10_readsP 126 = .ok (.iconst 2, 1) := by decide +kernel
theorem dX10_readsP_127 : decode cX10_readsP 127 = .ok (.invokevirtual 255, 3) := by decide +kernel
theorem dX10_readsP_130 : decode cX10_readsP 130 = .ok (.ifCond .eq 7, 3) := by decide +kernel
theorem dX10_readsP_133 : decode cX10_readsP 133 = .ok (.iconst 1, 1) := by decide +kernel
theorem dX10_readsP_134 : decode cX10_readsP 134 = .ok (.goto 4, 3) := by decide +kernel
theorem dX10_readsP_137 : decode cX10_readsP 137 = .ok (.iconst 0, 1) := by decide +kernel
theorem dX10_readsP_138 : decode cX10_readsP 138 = .ok (.ireturn, 1) := by decide +kernel
theorem dX10_readsR_0 : decode cX10_readsR 0 = .ok (.aload_n 0, 1) := by decide +kernel
theorem dX10_readsR_1 : decode cX10_readsR 1 = .ok (.bipush 101, 2) := by decide +kernel
theorem dX10_readsR_3 : decode cX10_readsR 3 = .ok (.invokevirtual 242, 3) := by decide +kernel
theorem dX10_readsR_6 : decode cX10_readsR 6 = .ok (.ifCond .ne 5, 3) := by decide +kernel
theorem dX10_readsR_9 : decode cX10_readsR 9 = .ok (.iconst 0, 1) := by decide +kernel
theorem dX10_readsR_10 : decode cX10_readsR 10 = .ok (.ireturn, 1) := by decide +kernel
theorem dX10_readsR_11 : decode cX10_readsR 11 = .ok (.aload_n 0, 1) := by decide +kernel
theorem dX10_readsR_12 : decode cX10_readsR 12 = .ok (.bipush 97, 2) := by decide +kernel
theorem dX10_readsR_14 : decode cX10_readsR 14 = .ok (.putfield 252, 3) := by decide +kernel
theorem dX10_readsR_17 : decode cX10_readsR 17 = .ok (.aload_n 0, 1) := by decide +kernel
theorem dX10_readsR_18 : decode cX10_readsR 18 = .ok (.bipush 108, 2) := by decide +kernel
theorem dX10_readsR_20 : decode cX10_readsR 20 = .ok (.invokevirtual 242, 3) := by decide +kernel
theorem dX10_readsR_23 : decode cX10_readsR 23 = .ok (.ifCond .eq 69, 3) := by decide +kernel
theorem dX10_readsR_26 : decode cX10_readsR 26 = .ok (.aload_n 0, 1) := by decide +kernel
theorem dX10_readsR_27 : decode cX10_readsR 27 = .ok (.bipush 101, 2) := by decide +kernel
theorem dX10_readsR_29 : decode cX10_readsR 29 = .ok (.invokevirtual 242, 3) := by decide +kernel
theorem dX10_readsR_32 : decode cX10_readsR 32 = .ok (.ifCond .eq 58, 3) := by decide +kernel
theorem dX10_readsR_35 : decode cX10_readsR 35 = .ok (.aload_n 0, 1) := by decide +kernel
theorem dX10_readsR_36 : decode cX10_readsR 36 = .ok (.bipush 97, 2) := by decide +kernel
theorem dX10_readsR_38 : decode cX10_readsR 38 = .ok (.invokevirtual 242, 3) := by decide +kernel
theorem dX10_readsR_41 : decode cX10_readsR 41 = .ok (.ifCond .eq 49, 3) := by decide +kernel
theorem dX10_readsR_44 : decode cX10_readsR 44 = .ok (.aload_n 0, 1) := by decide +kernel
theorem dX10_readsR_45 : decode cX10_readsR 45 = .ok (.bipush 115, 2) := by decide +kernel
theorem dX10_readsR_47 : decode cX10_readsR 47 = .ok (.invokevirtual 242, 3) := by decide +kernel
theorem dX10_readsR_50 : decode cX10_readsR 50 = .ok (.ifCond .eq 40, 3) := by decide +kernel
theorem dX10_readsR_53 : decode cX10_readsR 53 = .ok (.aload_n 0, 1) := by decide +kernel
theorem dX10_readsR_54 : decode cX10_readsR 54 = .ok (.bipush 101, 2) := by decide +kernel
theorem dX10_readsR_56 : decode cX10_readsR 56 = .ok (.invokevirtual 242, 3) := by decide +kernel
theorem dX10_readsR_59 : decode cX10_readsR 59 = .ok (.ifCond .eq 31, 3) := by decide +kernel
theorem dX10_readsR_62 : decode cX10_readsR 62 = .ok (.aload_n 0, 1) := by decide +kernel
theorem dX10_readsR_63 : decode cX10_readsR 63 = .ok (.iconst 0, 1) := by decide +kernel
theorem dX10_readsR_64 : decode cX10_readsR 64 = .ok (.invokevirtual 255, 3) := by decide +kernel
theorem dX10_readsR_67 : decode cX10_readsR 67 = .ok (.ifCond .eq 23, 3) := by decide +kernel
theorem dX10_readsR_70 : decode cX10_readsR 70 = .ok (.aload_n 0, 1) := by decide +kernel
theorem dX10_readsR_71 : decode cX10_readsR 71 = .ok (.iconst 1, 1) := by decide +kernel
theorem dX10_readsR_72 : decode cX10_readsR 72 = .ok (.invokevirtual 249, 3) := by decide +kernel
theorem dX10_readsR_75 : decode cX10_readsR 75 = .ok (.ifCond .eq 15, 3) := by decide +kernel
theorem dX10_readsR_78 : decode cX10_readsR 78 = .ok (.aload_n 0, 1) := by decide +kernel
theorem dX10_readsR_79 : decode cX10_readsR 79 = .ok (.iconst 2, 1) := by decide +kernel
theorem dX10_readsR_80 : decode cX10_readsR 80 = .ok (.invokevirtual 255, 3) := by decide +kernel
theorem dX10_readsR_83 : decode cX10_readsR 83 = .ok (.ifCond .eq 7, 3) := by decide +kernel
theorem dX10_readsR_86 : decode cX10_readsR 86 = .ok (.iconst 1, 1) := by decide +kernel
theorem dX10_readsR_87 : decode cX10_readsR 87 = .ok (.goto 4, 3) := by decide +kernel
theorem dX10_readsR_90 : decode cX10_readsR 90 = .ok (.iconst 0, 1) := by decide +kernel
theorem dX10_readsR_91 : decode cX10_readsR 91 = .ok (.ireturn, 1) := by decide +kernel
theorem dX10_readsR_92 : decode cX10_readsR 92 = .ok (.aload_n 0, 1) := by decide +kernel
theorem dX10_readsR_93 : decode cX10_readsR 93 = .ok (.bipush 121, 2) := by decide +kernel
theorem dX10_readsR_95 : decode cX10_readsR 95 = .ok (.putfield 252, 3) := by decide +kernel
theorem dX10_readsR_98 : decode cX10_readsR 98 = .ok (.aload_n 0, 1) := by decide +kernel
theorem dX10_readsR_99 : decode cX10_readsR 99 = .ok (.bipush 112, 2) := by decide +kernel
theorem dX10_readsR_101 : decode cX10_readsR 101 = .ok (.invokevirtual 242, 3) := by decide +kernel
theorem dX10_readsR_104 : decode cX10_readsR 104 = .ok (.ifCond .eq 41, 3) := by decide +kernel
theorem dX10_readsR_107 : decode cX10_readsR 107 = .ok (.aload_n 0, 1) := by decide +kernel
theorem dX10_readsR_108 : decode cX10_readsR 108 = .ok (.bipush 97, 2) := by decide +kernel
theorem dX10_readsR_110 : decode cX10_readsR 110 = .ok (.invokevirtual 242, 3) := by decide +kernel
theorem dX10_readsR_113 : decode cX10_readsR 113 = .ok (.ifCond .eq 32, 3) := by decide +kernel
theorem dX10_readsR_116 : decode cX10_readsR 116 = .ok (.aload_n 0, 1) := by decide +kernel
theorem dX10_readsR_117 : decode cX10_readsR 117 = .ok (.bipush 121, 2) := by decide +kernel
theorem dX10_readsR_119 : decode cX10_readsR 119 = .ok (.invokevirtual 242, 3) := by decide +kernel
theorem dX10_readsR_122 : decode cX10_readsR 122 = .ok (.ifCond .eq 23, 3) := by decide +kernel
theorem dX10_readsR_125 : decode cX10_readsR 125 = .ok (.aload_n 0, 1) := by decide +kernel
theorem dX10_readsR_126 : decode cX10_readsR 126 = .ok (.iconst 0, 1) := by decide +kernel
theorem dX10_readsR_127 : decode cX10_readsR 127 = .ok (.invokevirtual 255, 3) := by decide +kernel
theorem dX10_readsR_130 : decode cX10_readsR 130 = .ok (.ifCond .eq 15, 3) := by decide +kernel
theorem dX10_readsR_133 : decode cX10_readsR 133 = .ok (.aload_n 0, 1) := by decide +kernel
theorem dX10_readsR_134 : decode cX10_readsR 134 = .ok (.iconst 1, 1) := by decide +kernel
theorem dX10_readsR_135 : decode cX10_readsR 135 = .ok (.invokevirtual 255, 3) := by decide +kernel
theorem dX10_readsR_138 : decode cX10_readsR 138 = .ok (.ifCond .eq 7, 3) := by decide +kernel
theorem dX10_readsR_141 : decode cX10_readsR 141 = .ok (.iconst 1, 1) := by decide +kernel
theorem dX10_readsR_142 : decode cX10_readsR 142 = .ok (.goto 4, 3) := by decide +kernel
theorem dX10_readsR_145 : decode cX10_readsR 145 = .ok (.iconst 0, 1) := by decide +kernel
theorem dX10_readsR_146 : decode cX10_readsR 146 = .ok (.ireturn, 1) := by decide +kernel
theorem dX10_readsLend_0 : decode cX10_readsLend 0 = .ok (.aload_n 0, 1) := by decide +kernel
theorem dX10_readsLend_1 : decode cX10_readsLend 1 = .ok (.bipush 101, 2) := by decide +kernel
theorem dX10_readsLend_3 : decode cX10_readsLend 3 = .ok (.invokevirtual 242, 3) := by decide +kernel
theorem dX10_readsLend_6 : decode cX10_readsLend 6 = .ok (.ifCond .eq 21, 3) := by decide +kernel
theorem dX10_readsLend_9 : decode cX10_readsLend 9 = .ok (.aload_n 0, 1) := by decide +kernel
theorem dX10_readsLend_10 : decode cX10_readsLend 10 = .ok (.bipush 110, 2) := by decide +kernel
theorem dX10_readsLend_12 : decode cX10_readsLend 12 = .ok (.invokevirtual 242, 3) := by decide +kernel
theorem dX10_readsLend_15 : decode cX10_readsLend 15 = .ok (.ifCond .eq 12, 3) := by decide +kernel
theorem dX10_readsLend_18 : decode cX10_readsLend 18 = .ok (.aload_n 0, 1) := by decide +kernel
theorem dX10_readsLend_19 : decode cX10_readsLend 19 = .ok (.bipush 100, 2) := by decide +kernel
theorem dX10_readsLend_21 : decode cX10_readsLend 21 = .ok (.invokevirtual 242, 3) := by decide +kernel
theorem dX10_readsLend_24 : decode cX10_readsLend 24 = .ok (.ifCond .ne 5, 3) := by decide +kernel
theorem dX10_readsLend_27 : decode cX10_readsLend 27 = .ok (.iconst 0, 1) := by decide +kernel
theorem dX10_readsLend_28 : decode cX10_readsLend 28 = .ok (.ireturn, 1) := by decide +kernel
theorem dX10_readsLend_29 : decode cX10_readsLend 29 = .ok (.aload_n 0, 1) := by decide +kernel
theorem dX10_readsLend_30 : decode cX10_readsLend 30 = .ok (.iconst 0, 1) := by decide +kernel
theorem dX10_readsLend_31 : decode cX10_readsLend 31 = .ok (.invokevirtual 249, 3) := by decide +kernel
theorem dX10_readsLend_34 : decode cX10_readsLend 34 = .ok (.ifCond .eq 39, 3) := by decide +kernel
theorem dX10_readsLend_37 : decode cX10_readsLend 37 = .ok (.aload_n 0, 1) := by decide +kernel
theorem dX10_readsLend_38 : decode cX10_readsLend 38 = .ok (.iconst 1, 1) := by decide +kernel
theorem dX10_readsLend_39 : decode cX10_readsLend 39 = .ok (.invokevirtual 249, 3) := by decide +kernel
theorem dX10_readsLend_42 : decode cX10_readsLend 42 = .ok (.ifCond .eq 31, 3) := by decide +kernel
theorem dX10_readsLend_45 : decode cX10_readsLend 45 = .ok (.aload_n 0, 1) := by decide +kernel
theorem dX10_readsLend_46 : decode cX10_readsLend 46 = .ok (.iconst 2, 1) := by decide +kernel
theorem dX10_readsLend_47 : decode cX10_readsLend 47 = .ok (.invokevirtual 255, 3) := by decide +kernel
theorem dX10_readsLend_50 : decode cX10_readsLend 50 = .ok (.ifCond .eq 23, 3) := by decide +kernel
theorem dX10_readsLend_53 : decode cX10_readsLend 53 = .ok (.aload_n 0, 1) := by decide +kernel
theorem dX10_readsLend_54 : decode cX10_readsLend 54 = .ok (.iconst 3, 1) := by decide +kernel
theorem dX10_readsLend_55 : decode cX10_readsLend 55 = .ok (.invokevirtual 255, 3) := by decide +kernel
theorem dX10_readsLend_58 : decode cX10_readsLend 58 = .ok (.ifCond .eq 15, 3) := by decide +kernel
theorem dX10_readsLend_61 : decode cX10_readsLend 61 = .ok (.aload_n 0, 1) := by decide +kernel
theorem dX10_readsLend_62 : decode cX10_readsLend 62 = .ok (.iconst 4, 1) := by decide +kernel
theorem dX10_readsLend_63 : decode cX10_readsLend 63 = .ok (.invokevirtual 255, 3) := by decide +kernel
theorem dX10_readsLend_66 : decode cX10_readsLend 66 = .ok (.ifCond .eq 7, 3) := by decide +kernel
theorem dX10_readsLend_69 : decode cX10_readsLend 69 = .ok (.iconst 1, 1) := by decide +kernel
theorem dX10_readsLend_70 : decode cX10_readsLend 70 = .ok (.goto 4, 3) := by decide +kernel
theorem dX10_readsLend_73 : decode cX10_readsLend 73 = .ok (.iconst 0, 1) := by decide +kernel
theorem dX10_readsLend_74 : decode cX10_readsLend 74 = .ok (.ireturn, 1) := by decide +kernel
theorem dX10_readsCommand_0 : decode cX10_readsCommand 0 = .ok (.aload_n 0, 1) := by decide +kernel
theorem dX10_readsCommand_1 : decode cX10_readsCommand 1 = .ok (.aload_n 0, 1) := by decide +kernel
theorem dX10_readsCommand_2 : decode cX10_readsCommand 2 = .ok (.invokevirtual 239, 3) := by decide +kernel
theorem dX10_readsCommand_5 : decode cX10_readsCommand 5 = .ok (.putfield 252, 3) := by decide +kernel
theorem dX10_readsCommand_8 : decode cX10_readsCommand 8 = .ok (.aload_n 0, 1) := by decide +kernel
theorem dX10_readsCommand_9 : decode cX10_readsCommand 9 = .ok (.bipush 98, 2) := by decide +kernel
theorem dX10_readsCommand_11 : decode cX10_readsCommand 11 = .ok (.invokevirtual 242, 3) := by decide +kernel
theorem dX10_readsCommand_14 : decode cX10_readsCommand 14 = .ok (.ifCond .eq 8, 3) := by decide +kernel
theorem dX10_readsCommand_17 : decode cX10_readsCommand 17 = .ok (.aload_n 0, 1) := by decide +kernel
theorem dX10_readsCommand_18 : decode cX10_readsCommand 18 = .ok (.invokevirtual 258, 3) := by decide +kernel
theorem dX10_readsCommand_21 : decode cX10_readsCommand 21 = .ok (.ireturn, 1) := by decide +kernel
theorem dX10_readsCommand_22 : decode cX10_readsCommand 22 = .ok (.aload_n 0, 1) := by decide +kernel
theorem dX10_readsCommand_23 : decode cX10_readsCommand 23 = .ok (.bipush 112, 2) := by decide +kernel
theorem dX10_readsCommand_25 : decode cX10_readsCommand 25 = .ok (.invokevirtual 242, 3) := by decide +kernel
theorem dX10_readsCommand_28 : decode cX10_readsCommand 28 = .ok (.ifCond .eq 8, 3) := by decide +kernel
theorem dX10_readsCommand_31 : decode cX10_readsCommand 31 = .ok (.aload_n 0, 1) := by decide +kernel
theorem dX10_readsCommand_32 : decode cX10_readsCommand 32 = .ok (.invokevirtual 261, 3) := by decide +kernel
theorem dX10_readsCommand_35 : decode cX10_readsCommand 35 = .ok (.ireturn, 1) := by decide +kernel
theorem dX10_readsCommand_36 : decode cX10_readsCommand 36 = .ok (.aload_n 0, 1) := by decide +kernel
theorem dX10_readsCommand_37 : decode cX10_readsCommand 37 = .ok (.bipush 114, 2) := by decide +kernel
theorem dX10_readsCommand_39 : decode cX10_readsCommand 39 = .ok (.invokevirtual 242, 3) := by decide +kernel
theorem dX10_readsCommand_42 : decode cX10_readsCommand 42 = .ok (.ifCond .eq 8, 3) := by decide +kernel
theorem dX10_readsCommand_45 : decode cX10_readsCommand 45 = .ok (.aload_n 0, 1) := by decide +kernel
theorem dX10_readsCommand_46 : decode cX10_readsCommand 46 = .ok (.invokevirtual 264, 3) := by decide +kernel
theorem dX10_readsCommand_49 : decode cX10_readsCommand 49 = .ok (.ireturn, 1) := by decide +kernel
theorem dX10_readsCommand_50 : decode cX10_readsCommand 50 = .ok (.aload_n 0, 1) := by decide +kernel
theorem dX10_readsCommand_51 : decode cX10_readsCommand 51 = .ok (.bipush 108, 2) := by decide +kernel
theorem dX10_readsCommand_53 : decode cX10_readsCommand 53 = .ok (.invokevirtual 242, 3) := by decide +kernel
theorem dX10_readsCommand_56 : decode cX10_readsCommand 56 = .ok (.ifCond .eq 8, 3) := by decide +kernel
theorem dX10_readsCommand_59 : decode cX10_readsCommand 59 = .ok (.aload_n 0, 1) := by decide +kernel
theorem dX10_readsCommand_60 : decode cX10_readsCommand 60 = .ok (.invokevirtual 267, 3) := by decide +kernel
theorem dX10_readsCommand_63 : decode cX10_readsCommand 63 = .ok (.ireturn, 1) := by decide +kernel
theorem dX10_readsCommand_64 : decode cX10_readsCommand 64 = .ok (.aload_n 0, 1) := by decide +kernel
theorem dX10_readsCommand_65 : decode cX10_readsCommand 65 = .ok (.bipush 100, 2) := by decide +kernel
theorem dX10_readsCommand_67 : decode cX10_readsCommand 67 = .ok (.invokevirtual 242, 3) := by decide +kernel
theorem dX10_readsCommand_70 : decode cX10_readsCommand 70 = .ok (.ifCond .eq 42, 3) := by decide +kernel
theorem dX10_readsCommand_73 : decode cX10_readsCommand 73 = .ok (.aload_n 0, 1) := by decide +kernel
theorem dX10_readsCommand_74 : decode cX10_readsCommand 74 = .ok (.bipush 97, 2) := by decide +kernel
theorem dX10_readsCommand_76 : decode cX10_readsCommand 76 = .ok (.invokevirtual 242, 3) := by decide +kernel
theorem dX10_readsCommand_79 : decode cX10_readsCommand 79 = .ok (.ifCond .eq 33, 3) := by decide +kernel
theorem dX10_readsCommand_82 : decode cX10_readsCommand 82 = .ok (.aload_n 0, 1) := by decide +kernel
theorem dX10_readsCommand_83 : decode cX10_readsCommand 83 = .ok (.bipush 121, 2) := by decide +kernel
theorem dX10_readsCommand_85 : decode cX10_readsCommand 85 = .ok (.invokevirtual 242, 3) := by decide +kernel
theorem dX10_readsCommand_88 : decode cX10_readsCommand 88 = .ok (.ifCond .eq 24, 3) := by decide +kernel
theorem dX10_readsCommand_91 : decode cX10_readsCommand 91 = .ok (.aload_n 0, 1) := by decide +kernel
theorem dX10_readsCommand_92 : decode cX10_readsCommand 92 = .ok (.bipush 115, 2) := by decide +kernel
theorem dX10_readsCommand_94 : decode cX10_readsCommand 94 = .ok (.invokevirtual 242, 3) := by decide +kernel
theorem dX10_readsCommand_97 : decode cX10_readsCommand 97 = .ok (.ifCond .eq 15, 3) := by decide +kernel
theorem dX10_readsCommand_100 : decode cX10_readsCommand 100 = .ok (.aload_n 0, 1) := by decide +kernel
theorem dX10_readsCommand_101 : decode cX10_readsCommand 101 = .ok (.iconst 0, 1) := by decide +kernel
theorem dX10_readsCommand_102 : decode cX10_readsCommand 102 = .ok (.invokevirtual 255, 3) := by decide +kernel
theorem dX10_readsCommand_105 : decode cX10_readsCommand 105 = .ok (.ifCond .eq 7, 3) := by decide +kernel
theorem dX10_readsCommand_108 : decode cX10_readsCommand 108 = .ok (.iconst 1, 1) := by decide +kernel
theorem dX10_readsCommand_109 : decode cX10_readsCommand 109 = .ok (.goto 4, 3) := by decide +kernel
theorem dX10_readsCommand_112 : decode cX10_readsCommand 112 = .ok (.iconst 0, 1) := by decide +kernel
theorem dX10_readsCommand_113 : decode cX10_readsCommand 113 = .ok (.ireturn, 1) := by decide +kernel
theorem dX10_readsAll_0 : decode cX10_readsAll 0 = .ok (.aload_n 0, 1) := by decide +kernel
theorem dX10_readsAll_1 : decode cX10_readsAll 1 = .ok (.iconst 0, 1) := by decide +kernel
theorem dX10_readsAll_2 : decode cX10_readsAll 2 = .ok (.putfield 236, 3) := by decide +kernel
theorem dX10_readsAll_5 : decode cX10_readsAll 5 = .ok (.iconst 1, 1) := by decide +kernel
theorem dX10_readsAll_6 : decode cX10_readsAll 6 = .ok (.istore_n 1, 1) := by decide +kernel
theorem dX10_readsAll_7 : decode cX10_readsAll 7 = .ok (.iload_n 1, 1) := by decide +kernel
theorem dX10_readsAll_8 : decode cX10_readsAll 8 = .ok (.ifCond .eq 22, 3) := by decide +kernel
theorem dX10_readsAll_11 : decode cX10_readsAll 11 = .ok (.aload_n 0, 1) := by decide +kernel
theorem dX10_readsAll_12 : decode cX10_readsAll 12 = .ok (.invokevirtual 270, 3) := by decide +kernel
theorem dX10_readsAll_15 : decode cX10_readsAll 15 = .ok (.ifCond .ne 5, 3) := by decide +kernel
theorem dX10_readsAll_18 : decode cX10_readsAll 18 = .ok (.iconst 0, 1) := by decide +kernel
theorem dX10_readsAll_19 : decode cX10_readsAll 19 = .ok (.ireturn, 1) := by decide +kernel
theorem dX10_readsAll_20 : decode cX10_readsAll 20 = .ok (.aload_n 0, 1) := by decide +kernel
theorem dX10_readsAll_21 : decode cX10_readsAll 21 = .ok (.bipush 59, 2) := by decide +kernel
theorem dX10_readsAll_23 : decode cX10_readsAll 23 = .ok (.invokevirtual 242, 3) := by decide +kernel
theorem dX10_readsAll_26 : decode cX10_readsAll 26 = .ok (.istore_n 1, 1) := by decide +kernel
theorem dX10_readsAll_27 : decode cX10_readsAll 27 = .ok (.goto (-20), 3) := by decide +kernel
theorem dX10_readsAll_30 : decode cX10_readsAll 30 = .ok (.aload_n 0, 1) := by decide +kernel
theorem dX10_readsAll_31 : decode cX10_readsAll 31 = .ok (.getfield 236, 3) := by decide +kernel
theorem dX10_readsAll_34 : decode cX10_readsAll 34 = .ok (.aload_n 0, 1) := by decide +kernel
theorem dX10_readsAll_35 : decode cX10_readsAll 35 = .ok (.getfield 233, 3) := by decide +kernel
theorem dX10_readsAll_38 : decode cX10_readsAll 38 = .ok (.if_icmp .ne 7, 3) := by decide +kernel
theorem dX10_readsAll_41 : decode cX10_readsAll 41 = .ok (.iconst 1, 1) := by decide +kernel
theorem dX10_readsAll_42 : decode cX10_readsAll 42 = .ok (.goto 4, 3) := by decide +kernel
theorem dX10_readsAll_45 : decode cX10_readsAll 45 = .ok (.iconst 0, 1) := by decide +kernel
theorem dX10_readsAll_46 : decode cX10_readsAll 46 = .ok (.ireturn, 1) := by decide +kernel
theorem dX10_notNow_0 : decode cX10_notNow 0 = .ok (.aload_n 0, 1) := by decide +kernel
theorem dX10_notNow_1 : decode cX10_notNow 1 = .ok (.getfield 39, 3) := by decide +kernel
theorem dX10_notNow_4 : decode cX10_notNow 4 = .ok (.iconst 0, 1) := by decide +kernel
theorem dX10_notNow_5 : decode cX10_notNow 5 = .ok (.iaload, 1) := by decide +kernel
theorem dX10_notNow_6 : decode cX10_notNow 6 = .ok (.istore_n 1, 1) := by decide +kernel
theorem dX10_notNow_7 : decode cX10_notNow 7 = .ok (.aload_n 0, 1) := by decide +kernel
theorem dX10_notNow_8 : decode cX10_notNow 8 = .ok (.getfield 39, 3) := by decide +kernel
theorem dX10_notNow_11 : decode cX10_notNow 11 = .ok (.iconst 1, 1) := by decide +kernel
theorem dX10_notNow_12 : decode cX10_notNow 12 = .ok (.iaload, 1) := by decide +kernel
theorem dX10_notNow_13 : decode cX10_notNow 13 = .ok (.istore_n 2, 1) := by decide +kernel
theorem dX10_notNow_14 : decode cX10_notNow 14 = .ok (.aload_n 0, 1) := by decide +kernel
theorem dX10_notNow_15 : decode cX10_notNow 15 = .ok (.getfield 39, 3) := by decide +kernel
theorem dX10_notNow_18 : decode cX10_notNow 18 = .ok (.iconst 2, 1) := by decide +kernel
theorem dX10_notNow_19 : decode cX10_notNow 19 = .ok (.iaload, 1) := by decide +kernel
theorem dX10_notNow_20 : decode cX10_notNow 20 = .ok (.istore_n 3, 1) := by decide +kernel
theorem dX10_notNow_21 : decode cX10_notNow 21 = .ok (.aload_n 0, 1) := by decide +kernel
theorem dX10_notNow_22 : decode cX10_notNow 22 = .ok (.getfield 252, 3) := by decide +kernel
theorem dX10_notNow_25 : decode cX10_notNow 25 = .ok (.tableswitch 186 97 121 #[163, 186, 186, 186, 155, 186, 121, 186, 186, 186, 186, 135, 186, 186, 115, 129, 186, 186, 186, 186, 178, 186, 186, 186, 171], 115) := by decide +kernel
theorem dX10_notNow_140 : decode cX10_notNow 140 = .ok (.aload_n 0, 1) := by decide +kernel
theorem dX10_notNow_141 : decode cX10_notNow 141 = .ok (.iload_n 1, 1) := by decide +kernel
theorem dX10_notNow_142 : decode cX10_notNow 142 = .ok (.invokevirtual 76, 3) := by decide +kernel
theorem dX10_notNow_145 : decode cX10_notNow 145 = .ok (.ireturn, 1) := by decide +kernel
theorem dX10_notNow_146 : decode cX10_notNow 146 = .ok (.aload_n 0, 1) := by decide +kernel
theorem dX10_notNow_147 : decode cX10_notNow 147 = .ok (.iload_n 1, 1) := by decide +kernel
theorem dX10_notNow_148 : decode cX10_notNow 148 = .ok (.iload_n 2, 1) := by decide +kernel
theorem dX10_notNow_149 : decode cX10_notNow 149 = .ok (.iload_n 3, 1) := by decide +kernel
theorem dX10_notNow_150 : decode cX10_notNow 150 = .ok (.invokevirtual 98, 3) := by decide +kernel
theorem dX10_notNow_153 : decode cX10_notNow 153 = .ok (.ireturn, 1) := by decide +kernel
theorem dX10_notNow_154 : decode cX10_notNow 154 = .ok (.iload_n 1, 1) := by decide +kernel
theorem dX10_notNow_155 : decode cX10_notNow 155 = .ok (.iload_n 2, 1) := by decide +kernel
theorem dX10_notNow_156 : decode cX10_notNow 156 = .ok (.invokestatic 105, 3) := by decide +kernel
theorem dX10_notNow_159 : decode cX10_notNow 159 = .ok (.ireturn, 1) := by decide +kernel
theorem dX10_notNow_160 : decode cX10_notNow 160 = .ok (.aload_n 0, 1) := by decide +kernel
theorem dX10_notNow_161 : decode cX10_notNow 161 = .ok (.iload_n 1, 1) := by decide +kernel
theorem dX10_notNow_162 : decode cX10_notNow 162 = .ok (.iload_n 2, 1) := by decide +kernel
theorem dX10_notNow_163 : decode cX10_notNow 163 = .ok (.iload_n 3, 1) := by decide +kernel
theorem dX10_notNow_164 : decode cX10_notNow 164 = .ok (.aload_n 0, 1) := by decide +kernel
theorem dX10_notNow_165 : decode cX10_notNow 165 = .ok (.getfield 39, 3) := by decide +kernel
theorem dX10_notNow_168 : decode cX10_notNow 168 = .ok (.iconst 3, 1) := by decide +kernel
theorem dX10_notNow_169 : decode cX10_notNow 169 = .ok (.iaload, 1) := by decide +kernel
theorem dX10_notNow_170 : decode cX10_notNow 170 = .ok (.aload_n 0, 1) := by decide +kernel
theorem dX10_notNow_171 : decode cX10_notNow 171 = .ok (.getfield 39, 3) := by decide +kernel
theorem dX10_notNow_174 : decode cX10_notNow 174 = .ok (.iconst 4, 1) := by decide +kernel
theorem dX10_notNow_175 : decode cX10_notNow 175 = .ok (.iaload, 1) := by decide +kernel
theorem dX10_notNow_176 : decode cX10_notNow 176 = .ok (.invokevirtual 114, 3) := by decide +kernel
theorem dX10_notNow_179 : decode cX10_notNow 179 = .ok (.ireturn, 1) := by decide +kernel
theorem dX10_notNow_180 : decode cX10_notNow 180 = .ok (.aload_n 0, 1) := by decide +kernel
theorem dX10_notNow_181 : decode cX10_notNow 181 = .ok (.iload_n 1, 1) := by decide +kernel
theorem dX10_notNow_182 : decode cX10_notNow 182 = .ok (.iload_n 2, 1) := by decide +kernel
theorem dX10_notNow_183 : decode cX10_notNow 183 = .ok (.iload_n 3, 1) := by decide +kernel
theorem dX10_notNow_184 : decode cX10_notNow 184 = .ok (.invokevirtual 124, 3) := by decide +kernel
theorem dX10_notNow_187 : decode cX10_notNow 187 = .ok (.ireturn, 1) := by decide +kernel
theorem dX10_notNow_188 : decode cX10_notNow 188 = .ok (.aload_n 0, 1) := by decide +kernel
theorem dX10_notNow_189 : decode cX10_notNow 189 = .ok (.iload_n 1, 1) := by decide +kernel
theorem dX10_notNow_190 : decode cX10_notNow 190 = .ok (.iload_n 2, 1) := by decide +kernel
theorem dX10_notNow_191 : decode cX10_notNow 191 = .ok (.iload_n 3, 1) := by decide +kernel
theorem dX10_notNow_192 : decode cX10_notNow 192 = .ok (.invokevirtual 130, 3) := by decide +kernel
theorem dX10_notNow_195 : decode cX10_notNow 195 = .ok (.ireturn, 1) := by decide +kernel
theorem dX10_notNow_196 : decode cX10_notNow 196 = .ok (.aload_n 0, 1) := by decide +kernel
theorem dX10_notNow_197 : decode cX10_notNow 197 = .ok (.iload_n 1, 1) := by decide +kernel
theorem dX10_notNow_198 : decode cX10_notNow 198 = .ok (.iload_n 2, 1) := by decide +kernel
theorem dX10_notNow_199 : decode cX10_notNow 199 = .ok (.invokevirtual 150, 3) := by decide +kernel
theorem dX10_notNow_202 : decode cX10_notNow 202 = .ok (.ireturn, 1) := by decide +kernel
theorem dX10_notNow_203 : decode cX10_notNow 203 = .ok (.aload_n 0, 1) := by decide +kernel
theorem dX10_notNow_204 : decode cX10_notNow 204 = .ok (.iload_n 1, 1) := by decide +kernel
theorem dX10_notNow_205 : decode cX10_notNow 205 = .ok (.iload_n 2, 1) := by decide +kernel
theorem dX10_notNow_206 : decode cX10_notNow 206 = .ok (.iload_n 3, 1) := by decide +kernel
theorem dX10_notNow_207 : decode cX10_notNow 207 = .ok (.invokevirtual 156, 3) := by decide +kernel
theorem dX10_notNow_210 : decode cX10_notNow 210 = .ok (.ireturn, 1) := by decide +kernel
theorem dX10_notNow_211 : decode cX10_notNow 211 = .ok (.iload_n 1, 1) := by decide +kernel
theorem dX10_notNow_212 : decode cX10_notNow 212 = .ok (.invokestatic 175, 3) := by decide +kernel
theorem dX10_notNow_215 : decode cX10_notNow 215 = .ok (.ireturn, 1) := by decide +kernel
theorem dX10_doesNow_0 : decode cX10_doesNow 0 = .ok (.aload_n 0, 1) := by decide +kernel
theorem dX10_doesNow_1 : decode cX10_doesNow 1 = .ok (.getfield 39, 3) := by decide +kernel
theorem dX10_doesNow_4 : decode cX10_doesNow 4 = .ok (.iconst 0, 1) := by decide +kernel
theorem dX10_doesNow_5 : decode cX10_doesNow 5 = .ok (.iaload, 1) := by decide +kernel
theorem dX10_doesNow_6 : decode cX10_doesNow 6 = .ok (.istore_n 1, 1) := by decide +kernel
theorem dX10_doesNow_7 : decode cX10_doesNow 7 = .ok (.aload_n 0, 1) := by decide +kernel
theorem dX10_doesNow_8 : decode cX10_doesNow 8 = .ok (.getfield 39, 3) := by decide +kernel
theorem dX10_doesNow_11 : decode cX10_doesNow 11 = .ok (.iconst 1, 1) := by decide +kernel
theorem dX10_doesNow_12 : decode cX10_doesNow 12 = .ok (.iaload, 1) := by decide +kernel
theorem dX10_doesNow_13 : decode cX10_doesNow 13 = .ok (.istore_n 2, 1) := by decide +kernel
theorem dX10_doesNow_14 : decode cX10_doesNow 14 = .ok (.aload_n 0, 1) := by decide +kernel
theorem dX10_doesNow_15 : decode cX10_doesNow 15 = .ok (.getfield 39, 3) := by decide +kernel
theorem dX10_doesNow_18 : decode cX10_doesNow 18 = .ok (.iconst 2, 1) := by decide +kernel
theorem dX10_doesNow_19 : decode cX10_doesNow 19 = .ok (.iaload, 1) := by decide +kernel
theorem dX10_doesNow_20 : decode cX10_doesNow 20 = .ok (.istore_n 3, 1) := by decide +kernel
theorem dX10_doesNow_21 : decode cX10_doesNow 21 = .ok (.aload_n 0, 1) := by decide +kernel
theorem dX10_doesNow_22 : decode cX10_doesNow 22 = .ok (.getfield 252, 3) := by decide +kernel
theorem dX10_doesNow_25 : decode cX10_doesNow 25 = .ok (.tableswitch 188 97 121 #[164, 188, 188, 188, 156, 188, 121, 188, 188, 188, 188, 136, 188, 188, 115, 129, 188, 188, 188, 188, 180, 188, 188, 188, 173], 115) := by decide +kernel
theorem dX10_doesNow_140 : decode cX10_doesNow 140 = .ok (.aload_n 0, 1) := by decide +kernel
theorem dX10_doesNow_141 : decode cX10_doesNow 141 = .ok (.iload_n 1, 1) := by decide +kernel
theorem dX10_doesNow_142 : decode cX10_doesNow 142 = .ok (.invokevirtual 85, 3) := by decide +kernel
theorem dX10_doesNow_145 : decode cX10_doesNow 145 = .ok (.ireturn, 1) := by decide +kernel
theorem dX10_doesNow_146 : decode cX10_doesNow 146 = .ok (.aload_n 0, 1) := by decide +kernel
theorem dX10_doesNow_147 : decode cX10_doesNow 147 = .ok (.iload_n 1, 1) := by decide +kernel
theorem dX10_doesNow_148 : decode cX10_doesNow 148 = .ok (.iload_n 2, 1) := by decide +kernel
theorem dX10_doesNow_149 : decode cX10_doesNow 149 = .ok (.iload_n 3, 1) := by decide +kernel
theorem dX10_doesNow_150 : decode cX10_doesNow 150 = .ok (.invokevirtual 102, 3) := by decide +kernel
theorem dX10_doesNow_153 : decode cX10_doesNow 153 = .ok (.ireturn, 1) := by decide +kernel
theorem dX10_doesNow_154 : decode cX10_doesNow 154 = .ok (.aload_n 0, 1) := by decide +kernel
theorem dX10_doesNow_155 : decode cX10_doesNow 155 = .ok (.iload_n 1, 1) := by decide +kernel
theorem dX10_doesNow_156 : decode cX10_doesNow 156 = .ok (.iload_n 2, 1) := by decide +kernel
theorem dX10_doesNow_157 : decode cX10_doesNow 157 = .ok (.invokevirtual 108, 3) := by decide +kernel
theorem dX10_doesNow_160 : decode cX10_doesNow 160 = .ok (.ireturn, 1) := by decide +kernel
theorem dX10_doesNow_161 : decode cX10_doesNow 161 = .ok (.aload_n 0, 1) := by decide +kernel
theorem dX10_doesNow_162 : decode cX10_doesNow 162 = .ok (.iload_n 1, 1) := by decide +kernel
theorem dX10_doesNow_163 : decode cX10_doesNow 163 = .ok (.iload_n 2, 1) := by decide +kernel
theorem dX10_doesNow_164 : decode cX10_doesNow 164 = .ok (.iload_n 3, 1) := by decide +kernel
theorem dX10_doesNow_165 : decode cX10_doesNow 165 = .ok (.aload_n 0, 1) := by decide +kernel
theorem dX10_doesNow_166 : decode cX10_doesNow 166 = .ok (.getfield 39, 3) := by decide +kernel
theorem dX10_doesNow_169 : decode cX10_doesNow 169 = .ok (.iconst 3, 1) := by decide +kernel
theorem dX10_doesNow_170 : decode cX10_doesNow 170 = .ok (.iaload, 1) := by decide +kernel
theorem dX10_doesNow_171 : decode cX10_doesNow 171 = .ok (.aload_n 0, 1) := by decide +kernel
theorem dX10_doesNow_172 : decode cX10_doesNow 172 = .ok (.getfield 39, 3) := by decide +kernel
theorem dX10_doesNow_175 : decode cX10_doesNow 175 = .ok (.iconst 4, 1) := by decide +kernel
theorem dX10_doesNow_176 : decode cX10_doesNow 176 = .ok (.iaload, 1) := by decide +kernel
theorem dX10_doesNow_177 : decode cX10_doesNow 177 = .ok (.invokevirtual 118, 3) := by decide +kernel
theorem dX10_doesNow_180 : decode cX10_doesNow 180 = .ok (.ireturn, 1) := by decide +kernel
theorem dX10_doesNow_181 : decode cX10_doesNow 181 = .ok (.aload_n 0, 1) := by decide +kernel
theorem dX10_doesNow_182 : decode cX10_doesNow 182 = .ok (.iload_n 1, 1) := by decide +kernel
theorem dX10_doesNow_183 : decode cX10_doesNow 183 = .ok (.iload_n 2, 1) := by decide +kernel
theorem dX10_doesNow_184 : decode cX10_doesNow 184 = .ok (.iload_n 3, 1) := by decide +kernel
theorem dX10_doesNow_185 : decode cX10_doesNow 185 = .ok (.invokevirtual 127, 3) := by decide +kernel
theorem dX10_doesNow_188 : decode cX10_doesNow 188 = .ok (.ireturn, 1) := by decide +kernel
theorem dX10_doesNow_189 : decode cX10_doesNow 189 = .ok (.aload_n 0, 1) := by decide +kernel
theorem dX10_doesNow_190 : decode cX10_doesNow 190 = .ok (.iload_n 1, 1) := by decide +kernel
theorem dX10_doesNow_191 : decode cX10_doesNow 191 = .ok (.iload_n 2, 1) := by decide +kernel
theorem dX10_doesNow_192 : decode cX10_doesNow 192 = .ok (.iload_n 3, 1) := by decide +kernel
theorem dX10_doesNow_193 : decode cX10_doesNow 193 = .ok (.ineg, 1) := by decide +kernel
theorem dX10_doesNow_194 : decode cX10_doesNow 194 = .ok (.invokevirtual 127, 3) := by decide +kernel
theorem dX10_doesNow_197 : decode cX10_doesNow 197 = .ok (.ireturn, 1) := by decide +kernel
theorem dX10_doesNow_198 : decode cX10_doesNow 198 = .ok (.aload_n 0, 1) := by decide +kernel
theorem dX10_doesNow_199 : decode cX10_doesNow 199 = .ok (.iload_n 1, 1) := by decide +kernel
theorem dX10_doesNow_200 : decode cX10_doesNow 200 = .ok (.iload_n 2, 1) := by decide +kernel
theorem dX10_doesNow_201 : decode cX10_doesNow 201 = .ok (.invokevirtual 153, 3) := by decide +kernel
theorem dX10_doesNow_204 : decode cX10_doesNow 204 = .ok (.ireturn, 1) := by decide +kernel
theorem dX10_doesNow_205 : decode cX10_doesNow 205 = .ok (.aload_n 0, 1) := by decide +kernel
theorem dX10_doesNow_206 : decode cX10_doesNow 206 = .ok (.iload_n 1, 1) := by decide +kernel
theorem dX10_doesNow_207 : decode cX10_doesNow 207 = .ok (.iload_n 2, 1) := by decide +kernel
theorem dX10_doesNow_208 : decode cX10_doesNow 208 = .ok (.iload_n 3, 1) := by decide +kernel
theorem dX10_doesNow_209 : decode cX10_doesNow 209 = .ok (.invokevirtual 159, 3) := by decide +kernel
theorem dX10_doesNow_212 : decode cX10_doesNow 212 = .ok (.ireturn, 1) := by decide +kernel
theorem dX10_doesNow_213 : decode cX10_doesNow 213 = .ok (.aload_n 0, 1) := by decide +kernel
theorem dX10_doesNow_214 : decode cX10_doesNow 214 = .ok (.iload_n 1, 1) := by decide +kernel
theorem dX10_doesNow_215 : decode cX10_doesNow 215 = .ok (.invokevirtual 178, 3) := by decide +kernel
theorem dX10_doesNow_218 : decode cX10_doesNow 218 = .ok (.ireturn, 1) := by decide +kernel
theorem dX10_doesAll_0 : decode cX10_doesAll 0 = .ok (.aload_n 0, 1) := by decide +kernel
theorem dX10_doesAll_1 : decode cX10_doesAll 1 = .ok (.iconst 0, 1) := by decide +kernel
theorem dX10_doesAll_2 : decode cX10_doesAll 2 = .ok (.putfield 273, 3) := by decide +kernel
theorem dX10_doesAll_5 : decode cX10_doesAll 5 = .ok (.aload_n 0, 1) := by decide +kernel
theorem dX10_doesAll_6 : decode cX10_doesAll 6 = .ok (.iconst 0, 1) := by decide +kernel
theorem dX10_doesAll_7 : decode cX10_doesAll 7 = .ok (.putfield 236, 3) := by decide +kernel
theorem dX10_doesAll_10 : decode cX10_doesAll 10 = .ok (.iconst 1, 1) := by decide +kernel
theorem dX10_doesAll_11 : decode cX10_doesAll 11 = .ok (.istore_n 1, 1) := by decide +kernel
theorem dX10_doesAll_12 : decode cX10_doesAll 12 = .ok (.iload_n 1, 1) := by decide +kernel
theorem dX10_doesAll_13 : decode cX10_doesAll 13 = .ok (.ifCond .eq 42, 3) := by decide +kernel
theorem dX10_doesAll_16 : decode cX10_doesAll 16 = .ok (.aload_n 0, 1) := by decide +kernel
theorem dX10_doesAll_17 : decode cX10_doesAll 17 = .ok (.invokevirtual 270, 3) := by decide +kernel
theorem dX10_doesAll_20 : decode cX10_doesAll 20 = .ok (.pop, 1) := by decide +kernel
theorem dX10_doesAll_21 : decode cX10_doesAll 21 = .ok (.aload_n 0, 1) := by decide +kernel
theorem dX10_doesAll_22 : decode cX10_doesAll 22 = .ok (.invokevirtual 276, 3) := by decide +kernel
theorem dX10_doesAll_25 : decode cX10_doesAll 25 = .ok (.ifCond .eq 5, 3) := by decide +kernel
theorem dX10_doesAll_28 : decode cX10_doesAll 28 = .ok (.iconst 0, 1) := by decide +kernel
theorem dX10_doesAll_29 : decode cX10_doesAll 29 = .ok (.ireturn, 1) := by decide +kernel
theorem dX10_doesAll_30 : decode cX10_doesAll 30 = .ok (.aload_n 0, 1) := by decide +kernel
theorem dX10_doesAll_31 : decode cX10_doesAll 31 = .ok (.invokevirtual 279, 3) := by decide +kernel
theorem dX10_doesAll_34 : decode cX10_doesAll 34 = .ok (.pop, 1) := by decide +kernel
theorem dX10_doesAll_35 : decode cX10_doesAll 35 = .ok (.aload_n 0, 1) := by decide +kernel
theorem dX10_doesAll_36 : decode cX10_doesAll 36 = .ok (.dup, 1) := by decide +kernel
theorem dX10_doesAll_37 : decode cX10_doesAll 37 = .ok (.getfield 273, 3) := by decide +kernel
theorem dX10_doesAll_40 : decode cX10_doesAll 40 = .ok (.iconst 1, 1) := by decide +kernel
theorem dX10_doesAll_41 : decode cX10_doesAll 41 = .ok (.iadd, 1) := by decide +kernel
theorem dX10_doesAll_42 : decode cX10_doesAll 42 = .ok (.putfield 273, 3) := by decide +kernel
theorem dX10_doesAll_45 : decode cX10_doesAll 45 = .ok (.aload_n 0, 1) := by decide +kernel
theorem dX10_doesAll_46 : decode cX10_doesAll 46 = .ok (.bipush 59, 2) := by decide +kernel
theorem dX10_doesAll_48 : decode cX10_doesAll 48 = .ok (.invokevirtual 242, 3) := by decide +kernel
theorem dX10_doesAll_51 : decode cX10_doesAll 51 = .ok (.istore_n 1, 1) := by decide +kernel
theorem dX10_doesAll_52 : decode cX10_doesAll 52 = .ok (.goto (-40), 3) := by decide +kernel
theorem dX10_doesAll_55 : decode cX10_doesAll 55 = .ok (.iconst 1, 1) := by decide +kernel
theorem dX10_doesAll_56 : decode cX10_doesAll 56 = .ok (.ireturn, 1) := by decide +kernel
theorem dX10_run_0 : decode cX10_run 0 = .ok (.aload_n 0, 1) := by decide +kernel
theorem dX10_run_1 : decode cX10_run 1 = .ok (.iconst 0, 1) := by decide +kernel
theorem dX10_run_2 : decode cX10_run 2 = .ok (.putfield 1, 3) := by decide +kernel
theorem dX10_run_5 : decode cX10_run 5 = .ok (.aload_n 0, 1) := by decide +kernel
theorem dX10_run_6 : decode cX10_run 6 = .ok (.invokevirtual 282, 3) := by decide +kernel
theorem dX10_run_9 : decode cX10_run 9 = .ok (.ifCond .ne 22, 3) := by decide +kernel
theorem dX10_run_12 : decode cX10_run 12 = .ok (.aload_n 0, 1) := by decide +kernel
theorem dX10_run_13 : decode cX10_run 13 = .ok (.aload_n 0, 1) := by decide +kernel
theorem dX10_run_14 : decode cX10_run 14 = .ok (.getfield 236, 3) := by decide +kernel
theorem dX10_run_17 : decode cX10_run 17 = .ok (.putfield 33, 3) := by decide +kernel
theorem dX10_run_20 : decode cX10_run 20 = .ok (.aload_n 0, 1) := by decide +kernel
theorem dX10_run_21 : decode cX10_run 21 = .ok (.iconst 0, 1) := by decide +kernel
theorem dX10_run_22 : decode cX10_run 22 = .ok (.putfield 233, 3) := by decide +kernel
theorem dX10_run_25 : decode cX10_run 25 = .ok (.aload_n 0, 1) := by decide +kernel
theorem dX10_run_26 : decode cX10_run 26 = .ok (.iconst 1, 1) := by decide +kernel
theorem dX10_run_27 : decode cX10_run 27 = .ok (.invokevirtual 79, 3) := by decide +kernel
theorem dX10_run_30 : decode cX10_run 30 = .ok (.ireturn, 1) := by decide +kernel
theorem dX10_run_31 : decode cX10_run 31 = .ok (.aload_n 0, 1) := by decide +kernel
theorem dX10_run_32 : decode cX10_run 32 = .ok (.invokevirtual 48, 3) := by decide +kernel
theorem dX10_run_35 : decode cX10_run 35 = .ok (.aload_n 0, 1) := by decide +kernel
theorem dX10_run_36 : decode cX10_run 36 = .ok (.invokevirtual 285, 3) := by decide +kernel
theorem dX10_run_39 : decode cX10_run 39 = .ok (.istore_n 1, 1) := by decide +kernel
theorem dX10_run_40 : decode cX10_run 40 = .ok (.aload_n 0, 1) := by decide +kernel
theorem dX10_run_41 : decode cX10_run 41 = .ok (.iconst 0, 1) := by decide +kernel
theorem dX10_run_42 : decode cX10_run 42 = .ok (.putfield 233, 3) := by decide +kernel
theorem dX10_run_45 : decode cX10_run 45 = .ok (.iload_n 1, 1) := by decide +kernel
theorem dX10_run_46 : decode cX10_run 46 = .ok (.ifCond .eq 12, 3) := by decide +kernel
theorem dX10_run_49 : decode cX10_run 49 = .ok (.aload_n 0, 1) := by decide +kernel
theorem dX10_run_50 : decode cX10_run 50 = .ok (.invokevirtual 51, 3) := by decide +kernel
theorem dX10_run_53 : decode cX10_run 53 = .ok (.aload_n 0, 1) := by decide +kernel
theorem dX10_run_54 : decode cX10_run 54 = .ok (.getfield 273, 3) := by decide +kernel
theorem dX10_run_57 : decode cX10_run 57 = .ok (.ireturn, 1) := by decide +kernel
theorem dX10_run_58 : decode cX10_run 58 = .ok (.aload_n 0, 1) := by decide +kernel
theorem dX10_run_59 : decode cX10_run 59 = .ok (.invokevirtual 288, 3) := by decide +kernel
theorem dX10_run_62 : decode cX10_run 62 = .ok (.aload_n 0, 1) := by decide +kernel
theorem dX10_run_63 : decode cX10_run 63 = .ok (.aload_n 0, 1) := by decide +kernel
theorem dX10_run_64 : decode cX10_run 64 = .ok (.getfield 273, 3) := by decide +kernel
theorem dX10_run_67 : decode cX10_run 67 = .ok (.putfield 36, 3) := by decide +kernel
theorem dX10_run_70 : decode cX10_run 70 = .ok (.aload_n 0, 1) := by decide +kernel
theorem dX10_run_71 : decode cX10_run 71 = .ok (.iconst 2, 1) := by decide +kernel
theorem dX10_run_72 : decode cX10_run 72 = .ok (.invokevirtual 79, 3) := by decide +kernel
theorem dX10_run_75 : decode cX10_run 75 = .ok (.ireturn, 1) := by decide +kernel
theorem dX10_errorPosition_0 : decode cX10_errorPosition 0 = .ok (.aload_n 0, 1) := by decide +kernel
theorem dX10_errorPosition_1 : decode cX10_errorPosition 1 = .ok (.iconst 0, 1) := by decide +kernel
theorem dX10_errorPosition_2 : decode cX10_errorPosition 2 = .ok (.putfield 1, 3) := by decide +kernel
theorem dX10_errorPosition_5 : decode cX10_errorPosition 5 = .ok (.aload_n 0, 1) := by decide +kernel
theorem dX10_errorPosition_6 : decode cX10_errorPosition 6 = .ok (.getfield 33, 3) := by decide +kernel
theorem dX10_errorPosition_9 : decode cX10_errorPosition 9 = .ok (.ifCond .ge 11, 3) := by decide +kernel
theorem dX10_errorPosition_12 : decode cX10_errorPosition 12 = .ok (.aload_n 0, 1) := by decide +kernel
theorem dX10_errorPosition_13 : decode cX10_errorPosition 13 = .ok (.iconst 1, 1) := by decide +kernel
theorem dX10_errorPosition_14 : decode cX10_errorPosition 14 = .ok (.invokevirtual 79, 3) := by decide +kernel
theorem dX10_errorPosition_17 : decode cX10_errorPosition 17 = .ok (.goto 7, 3) := by decide +kernel
theorem dX10_errorPosition_20 : decode cX10_errorPosition 20 = .ok (.aload_n 0, 1) := by decide +kernel
theorem dX10_errorPosition_21 : decode cX10_errorPosition 21 = .ok (.getfield 33, 3) := by decide +kernel
theorem dX10_errorPosition_24 : decode cX10_errorPosition 24 = .ok (.ireturn, 1) := by decide +kernel
theorem dX10_failedCommand_0 : decode cX10_failedCommand 0 = .ok (.aload_n 0, 1) := by decide +kernel
theorem dX10_failedCommand_1 : decode cX10_failedCommand 1 = .ok (.iconst 0, 1) := by decide +kernel
theorem dX10_failedCommand_2 : decode cX10_failedCommand 2 = .ok (.putfield 1, 3) := by decide +kernel
theorem dX10_failedCommand_5 : decode cX10_failedCommand 5 = .ok (.aload_n 0, 1) := by decide +kernel
theorem dX10_failedCommand_6 : decode cX10_failedCommand 6 = .ok (.getfield 36, 3) := by decide +kernel
theorem dX10_failedCommand_9 : decode cX10_failedCommand 9 = .ok (.ifCond .ge 11, 3) := by decide +kernel
theorem dX10_failedCommand_12 : decode cX10_failedCommand 12 = .ok (.aload_n 0, 1) := by decide +kernel
theorem dX10_failedCommand_13 : decode cX10_failedCommand 13 = .ok (.iconst 1, 1) := by decide +kernel
theorem dX10_failedCommand_14 : decode cX10_failedCommand 14 = .ok (.invokevirtual 79, 3) := by decide +kernel
theorem dX10_failedCommand_17 : decode cX10_failedCommand 17 = .ok (.goto 7, 3) := by decide +kernel
theorem dX10_failedCommand_20 : decode cX10_failedCommand 20 = .ok (.aload_n 0, 1) := by decide +kernel
theorem dX10_failedCommand_21 : decode cX10_failedCommand 21 = .ok (.getfield 36, 3) := by decide +kernel
theorem dX10_failedCommand_24 : decode cX10_failedCommand 24 = .ok (.ireturn, 1) := by decide +kernel
theorem dX10_undoableCount_0 : decode cX10_undoableCount 0 = .ok (.aload_n 0, 1) := by decide +kernel
theorem dX10_undoableCount_1 : decode cX10_undoableCount 1 = .ok (.iconst 0, 1) := by decide +kernel
theorem dX10_undoableCount_2 : decode cX10_undoableCount 2 = .ok (.putfield 1, 3) := by decide +kernel
theorem dX10_undoableCount_5 : decode cX10_undoableCount 5 = .ok (.aload_n 0, 1) := by decide +kernel
theorem dX10_undoableCount_6 : decode cX10_undoableCount 6 = .ok (.getfield 42, 3) := by decide +kernel
theorem dX10_undoableCount_9 : decode cX10_undoableCount 9 = .ok (.ireturn, 1) := by decide +kernel
theorem dX10_undo_0 : decode cX10_undo 0 = .ok (.aload_n 0, 1) := by decide +kernel
theorem dX10_undo_1 : decode cX10_undo 1 = .ok (.iconst 0, 1) := by decide +kernel
theorem dX10_undo_2 : decode cX10_undo 2 = .ok (.putfield 1, 3) := by decide +kernel
theorem dX10_undo_5 : decode cX10_undo 5 = .ok (.aload_n 0, 1) := by decide +kernel
theorem dX10_undo_6 : decode cX10_undo 6 = .ok (.getfield 42, 3) := by decide +kernel
theorem dX10_undo_9 : decode cX10_undo 9 = .ok (.ifCond .ne 9, 3) := by decide +kernel
theorem dX10_undo_12 : decode cX10_undo 12 = .ok (.aload_n 0, 1) := by decide +kernel
theorem dX10_undo_13 : decode cX10_undo 13 = .ok (.iconst 1, 1) := by decide +kernel
theorem dX10_undo_14 : decode cX10_undo 14 = .ok (.invokevirtual 79, 3) := by decide +kernel
theorem dX10_undo_17 : decode cX10_undo 17 = .ok (.ireturn, 1) := by decide +kernel
theorem dX10_undo_18 : decode cX10_undo 18 = .ok (.aload_n 0, 1) := by decide +kernel
theorem dX10_undo_19 : decode cX10_undo 19 = .ok (.dup, 1) := by decide +kernel
theorem dX10_undo_20 : decode cX10_undo 20 = .ok (.getfield 42, 3) := by decide +kernel
theorem dX10_undo_23 : decode cX10_undo 23 = .ok (.iconst 1, 1) := by decide +kernel
theorem dX10_undo_24 : decode cX10_undo 24 = .ok (.isub, 1) := by decide +kernel
theorem dX10_undo_25 : decode cX10_undo 25 = .ok (.putfield 42, 3) := by decide +kernel
theorem dX10_undo_28 : decode cX10_undo 28 = .ok (.aload_n 0, 1) := by decide +kernel
theorem dX10_undo_29 : decode cX10_undo 29 = .ok (.getfield 45, 3) := by decide +kernel
theorem dX10_undo_32 : decode cX10_undo 32 = .ok (.aload_n 0, 1) := by decide +kernel
theorem dX10_undo_33 : decode cX10_undo 33 = .ok (.getfield 42, 3) := by decide +kernel
theorem dX10_undo_36 : decode cX10_undo 36 = .ok (.iadd, 1) := by decide +kernel
theorem dX10_undo_37 : decode cX10_undo 37 = .ok (.bipush 8, 2) := by decide +kernel
theorem dX10_undo_39 : decode cX10_undo 39 = .ok (.irem, 1) := by decide +kernel
theorem dX10_undo_40 : decode cX10_undo 40 = .ok (.istore_n 1, 1) := by decide +kernel
theorem dX10_undo_41 : decode cX10_undo 41 = .ok (.iconst 0, 1) := by decide +kernel
theorem dX10_undo_42 : decode cX10_undo 42 = .ok (.istore_n 2, 1) := by decide +kernel
theorem dX10_undo_43 : decode cX10_undo 43 = .ok (.iload_n 2, 1) := by decide +kernel
theorem dX10_undo_44 : decode cX10_undo 44 = .ok (.sipush 218, 3) := by decide +kernel
theorem dX10_undo_47 : decode cX10_undo 47 = .ok (.if_icmp .ge 27, 3) := by decide +kernel
theorem dX10_undo_50 : decode cX10_undo 50 = .ok (.aload_n 0, 1) := by decide +kernel
theorem dX10_undo_51 : decode cX10_undo 51 = .ok (.getfield 13, 3) := by decide +kernel
theorem dX10_undo_54 : decode cX10_undo 54 = .ok (.iload_n 2, 1) := by decide +kernel
theorem dX10_undo_55 : decode cX10_undo 55 = .ok (.aload_n 0, 1) := by decide +kernel
theorem dX10_undo_56 : decode cX10_undo 56 = .ok (.getfield 17, 3) := by decide +kernel
theorem dX10_undo_59 : decode cX10_undo 59 = .ok (.sipush 218, 3) := by decide +kernel
theorem dX10_undo_62 : decode cX10_undo 62 = .ok (.iload_n 1, 1) := by decide +kernel
theorem dX10_undo_63 : decode cX10_undo 63 = .ok (.imul, 1) := by decide +kernel
theorem dX10_undo_64 : decode cX10_undo 64 = .ok (.iload_n 2, 1) := by decide +kernel
theorem dX10_undo_65 : decode cX10_undo 65 = .ok (.iadd, 1) := by decide +kernel
theorem dX10_undo_66 : decode cX10_undo 66 = .ok (.iaload, 1) := by decide +kernel
theorem dX10_undo_67 : decode cX10_undo 67 = .ok (.iastore, 1) := by decide +kernel
theorem dX10_undo_68 : decode cX10_undo 68 = .ok (.iinc 2 1, 3) := by decide +kernel
theorem dX10_undo_71 : decode cX10_undo 71 = .ok (.goto (-28), 3) := by decide +kernel
theorem dX10_undo_74 : decode cX10_undo 74 = .ok (.aload_n 0, 1) := by decide +kernel
theorem dX10_undo_75 : decode cX10_undo 75 = .ok (.getfield 42, 3) := by decide +kernel
theorem dX10_undo_78 : decode cX10_undo 78 = .ok (.ireturn, 1) := by decide +kernel
theorem dX10_save_0 : decode cX10_save 0 = .ok (.aload_n 0, 1) := by decide +kernel
theorem dX10_save_1 : decode cX10_save 1 = .ok (.iconst 0, 1) := by decide +kernel
theorem dX10_save_2 : decode cX10_save 2 = .ok (.putfield 1, 3) := by decide +kernel
theorem dX10_save_5 : decode cX10_save 5 = .ok (.iconst 0, 1) := by decide +kernel
theorem dX10_save_6 : decode cX10_save 6 = .ok (.istore_n 1, 1) := by decide +kernel
theorem dX10_save_7 : decode cX10_save 7 = .ok (.iload_n 1, 1) := by decide +kernel
theorem dX10_save_8 : decode cX10_save 8 = .ok (.sipush 218, 3) := by decide +kernel
theorem dX10_save_11 : decode cX10_save 11 = .ok (.if_icmp .ge 21, 3) := by decide +kernel
theorem dX10_save_14 : decode cX10_save 14 = .ok (.aload_n 0, 1) := by decide +kernel
theorem dX10_save_15 : decode cX10_save 15 = .ok (.getfield 20, 3) := by decide +kernel
theorem dX10_save_18 : decode cX10_save 18 = .ok (.iload_n 1, 1) := by decide +kernel
theorem dX10_save_19 : decode cX10_save 19 = .ok (.aload_n 0, 1) := by decide +kernel
theorem dX10_save_20 : decode cX10_save 20 = .ok (.getfield 13, 3) := by decide +kernel
theorem dX10_save_23 : decode cX10_save 23 = .ok (.iload_n 1, 1) := by decide +kernel
theorem dX10_save_24 : decode cX10_save 24 = .ok (.iaload, 1) := by decide +kernel
theorem dX10_save_25 : decode cX10_save 25 = .ok (.iastore, 1) := by decide +kernel
theorem dX10_save_26 : decode cX10_save 26 = .ok (.iinc 1 1, 3) := by decide +kernel
theorem dX10_save_29 : decode cX10_save 29 = .ok (.goto (-22), 3) := by decide +kernel
theorem dX10_save_32 : decode cX10_save 32 = .ok (.aload_n 0, 1) := by decide +kernel
theorem dX10_save_33 : decode cX10_save 33 = .ok (.iconst 1, 1) := by decide +kernel
theorem dX10_save_34 : decode cX10_save 34 = .ok (.putfield 291, 3) := by decide +kernel
theorem dX10_save_37 : decode cX10_save 37 = .ok (.aload_n 0, 1) := by decide +kernel
theorem dX10_save_38 : decode cX10_save 38 = .ok (.getfield 13, 3) := by decide +kernel
theorem dX10_save_41 : decode cX10_save 41 = .ok (.iconst 2, 1) := by decide +kernel
theorem dX10_save_42 : decode cX10_save 42 = .ok (.iaload, 1) := by decide +kernel
theorem dX10_save_43 : decode cX10_save 43 = .ok (.ireturn, 1) := by decide +kernel
theorem dX10_restore_0 : decode cX10_restore 0 = .ok (.aload_n 0, 1) := by decide +kernel
theorem dX10_restore_1 : decode cX10_restore 1 = .ok (.iconst 0, 1) := by decide +kernel
theorem dX10_restore_2 : decode cX10_restore 2 = .ok (.putfield 1, 3) := by decide +kernel
theorem dX10_restore_5 : decode cX10_restore 5 = .ok (.aload_n 0, 1) := by decide +kernel
theorem dX10_restore_6 : decode cX10_restore 6 = .ok (.getfield 291, 3) := by decide +kernel
theorem dX10_restore_9 : decode cX10_restore 9 = .ok (.ifCond .ne 9, 3) := by decide +kernel
theorem dX10_restore_12 : decode cX10_restore 12 = .ok (.aload_n 0, 1) := by decide +kernel
theorem dX10_restore_13 : decode cX10_restore 13 = .ok (.iconst 1, 1) := by decide +kernel
theorem dX10_restore_14 : decode cX10_restore 14 = .ok (.invokevirtual 79, 3) := by decide +kernel
theorem dX10_restore_17 : decode cX10_restore 17 = .ok (.ireturn, 1) := by decide +kernel
theorem dX10_restore_18 : decode cX10_restore 18 = .ok (.iconst 0, 1) := by decide +kernel
theorem dX10_restore_19 : decode cX10_restore 19 = .ok (.istore_n 1, 1) := by decide +kernel
theorem dX10_restore_20 : decode cX10_restore 20 = .ok (.iload_n 1, 1) := by decide +kernel
theorem dX10_restore_21 : decode cX10_restore 21 = .ok (.sipush 218, 3) := by decide +kernel
theorem dX10_restore_24 : decode cX10_restore 24 = .ok (.if_icmp .ge 21, 3) := by decide +kernel
theorem dX10_restore_27 : decode cX10_restore 27 = .ok (.aload_n 0, 1) := by decide +kernel
theorem dX10_restore_28 : decode cX10_restore 28 = .ok (.getfield 13, 3) := by decide +kernel
theorem dX10_restore_31 : decode cX10_restore 31 = .ok (.iload_n 1, 1) := by decide +kernel
theorem dX10_restore_32 : decode cX10_restore 32 = .ok (.aload_n 0, 1) := by decide +kernel
theorem dX10_restore_33 : decode cX10_restore 33 = .ok (.getfield 20, 3) := by decide +kernel
theorem dX10_restore_36 : decode cX10_restore 36 = .ok (.iload_n 1, 1) := by decide +kernel
theorem dX10_restore_37 : decode cX10_restore 37 = .ok (.iaload, 1) := by decide +kernel
theorem dX10_restore_38 : decode cX10_restore 38 = .ok (.iastore, 1) := by decide +kernel
theorem dX10_restore_39 : decode cX10_restore 39 = .ok (.iinc 1 1, 3) := by decide +kernel
theorem dX10_restore_42 : decode cX10_restore 42 = .ok (.goto (-22), 3) := by decide +kernel
theorem dX10_restore_45 : decode cX10_restore 45 = .ok (.aload_n 0, 1) := by decide +kernel
theorem dX10_restore_46 : decode cX10_restore 46 = .ok (.iconst 0, 1) := by decide +kernel
theorem dX10_restore_47 : decode cX10_restore 47 = .ok (.putfield 42, 3) := by decide +kernel
theorem dX10_restore_50 : decode cX10_restore 50 = .ok (.aload_n 0, 1) := by decide +kernel
theorem dX10_restore_51 : decode cX10_restore 51 = .ok (.iconst 0, 1) := by decide +kernel
theorem dX10_restore_52 : decode cX10_restore 52 = .ok (.putfield 45, 3) := by decide +kernel
theorem dX10_restore_55 : decode cX10_restore 55 = .ok (.aload_n 0, 1) := by decide +kernel
theorem dX10_restore_56 : decode cX10_restore 56 = .ok (.getfield 13, 3) := by decide +kernel
theorem dX10_restore_59 : decode cX10_restore 59 = .ok (.iconst 2, 1) := by decide +kernel
theorem dX10_restore_60 : decode cX10_restore 60 = .ok (.iaload, 1) := by decide +kernel
theorem dX10_restore_61 : decode cX10_restore 61 = .ok (.ireturn, 1) := by decide +kernel
