theorem dX1_init_0 : decode cX1_init 0 = .ok (.aload_n 0, 1) := by decide +kernel
theorem dX1_init_1 : decode cX1_init 1 = .ok (.invokespecial 3, 3) := by decide +kernel
theorem dX1_init_4 : decode cX1_init 4 = .ok (.aload_n 0, 1) := by decide +kernel
theorem dX1_init_5 : decode cX1_init 5 = .ok (.iconst 0, 1) := by decide +kernel
theorem dX1_init_6 : decode cX1_init 6 = .ok (.putfield 9, 3) := by decide +kernel
theorem dX1_init_9 : decode cX1_init 9 = .ok (.aload_n 0, 1) := by decide +kernel
theorem dX1_init_10 : decode cX1_init 10 = .ok (.iconst 0, 1) := by decide +kernel
theorem dX1_init_11 : decode cX1_init 11 = .ok (.putfield 15, 3) := by decide +kernel
theorem dX1_init_14 : decode cX1_init 14 = .ok (.aload_n 0, 1) := by decide +kernel
theorem dX1_init_15 : decode cX1_init 15 = .ok (.iconst 4, 1) := by decide +kernel
theorem dX1_init_16 : decode cX1_init 16 = .ok (.newarray .int, 2) := by decide +kernel
theorem dX1_init_18 : decode cX1_init 18 = .ok (.putfield 18, 3) := by decide +kernel
theorem dX1_init_21 : decode cX1_init 21 = .ok (.return_, 1) := by decide +kernel
theorem dX1_begin_0 : decode cX1_begin 0 = .ok (.aload_n 0, 1) := by decide +kernel
theorem dX1_begin_1 : decode cX1_begin 1 = .ok (.iload_n 1, 1) := by decide +kernel
theorem dX1_begin_2 : decode cX1_begin 2 = .ok (.putfield 9, 3) := by decide +kernel
theorem dX1_begin_5 : decode cX1_begin 5 = .ok (.aload_n 0, 1) := by decide +kernel
theorem dX1_begin_6 : decode cX1_begin 6 = .ok (.iconst 0, 1) := by decide +kernel
theorem dX1_begin_7 : decode cX1_begin 7 = .ok (.putfield 15, 3) := by decide +kernel
theorem dX1_begin_10 : decode cX1_begin 10 = .ok (.iconst 0, 1) := by decide +kernel
theorem dX1_begin_11 : decode cX1_begin 11 = .ok (.istore_n 2, 1) := by decide +kernel
theorem dX1_begin_12 : decode cX1_begin 12 = .ok (.iload_n 2, 1) := by decide +kernel
theorem dX1_begin_13 : decode cX1_begin 13 = .ok (.iconst 4, 1) := by decide +kernel
theorem dX1_begin_14 : decode cX1_begin 14 = .ok (.if_icmp .ge 16, 3) := by decide +kernel
theorem dX1_begin_17 : decode cX1_begin 17 = .ok (.aload_n 0, 1) := by decide +kernel
theorem dX1_begin_18 : decode cX1_begin 18 = .ok (.getfield 18, 3) := by decide +kernel
theorem dX1_begin_21 : decode cX1_begin 21 = .ok (.iload_n 2, 1) := by decide +kernel
theorem dX1_begin_22 : decode cX1_begin 22 = .ok (.iconst 0, 1) := by decide +kernel
theorem dX1_begin_23 : decode cX1_begin 23 = .ok (.iastore, 1) := by decide +kernel
theorem dX1_begin_24 : decode cX1_begin 24 = .ok (.iinc 2 1, 3) := by decide +kernel
theorem dX1_begin_27 : decode cX1_begin 27 = .ok (.goto (-15), 3) := by decide +kernel
theorem dX1_begin_30 : decode cX1_begin 30 = .ok (.return_, 1) := by decide +kernel
theorem dX1_mayBorrow_0 : decode cX1_mayBorrow 0 = .ok (.aload_n 0, 1) := by decide +kernel
theorem dX1_mayBorrow_1 : decode cX1_mayBorrow 1 = .ok (.getfield 15, 3) := by decide +kernel
theorem dX1_mayBorrow_4 : decode cX1_mayBorrow 4 = .ok (.iconst 2, 1) := by decide +kernel
theorem dX1_mayBorrow_5 : decode cX1_mayBorrow 5 = .ok (.if_icmp .ge 7, 3) := by decide +kernel
theorem dX1_mayBorrow_8 : decode cX1_mayBorrow 8 = .ok (.iconst 1, 1) := by decide +kernel
theorem dX1_mayBorrow_9 : decode cX1_mayBorrow 9 = .ok (.goto 4, 3) := by decide +kernel
theorem dX1_mayBorrow_12 : decode cX1_mayBorrow 12 = .ok (.iconst 0, 1) := by decide +kernel
theorem dX1_mayBorrow_13 : decode cX1_mayBorrow 13 = .ok (.ireturn, 1) := by decide +kernel
theorem dX1_copyFrom_0 : decode cX1_copyFrom 0 = .ok (.aload_n 0, 1) := by decide +kernel
theorem dX1_copyFrom_1 : decode cX1_copyFrom 1 = .ok (.aload_n 1, 1) := by decide +kernel
theorem dX1_copyFrom_2 : decode cX1_copyFrom 2 = .ok (.getfield 9, 3) := by decide +kernel
theorem dX1_copyFrom_5 : decode cX1_copyFrom 5 = .ok (.putfield 9, 3) := by decide +kernel
theorem dX1_copyFrom_8 : decode cX1_copyFrom 8 = .ok (.aload_n 0, 1) := by decide +kernel
theorem dX1_copyFrom_9 : decode cX1_copyFrom 9 = .ok (.aload_n 1, 1) := by decide +kernel
theorem dX1_copyFrom_10 : decode cX1_copyFrom 10 = .ok (.getfield 15, 3) := by decide +kernel
theorem dX1_copyFrom_13 : decode cX1_copyFrom 13 = .ok (.putfield 15, 3) := by decide +kernel
theorem dX1_copyFrom_16 : decode cX1_copyFrom 16 = .ok (.aload_n 1, 1) := by decide +kernel
theorem dX1_copyFrom_17 : decode cX1_copyFrom 17 = .ok (.getfield 18, 3) := by decide +kernel
theorem dX1_copyFrom_20 : decode cX1_copyFrom 20 = .ok (.iconst 0, 1) := by decide +kernel
theorem dX1_copyFrom_21 : decode cX1_copyFrom 21 = .ok (.aload_n 0, 1) := by decide +kernel
theorem dX1_copyFrom_22 : decode cX1_copyFrom 22 = .ok (.getfield 18, 3) := by decide +kernel
theorem dX1_copyFrom_25 : decode cX1_copyFrom 25 = .ok (.iconst 0, 1) := by decide +kernel
theorem dX1_copyFrom_26 : decode cX1_copyFrom 26 = .ok (.iconst 4, 1) := by decide +kernel
theorem dX1_copyFrom_27 : decode cX1_copyFrom 27 = .ok (.invokestatic 22, 3) := by decide +kernel
theorem dX1_copyFrom_30 : decode cX1_copyFrom 30 = .ok (.return_, 1) := by decide +kernel
theorem dX2_init_0 : decode cX2_init 0 = .ok (.aload_n 0, 1) := by decide +kernel
theorem dX2_init_1 : decode cX2_init 1 = .ok (.invokespecial 3, 3) := by decide +kernel
theorem dX2_init_4 : decode cX2_init 4 = .ok (.aload_n 0, 1) := by decide +kernel
theorem dX2_init_5 : decode cX2_init 5 = .ok (.iconst 0, 1) := by decide +kernel
theorem dX2_init_6 : decode cX2_init 6 = .ok (.putfield 9, 3) := by decide +kernel
theorem dX2_init_9 : decode cX2_init 9 = .ok (.aload_n 0, 1) := by decide +kernel
theorem dX2_init_10 : decode cX2_init 10 = .ok (.getstatic 15, 3) := by decide +kernel
theorem dX2_init_13 : decode cX2_init 13 = .ok (.putfield 21, 3) := by decide +kernel
theorem dX2_init_16 : decode cX2_init 16 = .ok (.aload_n 0, 1) := by decide +kernel
theorem dX2_init_17 : decode cX2_init 17 = .ok (.iconst 5, 1) := by decide +kernel
theorem dX2_init_18 : decode cX2_init 18 = .ok (.newarray .int, 2) := by decide +kernel
theorem dX2_init_20 : decode cX2_init 20 = .ok (.putfield 24, 3) := by decide +kernel
theorem dX2_init_23 : decode cX2_init 23 = .ok (.aload_n 0, 1) := by decide +kernel
theorem dX2_init_24 : decode cX2_init 24 = .ok (.bipush 60, 2) := by decide +kernel
theorem dX2_init_26 : decode cX2_init 26 = .ok (.newarray .char, 2) := by decide +kernel
theorem dX2_init_28 : decode cX2_init 28 = .ok (.putfield 28, 3) := by decide +kernel
theorem dX2_init_31 : decode cX2_init 31 = .ok (.aload_n 0, 1) := by decide +kernel
theorem dX2_init_32 : decode cX2_init 32 = .ok (.iconst 0, 1) := by decide +kernel
theorem dX2_init_33 : decode cX2_init 33 = .ok (.putfield 32, 3) := by decide +kernel
theorem dX2_init_36 : decode cX2_init 36 = .ok (.return_, 1) := by decide +kernel
theorem dX2_open_0 : decode cX2_open 0 = .ok (.aload_n 0, 1) := by decide +kernel
theorem dX2_open_1 : decode cX2_open 1 = .ok (.iconst 0, 1) := by decide +kernel
theorem dX2_open_2 : decode cX2_open 2 = .ok (.iload_n 2, 1) := by decide +kernel
theorem dX2_open_3 : decode cX2_open 3 = .ok (.aload_n 1, 1) := by decide +kernel
theorem dX2_open_4 : decode cX2_open 4 = .ok (.arraylength, 1) := by decide +kernel
theorem dX2_open_5 : decode cX2_open 5 = .ok (.bipush 60, 2) := by decide +kernel
theorem dX2_open_7 : decode cX2_open 7 = .ok (.invokestatic 35, 3) := by decide +kernel
theorem dX2_open_10 : decode cX2_open 10 = .ok (.invokestatic 35, 3) := by decide +kernel
theorem dX2_open_13 : decode cX2_open 13 = .ok (.invokestatic 41, 3) := by decide +kernel
theorem dX2_open_16 : decode cX2_open 16 = .ok (.putfield 32, 3) := by decide +kernel
theorem dX2_open_19 : decode cX2_open 19 = .ok (.aload_n 1, 1) := by decide +kernel
theorem dX2_open_20 : decode cX2_open 20 = .ok (.iconst 0, 1) := by decide +kernel
theorem dX2_open_21 : decode cX2_open 21 = .ok (.aload_n 0, 1) := by decide +kernel
theorem dX2_open_22 : decode cX2_open 22 = .ok (.getfield 28, 3) := by decide +kernel
theorem dX2_open_25 : decode cX2_open 25 = .ok (.iconst 0, 1) := by decide +kernel
theorem dX2_open_26 : decode cX2_open 26 = .ok (.aload_n 0, 1) := by decide +kernel
theorem dX2_open_27 : decode cX2_open 27 = .ok (.getfield 32, 3) := by decide +kernel
theorem dX2_open_30 : decode cX2_open 30 = .ok (.invokestatic 44, 3) := by decide +kernel
theorem dX2_open_33 : decode cX2_open 33 = .ok (.aload_n 0, 1) := by decide +kernel
theorem dX2_open_34 : decode cX2_open 34 = .ok (.iconst 0, 1) := by decide +kernel
theorem dX2_open_35 : decode cX2_open 35 = .ok (.putfield 9, 3) := by decide +kernel
theorem dX2_open_38 : decode cX2_open 38 = .ok (.return_, 1) := by decide +kernel
theorem dX2_isAtEnd_0 : decode cX2_isAtEnd 0 = .ok (.aload_n 0, 1) := by decide +kernel
theorem dX2_isAtEnd_1 : decode cX2_isAtEnd 1 = .ok (.getfield 9, 3) := by decide +kernel
theorem dX2_isAtEnd_4 : decode cX2_isAtEnd 4 = .ok (.aload_n 0, 1) := by decide +kernel
theorem dX2_isAtEnd_5 : decode cX2_isAtEnd 5 = .ok (.getfield 32, 3) := by decide +kernel
theorem dX2_isAtEnd_8 : decode cX2_isAtEnd 8 = .ok (.if_icmp .lt 7, 3) := by decide +kernel
theorem dX2_isAtEnd_11 : decode cX2_isAtEnd 11 = .ok (.iconst 1, 1) := by decide +kernel
theorem dX2_isAtEnd_12 : decode cX2_isAtEnd 12 = .ok (.goto 4, 3) := by decide +kernel
theorem dX2_isAtEnd_15 : decode cX2_isAtEnd 15 = .ok (.iconst 0, 1) := by decide +kernel
theorem dX2_isAtEnd_16 : decode cX2_isAtEnd 16 = .ok (.ireturn, 1) := by decide +kernel
theorem dX2_readCommand_0 : decode cX2_readCommand 0 = .ok (.aload_n 0, 1) := by decide +kernel
theorem dX2_readCommand_1 : decode cX2_readCommand 1 = .ok (.getfield 9, 3) := by decide +kernel
theorem dX2_readCommand_4 : decode cX2_readCommand 4 = .ok (.ifCond .le 14, 3) := by decide +kernel
theorem dX2_readCommand_7 : decode cX2_readCommand 7 = .ok (.aload_n 0, 1) := by decide +kernel
theorem dX2_readCommand_8 : decode cX2_readCommand 8 = .ok (.bipush 59, 2) := by decide +kernel
theorem dX2_readCommand_10 : decode cX2_readCommand 10 = .ok (.invokevirtual 50, 3) := by decide +kernel
theorem dX2_readCommand_13 : decode cX2_readCommand 13 = .ok (.ifCond .ne 5, 3) := by decide +kernel
theorem dX2_readCommand_16 : decode cX2_readCommand 16 = .ok (.iconst 0, 1) := by decide +kernel
theorem dX2_readCommand_17 : decode cX2_readCommand 17 = .ok (.ireturn, 1) := by decide +kernel
theorem dX2_readCommand_18 : decode cX2_readCommand 18 = .ok (.aload_n 0, 1) := by decide +kernel
theorem dX2_readCommand_19 : decode cX2_readCommand 19 = .ok (.invokevirtual 54, 3) := by decide +kernel
theorem dX2_readCommand_22 : decode cX2_readCommand 22 = .ok (.ifCond .eq 14, 3) := by decide +kernel
theorem dX2_readCommand_25 : decode cX2_readCommand 25 = .ok (.aload_n 0, 1) := by decide +kernel
theorem dX2_readCommand_26 : decode cX2_readCommand 26 = .ok (.invokevirtual 58, 3) := by decide +kernel
theorem dX2_readCommand_29 : decode cX2_readCommand 29 = .ok (.ifCond .eq 7, 3) := by decide +kernel
theorem dX2_readCommand_32 : decode cX2_readCommand 32 = .ok (.iconst 1, 1) := by decide +kernel
theorem dX2_readCommand_33 : decode cX2_readCommand 33 = .ok (.goto 4, 3) := by decide +kernel
theorem dX2_readCommand_36 : decode cX2_readCommand 36 = .ok (.iconst 0, 1) := by decide +kernel
theorem dX2_readCommand_37 : decode cX2_readCommand 37 = .ok (.ireturn, 1) := by decide +kernel
theorem dX2_readSign_0 : decode cX2_readSign 0 = .ok (.aload_n 0, 1) := by decide +kernel
theorem dX2_readSign_1 : decode cX2_readSign 1 = .ok (.invokevirtual 61, 3) := by decide +kernel
theorem dX2_readSign_4 : decode cX2_readSign 4 = .ok (.ifCond .ne 16, 3) := by decide +kernel
theorem dX2_readSign_7 : decode cX2_readSign 7 = .ok (.aload_n 0, 1) := by decide +kernel
theorem dX2_readSign_8 : decode cX2_readSign 8 = .ok (.getfield 28, 3) := by decide +kernel
theorem dX2_readSign_11 : decode cX2_readSign 11 = .ok (.aload_n 0, 1) := by decide +kernel
theorem dX2_readSign_12 : decode cX2_readSign 12 = .ok (.getfield 9, 3) := by decide +kernel
theorem dX2_readSign_15 : decode cX2_readSign 15 = .ok (.caload, 1) := by decide +kernel
theorem dX2_readSign_16 : decode cX2_readSign 16 = .ok (.iload_n 1, 1) := by decide +kernel
theorem dX2_readSign_17 : decode cX2_readSign 17 = .ok (.if_icmp .eq 5, 3) := by decide +kernel
theorem dX2_readSign_20 : decode cX2_readSign 20 = .ok (.iconst 0, 1) := by decide +kernel
theorem dX2_readSign_21 : decode cX2_readSign 21 = .ok (.ireturn, 1) := by decide +kernel
theorem dX2_readSign_22 : decode cX2_readSign 22 = .ok (.aload_n 0, 1) := by decide +kernel
theorem dX2_readSign_23 : decode cX2_readSign 23 = .ok (.dup, 1) := by decide +kernel
theorem dX2_readSign_24 : decode cX2_readSign 24 = .ok (.getfield 9, 3) := by decide +kernel
theorem dX2_readSign_27 : decode cX2_readSign 27 = .ok (.iconst 1, 1) := by decide +kernel
theorem dX2_readSign_28 : decode cX2_readSign 28 = .ok (.iadd, 1) := by decide +kernel
theorem dX2_readSign_29 : decode cX2_readSign 29 = .ok (.putfield 9, 3) := by decide +kernel
theorem dX2_readSign_32 : decode cX2_readSign 32 = .ok (.iconst 1, 1) := by decide +kernel
theorem dX2_readSign_33 : decode cX2_readSign 33 = .ok (.ireturn, 1) := by decide +kernel
theorem dX2_readVerb_0 : decode cX2_readVerb 0 = .ok (.iconst 0, 1) := by decide +kernel
theorem dX2_readVerb_1 : decode cX2_readVerb 1 = .ok (.istore_n 1, 1) := by decide +kernel
theorem dX2_readVerb_2 : decode cX2_readVerb 2 = .ok (.iconst 0, 1) := by decide +kernel
theorem dX2_readVerb_3 : decode cX2_readVerb 3 = .ok (.istore_n 2, 1) := by decide +kernel
theorem dX2_readVerb_4 : decode cX2_readVerb 4 = .ok (.iload_n 2, 1) := by decide +kernel
theorem dX2_readVerb_5 : decode cX2_readVerb 5 = .ok (.getstatic 64, 3) := by decide +kernel
theorem dX2_readVerb_8 : decode cX2_readVerb 8 = .ok (.arraylength, 1) := by decide +kernel
theorem dX2_readVerb_9 : decode cX2_readVerb 9 = .ok (.if_icmp .ge 64, 3) := by decide +kernel
theorem dX2_readVerb_12 : decode cX2_readVerb 12 = .ok (.aload_n 0, 1) := by decide +kernel
theorem dX2_readVerb_13 : decode cX2_readVerb 13 = .ok (.getstatic 64, 3) := by decide +kernel
theorem dX2_readVerb_16 : decode cX2_readVerb 16 = .ok (.iload_n 2, 1) := by decide +kernel
theorem dX2_readVerb_17 : decode cX2_readVerb 17 = .ok (.aaload, 1) := by decide +kernel
theorem dX2_readVerb_18 : decode cX2_readVerb 18 = .ok (.getfield 68, 3) := by decide +kernel
theorem dX2_readVerb_21 : decode cX2_readVerb 21 = .ok (.invokevirtual 72, 3) := by decide +kernel
theorem dX2_readVerb_24 : decode cX2_readVerb 24 = .ok (.istore_n 3, 1) := by decide +kernel
theorem dX2_readVerb_25 : decode cX2_readVerb 25 = .ok (.iload_n 1, 1) := by decide +kernel
theorem dX2_readVerb_26 : decode cX2_readVerb 26 = .ok (.iload_n 3, 1) := by decide +kernel
theorem dX2_readVerb_27 : decode cX2_readVerb 27 = .ok (.invokestatic 41, 3) := by decide +kernel
theorem dX2_readVerb_30 : decode cX2_readVerb 30 = .ok (.istore_n 1, 1) := by decide +kernel
theorem dX2_readVerb_31 : decode cX2_readVerb 31 = .ok (.iload_n 3, 1) := by decide +kernel
theorem dX2_readVerb_32 : decode cX2_readVerb 32 = .ok (.getstatic 64, 3) := by decide +kernel
theorem dX2_readVerb_35 : decode cX2_readVerb 35 = .ok (.iload_n 2, 1) := by decide +kernel
theorem dX2_readVerb_36 : decode cX2_readVerb 36 = .ok (.aaload, 1) := by decide +kernel
theorem dX2_readVerb_37 : decode cX2_readVerb 37 = .ok (.getfield 68, 3) := by decide +kernel
theorem dX2_readVerb_40 : decode cX2_readVerb 40 = .ok (.invokevirtual 76, 3) := by decide +kernel
theorem dX2_readVerb_43 : decode cX2_readVerb 43 = .ok (.if_icmp .ne 24, 3) := by decide +kernel
theorem dX2_readVerb_46 : decode cX2_readVerb 46 = .ok (.aload_n 0, 1) := by decide +kernel
theorem dX2_readVerb_47 : decode cX2_readVerb 47 = .ok (.getstatic 64, 3) := by decide +kernel
theorem dX2_readVerb_50 : decode cX2_readVerb 50 = .ok (.iload_n 2, 1) := by decide +kernel
theorem dX2_readVerb_51 : decode cX2_readVerb 51 = .ok (.aaload, 1) := by decide +kernel
theorem dX2_readVerb_52 : decode cX2_readVerb 52 = .ok (.putfield 21, 3) := by decide +kernel
theorem dX2_readVerb_55 : decode cX2_readVerb 55 = .ok (.aload_n 0, 1) := by decide +kernel
theorem dX2_readVerb_56 : decode cX2_readVerb 56 = .ok (.dup, 1) := by decide +kernel
theorem dX2_readVerb_57 : decode cX2_readVerb 57 = .ok (.getfield 9, 3) := by decide +kernel
theorem dX2_readVerb_60 : decode cX2_readVerb 60 = .ok (.iload_n 3, 1) := by decide +kernel
theorem dX2_readVerb_61 : decode cX2_readVerb 61 = .ok (.iadd, 1) := by decide +kernel
theorem dX2_readVerb_62 : decode cX2_readVerb 62 = .ok (.putfield 9, 3) := by decide +kernel
theorem dX2_readVerb_65 : decode cX2_readVerb 65 = .ok (.iconst 1, 1) := by decide +kernel
theorem dX2_readVerb_66 : decode cX2_readVerb 66 = .ok (.ireturn, 1) := by decide +kernel
theorem dX2_readVerb_67 : decode cX2_readVerb 67 = .ok (.iinc 2 1, 3) := by decide +kernel
theorem dX2_readVerb_70 : decode cX2_readVerb 70 = .ok (.goto (-66), 3) := by decide +kernel
theorem dX2_readVerb_73 : decode cX2_readVerb 73 = .ok (.aload_n 0, 1) := by decide +kernel
theorem dX2_readVerb_74 : decode cX2_readVerb 74 = .ok (.dup, 1) := by decide +kernel
theorem dX2_readVerb_75 : decode cX2_readVerb 75 = .ok (.getfield 9, 3) := by decide +kernel
theorem dX2_readVerb_78 : decode cX2_readVerb 78 = .ok (.iload_n 1, 1) := by decide +kernel
theorem dX2_readVerb_79 : decode cX2_readVerb 79 = .ok (.iadd, 1) := by decide +kernel
theorem dX2_readVerb_80 : decode cX2_readVerb 80 = .ok (.putfield 9, 3) := by decide +kernel
theorem dX2_readVerb_83 : decode cX2_readVerb 83 = .ok (.iconst 0, 1) := by decide +kernel
theorem dX2_readVerb_84 : decode cX2_readVerb 84 = .ok (.ireturn, 1) := by decide +kernel
theorem dX2_matchedLength_0 : decode cX2_matchedLength 0 = .ok (.iconst 0, 1) := by decide +kernel
theorem dX2_matchedLength_1 : decode cX2_matchedLength 1 = .ok (.istore_n 2, 1) := by decide +kernel
theorem dX2_matchedLength_2 : decode cX2_matchedLength 2 = .ok (.iload_n 2, 1) := by decide +kernel
theorem dX2_matchedLength_3 : decode cX2_matchedLength 3 = .ok (.aload_n 1, 1) := by decide +kernel
theorem dX2_matchedLength_4 : decode cX2_matchedLength 4 = .ok (.invokevirtual 76, 3) := by decide +kernel
theorem dX2_matchedLength_7 : decode cX2_matchedLength 7 = .ok (.if_icmp .ge 41, 3) := by decide +kernel
theorem dX2_matchedLength_10 : decode cX2_matchedLength 10 = .ok (.aload_n 0, 1) := by decide +kernel
theorem dX2_matchedLength_11 : decode cX2_matchedLength 11 = .ok (.getfield 9, 3) := by decide +kernel
theorem dX2_matchedLength_14 : decode cX2_matchedLength 14 = .ok (.iload_n 2, 1) := by decide +kernel
theorem dX2_matchedLength_15 : decode cX2_matchedLength 15 = .ok (.iadd, 1) := by decide +kernel
theorem dX2_matchedLength_16 : decode cX2_matchedLength 16 = .ok (.aload_n 0, 1) := by decide +kernel
theorem dX2_matchedLength_17 : decode cX2_matchedLength 17 = .ok (.getfield 32, 3) := by decide +kernel
theorem dX2_matchedLength_20 : decode cX2_matchedLength 20 = .ok (.if_icmp .ge 28, 3) := by decide +kernel
theorem dX2_matchedLength_23 : decode cX2_matchedLength 23 = .ok (.aload_n 0, 1) := by decide +kernel
theorem dX2_matchedLength_24 : decode cX2_matchedLength 24 = .ok (.getfield 28, 3) := by decide +kernel
theorem dX2_matchedLength_27 : decode cX2_matchedLength 27 = .ok (.aload_n 0, 1) := by decide +kernel
theorem dX2_matchedLength_28 : decode cX2_matchedLength 28 = .ok (.getfield 9, 3) := by decide +kernel
theorem dX2_matchedLength_31 : decode cX2_matchedLength 31 = .ok (.iload_n 2, 1) := by decide +kernel
theorem dX2_matchedLength_32 : decode cX2_matchedLength 32 = .ok (.iadd, 1) := by decide +kernel
theorem dX2_matchedLength_33 : decode cX2_matchedLength 33 = .ok (.caload, 1) := by decide +kernel
theorem dX2_matchedLength_34 : decode cX2_matchedLength 34 = .ok (.aload_n 1, 1) := by decide +kernel
theorem dX2_matchedLength_35 : decode cX2_matchedLength 35 = .ok (.iload_n 2, 1) := by decide +kernel
theorem dX2_matchedLength_36 : decode cX2_matchedLength 36 = .ok (.invokevirtual 81, 3) := by decide +kernel
theorem dX2_matchedLength_39 : decode cX2_matchedLength 39 = .ok (.if_icmp .ne 9, 3) := by decide +kernel
theorem dX2_matchedLength_42 : decode cX2_matchedLength 42 = .ok (.iinc 2 1, 3) := by decide +kernel
theorem dX2_matchedLength_45 : decode cX2_matchedLength 45 = .ok (.goto (-43), 3) := by decide +kernel
theorem dX2_matchedLength_48 : decode cX2_matchedLength 48 = .ok (.iload_n 2, 1) := by decide +kernel
theorem dX2_matchedLength_49 : decode cX2_matchedLength 49 = .ok (.ireturn, 1) := by decide +kernel
theorem dX2_readArguments_0 : decode cX2_readArguments 0 = .ok (.aload_n 0, 1) := by decide +kernel
theorem dX2_readArguments_1 : decode cX2_readArguments 1 = .ok (.getfield 21, 3) := by decide +kernel
theorem dX2_readArguments_4 : decode cX2_readArguments 4 = .ok (.getfield 85, 3) := by decide +kernel
theorem dX2_readArguments_7 : decode cX2_readArguments 7 = .ok (.astore_n 1, 1) := by decide +kernel
theorem dX2_readArguments_8 : decode cX2_readArguments 8 = .ok (.iconst 0, 1) := by decide +kernel
theorem dX2_readArguments_9 : decode cX2_readArguments 9 = .ok (.istore_n 2, 1) := by decide +kernel
theorem dX2_readArguments_10 : decode cX2_readArguments 10 = .ok (.iload_n 2, 1) := by decide +kernel
theorem dX2_readArguments_11 : decode cX2_readArguments 11 = .ok (.aload_n 1, 1) := by decide +kernel
theorem dX2_readArguments_12 : decode cX2_readArguments 12 = .ok (.invokevirtual 76, 3) := by decide +kernel
theorem dX2_readArguments_15 : decode cX2_readArguments 15 = .ok (.if_icmp .ge 69, 3) := by decide +kernel
theorem dX2_readArguments_18 : decode cX2_readArguments 18 = .ok (.iload_n 2, 1) := by decide +kernel
theorem dX2_readArguments_19 : decode cX2_readArguments 19 = .ok (.iconst 5, 1) := by decide +kernel
theorem dX2_readArguments_20 : decode cX2_readArguments 20 = .ok (.if_icmp .ge 64, 3) := by decide +kernel
theorem dX2_readArguments_23 : decode cX2_readArguments 23 = .ok (.iload_n 2, 1) := by decide +kernel
theorem dX2_readArguments_24 : decode cX2_readArguments 24 = .ok (.ifCond .le 14, 3) := by decide +kernel
theorem dX2_readArguments_27 : decode cX2_readArguments 27 = .ok (.aload_n 0, 1) := by decide +kernel
theorem dX2_readArguments_28 : decode cX2_readArguments 28 = .ok (.bipush 32, 2) := by decide +kernel
theorem dX2_readArguments_30 : decode cX2_readArguments 30 = .ok (.invokevirtual 50, 3) := by decide +kernel
theorem dX2_readArguments_33 : decode cX2_readArguments 33 = .ok (.ifCond .ne 5, 3) := by decide +kernel
theorem dX2_readArguments_36 : decode cX2_readArguments 36 = .ok (.iconst 0, 1) := by decide +kernel
theorem dX2_readArguments_37 : decode cX2_readArguments 37 = .ok (.ireturn, 1) := by decide +kernel
theorem dX2_readArguments_38 : decode cX2_readArguments 38 = .ok (.aload_n 0, 1) := by decide +kernel
theorem dX2_readArguments_39 : decode cX2_readArguments 39 = .ok (.getfield 9, 3) := by decide +kernel
theorem dX2_readArguments_42 : decode cX2_readArguments 42 = .ok (.istore_n 3, 1) := by decide +kernel
theorem dX2_readArguments_43 : decode cX2_readArguments 43 = .ok (.aload_n 0, 1) := by decide +kernel
theorem dX2_readArguments_44 : decode cX2_readArguments 44 = .ok (.getfield 24, 3) := by decide +kernel
theorem dX2_readArguments_47 : decode cX2_readArguments 47 = .ok (.iload_n 2, 1) := by decide +kernel
theorem dX2_readArguments_48 : decode cX2_readArguments 48 = .ok (.aload_n 0, 1) := by decide +kernel
theorem dX2_readArguments_49 : decode cX2_readArguments 49 = .ok (.aload_n 1, 1) := by decide +kernel
theorem dX2_readArguments_50 : decode cX2_readArguments 50 = .ok (.iload_n 2, 1) := by decide +kernel
theorem dX2_readArguments_51 : decode cX2_readArguments 51 = .ok (.invokevirtual 81, 3) := by decide +kernel
theorem dX2_readArguments_54 : decode cX2_readArguments 54 = .ok (.bipush 100, 2) := by decide +kernel
theorem dX2_readArguments_56 : decode cX2_readArguments 56 = .ok (.if_icmp .ne 7, 3) := by decide +kernel
theorem dX2_readArguments_59 : decode cX2_readArguments 59 = .ok (.iconst 1, 1) := by decide +kernel
theorem dX2_readArguments_60 : decode cX2_readArguments 60 = .ok (.goto 4, 3) := by decide +kernel
theorem dX2_readArguments_63 : decode cX2_readArguments 63 = .ok (.iconst 3, 1) := by decide +kernel
theorem dX2_readArguments_64 : decode cX2_readArguments 64 = .ok (.invokevirtual 88, 3) := by decide +kernel
theorem dX2_readArguments_67 : decode cX2_readArguments 67 = .ok (.iastore, 1) := by decide +kernel
theorem dX2_readArguments_68 : decode cX2_readArguments 68 = .ok (.aload_n 0, 1) := by decide +kernel
theorem dX2_readArguments_69 : decode cX2_readArguments 69 = .ok (.getfield 9, 3) := by decide +kernel
theorem dX2_readArguments_72 : decode cX2_readArguments 72 = .ok (.iload_n 3, 1) := by decide +kernel
theorem dX2_readArguments_73 : decode cX2_readArguments 73 = .ok (.if_icmp .ne 5, 3) := by decide +kernel
theorem dX2_readArguments_76 : decode cX2_readArguments 76 = .ok (.iconst 0, 1) := by decide +kernel
theorem dX2_readArguments_77 : decode cX2_readArguments 77 = .ok (.ireturn, 1) := by decide +kernel
theorem dX2_readArguments_78 : decode cX2_readArguments 78 = .ok (.iinc 2 1, 3) := by decide +kernel
theorem dX2_readArguments_81 : decode cX2_readArguments 81 = .ok (.goto (-71), 3) := by decide +kernel
theorem dX2_readArguments_84 : decode cX2_readArguments 84 = .ok (.iconst 1, 1) := by decide +kernel
theorem dX2_readArguments_85 : decode cX2_readArguments 85 = .ok (.ireturn, 1) := by decide +kernel
theorem dX2_readNumber_0 : decode cX2_readNumber 0 = .ok (.iconst 0, 1) := by decide +kernel
theorem dX2_readNumber_1 : decode cX2_readNumber 1 = .ok (.istore_n 2, 1) := by decide +kernel
theorem dX2_readNumber_2 : decode cX2_readNumber 2 = .ok (.iconst 0, 1) := by decide +kernel
theorem dX2_readNumber_3 : decode cX2_readNumber 3 = .ok (.istore_n 3, 1) := by decide +kernel
theorem dX2_readNumber_4 : decode cX2_readNumber 4 = .ok (.iload_n 3, 1) := by decide +kernel
theorem dX2_readNumber_5 : decode cX2_readNumber 5 = .ok (.iload_n 1, 1) := by decide +kernel
theorem dX2_readNumber_6 : decode cX2_readNumber 6 = .ok (.if_icmp .ge 59, 3) := by decide +kernel
theorem dX2_readNumber_9 : decode cX2_readNumber 9 = .ok (.aload_n 0, 1) := by decide +kernel
theorem dX2_readNumber_10 : decode cX2_readNumber 10 = .ok (.invokevirtual 61, 3) := by decide +kernel
theorem dX2_readNumber_13 : decode cX2_readNumber 13 = .ok (.ifCond .ne 52, 3) := by decide +kernel
theorem dX2_readNumber_16 : decode cX2_readNumber 16 = .ok (.aload_n 0, 1) := by decide +kernel
theorem dX2_readNumber_17 : decode cX2_readNumber 17 = .ok (.getfield 28, 3) := by decide +kernel
theorem dX2_readNumber_20 : decode cX2_readNumber 20 = .ok (.aload_n 0, 1) := by decide +kernel
theorem dX2_readNumber_21 : decode cX2_readNumber 21 = .ok (.getfield 9, 3) := by decide +kernel
theorem dX2_readNumber_24 : decode cX2_readNumber 24 = .ok (.caload, 1) := by decide +kernel
theorem dX2_readNumber_25 : decode cX2_readNumber 25 = .ok (.invokestatic 92, 3) := by decide +kernel
theorem dX2_readNumber_28 : decode cX2_readNumber 28 = .ok (.ifCond .eq 37, 3) := by decide +kernel
theorem dX2_readNumber_31 : decode cX2_readNumber 31 = .ok (.bipush 10, 2) := by decide +kernel
theorem dX2_readNumber_33 : decode cX2_readNumber 33 = .ok (.iload_n 2, 1) := by decide +kernel
theorem dX2_readNumber_34 : decode cX2_readNumber 34 = .ok (.imul, 1) := by decide +kernel
theorem dX2_readNumber_35 : decode cX2_readNumber 35 = .ok (.aload_n 0, 1) := by decide +kernel
theorem dX2_readNumber_36 : decode cX2_readNumber 36 = .ok (.getfield 28, 3) := by decide +kernel
theorem dX2_readNumber_39 : decode cX2_readNumber 39 = .ok (.aload_n 0, 1) := by decide +kernel
theorem dX2_readNumber_40 : decode cX2_readNumber 40 = .ok (.getfield 9, 3) := by decide +kernel
theorem dX2_readNumber_43 : decode cX2_readNumber 43 = .ok (.caload, 1) := by decide +kernel
theorem dX2_readNumber_44 : decode cX2_readNumber 44 = .ok (.bipush 48, 2) := by decide +kernel
theorem dX2_readNumber_46 : decode cX2_readNumber 46 = .ok (.isub, 1) := by decide +kernel
theorem dX2_readNumber_47 : decode cX2_readNumber 47 = .ok (.iadd, 1) := by decide +kernel
theorem dX2_readNumber_48 : decode cX2_readNumber 48 = .ok (.istore_n 2, 1) := by decide +kernel
theorem dX2_readNumber_49 : decode cX2_readNumber 49 = .ok (.aload_n 0, 1) := by decide +kernel
theorem dX2_readNumber_50 : decode cX2_readNumber 50 = .ok (.dup, 1) := by decide +kernel
theorem dX2_readNumber_51 : decode cX2_readNumber 51 = .ok (.getfield 9, 3) := by decide +kernel
theorem dX2_readNumber_54 : decode cX2_readNumber 54 = .ok (.iconst 1, 1) := by decide +kernel
theorem dX2_readNumber_55 : decode cX2_readNumber 55 = .ok (.iadd, 1) := by decide +kernel
theorem dX2_readNumber_56 : decode cX2_readNumber 56 = .ok (.putfield 9, 3) := by decide +kernel
theorem dX2_readNumber_59 : decode cX2_readNumber 59 = .ok (.iinc 3 1, 3) := by decide +kernel
theorem dX2_readNumber_62 : decode cX2_readNumber 62 = .ok (.goto (-58), 3) := by decide +kernel
theorem dX2_readNumber_65 : decode cX2_readNumber 65 = .ok (.iload_n 2, 1) := by decide +kernel
theorem dX2_readNumber_66 : decode cX2_readNumber 66 = .ok (.ireturn, 1) := by decide +kernel
theorem dX2_isDigit_0 : decode cX2_isDigit 0 = .ok (.iload_n 0, 1) := by decide +kernel
theorem dX2_isDigit_1 : decode cX2_isDigit 1 = .ok (.bipush 48, 2) := by decide +kernel
theorem dX2_isDigit_3 : decode cX2_isDigit 3 = .ok (.if_icmp .lt 13, 3) := by decide +kernel
theorem dX2_isDigit_6 : decode cX2_isDigit 6 = .ok (.iload_n 0, 1) := by decide +kernel
theorem dX2_isDigit_7 : decode cX2_isDigit 7 = .ok (.bipush 57, 2) := by decide +kernel
theorem dX2_isDigit_9 : decode cX2_isDigit 9 = .ok (.if_icmp .gt 7, 3) := by decide +kernel
theorem dX2_isDigit_12 : decode cX2_isDigit 12 = .ok (.iconst 1, 1) := by decide +kernel
theorem dX2_isDigit_13 : decode cX2_isDigit 13 = .ok (.goto 4, 3) := by decide +kernel
theorem dX2_isDigit_16 : decode cX2_isDigit 16 = .ok (.iconst 0, 1) := by decide +kernel
theorem dX2_isDigit_17 : decode cX2_isDigit 17 = .ok (.ireturn, 1) := by decide +kernel
theorem dX3_init_0 : decode cX3_init 0 = .ok (.aload_n 0, 1) := by decide +kernel
theorem dX3_init_1 : decode cX3_init 1 = .ok (.invokespecial 3, 3) := by decide +kernel
theorem dX3_init_4 : decode cX3_init 4 = .ok (.aload_n 0, 1) := by decide +kernel
theorem dX3_init_5 : decode cX3_init 5 = .ok (.iconst 0, 1) := by decide +kernel
theorem dX3_init_6 : decode cX3_init 6 = .ok (.putfield 9, 3) := by decide +kernel
theorem dX3_init_9 : decode cX3_init 9 = .ok (.aload_n 0, 1) := by decide +kernel
theorem dX3_init_10 : decode cX3_init 10 = .ok (.sipush 1000, 3) := by decide +kernel
theorem dX3_init_13 : decode cX3_init 13 = .ok (.putfield 15, 3) := by decide +kernel
theorem dX3_init_16 : decode cX3_init 16 = .ok (.aload_n 0, 1) := by decide +kernel
theorem dX3_init_17 : decode cX3_init 17 = .ok (.iconst 0, 1) := by decide +kernel
theorem dX3_init_18 : decode cX3_init 18 = .ok (.putfield 18, 3) := by decide +kernel
theorem dX3_init_21 : decode cX3_init 21 = .ok (.aload_n 0, 1) := by decide +kernel
theorem dX3_init_22 : decode cX3_init 22 = .ok (.iconst 0, 1) := by decide +kernel
theorem dX3_init_23 : decode cX3_init 23 = .ok (.putfield 21, 3) := by decide +kernel
theorem dX3_init_26 : decode cX3_init 26 = .ok (.aload_n 0, 1) := by decide +kernel
theorem dX3_init_27 : decode cX3_init 27 = .ok (.iconst 0, 1) := by decide +kernel
theorem dX3_init_28 : decode cX3_init 28 = .ok (.putfield 24, 3) := by decide +kernel
theorem dX3_init_31 : decode cX3_init 31 = .ok (.aload_n 0, 1) := by decide +kernel
theorem dX3_init_32 : decode cX3_init 32 = .ok (.iconst 0, 1) := by decide +kernel
theorem dX3_init_33 : decode cX3_init 33 = .ok (.putfield 27, 3) := by decide +kernel
theorem dX3_init_36 : decode cX3_init 36 = .ok (.aload_n 0, 1) := by decide +kernel
theorem dX3_init_37 : decode cX3_init 37 = .ok (.iconst 0, 1) := by decide +kernel
theorem dX3_init_38 : decode cX3_init 38 = .ok (.putfield 30, 3) := by decide +kernel
theorem dX3_init_41 : decode cX3_init 41 = .ok (.aload_n 0, 1) := by decide +kernel
theorem dX3_init_42 : decode cX3_init 42 = .ok (.iconst 0, 1) := by decide +kernel
theorem dX3_init_43 : decode cX3_init 43 = .ok (.putfield 33, 3) := by decide +kernel
theorem dX3_init_46 : decode cX3_init 46 = .ok (.aload_n 0, 1) := by decide +kernel
theorem dX3_init_47 : decode cX3_init 47 = .ok (.iconst 0, 1) := by decide +kernel
theorem dX3_init_48 : decode cX3_init 48 = .ok (.putfield 36, 3) := by decide +kernel
theorem dX3_init_51 : decode cX3_init 51 = .ok (.aload_n 0, 1) := by decide +kernel
theorem dX3_init_52 : decode cX3_init 52 = .ok (.iconst 0, 1) := by decide +kernel
theorem dX3_init_53 : decode cX3_init 53 = .ok (.putfield 39, 3) := by decide +kernel
theorem dX3_init_56 : decode cX3_init 56 = .ok (.aload_n 0, 1) := by decide +kernel
theorem dX3_init_57 : decode cX3_init 57 = .ok (.iconst 4, 1) := by decide +kernel
theorem dX3_init_58 : decode cX3_init 58 = .ok (.newarray .int, 2) := by decide +kernel
theorem dX3_init_60 : decode cX3_init 60 = .ok (.putfield 42, 3) := by decide +kernel
theorem dX3_init_63 : decode cX3_init 63 = .ok (.aload_n 0, 1) := by decide +kernel
theorem dX3_init_64 : decode cX3_init 64 = .ok (.iconst 4, 1) := by decide +kernel
theorem dX3_init_65 : decode cX3_init 65 = .ok (.newarray .int, 2) := by decide +kernel
theorem dX3_init_67 : decode cX3_init 67 = .ok (.putfield 46, 3) := by decide +kernel
theorem dX3_init_70 : decode cX3_init 70 = .ok (.aload_n 0, 1) := by decide +kernel
theorem dX3_init_71 : decode cX3_init 71 = .ok (.iconst 4, 1) := by decide +kernel
theorem dX3_init_72 : decode cX3_init 72 = .ok (.newarray .int, 2) := by decide +kernel
theorem dX3_init_74 : decode cX3_init 74 = .ok (.putfield 49, 3) := by decide +kernel
theorem dX3_init_77 : decode cX3_init 77 = .ok (.aload_n 0, 1) := by decide +kernel
theorem dX3_init_78 : decode cX3_init 78 = .ok (.bipush 6, 2) := by decide +kernel
theorem dX3_init_80 : decode cX3_init 80 = .ok (.anewarray 52, 3) := by decide +kernel
theorem dX3_init_83 : decode cX3_init 83 = .ok (.putfield 54, 3) := by decide +kernel
theorem dX3_init_86 : decode cX3_init 86 = .ok (.aload_n 0, 1) := by decide +kernel
theorem dX3_init_87 : decode cX3_init 87 = .ok (.bipush 10, 2) := by decide +kernel
theorem dX3_init_89 : decode cX3_init 89 = .ok (.anewarray 58, 3) := by decide +kernel
theorem dX3_init_92 : decode cX3_init 92 = .ok (.putfield 60, 3) := by decide +kernel
theorem dX3_init_95 : decode cX3_init 95 = .ok (.aload_n 0, 1) := by decide +kernel
theorem dX3_init_96 : decode cX3_init 96 = .ok (.new 64, 3) := by decide +kernel
theorem dX3_init_99 : decode cX3_init 99 = .ok (.dup, 1) := by decide +kernel
theorem dX3_init_100 : decode cX3_init 100 = .ok (.invokespecial 66, 3) := by decide +kernel
theorem dX3_init_103 : decode cX3_init 103 = .ok (.putfield 67, 3) := by decide +kernel
theorem dX3_init_106 : decode cX3_init 106 = .ok (.iconst 0, 1) := by decide +kernel
theorem dX3_init_107 : decode cX3_init 107 = .ok (.istore_n 1, 1) := by decide +kernel
theorem dX3_init_108 : decode cX3_init 108 = .ok (.iload_n 1, 1) := by decide +kernel
theorem dX3_init_109 : decode cX3_init 109 = .ok (.iconst 4, 1) := by decide +kernel
theorem dX3_init_110 : decode cX3_init 110 = .ok (.if_icmp .ge 17, 3) := by decide +kernel
theorem dX3_init_113 : decode cX3_init 113 = .ok (.aload_n 0, 1) := by decide +kernel
theorem dX3_init_114 : decode cX3_init 114 = .ok (.getfield 42, 3) := by decide +kernel
theorem dX3_init_117 : decode cX3_init 117 = .ok (.iload_n 1, 1) := by decide +kernel
theorem dX3_init_118 : decode cX3_init 118 = .ok (.bipush 10, 2) := by decide +kernel
theorem dX3_init_120 : decode cX3_init 120 = .ok (.iastore, 1) := by decide +kernel
theorem dX3_init_121 : decode cX3_init 121 = .ok (.iinc 1 1, 3) := by decide +kernel
theorem dX3_init_124 : decode cX3_init 124 = .ok (.goto (-16), 3) := by decide +kernel
theorem dX3_init_127 : decode cX3_init 127 = .ok (.iconst 0, 1) := by decide +kernel
theorem dX3_init_128 : decode cX3_init 128 = .ok (.istore_n 1, 1) := by decide +kernel
theorem dX3_init_129 : decode cX3_init 129 = .ok (.iload_n 1, 1) := by decide +kernel
theorem dX3_init_130 : decode cX3_init 130 = .ok (.bipush 6, 2) := by decide +kernel
theorem dX3_init_132 : decode cX3_init 132 = .ok (.if_icmp .ge 22, 3) := by decide +kernel
theorem dX3_init_135 : decode cX3_init 135 = .ok (.aload_n 0, 1) := by decide +kernel
theorem dX3_init_136 : decode cX3_init 136 = .ok (.getfield 54, 3) := by decide +kernel
theorem dX3_init_139 : decode cX3_init 139 = .ok (.iload_n 1, 1) := by decide +kernel
theorem dX3_init_140 : decode cX3_init 140 = .ok (.new 52, 3) := by decide +kernel
theorem dX3_init_143 : decode cX3_init 143 = .ok (.dup, 1) := by decide +kernel
theorem dX3_init_144 : decode cX3_init 144 = .ok (.invokespecial 71, 3) := by decide +kernel
theorem dX3_init_147 : decode cX3_init 147 = .ok (.aastore, 1) := by decide +kernel
theorem dX3_init_148 : decode cX3_init 148 = .ok (.iinc 1 1, 3) := by decide +kernel
theorem dX3_init_151 : decode cX3_init 151 = .ok (.goto (-22), 3) := by decide +kernel
theorem dX3_init_154 : decode cX3_init 154 = .ok (.iconst 0, 1) := by decide +kernel
theorem dX3_init_155 : decode cX3_init 155 = .ok (.istore_n 1, 1) := by decide +kernel
theorem dX3_init_156 : decode cX3_init 156 = .ok (.iload_n 1, 1) := by decide +kernel
theorem dX3_init_157 : decode cX3_init 157 = .ok (.bipush 10, 2) := by decide +kernel
theorem dX3_init_159 : decode cX3_init 159 = .ok (.if_icmp .ge 22, 3) := by decide +kernel
theorem dX3_init_162 : decode cX3_init 162 = .ok (.aload_n 0, 1) := by decide +kernel
theorem dX3_init_163 : decode cX3_init 163 = .ok (.getfield 60, 3) := by decide +kernel
theorem dX3_init_166 : decode cX3_init 166 = .ok (.iload_n 1, 1) := by decide +kernel
theorem dX3_init_167 : decode cX3_init 167 = .ok (.new 58, 3) := by decide +kernel
theorem dX3_init_170 : decode cX3_init 170 = .ok (.dup, 1) := by decide +kernel
theorem dX3_init_171 : decode cX3_init 171 = .ok (.invokespecial 72, 3) := by decide +kernel
theorem dX3_init_174 : decode cX3_init 174 = .ok (.aastore, 1) := by decide +kernel
theorem dX3_init_175 : decode cX3_init 175 = .ok (.iinc 1 1, 3) := by decide +kernel
theorem dX3_init_178 : decode cX3_init 178 = .ok (.goto (-22), 3) := by decide +kernel
theorem dX3_init_181 : decode cX3_init 181 = .ok (.return_, 1) := by decide +kernel
theorem dX3_copyFrom_0 : decode cX3_copyFrom 0 = .ok (.aload_n 0, 1) := by decide +kernel
theorem dX3_copyFrom_1 : decode cX3_copyFrom 1 = .ok (.aload_n 1, 1) := by decide +kernel
theorem dX3_copyFrom_2 : decode cX3_copyFrom 2 = .ok (.getfield 9, 3) := by decide +kernel
theorem dX3_copyFrom_5 : decode cX3_copyFrom 5 = .ok (.putfield 9, 3) := by decide +kernel
theorem dX3_copyFrom_8 : decode cX3_copyFrom 8 = .ok (.aload_n 0, 1) := by decide +kernel
theorem dX3_copyFrom_9 : decode cX3_copyFrom 9 = .ok (.aload_n 1, 1) := by decide +kernel
theorem dX3_copyFrom_10 : decode cX3_copyFrom 10 = .ok (.getfield 15, 3) := by decide +kernel
theorem dX3_copyFrom_13 : decode cX3_copyFrom 13 = .ok (.putfield 15, 3) := by decide +kernel
theorem dX3_copyFrom_16 : decode cX3_copyFrom 16 = .ok (.aload_n 0, 1) := by decide +kernel
theorem dX3_copyFrom_17 : decode cX3_copyFrom 17 = .ok (.aload_n 1, 1) := by decide +kernel
theorem dX3_copyFrom_18 : decode cX3_copyFrom 18 = .ok (.getfield 18, 3) := by decide +kernel
theorem dX3_copyFrom_21 : decode cX3_copyFrom 21 = .ok (.putfield 18, 3) := by decide +kernel
theorem dX3_copyFrom_24 : decode cX3_copyFrom 24 = .ok (.aload_n 0, 1) := by decide +kernel
theorem dX3_copyFrom_25 : decode cX3_copyFrom 25 = .ok (.aload_n 1, 1) := by decide +kernel
theorem dX3_copyFrom_26 : decode cX3_copyFrom 26 = .ok (.getfield 21, 3) := by decide +kernel
theorem dX3_copyFrom_29 : decode cX3_copyFrom 29 = .ok (.putfield 21, 3) := by decide +kernel
theorem dX3_copyFrom_32 : decode cX3_copyFrom 32 = .ok (.aload_n 0, 1) := by decide +kernel
theorem dX3_copyFrom_33 : decode cX3_copyFrom 33 = .ok (.aload_n 1, 1) := by decide +kernel
theorem dX3_copyFrom_34 : decode cX3_copyFrom 34 = .ok (.getfield 24, 3) := by decide +kernel
theorem dX3_copyFrom_37 : decode cX3_copyFrom 37 = .ok (.putfield 24, 3) := by decide +kernel
theorem dX3_copyFrom_40 : decode cX3_copyFrom 40 = .ok (.aload_n 0, 1) := by decide +kernel
theorem dX3_copyFrom_41 : decode cX3_copyFrom 41 = .ok (.aload_n 1, 1) := by decide +kernel
theorem dX3_copyFrom_42 : decode cX3_copyFrom 42 = .ok (.getfield 27, 3) := by decide +kernel
theorem dX3_copyFrom_45 : decode cX3_copyFrom 45 = .ok (.putfield 27, 3) := by decide +kernel
theorem dX3_copyFrom_48 : decode cX3_copyFrom 48 = .ok (.aload_n 0, 1) := by decide +kernel
theorem dX3_copyFrom_49 : decode cX3_copyFrom 49 = .ok (.aload_n 1, 1) := by decide +kernel
theorem dX3_copyFrom_50 : decode cX3_copyFrom 50 = .ok (.getfield 30, 3) := by decide +kernel
theorem dX3_copyFrom_53 : decode cX3_copyFrom 53 = .ok (.putfield 30, 3) := by decide +kernel
theorem dX3_copyFrom_56 : decode cX3_copyFrom 56 = .ok (.aload_n 0, 1) := by decide +kernel
theorem dX3_copyFrom_57 : decode cX3_copyFrom 57 = .ok (.aload_n 1, 1) := by decide +kernel
theorem dX3_copyFrom_58 : decode cX3_copyFrom 58 = .ok (.getfield 33, 3) := by decide +kernel
theorem dX3_copyFrom_61 : decode cX3_copyFrom 61 = .ok (.putfield 33, 3) := by decide +kernel
theorem dX3_copyFrom_64 : decode cX3_copyFrom 64 = .ok (.aload_n 0, 1) := by decide +kernel
theorem dX3_copyFrom_65 : decode cX3_copyFrom 65 = .ok (.aload_n 1, 1) := by decide +kernel
theorem dX3_copyFrom_66 : decode cX3_copyFrom 66 = .ok (.getfield 36, 3) := by decide +kernel
theorem dX3_copyFrom_69 : decode cX3_copyFrom 69 = .ok (.putfield 36, 3) := by decide +kernel
theorem dX3_copyFrom_72 : decode cX3_copyFrom 72 = .ok (.aload_n 1, 1) := by decide +kernel
theorem dX3_copyFrom_73 : decode cX3_copyFrom 73 = .ok (.getfield 42, 3) := by decide +kernel
theorem dX3_copyFrom_76 : decode cX3_copyFrom 76 = .ok (.iconst 0, 1) := by decide +kernel
theorem dX3_copyFrom_77 : decode cX3_copyFrom 77 = .ok (.aload_n 0, 1) := by decide +kernel
theorem dX3_copyFrom_78 : decode cX3_copyFrom 78 = .ok (.getfield 42, 3) := by decide +kernel
theorem dX3_copyFrom_81 : decode cX3_copyFrom 81 = .ok (.iconst 0, 1) := by decide +kernel
theorem dX3_copyFrom_82 : decode cX3_copyFrom 82 = .ok (.iconst 4, 1) := by decide +kernel
theorem dX3_copyFrom_83 : decode cX3_copyFrom 83 = .ok (.invokestatic 73, 3) := by decide +kernel
theorem dX3_copyFrom_86 : decode cX3_copyFrom 86 = .ok (.aload_n 1, 1) := by decide +kernel
theorem dX3_copyFrom_87 : decode cX3_copyFrom 87 = .ok (.getfield 46, 3) := by decide +kernel
theorem dX3_copyFrom_90 : decode cX3_copyFrom 90 = .ok (.iconst 0, 1) := by decide +kernel
theorem dX3_copyFrom_91 : decode cX3_copyFrom 91 = .ok (.aload_n 0, 1) := by decide +kernel
theorem dX3_copyFrom_92 : decode cX3_copyFrom 92 = .ok (.getfield 46, 3) := by decide +kernel
theorem dX3_copyFrom_95 : decode cX3_copyFrom 95 = .ok (.iconst 0, 1) := by decide +kernel
theorem dX3_copyFrom_96 : decode cX3_copyFrom 96 = .ok (.iconst 4, 1) := by decide +kernel
theorem dX3_copyFrom_97 : decode cX3_copyFrom 97 = .ok (.invokestatic 73, 3) := by decide +kernel
theorem dX3_copyFrom_100 : decode cX3_copyFrom 100 = .ok (.aload_n 1, 1) := by decide +kernel
theorem dX3_copyFrom_101 : decode cX3_copyFrom 101 = .ok (.getfield 49, 3) := by decide +kernel
theorem dX3_copyFrom_104 : decode cX3_copyFrom 104 = .ok (.iconst 0, 1) := by decide +kernel
theorem dX3_copyFrom_105 : decode cX3_copyFrom 105 = .ok (.aload_n 0, 1) := by decide +kernel
theorem dX3_copyFrom_106 : decode cX3_copyFrom 106 = .ok (.getfield 49, 3) := by decide +kernel
theorem dX3_copyFrom_109 : decode cX3_copyFrom 109 = .ok (.iconst 0, 1) := by decide +kernel
theorem dX3_copyFrom_110 : decode cX3_copyFrom 110 = .ok (.iconst 4, 1) := by decide +kernel
theorem dX3_copyFrom_111 : decode cX3_copyFrom 111 = .ok (.invokestatic 73, 3) := by decide +kernel
theorem dX3_copyFrom_114 : decode cX3_copyFrom 114 = .ok (.iconst 0, 1) := by decide +kernel
theorem dX3_copyFrom_115 : decode cX3_copyFrom 115 = .ok (.istore_n 2, 1) := by decide +kernel
theorem dX3_copyFrom_116 : decode cX3_copyFrom 116 = .ok (.iload_n 2, 1) := by decide +kernel
theorem dX3_copyFrom_117 : decode cX3_copyFrom 117 = .ok (.aload_n 0, 1) := by decide +kernel
theorem dX3_copyFrom_118 : decode cX3_copyFrom 118 = .ok (.getfield 18, 3) := by decide +kernel
theorem dX3_copyFrom_121 : decode cX3_copyFrom 121 = .ok (.if_icmp .ge 24, 3) := by decide +kernel
theorem dX3_copyFrom_124 : decode cX3_copyFrom 124 = .ok (.aload_n 0, 1) := by decide +kernel
theorem dX3_copyFrom_125 : decode cX3_copyFrom 125 = .ok (.getfield 54, 3) := by decide +kernel
theorem dX3_copyFrom_128 : decode cX3_copyFrom 128 = .ok (.iload_n 2, 1) := by decide +kernel
theorem dX3_copyFrom_129 : decode cX3_copyFrom 129 = .ok (.aaload, 1) := by decide +kernel
theorem dX3_copyFrom_130 : decode cX3_copyFrom 130 = .ok (.aload_n 1, 1) := by decide +kernel
theorem dX3_copyFrom_131 : decode cX3_copyFrom 131 = .ok (.getfield 54, 3) := by decide +kernel
theorem dX3_copyFrom_134 : decode cX3_copyFrom 134 = .ok (.iload_n 2, 1) := by decide +kernel
theorem dX3_copyFrom_135 : decode cX3_copyFrom 135 = .ok (.aaload, 1) := by decide +kernel
theorem dX3_copyFrom_136 : decode cX3_copyFrom 136 = .ok (.invokevirtual 79, 3) := by decide +kernel
theorem dX3_copyFrom_139 : decode cX3_copyFrom 139 = .ok (.iinc 2 1, 3) := by decide +kernel
theorem dX3_copyFrom_142 : decode cX3_copyFrom 142 = .ok (.goto (-26), 3) := by decide +kernel
theorem dX3_copyFrom_145 : decode cX3_copyFrom 145 = .ok (.iconst 0, 1) := by decide +kernel
theorem dX3_copyFrom_146 : decode cX3_copyFrom 146 = .ok (.istore_n 2, 1) := by decide +kernel
theorem dX3_copyFrom_147 : decode cX3_copyFrom 147 = .ok (.iload_n 2, 1) := by decide +kernel
theorem dX3_copyFrom_148 : decode cX3_copyFrom 148 = .ok (.aload_n 0, 1) := by decide +kernel
theorem dX3_copyFrom_149 : decode cX3_copyFrom 149 = .ok (.getfield 21, 3) := by decide +kernel
theorem dX3_copyFrom_152 : decode cX3_copyFrom 152 = .ok (.if_icmp .ge 24, 3) := by decide +kernel
theorem dX3_copyFrom_155 : decode cX3_copyFrom 155 = .ok (.aload_n 0, 1) := by decide +kernel
theorem dX3_copyFrom_156 : decode cX3_copyFrom 156 = .ok (.getfield 60, 3) := by decide +kernel
theorem dX3_copyFrom_159 : decode cX3_copyFrom 159 = .ok (.iload_n 2, 1) := by decide +kernel
theorem dX3_copyFrom_160 : decode cX3_copyFrom 160 = .ok (.aaload, 1) := by decide +kernel
theorem dX3_copyFrom_161 : decode cX3_copyFrom 161 = .ok (.aload_n 1, 1) := by decide +kernel
theorem dX3_copyFrom_162 : decode cX3_copyFrom 162 = .ok (.getfield 60, 3) := by decide +kernel
theorem dX3_copyFrom_165 : decode cX3_copyFrom 165 = .ok (.iload_n 2, 1) := by decide +kernel
theorem dX3_copyFrom_166 : decode cX3_copyFrom 166 = .ok (.aaload, 1) := by decide +kernel
theorem dX3_copyFrom_167 : decode cX3_copyFrom 167 = .ok (.invokevirtual 83, 3) := by decide +kernel
theorem dX3_copyFrom_170 : decode cX3_copyFrom 170 = .ok (.iinc 2 1, 3) := by decide +kernel
theorem dX3_copyFrom_173 : decode cX3_copyFrom 173 = .ok (.goto (-26), 3) := by decide +kernel
theorem dX3_copyFrom_176 : decode cX3_copyFrom 176 = .ok (.aload_n 0, 1) := by decide +kernel
theorem dX3_copyFrom_177 : decode cX3_copyFrom 177 = .ok (.getfield 67, 3) := by decide +kernel
theorem dX3_copyFrom_180 : decode cX3_copyFrom 180 = .ok (.aload_n 1, 1) := by decide +kernel
theorem dX3_copyFrom_181 : decode cX3_copyFrom 181 = .ok (.getfield 67, 3) := by decide +kernel
theorem dX3_copyFrom_184 : decode cX3_copyFrom 184 = .ok (.invokevirtual 86, 3) := by decide +kernel
theorem dX3_copyFrom_187 : decode cX3_copyFrom 187 = .ok (.return_, 1) := by decide +kernel
theorem dX3_borrowerAt_0 : decode cX3_borrowerAt 0 = .ok (.iload_n 1, 1) := by decide +kernel
theorem dX3_borrowerAt_1 : decode cX3_borrowerAt 1 = .ok (.ifCond .lt 11, 3) := by decide +kernel
theorem dX3_borrowerAt_4 : decode cX3_borrowerAt 4 = .ok (.iload_n 1, 1) := by decide +kernel
theorem dX3_borrowerAt_5 : decode cX3_borrowerAt 5 = .ok (.aload_n 0, 1) := by decide +kernel
theorem dX3_borrowerAt_6 : decode cX3_borrowerAt 6 = .ok (.getfield 18, 3) := by decide +kernel
theorem dX3_borrowerAt_9 : decode cX3_borrowerAt 9 = .ok (.if_icmp .lt 7, 3) := by decide +kernel
theorem dX3_borrowerAt_12 : decode cX3_borrowerAt 12 = .ok (.aconst_null, 1) := by decide +kernel
theorem dX3_borrowerAt_13 : decode cX3_borrowerAt 13 = .ok (.goto 9, 3) := by decide +kernel
theorem dX3_borrowerAt_16 : decode cX3_borrowerAt 16 = .ok (.aload_n 0, 1) := by decide +kernel
theorem dX3_borrowerAt_17 : decode cX3_borrowerAt 17 = .ok (.getfield 54, 3) := by decide +kernel
theorem dX3_borrowerAt_20 : decode cX3_borrowerAt 20 = .ok (.iload_n 1, 1) := by decide +kernel
theorem dX3_borrowerAt_21 : decode cX3_borrowerAt 21 = .ok (.aaload, 1) := by decide +kernel
theorem dX3_borrowerAt_22 : decode cX3_borrowerAt 22 = .ok (.areturn, 1) := by decide +kernel
theorem dX3_positionOf_0 : decode cX3_positionOf 0 = .ok (.iconst 0, 1) := by decide +kernel
theorem dX3_positionOf_1 : decode cX3_positionOf 1 = .ok (.istore_n 2, 1) := by decide +kernel
theorem dX3_positionOf_2 : decode cX3_positionOf 2 = .ok (.iload_n 2, 1) := by decide +kernel
theorem dX3_positionOf_3 : decode cX3_positionOf 3 = .ok (.aload_n 0, 1) := by decide +kernel
theorem dX3_positionOf_4 : decode cX3_positionOf 4 = .ok (.getfield 21, 3) := by decide +kernel
theorem dX3_positionOf_7 : decode cX3_positionOf 7 = .ok (.if_icmp .ge 24, 3) := by decide +kernel
theorem dX3_positionOf_10 : decode cX3_positionOf 10 = .ok (.aload_n 0, 1) := by decide +kernel
theorem dX3_positionOf_11 : decode cX3_positionOf 11 = .ok (.getfield 60, 3) := by decide +kernel
theorem dX3_positionOf_14 : decode cX3_positionOf 14 = .ok (.iload_n 2, 1) := by decide +kernel
theorem dX3_positionOf_15 : decode cX3_positionOf 15 = .ok (.aaload, 1) := by decide +kernel
theorem dX3_positionOf_16 : decode cX3_positionOf 16 = .ok (.getfield 89, 3) := by decide +kernel
theorem dX3_positionOf_19 : decode cX3_positionOf 19 = .ok (.iload_n 1, 1) := by decide +kernel
theorem dX3_positionOf_20 : decode cX3_positionOf 20 = .ok (.if_icmp .ne 5, 3) := by decide +kernel
theorem dX3_positionOf_23 : decode cX3_positionOf 23 = .ok (.iload_n 2, 1) := by decide +kernel
theorem dX3_positionOf_24 : decode cX3_positionOf 24 = .ok (.ireturn, 1) := by decide +kernel
theorem dX3_positionOf_25 : decode cX3_positionOf 25 = .ok (.iinc 2 1, 3) := by decide +kernel
theorem dX3_positionOf_28 : decode cX3_positionOf 28 = .ok (.goto (-26), 3) := by decide +kernel
theorem dX3_positionOf_31 : decode cX3_positionOf 31 = .ok (.iconst (-1), 1) := by decide +kernel
theorem dX3_positionOf_32 : decode cX3_positionOf 32 = .ok (.ireturn, 1) := by decide +kernel
theorem dX3_loanWithId_0 : decode cX3_loanWithId 0 = .ok (.aload_n 0, 1) := by decide +kernel
theorem dX3_loanWithId_1 : decode cX3_loanWithId 1 = .ok (.iload_n 1, 1) := by decide +kernel
theorem dX3_loanWithId_2 : decode cX3_loanWithId 2 = .ok (.invokevirtual 92, 3) := by decide +kernel
theorem dX3_loanWithId_5 : decode cX3_loanWithId 5 = .ok (.istore_n 2, 1) := by decide +kernel
theorem dX3_loanWithId_6 : decode cX3_loanWithId 6 = .ok (.iload_n 2, 1) := by decide +kernel
theorem dX3_loanWithId_7 : decode cX3_loanWithId 7 = .ok (.ifCond .ge 7, 3) := by decide +kernel
theorem dX3_loanWithId_10 : decode cX3_loanWithId 10 = .ok (.aconst_null, 1) := by decide +kernel
theorem dX3_loanWithId_11 : decode cX3_loanWithId 11 = .ok (.goto 9, 3) := by decide +kernel
theorem dX3_loanWithId_14 : decode cX3_loanWithId 14 = .ok (.aload_n 0, 1) := by decide +kernel
theorem dX3_loanWithId_15 : decode cX3_loanWithId 15 = .ok (.getfield 60, 3) := by decide +kernel
theorem dX3_loanWithId_18 : decode cX3_loanWithId 18 = .ok (.iload_n 2, 1) := by decide +kernel
theorem dX3_loanWithId_19 : decode cX3_loanWithId 19 = .ok (.aaload, 1) := by decide +kernel
theorem dX3_loanWithId_20 : decode cX3_loanWithId 20 = .ok (.areturn, 1) := by decide +kernel
theorem dX3_valueOf_0 : decode cX3_valueOf 0 = .ok (.iconst 0, 1) := by decide +kernel
theorem dX3_valueOf_1 : decode cX3_valueOf 1 = .ok (.istore_n 2, 1) := by decide +kernel
theorem dX3_valueOf_2 : decode cX3_valueOf 2 = .ok (.iconst 0, 1) := by decide +kernel
theorem dX3_valueOf_3 : decode cX3_valueOf 3 = .ok (.istore_n 3, 1) := by decide +kernel
theorem dX3_valueOf_4 : decode cX3_valueOf 4 = .ok (.iload_n 3, 1) := by decide +kernel
theorem dX3_valueOf_5 : decode cX3_valueOf 5 = .ok (.iconst 4, 1) := by decide +kernel
theorem dX3_valueOf_6 : decode cX3_valueOf 6 = .ok (.if_icmp .ge 28, 3) := by decide +kernel
theorem dX3_valueOf_9 : decode cX3_valueOf 9 = .ok (.iload_n 3, 1) := by decide +kernel
theorem dX3_valueOf_10 : decode cX3_valueOf 10 = .ok (.aload_n 1, 1) := by decide +kernel
theorem dX3_valueOf_11 : decode cX3_valueOf 11 = .ok (.arraylength, 1) := by decide +kernel
theorem dX3_valueOf_12 : decode cX3_valueOf 12 = .ok (.if_icmp .ge 22, 3) := by decide +kernel
theorem dX3_valueOf_15 : decode cX3_valueOf 15 = .ok (.iload_n 2, 1) := by decide +kernel
theorem dX3_valueOf_16 : decode cX3_valueOf 16 = .ok (.aload_n 1, 1) := by decide +kernel
theorem dX3_valueOf_17 : decode cX3_valueOf 17 = .ok (.iload_n 3, 1) := by decide +kernel
theorem dX3_valueOf_18 : decode cX3_valueOf 18 = .ok (.iaload, 1) := by decide +kernel
theorem dX3_valueOf_19 : decode cX3_valueOf 19 = .ok (.aload_n 0, 1) := by decide +kernel
theorem dX3_valueOf_20 : decode cX3_valueOf 20 = .ok (.getfield 42, 3) := by decide +kernel
theorem dX3_valueOf_23 : decode cX3_valueOf 23 = .ok (.iload_n 3, 1) := by decide +kernel
theorem dX3_valueOf_24 : decode cX3_valueOf 24 = .ok (.iaload, 1) := by decide +kernel
theorem dX3_valueOf_25 : decode cX3_valueOf 25 = .ok (.imul, 1) := by decide +kernel
theorem dX3_valueOf_26 : decode cX3_valueOf 26 = .ok (.iadd, 1) := by decide +kernel
theorem dX3_valueOf_27 : decode cX3_valueOf 27 = .ok (.istore_n 2, 1) := by decide +kernel
theorem dX3_valueOf_28 : decode cX3_valueOf 28 = .ok (.iinc 3 1, 3) := by decide +kernel
theorem dX3_valueOf_31 : decode cX3_valueOf 31 = .ok (.goto (-27), 3) := by decide +kernel
theorem dX3_valueOf_34 : decode cX3_valueOf 34 = .ok (.iload_n 2, 1) := by decide +kernel
theorem dX3_valueOf_35 : decode cX3_valueOf 35 = .ok (.ireturn, 1) := by decide +kernel
theorem dX3_obey_0 : decode cX3_obey 0 = .ok (.aload_n 2, 1) := by decide +kernel
theorem dX3_obey_1 : decode cX3_obey 1 = .ok (.arraylength, 1) := by decide +kernel
theorem dX3_obey_2 : decode cX3_obey 2 = .ok (.iconst 5, 1) := by decide +kernel
theorem dX3_obey_3 : decode cX3_obey 3 = .ok (.if_icmp .ge 7, 3) := by decide +kernel
theorem dX3_obey_6 : decode cX3_obey 6 = .ok (.getstatic 96, 3) := by decide +kernel
theorem dX3_obey_9 : decode cX3_obey 9 = .ok (.areturn, 1) := by decide +kernel
theorem dX3_obey_10 : decode cX3_obey 10 = .ok (.getstatic 102, 3) := by decide +kernel
theorem dX3_obey_13 : decode cX3_obey 13 = .ok (.aload_n 1, 1) := by decide +kernel
theorem dX3_obey_14 : decode cX3_obey 14 = .ok (.invokevirtual 107, 3) := by decide +kernel
theorem dX3_obey_17 : decode cX3_obey 17 = .ok (.iaload, 1) := by decide +kernel
theorem dX3_obey_18 : decode cX3_obey 18 = .ok (.tableswitch 152 1 8 #[46, 54, 68, 79, 99, 113, 127, 138], 46) := by decide +kernel
theorem dX3_obey_64 : decode cX3_obey 64 = .ok (.aload_n 0, 1) := by decide +kernel
theorem dX3_obey_65 : decode cX3_obey 65 = .ok (.aload_n 2, 1) := by decide +kernel
theorem dX3_obey_66 : decode cX3_obey 66 = .ok (.iconst 0, 1) := by decide +kernel
theorem dX3_obey_67 : decode cX3_obey 67 = .ok (.iaload, 1) := by decide +kernel
theorem dX3_obey_68 : decode cX3_obey 68 = .ok (.invokevirtual 113, 3) := by decide +kernel
theorem dX3_obey_71 : decode cX3_obey 71 = .ok (.areturn, 1) := by decide +kernel
theorem dX3_obey_72 : decode cX3_obey 72 = .ok (.aload_n 0, 1) := by decide +kernel
theorem dX3_obey_73 : decode cX3_obey 73 = .ok (.aload_n 2, 1) := by decide +kernel
theorem dX3_obey_74 : decode cX3_obey 74 = .ok (.iconst 0, 1) := by decide +kernel
theorem dX3_obey_75 : decode cX3_obey 75 = .ok (.iaload, 1) := by decide +kernel
theorem dX3_obey_76 : decode cX3_obey 76 = .ok (.aload_n 2, 1) := by decide +kernel
theorem dX3_obey_77 : decode cX3_obey 77 = .ok (.iconst 1, 1) := by decide +kernel
theorem dX3_obey_78 : decode cX3_obey 78 = .ok (.iaload, 1) := by decide +kernel
theorem dX3_obey_79 : decode cX3_obey 79 = .ok (.aload_n 2, 1) := by decide +kernel
theorem dX3_obey_80 : decode cX3_obey 80 = .ok (.iconst 2, 1) := by decide +kernel
theorem dX3_obey_81 : decode cX3_obey 81 = .ok (.iaload, 1) := by decide +kernel
theorem dX3_obey_82 : decode cX3_obey 82 = .ok (.invokevirtual 117, 3) := by decide +kernel
theorem dX3_obey_85 : decode cX3_obey 85 = .ok (.areturn, 1) := by decide +kernel
theorem dX3_obey_86 : decode cX3_obey 86 = .ok (.aload_n 0, 1) := by decide +kernel
theorem dX3_obey_87 : decode cX3_obey 87 = .ok (.aload_n 2, 1) := by decide +kernel
theorem dX3_obey_88 : decode cX3_obey 88 = .ok (.iconst 0, 1) := by decide +kernel
theorem dX3_obey_89 : decode cX3_obey 89 = .ok (.iaload, 1) := by decide +kernel
theorem dX3_obey_90 : decode cX3_obey 90 = .ok (.aload_n 2, 1) := by decide +kernel
theorem dX3_obey_91 : decode cX3_obey 91 = .ok (.iconst 1, 1) := by decide +kernel
theorem dX3_obey_92 : decode cX3_obey 92 = .ok (.iaload, 1) := by decide +kernel
theorem dX3_obey_93 : decode cX3_obey 93 = .ok (.invokevirtual 121, 3) := by decide +kernel
theorem dX3_obey_96 : decode cX3_obey 96 = .ok (.areturn, 1) := by decide +kernel
theorem dX3_obey_97 : decode cX3_obey 97 = .ok (.aload_n 0, 1) := by decide +kernel
theorem dX3_obey_98 : decode cX3_obey 98 = .ok (.aload_n 2, 1) := by decide +kernel
theorem dX3_obey_99 : decode cX3_obey 99 = .ok (.iconst 0, 1) := by decide +kernel
theorem dX3_obey_100 : decode cX3_obey 100 = .ok (.iaload, 1) := by decide +kernel
theorem dX3_obey_101 : decode cX3_obey 101 = .ok (.aload_n 2, 1) := by decide +kernel
theorem dX3_obey_102 : decode cX3_obey 102 = .ok (.iconst 1, 1) := by decide +kernel
theorem dX3_obey_103 : decode cX3_obey 103 = .ok (.iaload, 1) := by decide +kernel
theorem dX3_obey_104 : decode cX3_obey 104 = .ok (.aload_n 2, 1) := by decide +kernel
theorem dX3_obey_105 : decode cX3_obey 105 = .ok (.iconst 2, 1) := by decide +kernel
theorem dX3_obey_106 : decode cX3_obey 106 = .ok (.iaload, 1) := by decide +kernel
theorem dX3_obey_107 : decode cX3_obey 107 = .ok (.aload_n 2, 1) := by decide +kernel
theorem dX3_obey_108 : decode cX3_obey 108 = .ok (.iconst 3, 1) := by decide +kernel
theorem dX3_obey_109 : decode cX3_obey 109 = .ok (.iaload, 1) := by decide +kernel
theorem dX3_obey_110 : decode cX3_obey 110 = .ok (.aload_n 2, 1) := by decide +kernel
theorem dX3_obey_111 : decode cX3_obey 111 = .ok (.iconst 4, 1) := by decide +kernel
theorem dX3_obey_112 : decode cX3_obey 112 = .ok (.iaload, 1) := by decide +kernel
theorem dX3_obey_113 : decode cX3_obey 113 = .ok (.invokevirtual 125, 3) := by decide +kernel
theorem dX3_obey_116 : decode cX3_obey 116 = .ok (.areturn, 1) := by decide +kernel
theorem dX3_obey_117 : decode cX3_obey 117 = .ok (.aload_n 0, 1) := by decide +kernel
theorem dX3_obey_118 : decode cX3_obey 118 = .ok (.aload_n 2, 1) := by decide +kernel
theorem dX3_obey_119 : decode cX3_obey 119 = .ok (.iconst 0, 1) := by decide +kernel
theorem dX3_obey_120 : decode cX3_obey 120 = .ok (.iaload, 1) := by decide +kernel
theorem dX3_obey_121 : decode cX3_obey 121 = .ok (.aload_n 2, 1) := by decide +kernel
theorem dX3_obey_122 : decode cX3_obey 122 = .ok (.iconst 1, 1) := by decide +kernel
theorem dX3_obey_123 : decode cX3_obey 123 = .ok (.iaload, 1) := by decide +kernel
theorem dX3_obey_124 : decode cX3_obey 124 = .ok (.aload_n 2, 1) := by decide +kernel
theorem dX3_obey_125 : decode cX3_obey 125 = .ok (.iconst 2, 1) := by decide +kernel
theorem dX3_obey_126 : decode cX3_obey 126 = .ok (.iaload, 1) := by decide +kernel
theorem dX3_obey_127 : decode cX3_obey 127 = .ok (.invokevirtual 129, 3) := by decide +kernel
theorem dX3_obey_130 : decode cX3_obey 130 = .ok (.areturn, 1) := by decide +kernel
theorem dX3_obey_131 : decode cX3_obey 131 = .ok (.aload_n 0, 1) := by decide +kernel
theorem dX3_obey_132 : decode cX3_obey 132 = .ok (.aload_n 2, 1) := by decide +kernel
theorem dX3_obey_133 : decode cX3_obey 133 = .ok (.iconst 0, 1) := by decide +kernel
theorem dX3_obey_134 : decode cX3_obey 134 = .ok (.iaload, 1) := by decide +kernel
theorem dX3_obey_135 : decode cX3_obey 135 = .ok (.aload_n 2, 1) := by decide +kernel
theorem dX3_obey_136 : decode cX3_obey 136 = .ok (.iconst 1, 1) := by decide +kernel
theorem dX3_obey_137 : decode cX3_obey 137 = .ok (.iaload, 1) := by decide +kernel
theorem dX3_obey_138 : decode cX3_obey 138 = .ok (.aload_n 2, 1) := by decide +kernel
theorem dX3_obey_139 : decode cX3_obey 139 = .ok (.iconst 2, 1) := by decide +kernel
theorem dX3_obey_140 : decode cX3_obey 140 = .ok (.iaload, 1) := by decide +kernel
theorem dX3_obey_141 : decode cX3_obey 141 = .ok (.invokevirtual 132, 3) := by decide +kernel
theorem dX3_obey_144 : decode cX3_obey 144 = .ok (.areturn, 1) := by decide +kernel
theorem dX3_obey_145 : decode cX3_obey 145 = .ok (.aload_n 0, 1) := by decide +kernel
theorem dX3_obey_146 : decode cX3_obey 146 = .ok (.aload_n 2, 1) := by decide +kernel
theorem dX3_obey_147 : decode cX3_obey 147 = .ok (.iconst 0, 1) := by decide +kernel
theorem dX3_obey_148 : decode cX3_obey 148 = .ok (.iaload, 1) := by decide +kernel
theorem dX3_obey_149 : decode cX3_obey 149 = .ok (.aload_n 2, 1) := by decide +kernel
theorem dX3_obey_150 : decode cX3_obey 150 = .ok (.iconst 1, 1) := by decide +kernel
theorem dX3_obey_151 : decode cX3_obey 151 = .ok (.iaload, 1) := by decide +kernel
theorem dX3_obey_152 : decode cX3_obey 152 = .ok (.invokevirtual 135, 3) := by decide +kernel
theorem dX3_obey_155 : decode cX3_obey 155 = .ok (.areturn, 1) := by decide +kernel
theorem dX3_obey_156 : decode cX3_obey 156 = .ok (.aload_n 0, 1) := by decide +kernel
theorem dX3_obey_157 : decode cX3_obey 157 = .ok (.aload_n 2, 1) := by decide +kernel
theorem dX3_obey_158 : decode cX3_obey 158 = .ok (.iconst 0, 1) := by decide +kernel
theorem dX3_obey_159 : decode cX3_obey 159 = .ok (.iaload, 1) := by decide +kernel
theorem dX3_obey_160 : decode cX3_obey 160 = .ok (.aload_n 2, 1) := by decide +kernel
theorem dX3_obey_161 : decode cX3_obey 161 = .ok (.iconst 1, 1) := by decide +kernel
theorem dX3_obey_162 : decode cX3_obey 162 = .ok (.iaload, 1) := by decide +kernel
theorem dX3_obey_163 : decode cX3_obey 163 = .ok (.aload_n 2, 1) := by decide +kernel
theorem dX3_obey_164 : decode cX3_obey 164 = .ok (.iconst 2, 1) := by decide +kernel
theorem dX3_obey_165 : decode cX3_obey 165 = .ok (.iaload, 1) := by decide +kernel
theorem dX3_obey_166 : decode cX3_obey 166 = .ok (.invokevirtual 138, 3) := by decide +kernel
theorem dX3_obey_169 : decode cX3_obey 169 = .ok (.areturn, 1) := by decide +kernel
theorem dX3_obey_170 : decode cX3_obey 170 = .ok (.aload_n 0, 1) := by decide +kernel
theorem dX3_obey_171 : decode cX3_obey 171 = .ok (.aload_n 2, 1) := by decide +kernel
theorem dX3_obey_172 : decode cX3_obey 172 = .ok (.iconst 0, 1) := by decide +kernel
theorem dX3_obey_173 : decode cX3_obey 173 = .ok (.iaload, 1) := by decide +kernel
theorem dX3_obey_174 : decode cX3_obey 174 = .ok (.invokevirtual 141, 3) := by decide +kernel
theorem dX3_obey_177 : decode cX3_obey 177 = .ok (.areturn, 1) := by decide +kernel
theorem dX3_admitBorrower_0 : decode cX3_admitBorrower 0 = .ok (.iload_n 1, 1) := by decide +kernel
theorem dX3_admitBorrower_1 : decode cX3_admitBorrower 1 = .ok (.iconst 0, 1) := by decide +kernel
theorem dX3_admitBorrower_2 : decode cX3_admitBorrower 2 = .ok (.sipush 500, 3) := by decide +kernel
theorem dX3_admitBorrower_5 : decode cX3_admitBorrower 5 = .ok (.invokestatic 144, 3) := by decide +kernel
theorem dX3_admitBorrower_8 : decode cX3_admitBorrower 8 = .ok (.ifCond .ne 7, 3) := by decide +kernel
theorem dX3_admitBorrower_11 : decode cX3_admitBorrower 11 = .ok (.getstatic 148, 3) := by decide +kernel
theorem dX3_admitBorrower_14 : decode cX3_admitBorrower 14 = .ok (.areturn, 1) := by decide +kernel
theorem dX3_admitBorrower_15 : decode cX3_admitBorrower 15 = .ok (.aload_n 0, 1) := by decide +kernel
theorem dX3_admitBorrower_16 : decode cX3_admitBorrower 16 = .ok (.getfield 18, 3) := by decide +kernel
theorem dX3_admitBorrower_19 : decode cX3_admitBorrower 19 = .ok (.bipush 6, 2) := by decide +kernel
theorem dX3_admitBorrower_21 : decode cX3_admitBorrower 21 = .ok (.if_icmp .lt 7, 3) := by decide +kernel
theorem dX3_admitBorrower_24 : decode cX3_admitBorrower 24 = .ok (.getstatic 96, 3) := by decide +kernel
theorem dX3_admitBorrower_27 : decode cX3_admitBorrower 27 = .ok (.areturn, 1) := by decide +kernel
theorem dX3_admitBorrower_28 : decode cX3_admitBorrower 28 = .ok (.aload_n 0, 1) := by decide +kernel
theorem dX3_admitBorrower_29 : decode cX3_admitBorrower 29 = .ok (.aload_n 0, 1) := by decide +kernel
theorem dX3_admitBorrower_30 : decode cX3_admitBorrower 30 = .ok (.getfield 18, 3) := by decide +kernel
theorem dX3_admitBorrower_33 : decode cX3_admitBorrower 33 = .ok (.putfield 39, 3) := by decide +kernel
theorem dX3_admitBorrower_36 : decode cX3_admitBorrower 36 = .ok (.aload_n 0, 1) := by decide +kernel
theorem dX3_admitBorrower_37 : decode cX3_admitBorrower 37 = .ok (.getfield 54, 3) := by decide +kernel
theorem dX3_admitBorrower_40 : decode cX3_admitBorrower 40 = .ok (.aload_n 0, 1) := by decide +kernel
theorem dX3_admitBorrower_41 : decode cX3_admitBorrower 41 = .ok (.getfield 18, 3) := by decide +kernel
theorem dX3_admitBorrower_44 : decode cX3_admitBorrower 44 = .ok (.aaload, 1) := by decide +kernel
theorem dX3_admitBorrower_45 : decode cX3_admitBorrower 45 = .ok (.iload_n 1, 1) := by decide +kernel
theorem dX3_admitBorrower_46 : decode cX3_admitBorrower 46 = .ok (.invokevirtual 151, 3) := by decide +kernel
theorem dX3_admitBorrower_49 : decode cX3_admitBorrower 49 = .ok (.aload_n 0, 1) := by decide +kernel
theorem dX3_admitBorrower_50 : decode cX3_admitBorrower 50 = .ok (.dup, 1) := by decide +kernel
theorem dX3_admitBorrower_51 : decode cX3_admitBorrower 51 = .ok (.getfield 18, 3) := by decide +kernel
theorem dX3_admitBorrower_54 : decode cX3_admitBorrower 54 = .ok (.iconst 1, 1) := by decide +kernel
theorem dX3_admitBorrower_55 : decode cX3_admitBorrower 55 = .ok (.iadd, 1) := by decide +kernel
theorem dX3_admitBorrower_56 : decode cX3_admitBorrower 56 = .ok (.putfield 18, 3) := by decide +kernel
theorem dX3_admitBorrower_59 : decode cX3_admitBorrower 59 = .ok (.aload_n 0, 1) := by decide +kernel
theorem dX3_admitBorrower_60 : decode cX3_admitBorrower 60 = .ok (.dup, 1) := by decide +kernel
theorem dX3_admitBorrower_61 : decode cX3_admitBorrower 61 = .ok (.getfield 36, 3) := by decide +kernel
theorem dX3_admitBorrower_64 : decode cX3_admitBorrower 64 = .ok (.iload_n 1, 1) := by decide +kernel
theorem dX3_admitBorrower_65 : decode cX3_admitBorrower 65 = .ok (.iadd, 1) := by decide +kernel
theorem dX3_admitBorrower_66 : decode cX3_admitBorrower 66 = .ok (.putfield 36, 3) := by decide +kernel
theorem dX3_admitBorrower_69 : decode cX3_admitBorrower 69 = .ok (.getstatic 155, 3) := by decide +kernel
theorem dX3_admitBorrower_72 : decode cX3_admitBorrower 72 = .ok (.areturn, 1) := by decide +kernel
theorem dX3_bringUnits_0 : decode cX3_bringUnits 0 = .ok (.aload_n 0, 1) := by decide +kernel
theorem dX3_bringUnits_1 : decode cX3_bringUnits 1 = .ok (.iload_n 1, 1) := by decide +kernel
theorem dX3_bringUnits_2 : decode cX3_bringUnits 2 = .ok (.invokevirtual 158, 3) := by decide +kernel
theorem dX3_bringUnits_5 : decode cX3_bringUnits 5 = .ok (.astore 4, 2) := by decide +kernel
theorem dX3_bringUnits_7 : decode cX3_bringUnits 7 = .ok (.aload 4, 2) := by decide +kernel
theorem dX3_bringUnits_9 : decode cX3_bringUnits 9 = .ok (.ifnull 10, 3) := by decide +kernel
theorem dX3_bringUnits_12 : decode cX3_bringUnits 12 = .ok (.iload_n 2, 1) := by decide +kernel
theorem dX3_bringUnits_13 : decode cX3_bringUnits 13 = .ok (.invokestatic 162, 3) := by decide +kernel
theorem dX3_bringUnits_16 : decode cX3_bringUnits 16 = .ok (.ifCond .ne 7, 3) := by decide +kernel
theorem dX3_bringUnits_19 : decode cX3_bringUnits 19 = .ok (.getstatic 166, 3) := by decide +kernel
theorem dX3_bringUnits_22 : decode cX3_bringUnits 22 = .ok (.areturn, 1) := by decide +kernel
theorem dX3_bringUnits_23 : decode cX3_bringUnits 23 = .ok (.iload_n 3, 1) := by decide +kernel
theorem dX3_bringUnits_24 : decode cX3_bringUnits 24 = .ok (.iconst 1, 1) := by decide +kernel
theorem dX3_bringUnits_25 : decode cX3_bringUnits 25 = .ok (.bipush 99, 2) := by decide +kernel
theorem dX3_bringUnits_27 : decode cX3_bringUnits 27 = .ok (.invokestatic 144, 3) := by decide +kernel
theorem dX3_bringUnits_30 : decode cX3_bringUnits 30 = .ok (.ifCond .ne 7, 3) := by decide +kernel
theorem dX3_bringUnits_33 : decode cX3_bringUnits 33 = .ok (.getstatic 148, 3) := by decide +kernel
theorem dX3_bringUnits_36 : decode cX3_bringUnits 36 = .ok (.areturn, 1) := by decide +kernel
theorem dX3_bringUnits_37 : decode cX3_bringUnits 37 = .ok (.aload 4, 2) := by decide +kernel
theorem dX3_bringUnits_39 : decode cX3_bringUnits 39 = .ok (.getfield 169, 3) := by decide +kernel
theorem dX3_bringUnits_42 : decode cX3_bringUnits 42 = .ok (.iload_n 2, 1) := by decide +kernel
theorem dX3_bringUnits_43 : decode cX3_bringUnits 43 = .ok (.iaload, 1) := by decide +kernel
theorem dX3_bringUnits_44 : decode cX3_bringUnits 44 = .ok (.iload_n 3, 1) := by decide +kernel
theorem dX3_bringUnits_45 : decode cX3_bringUnits 45 = .ok (.iadd, 1) := by decide +kernel
theorem dX3_bringUnits_46 : decode cX3_bringUnits 46 = .ok (.sipush 999, 3) := by decide +kernel
theorem dX3_bringUnits_49 : decode cX3_bringUnits 49 = .ok (.if_icmp .le 7, 3) := by decide +kernel
theorem dX3_bringUnits_52 : decode cX3_bringUnits 52 = .ok (.getstatic 96, 3) := by decide +kernel
theorem dX3_bringUnits_55 : decode cX3_bringUnits 55 = .ok (.areturn, 1) := by decide +kernel
theorem dX3_bringUnits_56 : decode cX3_bringUnits 56 = .ok (.aload 4, 2) := by decide +kernel
theorem dX3_bringUnits_58 : decode cX3_bringUnits 58 = .ok (.getfield 169, 3) := by decide +kernel
theorem dX3_bringUnits_61 : decode cX3_bringUnits 61 = .ok (.iload_n 2, 1) := by decide +kernel
theorem dX3_bringUnits_62 : decode cX3_bringUnits 62 = .ok (.dup2, 1) := by decide +kernel
theorem dX3_bringUnits_63 : decode cX3_bringUnits 63 = .ok (.iaload, 1) := by decide +kernel
theorem dX3_bringUnits_64 : decode cX3_bringUnits 64 = .ok (.iload_n 3, 1) := by decide +kernel
theorem dX3_bringUnits_65 : decode cX3_bringUnits 65 = .ok (.iadd, 1) := by decide +kernel
theorem dX3_bringUnits_66 : decode cX3_bringUnits 66 = .ok (.iastore, 1) := by decide +kernel
theorem dX3_bringUnits_67 : decode cX3_bringUnits 67 = .ok (.aload_n 0, 1) := by decide +kernel
theorem dX3_bringUnits_68 : decode cX3_bringUnits 68 = .ok (.getfield 49, 3) := by decide +kernel
theorem dX3_bringUnits_71 : decode cX3_bringUnits 71 = .ok (.iload_n 2, 1) := by decide +kernel
theorem dX3_bringUnits_72 : decode cX3_bringUnits 72 = .ok (.dup2, 1) := by decide +kernel
theorem dX3_bringUnits_73 : decode cX3_bringUnits 73 = .ok (.iaload, 1) := by decide +kernel
theorem dX3_bringUnits_74 : decode cX3_bringUnits 74 = .ok (.iload_n 3, 1) := by decide +kernel
theorem dX3_bringUnits_75 : decode cX3_bringUnits 75 = .ok (.iadd, 1) := by decide +kernel
theorem dX3_bringUnits_76 : decode cX3_bringUnits 76 = .ok (.iastore, 1) := by decide +kernel
theorem dX3_bringUnits_77 : decode cX3_bringUnits 77 = .ok (.aload_n 0, 1) := by decide +kernel
theorem dX3_bringUnits_78 : decode cX3_bringUnits 78 = .ok (.aload 4, 2) := by decide +kernel
theorem dX3_bringUnits_80 : decode cX3_bringUnits 80 = .ok (.getfield 169, 3) := by decide +kernel
theorem dX3_bringUnits_83 : decode cX3_bringUnits 83 = .ok (.iload_n 2, 1) := by decide +kernel
theorem dX3_bringUnits_84 : decode cX3_bringUnits 84 = .ok (.iaload, 1) := by decide +kernel
theorem dX3_bringUnits_85 : decode cX3_bringUnits 85 = .ok (.putfield 39, 3) := by decide +kernel
theorem dX3_bringUnits_88 : decode cX3_bringUnits 88 = .ok (.getstatic 155, 3) := by decide +kernel
theorem dX3_bringUnits_91 : decode cX3_bringUnits 91 = .ok (.areturn, 1) := by decide +kernel
theorem dX3_changePrice_0 : decode cX3_changePrice 0 = .ok (.iload_n 1, 1) := by decide +kernel
theorem dX3_changePrice_1 : decode cX3_changePrice 1 = .ok (.invokestatic 162, 3) := by decide +kernel
theorem dX3_changePrice_4 : decode cX3_changePrice 4 = .ok (.ifCond .ne 7, 3) := by decide +kernel
theorem dX3_changePrice_7 : decode cX3_changePrice 7 = .ok (.getstatic 166, 3) := by decide +kernel
theorem dX3_changePrice_10 : decode cX3_changePrice 10 = .ok (.areturn, 1) := by decide +kernel
theorem dX3_changePrice_11 : decode cX3_changePrice 11 = .ok (.iload_n 2, 1) := by decide +kernel
theorem dX3_changePrice_12 : decode cX3_changePrice 12 = .ok (.iconst 1, 1) := by decide +kernel
theorem dX3_changePrice_13 : decode cX3_changePrice 13 = .ok (.bipush 99, 2) := by decide +kernel
theorem dX3_changePrice_15 : decode cX3_changePrice 15 = .ok (.invokestatic 144, 3) := by decide +kernel
theorem dX3_changePrice_18 : decode cX3_changePrice 18 = .ok (.ifCond .ne 7, 3) := by decide +kernel
theorem dX3_changePrice_21 : decode cX3_changePrice 21 = .ok (.getstatic 148, 3) := by decide +kernel
theorem dX3_changePrice_24 : decode cX3_changePrice 24 = .ok (.areturn, 1) := by decide +kernel
theorem dX3_changePrice_25 : decode cX3_changePrice 25 = .ok (.aload_n 0, 1) := by decide +kernel
theorem dX3_changePrice_26 : decode cX3_changePrice 26 = .ok (.aload_n 0, 1) := by decide +kernel
theorem dX3_changePrice_27 : decode cX3_changePrice 27 = .ok (.getfield 42, 3) := by decide +kernel
theorem dX3_changePrice_30 : decode cX3_changePrice 30 = .ok (.iload_n 1, 1) := by decide +kernel
theorem dX3_changePrice_31 : decode cX3_changePrice 31 = .ok (.iaload, 1) := by decide +kernel
theorem dX3_changePrice_32 : decode cX3_changePrice 32 = .ok (.putfield 39, 3) := by decide +kernel
theorem dX3_changePrice_35 : decode cX3_changePrice 35 = .ok (.aload_n 0, 1) := by decide +kernel
theorem dX3_changePrice_36 : decode cX3_changePrice 36 = .ok (.getfield 42, 3) := by decide +kernel
theorem dX3_changePrice_39 : decode cX3_changePrice 39 = .ok (.iload_n 1, 1) := by decide +kernel
theorem dX3_changePrice_40 : decode cX3_changePrice 40 = .ok (.iload_n 2, 1) := by decide +kernel
theorem dX3_changePrice_41 : decode cX3_changePrice 41 = .ok (.iastore, 1) := by decide +kernel
theorem dX3_changePrice_42 : decode cX3_changePrice 42 = .ok (.getstatic 155, 3) := by decide +kernel
theorem dX3_changePrice_45 : decode cX3_changePrice 45 = .ok (.areturn, 1) := by decide +kernel
theorem dX3_grantLoan_0 : decode cX3_grantLoan 0 = .ok (.aload_n 0, 1) := by decide +kernel
theorem dX3_grantLoan_1 : decode cX3_grantLoan 1 = .ok (.iload_n 1, 1) := by decide +kernel
theorem dX3_grantLoan_2 : decode cX3_grantLoan 2 = .ok (.invokevirtual 158, 3) := by decide +kernel
theorem dX3_grantLoan_5 : decode cX3_grantLoan 5 = .ok (.astore 6, 2) := by decide +kernel
theorem dX3_grantLoan_7 : decode cX3_grantLoan 7 = .ok (.aload 6, 2) := by decide +kernel
theorem dX3_grantLoan_9 : decode cX3_grantLoan 9 = .ok (.ifnull 10, 3) := by decide +kernel
theorem dX3_grantLoan_12 : decode cX3_grantLoan 12 = .ok (.iload_n 2, 1) := by decide +kernel
theorem dX3_grantLoan_13 : decode cX3_grantLoan 13 = .ok (.invokestatic 162, 3) := by decide +kernel
theorem dX3_grantLoan_16 : decode cX3_grantLoan 16 = .ok (.ifCond .ne 7, 3) := by decide +kernel
theorem dX3_grantLoan_19 : decode cX3_grantLoan 19 = .ok (.getstatic 166, 3) := by decide +kernel
theorem dX3_grantLoan_22 : decode cX3_grantLoan 22 = .ok (.areturn, 1) := by decide +kernel
theorem dX3_grantLoan_23 : decode cX3_grantLoan 23 = .ok (.iload_n 3, 1) := by decide +kernel
theorem dX3_grantLoan_24 : decode cX3_grantLoan 24 = .ok (.iconst 1, 1) := by decide +kernel
theorem dX3_grantLoan_25 : decode cX3_grantLoan 25 = .ok (.bipush 99, 2) := by decide +kernel
theorem dX3_grantLoan_27 : decode cX3_grantLoan 27 = .ok (.invokestatic 144, 3) := by decide +kernel
theorem dX3_grantLoan_30 : decode cX3_grantLoan 30 = .ok (.ifCond .eq 26, 3) := by decide +kernel
theorem dX3_grantLoan_33 : decode cX3_grantLoan 33 = .ok (.iload 4, 2) := by decide +kernel
theorem dX3_grantLoan_35 : decode cX3_grantLoan 35 = .ok (.iconst 1, 1) := by decide +kernel
theorem dX3_grantLoan_36 : decode cX3_grantLoan 36 = .ok (.sipush 500, 3) := by decide +kernel
theorem dX3_grantLoan_39 : decode cX3_grantLoan 39 = .ok (.invokestatic 144, 3) := by decide +kernel
theorem dX3_grantLoan_42 : decode cX3_grantLoan 42 = .ok (.ifCond .eq 14, 3) := by decide +kernel
theorem dX3_grantLoan_45 : decode cX3_grantLoan 45 = .ok (.iload 5, 2) := by decide +kernel
theorem dX3_grantLoan_47 : decode cX3_grantLoan 47 = .ok (.iconst 1, 1) := by decide +kernel
theorem dX3_grantLoan_48 : decode cX3_grantLoan 48 = .ok (.bipush 60, 2) := by decide +kernel
theorem dX3_grantLoan_50 : decode cX3_grantLoan 50 = .ok (.invokestatic 144, 3) := by decide +kernel
theorem dX3_grantLoan_53 : decode cX3_grantLoan 53 = .ok (.ifCond .ne 7, 3) := by decide +kernel
theorem dX3_grantLoan_56 : decode cX3_grantLoan 56 = .ok (.getstatic 148, 3) := by decide +kernel
theorem dX3_grantLoan_59 : decode cX3_grantLoan 59 = .ok (.areturn, 1) := by decide +kernel
theorem dX3_grantLoan_60 : decode cX3_grantLoan 60 = .ok (.aload_n 0, 1) := by decide +kernel
theorem dX3_grantLoan_61 : decode cX3_grantLoan 61 = .ok (.aload 6, 2) := by decide +kernel
theorem dX3_grantLoan_63 : decode cX3_grantLoan 63 = .ok (.iload_n 2, 1) := by decide +kernel
theorem dX3_grantLoan_64 : decode cX3_grantLoan 64 = .ok (.iload_n 3, 1) := by decide +kernel
theorem dX3_grantLoan_65 : decode cX3_grantLoan 65 = .ok (.invokevirtual 172, 3) := by decide +kernel
theorem dX3_grantLoan_68 : decode cX3_grantLoan 68 = .ok (.ifCond .eq 28, 3) := by decide +kernel
theorem dX3_grantLoan_71 : decode cX3_grantLoan 71 = .ok (.aload_n 0, 1) := by decide +kernel
theorem dX3_grantLoan_72 : decode cX3_grantLoan 72 = .ok (.getfield 15, 3) := by decide +kernel
theorem dX3_grantLoan_75 : decode cX3_grantLoan 75 = .ok (.iload 4, 2) := by decide +kernel
theorem dX3_grantLoan_77 : decode cX3_grantLoan 77 = .ok (.if_icmp .lt 19, 3) := by decide +kernel
theorem dX3_grantLoan_80 : decode cX3_grantLoan 80 = .ok (.iload 4, 2) := by decide +kernel
theorem dX3_grantLoan_82 : decode cX3_grantLoan 82 = .ok (.iload_n 3, 1) := by decide +kernel
theorem dX3_grantLoan_83 : decode cX3_grantLoan 83 = .ok (.aload_n 0, 1) := by decide +kernel
theorem dX3_grantLoan_84 : decode cX3_grantLoan 84 = .ok (.getfield 42, 3) := by decide +kernel
theorem dX3_grantLoan_87 : decode cX3_grantLoan 87 = .ok (.iload_n 2, 1) := by decide +kernel
theorem dX3_grantLoan_88 : decode cX3_grantLoan 88 = .ok (.iaload, 1) := by decide +kernel
theorem dX3_grantLoan_89 : decode cX3_grantLoan 89 = .ok (.imul, 1) := by decide +kernel
theorem dX3_grantLoan_90 : decode cX3_grantLoan 90 = .ok (.invokestatic 176, 3) := by decide +kernel
theorem dX3_grantLoan_93 : decode cX3_grantLoan 93 = .ok (.ifCond .ne 7, 3) := by decide +kernel
theorem dX3_grantLoan_96 : decode cX3_grantLoan 96 = .ok (.getstatic 96, 3) := by decide +kernel
theorem dX3_grantLoan_99 : decode cX3_grantLoan 99 = .ok (.areturn, 1) := by decide +kernel
theorem dX3_grantLoan_100 : decode cX3_grantLoan 100 = .ok (.aload_n 0, 1) := by decide +kernel
theorem dX3_grantLoan_101 : decode cX3_grantLoan 101 = .ok (.getfield 60, 3) := by decide +kernel
theorem dX3_grantLoan_104 : decode cX3_grantLoan 104 = .ok (.aload_n 0, 1) := by decide +kernel
theorem dX3_grantLoan_105 : decode cX3_grantLoan 105 = .ok (.getfield 21, 3) := by decide +kernel
theorem dX3_grantLoan_108 : decode cX3_grantLoan 108 = .ok (.aaload, 1) := by decide +kernel
theorem dX3_grantLoan_109 : decode cX3_grantLoan 109 = .ok (.astore 7, 2) := by decide +kernel
theorem dX3_grantLoan_111 : decode cX3_grantLoan 111 = .ok (.aload 7, 2) := by decide +kernel
theorem dX3_grantLoan_113 : decode cX3_grantLoan 113 = .ok (.aload_n 0, 1) := by decide +kernel
theorem dX3_grantLoan_114 : decode cX3_grantLoan 114 = .ok (.getfield 24, 3) := by decide +kernel
theorem dX3_grantLoan_117 : decode cX3_grantLoan 117 = .ok (.iload_n 1, 1) := by decide +kernel
theorem dX3_grantLoan_118 : decode cX3_grantLoan 118 = .ok (.iload 4, 2) := by decide +kernel
theorem dX3_grantLoan_120 : decode cX3_grantLoan 120 = .ok (.bipush 10, 2) := by decide +kernel
theorem dX3_grantLoan_122 : decode cX3_grantLoan 122 = .ok (.iconst 5, 1) := by decide +kernel
theorem dX3_grantLoan_123 : decode cX3_grantLoan 123 = .ok (.aload_n 0, 1) := by decide +kernel
theorem dX3_grantLoan_124 : decode cX3_grantLoan 124 = .ok (.iload_n 1, 1) := by decide +kernel
theorem dX3_grantLoan_125 : decode cX3_grantLoan 125 = .ok (.invokevirtual 180, 3) := by decide +kernel
theorem dX3_grantLoan_128 : decode cX3_grantLoan 128 = .ok (.imul, 1) := by decide +kernel
theorem dX3_grantLoan_129 : decode cX3_grantLoan 129 = .ok (.iadd, 1) := by decide +kernel
theorem dX3_grantLoan_130 : decode cX3_grantLoan 130 = .ok (.aload_n 0, 1) := by decide +kernel
theorem dX3_grantLoan_131 : decode cX3_grantLoan 131 = .ok (.getfield 9, 3) := by decide +kernel
theorem dX3_grantLoan_134 : decode cX3_grantLoan 134 = .ok (.iload 5, 2) := by decide +kernel
theorem dX3_grantLoan_136 : decode cX3_grantLoan 136 = .ok (.iadd, 1) := by decide +kernel
theorem dX3_grantLoan_137 : decode cX3_grantLoan 137 = .ok (.invokevirtual 183, 3) := by decide +kernel
theorem dX3_grantLoan_140 : decode cX3_grantLoan 140 = .ok (.aload 7, 2) := by decide +kernel
theorem dX3_grantLoan_142 : decode cX3_grantLoan 142 = .ok (.getfield 186, 3) := by decide +kernel
theorem dX3_grantLoan_145 : decode cX3_grantLoan 145 = .ok (.iload_n 2, 1) := by decide +kernel
theorem dX3_grantLoan_146 : decode cX3_grantLoan 146 = .ok (.iload_n 3, 1) := by decide +kernel
theorem dX3_grantLoan_147 : decode cX3_grantLoan 147 = .ok (.iastore, 1) := by decide +kernel
theorem dX3_grantLoan_148 : decode cX3_grantLoan 148 = .ok (.aload 6, 2) := by decide +kernel
theorem dX3_grantLoan_150 : decode cX3_grantLoan 150 = .ok (.getfield 169, 3) := by decide +kernel
theorem dX3_grantLoan_153 : decode cX3_grantLoan 153 = .ok (.iload_n 2, 1) := by decide +kernel
theorem dX3_grantLoan_154 : decode cX3_grantLoan 154 = .ok (.dup2, 1) := by decide +kernel
theorem dX3_grantLoan_155 : decode cX3_grantLoan 155 = .ok (.iaload, 1) := by decide +kernel
theorem dX3_grantLoan_156 : decode cX3_grantLoan 156 = .ok (.iload_n 3, 1) := by decide +kernel
theorem dX3_grantLoan_157 : decode cX3_grantLoan 157 = .ok (.isub, 1) := by decide +kernel
theorem dX3_grantLoan_158 : decode cX3_grantLoan 158 = .ok (.iastore, 1) := by decide +kernel
theorem dX3_grantLoan_159 : decode cX3_grantLoan 159 = .ok (.aload 6, 2) := by decide +kernel
theorem dX3_grantLoan_161 : decode cX3_grantLoan 161 = .ok (.dup, 1) := by decide +kernel
theorem dX3_grantLoan_162 : decode cX3_grantLoan 162 = .ok (.getfield 189, 3) := by decide +kernel
theorem dX3_grantLoan_165 : decode cX3_grantLoan 165 = .ok (.iload 4, 2) := by decide +kernel
theorem dX3_grantLoan_167 : decode cX3_grantLoan 167 = .ok (.iadd, 1) := by decide +kernel
theorem dX3_grantLoan_168 : decode cX3_grantLoan 168 = .ok (.putfield 189, 3) := by decide +kernel
theorem dX3_grantLoan_171 : decode cX3_grantLoan 171 = .ok (.aload_n 0, 1) := by decide +kernel
theorem dX3_grantLoan_172 : decode cX3_grantLoan 172 = .ok (.dup, 1) := by decide +kernel
theorem dX3_grantLoan_173 : decode cX3_grantLoan 173 = .ok (.getfield 15, 3) := by decide +kernel
theorem dX3_grantLoan_176 : decode cX3_grantLoan 176 = .ok (.iload 4, 2) := by decide +kernel
theorem dX3_grantLoan_178 : decode cX3_grantLoan 178 = .ok (.isub, 1) := by decide +kernel
theorem dX3_grantLoan_179 : decode cX3_grantLoan 179 = .ok (.putfield 15, 3) := by decide +kernel
theorem dX3_grantLoan_182 : decode cX3_grantLoan 182 = .ok (.aload_n 0, 1) := by decide +kernel
theorem dX3_grantLoan_183 : decode cX3_grantLoan 183 = .ok (.dup, 1) := by decide +kernel
theorem dX3_grantLoan_184 : decode cX3_grantLoan 184 = .ok (.getfield 21, 3) := by decide +kernel
theorem dX3_grantLoan_187 : decode cX3_grantLoan 187 = .ok (.iconst 1, 1) := by decide +kernel
theorem dX3_grantLoan_188 : decode cX3_grantLoan 188 = .ok (.iadd, 1) := by decide +kernel
theorem dX3_grantLoan_189 : decode cX3_grantLoan 189 = .ok (.putfield 21, 3) := by decide +kernel
theorem dX3_grantLoan_192 : decode cX3_grantLoan 192 = .ok (.aload_n 0, 1) := by decide +kernel
theorem dX3_grantLoan_193 : decode cX3_grantLoan 193 = .ok (.aload_n 0, 1) := by decide +kernel
theorem dX3_grantLoan_194 : decode cX3_grantLoan 194 = .ok (.getfield 24, 3) := by decide +kernel
theorem dX3_grantLoan_197 : decode cX3_grantLoan 197 = .ok (.putfield 39, 3) := by decide +kernel
theorem dX3_grantLoan_200 : decode cX3_grantLoan 200 = .ok (.aload_n 0, 1) := by decide +kernel
theorem dX3_grantLoan_201 : decode cX3_grantLoan 201 = .ok (.dup, 1) := by decide +kernel
theorem dX3_grantLoan_202 : decode cX3_grantLoan 202 = .ok (.getfield 24, 3) := by decide +kernel
theorem dX3_grantLoan_205 : decode cX3_grantLoan 205 = .ok (.iconst 1, 1) := by decide +kernel
theorem dX3_grantLoan_206 : decode cX3_grantLoan 206 = .ok (.iadd, 1) := by decide +kernel
theorem dX3_grantLoan_207 : decode cX3_grantLoan 207 = .ok (.putfield 24, 3) := by decide +kernel
theorem dX3_grantLoan_210 : decode cX3_grantLoan 210 = .ok (.getstatic 155, 3) := by decide +kernel
theorem dX3_grantLoan_213 : decode cX3_grantLoan 213 = .ok (.areturn, 1) := by decide +kernel
theorem dX3_mayPledgeForLoan_0 : decode cX3_mayPledgeForLoan 0 = .ok (.aload_n 0, 1) := by decide +kernel
theorem dX3_mayPledgeForLoan_1 : decode cX3_mayPledgeForLoan 1 = .ok (.getfield 21, 3) := by decide +kernel
theorem dX3_mayPledgeForLoan_4 : decode cX3_mayPledgeForLoan 4 = .ok (.bipush 10, 2) := by decide +kernel
theorem dX3_mayPledgeForLoan_6 : decode cX3_mayPledgeForLoan 6 = .ok (.if_icmp .ge 24, 3) := by decide +kernel
theorem dX3_mayPledgeForLoan_9 : decode cX3_mayPledgeForLoan 9 = .ok (.aload_n 1, 1) := by decide +kernel
theorem dX3_mayPledgeForLoan_10 : decode cX3_mayPledgeForLoan 10 = .ok (.invokevirtual 192, 3) := by decide +kernel
theorem dX3_mayPledgeForLoan_13 : decode cX3_mayPledgeForLoan 13 = .ok (.ifCond .eq 17, 3) := by decide +kernel
theorem dX3_mayPledgeForLoan_16 : decode cX3_mayPledgeForLoan 16 = .ok (.aload_n 1, 1) := by decide +kernel
theorem dX3_mayPledgeForLoan_17 : decode cX3_mayPledgeForLoan 17 = .ok (.getfield 169, 3) := by decide +kernel
theorem dX3_mayPledgeForLoan_20 : decode cX3_mayPledgeForLoan 20 = .ok (.iload_n 2, 1) := by decide +kernel
theorem dX3_mayPledgeForLoan_21 : decode cX3_mayPledgeForLoan 21 = .ok (.iaload, 1) := by decide +kernel
theorem dX3_mayPledgeForLoan_22 : decode cX3_mayPledgeForLoan 22 = .ok (.iload_n 3, 1) := by decide +kernel
theorem dX3_mayPledgeForLoan_23 : decode cX3_mayPledgeForLoan 23 = .ok (.if_icmp .lt 7, 3) := by decide +kernel
theorem dX3_mayPledgeForLoan_26 : decode cX3_mayPledgeForLoan 26 = .ok (.iconst 1, 1) := by decide +kernel
theorem dX3_mayPledgeForLoan_27 : decode cX3_mayPledgeForLoan 27 = .ok (.goto 4, 3) := by decide +kernel
theorem dX3_mayPledgeForLoan_30 : decode cX3_mayPledgeForLoan 30 = .ok (.iconst 0, 1) := by decide +kernel
theorem dX3_mayPledgeForLoan_31 : decode cX3_mayPledgeForLoan 31 = .ok (.ireturn, 1) := by decide +kernel
theorem dX3_pledgeUnits_0 : decode cX3_pledgeUnits 0 = .ok (.aload_n 0, 1) := by decide +kernel
theorem dX3_pledgeUnits_1 : decode cX3_pledgeUnits 1 = .ok (.iload_n 1, 1) := by decide +kernel
theorem dX3_pledgeUnits_2 : decode cX3_pledgeUnits 2 = .ok (.invokevirtual 196, 3) := by decide +kernel
theorem dX3_pledgeUnits_5 : decode cX3_pledgeUnits 5 = .ok (.astore 4, 2) := by decide +kernel
theorem dX3_pledgeUnits_7 : decode cX3_pledgeUnits 7 = .ok (.aload 4, 2) := by decide +kernel
theorem dX3_pledgeUnits_9 : decode cX3_pledgeUnits 9 = .ok (.ifnonnull 7, 3) := by decide +kernel
theorem dX3_pledgeUnits_12 : decode cX3_pledgeUnits 12 = .ok (.getstatic 200, 3) := by decide +kernel
theorem dX3_pledgeUnits_15 : decode cX3_pledgeUnits 15 = .ok (.areturn, 1) := by decide +kernel
theorem dX3_pledgeUnits_16 : decode cX3_pledgeUnits 16 = .ok (.iload_n 2, 1) := by decide +kernel
theorem dX3_pledgeUnits_17 : decode cX3_pledgeUnits 17 = .ok (.invokestatic 162, 3) := by decide +kernel
theorem dX3_pledgeUnits_20 : decode cX3_pledgeUnits 20 = .ok (.ifCond .ne 7, 3) := by decide +kernel
theorem dX3_pledgeUnits_23 : decode cX3_pledgeUnits 23 = .ok (.getstatic 166, 3) := by decide +kernel
theorem dX3_pledgeUnits_26 : decode cX3_pledgeUnits 26 = .ok (.areturn, 1) := by decide +kernel
theorem dX3_pledgeUnits_27 : decode cX3_pledgeUnits 27 = .ok (.iload_n 3, 1) := by decide +kernel
theorem dX3_pledgeUnits_28 : decode cX3_pledgeUnits 28 = .ok (.iconst 1, 1) := by decide +kernel
theorem dX3_pledgeUnits_29 : decode cX3_pledgeUnits 29 = .ok (.bipush 99, 2) := by decide +kernel
theorem dX3_pledgeUnits_31 : decode cX3_pledgeUnits 31 = .ok (.invokestatic 144, 3) := by decide +kernel
theorem dX3_pledgeUnits_34 : decode cX3_pledgeUnits 34 = .ok (.ifCond .ne 7, 3) := by decide +kernel
theorem dX3_pledgeUnits_37 : decode cX3_pledgeUnits 37 = .ok (.getstatic 148, 3) := by decide +kernel
theorem dX3_pledgeUnits_40 : decode cX3_pledgeUnits 40 = .ok (.areturn, 1) := by decide +kernel
theorem dX3_pledgeUnits_41 : decode cX3_pledgeUnits 41 = .ok (.aload_n 0, 1) := by decide +kernel
theorem dX3_pledgeUnits_42 : decode cX3_pledgeUnits 42 = .ok (.aload 4, 2) := by decide +kernel
theorem dX3_pledgeUnits_44 : decode cX3_pledgeUnits 44 = .ok (.getfield 203, 3) := by decide +kernel
theorem dX3_pledgeUnits_47 : decode cX3_pledgeUnits 47 = .ok (.invokevirtual 158, 3) := by decide +kernel
theorem dX3_pledgeUnits_50 : decode cX3_pledgeUnits 50 = .ok (.astore 5, 2) := by decide +kernel
theorem dX3_pledgeUnits_52 : decode cX3_pledgeUnits 52 = .ok (.aload 5, 2) := by decide +kernel
theorem dX3_pledgeUnits_54 : decode cX3_pledgeUnits 54 = .ok (.ifnull 14, 3) := by decide +kernel
theorem dX3_pledgeUnits_57 : decode cX3_pledgeUnits 57 = .ok (.aload 5, 2) := by decide +kernel
theorem dX3_pledgeUnits_59 : decode cX3_pledgeUnits 59 = .ok (.getfield 169, 3) := by decide +kernel
theorem dX3_pledgeUnits_62 : decode cX3_pledgeUnits 62 = .ok (.iload_n 2, 1) := by decide +kernel
theorem dX3_pledgeUnits_63 : decode cX3_pledgeUnits 63 = .ok (.iaload, 1) := by decide +kernel
theorem dX3_pledgeUnits_64 : decode cX3_pledgeUnits 64 = .ok (.iload_n 3, 1) := by decide +kernel
theorem dX3_pledgeUnits_65 : decode cX3_pledgeUnits 65 = .ok (.if_icmp .ge 7, 3) := by decide +kernel
theorem dX3_pledgeUnits_68 : decode cX3_pledgeUnits 68 = .ok (.getstatic 96, 3) := by decide +kernel
theorem dX3_pledgeUnits_71 : decode cX3_pledgeUnits 71 = .ok (.areturn, 1) := by decide +kernel
theorem dX3_pledgeUnits_72 : decode cX3_pledgeUnits 72 = .ok (.aload 5, 2) := by decide +kernel
theorem dX3_pledgeUnits_74 : decode cX3_pledgeUnits 74 = .ok (.getfield 169, 3) := by decide +kernel
theorem dX3_pledgeUnits_77 : decode cX3_pledgeUnits 77 = .ok (.iload_n 2, 1) := by decide +kernel
theorem dX3_pledgeUnits_78 : decode cX3_pledgeUnits 78 = .ok (.dup2, 1) := by decide +kernel
theorem dX3_pledgeUnits_79 : decode cX3_pledgeUnits 79 = .ok (.iaload, 1) := by decide +kernel
theorem dX3_pledgeUnits_80 : decode cX3_pledgeUnits 80 = .ok (.iload_n 3, 1) := by decide +kernel
theorem dX3_pledgeUnits_81 : decode cX3_pledgeUnits 81 = .ok (.isub, 1) := by decide +kernel
theorem dX3_pledgeUnits_82 : decode cX3_pledgeUnits 82 = .ok (.iastore, 1) := by decide +kernel
theorem dX3_pledgeUnits_83 : decode cX3_pledgeUnits 83 = .ok (.aload 4, 2) := by decide +kernel
theorem dX3_pledgeUnits_85 : decode cX3_pledgeUnits 85 = .ok (.getfield 186, 3) := by decide +kernel
theorem dX3_pledgeUnits_88 : decode cX3_pledgeUnits 88 = .ok (.iload_n 2, 1) := by decide +kernel
theorem dX3_pledgeUnits_89 : decode cX3_pledgeUnits 89 = .ok (.dup2, 1) := by decide +kernel
theorem dX3_pledgeUnits_90 : decode cX3_pledgeUnits 90 = .ok (.iaload, 1) := by decide +kernel
theorem dX3_pledgeUnits_91 : decode cX3_pledgeUnits 91 = .ok (.iload_n 3, 1) := by decide +kernel
theorem dX3_pledgeUnits_92 : decode cX3_pledgeUnits 92 = .ok (.iadd, 1) := by decide +kernel
theorem dX3_pledgeUnits_93 : decode cX3_pledgeUnits 93 = .ok (.iastore, 1) := by decide +kernel
theorem dX3_pledgeUnits_94 : decode cX3_pledgeUnits 94 = .ok (.aload_n 0, 1) := by decide +kernel
theorem dX3_pledgeUnits_95 : decode cX3_pledgeUnits 95 = .ok (.aload_n 0, 1) := by decide +kernel
theorem dX3_pledgeUnits_96 : decode cX3_pledgeUnits 96 = .ok (.aload 4, 2) := by decide +kernel
theorem dX3_pledgeUnits_98 : decode cX3_pledgeUnits 98 = .ok (.getfield 186, 3) := by decide +kernel
theorem dX3_pledgeUnits_101 : decode cX3_pledgeUnits 101 = .ok (.invokevirtual 206, 3) := by decide +kernel
theorem dX3_pledgeUnits_104 : decode cX3_pledgeUnits 104 = .ok (.putfield 39, 3) := by decide +kernel
theorem dX3_pledgeUnits_107 : decode cX3_pledgeUnits 107 = .ok (.getstatic 155, 3) := by decide +kernel
theorem dX3_pledgeUnits_110 : decode cX3_pledgeUnits 110 = .ok (.areturn, 1) := by decide +kernel
theorem dX3_releaseUnits_0 : decode cX3_releaseUnits 0 = .ok (.aload_n 0, 1) := by decide +kernel
theorem dX3_releaseUnits_1 : decode cX3_releaseUnits 1 = .ok (.iload_n 1, 1) := by decide +kernel
theorem dX3_releaseUnits_2 : decode cX3_releaseUnits 2 = .ok (.invokevirtual 196, 3) := by decide +kernel
theorem dX3_releaseUnits_5 : decode cX3_releaseUnits 5 = .ok (.astore 4, 2) := by decide +kernel
theorem dX3_releaseUnits_7 : decode cX3_releaseUnits 7 = .ok (.aload 4, 2) := by decide +kernel
theorem dX3_releaseUnits_9 : decode cX3_releaseUnits 9 = .ok (.ifnonnull 7, 3) := by decide +kernel
theorem dX3_releaseUnits_12 : decode cX3_releaseUnits 12 = .ok (.getstatic 200, 3) := by decide +kernel
theorem dX3_releaseUnits_15 : decode cX3_releaseUnits 15 = .ok (.areturn, 1) := by decide +kernel
theorem dX3_releaseUnits_16 : decode cX3_releaseUnits 16 = .ok (.iload_n 2, 1) := by decide +kernel
theorem dX3_releaseUnits_17 : decode cX3_releaseUnits 17 = .ok (.invokestatic 162, 3) := by decide +kernel
theorem dX3_releaseUnits_20 : decode cX3_releaseUnits 20 = .ok (.ifCond .ne 7, 3) := by decide +kernel
theorem dX3_releaseUnits_23 : decode cX3_releaseUnits 23 = .ok (.getstatic 166, 3) := by decide +kernel
theorem dX3_releaseUnits_26 : decode cX3_releaseUnits 26 = .ok (.areturn, 1) := by decide +kernel
theorem dX3_releaseUnits_27 : decode cX3_releaseUnits 27 = .ok (.iload_n 3, 1) := by decide +kernel
theorem dX3_releaseUnits_28 : decode cX3_releaseUnits 28 = .ok (.iconst 1, 1) := by decide +kernel
theorem dX3_releaseUnits_29 : decode cX3_releaseUnits 29 = .ok (.bipush 99, 2) := by decide +kernel
theorem dX3_releaseUnits_31 : decode cX3_releaseUnits 31 = .ok (.invokestatic 144, 3) := by decide +kernel
theorem dX3_releaseUnits_34 : decode cX3_releaseUnits 34 = .ok (.ifCond .ne 7, 3) := by decide +kernel
theorem dX3_releaseUnits_37 : decode cX3_releaseUnits 37 = .ok (.getstatic 148, 3) := by decide +kernel
theorem dX3_releaseUnits_40 : decode cX3_releaseUnits 40 = .ok (.areturn, 1) := by decide +kernel
theorem dX3_releaseUnits_41 : decode cX3_releaseUnits 41 = .ok (.aload_n 0, 1) := by decide +kernel
theorem dX3_releaseUnits_42 : decode cX3_releaseUnits 42 = .ok (.aload 4, 2) := by decide +kernel
theorem dX3_releaseUnits_44 : decode cX3_releaseUnits 44 = .ok (.getfield 203, 3) := by decide +kernel
theorem dX3_releaseUnits_47 : decode cX3_releaseUnits 47 = .ok (.invokevirtual 158, 3) := by decide +kernel
theorem dX3_releaseUnits_50 : decode cX3_releaseUnits 50 = .ok (.astore 5, 2) := by decide +kernel
theorem dX3_releaseUnits_52 : decode cX3_releaseUnits 52 = .ok (.aload_n 0, 1) := by decide +kernel
theorem dX3_releaseUnits_53 : decode cX3_releaseUnits 53 = .ok (.aload 4, 2) := by decide +kernel
theorem dX3_releaseUnits_55 : decode cX3_releaseUnits 55 = .ok (.getfield 186, 3) := by decide +kernel
theorem dX3_releaseUnits_58 : decode cX3_releaseUnits 58 = .ok (.invokevirtual 206, 3) := by decide +kernel
theorem dX3_releaseUnits_61 : decode cX3_releaseUnits 61 = .ok (.iload_n 3, 1) := by decide +kernel
theorem dX3_releaseUnits_62 : decode cX3_releaseUnits 62 = .ok (.aload_n 0, 1) := by decide +kernel
theorem dX3_releaseUnits_63 : decode cX3_releaseUnits 63 = .ok (.getfield 42, 3) := by decide +kernel
theorem dX3_releaseUnits_66 : decode cX3_releaseUnits 66 = .ok (.iload_n 2, 1) := by decide +kernel
theorem dX3_releaseUnits_67 : decode cX3_releaseUnits 67 = .ok (.iaload, 1) := by decide +kernel
theorem dX3_releaseUnits_68 : decode cX3_releaseUnits 68 = .ok (.imul, 1) := by decide +kernel
theorem dX3_releaseUnits_69 : decode cX3_releaseUnits 69 = .ok (.isub, 1) := by decide +kernel
theorem dX3_releaseUnits_70 : decode cX3_releaseUnits 70 = .ok (.istore 6, 2) := by decide +kernel
theorem dX3_releaseUnits_72 : decode cX3_releaseUnits 72 = .ok (.aload 5, 2) := by decide +kernel
theorem dX3_releaseUnits_74 : decode cX3_releaseUnits 74 = .ok (.ifnull 27, 3) := by decide +kernel
theorem dX3_releaseUnits_77 : decode cX3_releaseUnits 77 = .ok (.aload 4, 2) := by decide +kernel
theorem dX3_releaseUnits_79 : decode cX3_releaseUnits 79 = .ok (.getfield 186, 3) := by decide +kernel
theorem dX3_releaseUnits_82 : decode cX3_releaseUnits 82 = .ok (.iload_n 2, 1) := by decide +kernel
theorem dX3_releaseUnits_83 : decode cX3_releaseUnits 83 = .ok (.iaload, 1) := by decide +kernel
theorem dX3_releaseUnits_84 : decode cX3_releaseUnits 84 = .ok (.iload_n 3, 1) := by decide +kernel
theorem dX3_releaseUnits_85 : decode cX3_releaseUnits 85 = .ok (.if_icmp .lt 16, 3) := by decide +kernel
theorem dX3_releaseUnits_88 : decode cX3_releaseUnits 88 = .ok (.aload 4, 2) := by decide +kernel
theorem dX3_releaseUnits_90 : decode cX3_releaseUnits 90 = .ok (.invokevirtual 210, 3) := by decide +kernel
theorem dX3_releaseUnits_93 : decode cX3_releaseUnits 93 = .ok (.iload 6, 2) := by decide +kernel
theorem dX3_releaseUnits_95 : decode cX3_releaseUnits 95 = .ok (.invokestatic 176, 3) := by decide +kernel
theorem dX3_releaseUnits_98 : decode cX3_releaseUnits 98 = .ok (.ifCond .ne 7, 3) := by decide +kernel
theorem dX3_releaseUnits_101 : decode cX3_releaseUnits 101 = .ok (.getstatic 96, 3) := by decide +kernel
theorem dX3_releaseUnits_104 : decode cX3_releaseUnits 104 = .ok (.areturn, 1) := by decide +kernel
theorem dX3_releaseUnits_105 : decode cX3_releaseUnits 105 = .ok (.aload 4, 2) := by decide +kernel
theorem dX3_releaseUnits_107 : decode cX3_releaseUnits 107 = .ok (.getfield 186, 3) := by decide +kernel
theorem dX3_releaseUnits_110 : decode cX3_releaseUnits 110 = .ok (.iload_n 2, 1) := by decide +kernel
theorem dX3_releaseUnits_111 : decode cX3_releaseUnits 111 = .ok (.dup2, 1) := by decide +kernel
theorem dX3_releaseUnits_112 : decode cX3_releaseUnits 112 = .ok (.iaload, 1) := by decide +kernel
theorem dX3_releaseUnits_113 : decode cX3_releaseUnits 113 = .ok (.iload_n 3, 1) := by decide +kernel
theorem dX3_releaseUnits_114 : decode cX3_releaseUnits 114 = .ok (.isub, 1) := by decide +kernel
theorem dX3_releaseUnits_115 : decode cX3_releaseUnits 115 = .ok (.iastore, 1) := by decide +kernel
theorem dX3_releaseUnits_116 : decode cX3_releaseUnits 116 = .ok (.aload 5, 2) := by decide +kernel
theorem dX3_releaseUnits_118 : decode cX3_releaseUnits 118 = .ok (.getfield 169, 3) := by decide +kernel
theorem dX3_releaseUnits_121 : decode cX3_releaseUnits 121 = .ok (.iload_n 2, 1) := by decide +kernel
theorem dX3_releaseUnits_122 : decode cX3_releaseUnits 122 = .ok (.dup2, 1) := by decide +kernel
theorem dX3_releaseUnits_123 : decode cX3_releaseUnits 123 = .ok (.iaload, 1) := by decide +kernel
theorem dX3_releaseUnits_124 : decode cX3_releaseUnits 124 = .ok (.iload_n 3, 1) := by decide +kernel
theorem dX3_releaseUnits_125 : decode cX3_releaseUnits 125 = .ok (.iadd, 1) := by decide +kernel
theorem dX3_releaseUnits_126 : decode cX3_releaseUnits 126 = .ok (.iastore, 1) := by decide +kernel
theorem dX3_releaseUnits_127 : decode cX3_releaseUnits 127 = .ok (.aload_n 0, 1) := by decide +kernel
theorem dX3_releaseUnits_128 : decode cX3_releaseUnits 128 = .ok (.iload 6, 2) := by decide +kernel
theorem dX3_releaseUnits_130 : decode cX3_releaseUnits 130 = .ok (.putfield 39, 3) := by decide +kernel
theorem dX3_releaseUnits_133 : decode cX3_releaseUnits 133 = .ok (.getstatic 155, 3) := by decide +kernel
theorem dX3_releaseUnits_136 : decode cX3_releaseUnits 136 = .ok (.areturn, 1) := by decide +kernel
theorem dX3_repayLoan_0 : decode cX3_repayLoan 0 = .ok (.aload_n 0, 1) := by decide +kernel
theorem dX3_repayLoan_1 : decode cX3_repayLoan 1 = .ok (.iload_n 1, 1) := by decide +kernel
theorem dX3_repayLoan_2 : decode cX3_repayLoan 2 = .ok (.invokevirtual 92, 3) := by decide +kernel
theorem dX3_repayLoan_5 : decode cX3_repayLoan 5 = .ok (.istore_n 3, 1) := by decide +kernel
theorem dX3_repayLoan_6 : decode cX3_repayLoan 6 = .ok (.iload_n 3, 1) := by decide +kernel
theorem dX3_repayLoan_7 : decode cX3_repayLoan 7 = .ok (.ifCond .ge 7, 3) := by decide +kernel
theorem dX3_repayLoan_10 : decode cX3_repayLoan 10 = .ok (.getstatic 200, 3) := by decide +kernel
theorem dX3_repayLoan_13 : decode cX3_repayLoan 13 = .ok (.areturn, 1) := by decide +kernel
theorem dX3_repayLoan_14 : decode cX3_repayLoan 14 = .ok (.iload_n 2, 1) := by decide +kernel
theorem dX3_repayLoan_15 : decode cX3_repayLoan 15 = .ok (.iconst 1, 1) := by decide +kernel
theorem dX3_repayLoan_16 : decode cX3_repayLoan 16 = .ok (.sipush 999, 3) := by decide +kernel
theorem dX3_repayLoan_19 : decode cX3_repayLoan 19 = .ok (.invokestatic 144, 3) := by decide +kernel
theorem dX3_repayLoan_22 : decode cX3_repayLoan 22 = .ok (.ifCond .ne 7, 3) := by decide +kernel
theorem dX3_repayLoan_25 : decode cX3_repayLoan 25 = .ok (.getstatic 148, 3) := by decide +kernel
theorem dX3_repayLoan_28 : decode cX3_repayLoan 28 = .ok (.areturn, 1) := by decide +kernel
theorem dX3_repayLoan_29 : decode cX3_repayLoan 29 = .ok (.aload_n 0, 1) := by decide +kernel
theorem dX3_repayLoan_30 : decode cX3_repayLoan 30 = .ok (.getfield 60, 3) := by decide +kernel
theorem dX3_repayLoan_33 : decode cX3_repayLoan 33 = .ok (.iload_n 3, 1) := by decide +kernel
theorem dX3_repayLoan_34 : decode cX3_repayLoan 34 = .ok (.aaload, 1) := by decide +kernel
theorem dX3_repayLoan_35 : decode cX3_repayLoan 35 = .ok (.astore 4, 2) := by decide +kernel
theorem dX3_repayLoan_37 : decode cX3_repayLoan 37 = .ok (.aload_n 0, 1) := by decide +kernel
theorem dX3_repayLoan_38 : decode cX3_repayLoan 38 = .ok (.aload 4, 2) := by decide +kernel
theorem dX3_repayLoan_40 : decode cX3_repayLoan 40 = .ok (.getfield 203, 3) := by decide +kernel
theorem dX3_repayLoan_43 : decode cX3_repayLoan 43 = .ok (.invokevirtual 158, 3) := by decide +kernel
theorem dX3_repayLoan_46 : decode cX3_repayLoan 46 = .ok (.astore 5, 2) := by decide +kernel
theorem dX3_repayLoan_48 : decode cX3_repayLoan 48 = .ok (.aload 5, 2) := by decide +kernel
theorem dX3_repayLoan_50 : decode cX3_repayLoan 50 = .ok (.ifnull 21, 3) := by decide +kernel
theorem dX3_repayLoan_53 : decode cX3_repayLoan 53 = .ok (.iload_n 2, 1) := by decide +kernel
theorem dX3_repayLoan_54 : decode cX3_repayLoan 54 = .ok (.aload 4, 2) := by decide +kernel
theorem dX3_repayLoan_56 : decode cX3_repayLoan 56 = .ok (.invokevirtual 210, 3) := by decide +kernel
theorem dX3_repayLoan_59 : decode cX3_repayLoan 59 = .ok (.if_icmp .gt 12, 3) := by decide +kernel
theorem dX3_repayLoan_62 : decode cX3_repayLoan 62 = .ok (.iload_n 2, 1) := by decide +kernel
theorem dX3_repayLoan_63 : decode cX3_repayLoan 63 = .ok (.aload 5, 2) := by decide +kernel
theorem dX3_repayLoan_65 : decode cX3_repayLoan 65 = .ok (.getfield 189, 3) := by decide +kernel
theorem dX3_repayLoan_68 : decode cX3_repayLoan 68 = .ok (.if_icmp .le 7, 3) := by decide +kernel
theorem dX3_repayLoan_71 : decode cX3_repayLoan 71 = .ok (.getstatic 96, 3) := by decide +kernel
theorem dX3_repayLoan_74 : decode cX3_repayLoan 74 = .ok (.areturn, 1) := by decide +kernel
theorem dX3_repayLoan_75 : decode cX3_repayLoan 75 = .ok (.aload 5, 2) := by decide +kernel
theorem dX3_repayLoan_77 : decode cX3_repayLoan 77 = .ok (.dup, 1) := by decide +kernel
theorem dX3_repayLoan_78 : decode cX3_repayLoan 78 = .ok (.getfield 189, 3) := by decide +kernel
theorem dX3_repayLoan_81 : decode cX3_repayLoan 81 = .ok (.iload_n 2, 1) := by decide +kernel
theorem dX3_repayLoan_82 : decode cX3_repayLoan 82 = .ok (.isub, 1) := by decide +kernel
theorem dX3_repayLoan_83 : decode cX3_repayLoan 83 = .ok (.putfield 189, 3) := by decide +kernel
theorem dX3_repayLoan_86 : decode cX3_repayLoan 86 = .ok (.aload_n 0, 1) := by decide +kernel
theorem dX3_repayLoan_87 : decode cX3_repayLoan 87 = .ok (.dup, 1) := by decide +kernel
theorem dX3_repayLoan_88 : decode cX3_repayLoan 88 = .ok (.getfield 15, 3) := by decide +kernel
theorem dX3_repayLoan_91 : decode cX3_repayLoan 91 = .ok (.iload_n 2, 1) := by decide +kernel
theorem dX3_repayLoan_92 : decode cX3_repayLoan 92 = .ok (.iadd, 1) := by decide +kernel
theorem dX3_repayLoan_93 : decode cX3_repayLoan 93 = .ok (.putfield 15, 3) := by decide +kernel
theorem dX3_repayLoan_96 : decode cX3_repayLoan 96 = .ok (.aload 4, 2) := by decide +kernel
theorem dX3_repayLoan_98 : decode cX3_repayLoan 98 = .ok (.iload_n 2, 1) := by decide +kernel
theorem dX3_repayLoan_99 : decode cX3_repayLoan 99 = .ok (.invokevirtual 213, 3) := by decide +kernel
theorem dX3_repayLoan_102 : decode cX3_repayLoan 102 = .ok (.aload_n 0, 1) := by decide +kernel
theorem dX3_repayLoan_103 : decode cX3_repayLoan 103 = .ok (.getfield 67, 3) := by decide +kernel
theorem dX3_repayLoan_106 : decode cX3_repayLoan 106 = .ok (.aload_n 0, 1) := by decide +kernel
theorem dX3_repayLoan_107 : decode cX3_repayLoan 107 = .ok (.getfield 9, 3) := by decide +kernel
theorem dX3_repayLoan_110 : decode cX3_repayLoan 110 = .ok (.iload_n 1, 1) := by decide +kernel
theorem dX3_repayLoan_111 : decode cX3_repayLoan 111 = .ok (.iload_n 2, 1) := by decide +kernel
theorem dX3_repayLoan_112 : decode cX3_repayLoan 112 = .ok (.invokevirtual 216, 3) := by decide +kernel
theorem dX3_repayLoan_115 : decode cX3_repayLoan 115 = .ok (.aload_n 0, 1) := by decide +kernel
theorem dX3_repayLoan_116 : decode cX3_repayLoan 116 = .ok (.aload 4, 2) := by decide +kernel
theorem dX3_repayLoan_118 : decode cX3_repayLoan 118 = .ok (.invokevirtual 210, 3) := by decide +kernel
theorem dX3_repayLoan_121 : decode cX3_repayLoan 121 = .ok (.putfield 39, 3) := by decide +kernel
theorem dX3_repayLoan_124 : decode cX3_repayLoan 124 = .ok (.aload_n 0, 1) := by decide +kernel
theorem dX3_repayLoan_125 : decode cX3_repayLoan 125 = .ok (.getfield 39, 3) := by decide +kernel
theorem dX3_repayLoan_128 : decode cX3_repayLoan 128 = .ok (.ifCond .ne 26, 3) := by decide +kernel
theorem dX3_repayLoan_131 : decode cX3_repayLoan 131 = .ok (.aload_n 0, 1) := by decide +kernel
theorem dX3_repayLoan_132 : decode cX3_repayLoan 132 = .ok (.aload 4, 2) := by decide +kernel
theorem dX3_repayLoan_134 : decode cX3_repayLoan 134 = .ok (.aload 5, 2) := by decide +kernel
theorem dX3_repayLoan_136 : decode cX3_repayLoan 136 = .ok (.invokevirtual 220, 3) := by decide +kernel
theorem dX3_repayLoan_139 : decode cX3_repayLoan 139 = .ok (.aload_n 0, 1) := by decide +kernel
theorem dX3_repayLoan_140 : decode cX3_repayLoan 140 = .ok (.iload_n 3, 1) := by decide +kernel
theorem dX3_repayLoan_141 : decode cX3_repayLoan 141 = .ok (.invokevirtual 224, 3) := by decide +kernel
theorem dX3_repayLoan_144 : decode cX3_repayLoan 144 = .ok (.aload_n 0, 1) := by decide +kernel
theorem dX3_repayLoan_145 : decode cX3_repayLoan 145 = .ok (.dup, 1) := by decide +kernel
theorem dX3_repayLoan_146 : decode cX3_repayLoan 146 = .ok (.getfield 27, 3) := by decide +kernel
theorem dX3_repayLoan_149 : decode cX3_repayLoan 149 = .ok (.iconst 1, 1) := by decide +kernel
theorem dX3_repayLoan_150 : decode cX3_repayLoan 150 = .ok (.iadd, 1) := by decide +kernel
theorem dX3_repayLoan_151 : decode cX3_repayLoan 151 = .ok (.putfield 27, 3) := by decide +kernel
theorem dX3_repayLoan_154 : decode cX3_repayLoan 154 = .ok (.getstatic 155, 3) := by decide +kernel
theorem dX3_repayLoan_157 : decode cX3_repayLoan 157 = .ok (.areturn, 1) := by decide +kernel
theorem dX3_returnCollateral_0 : decode cX3_returnCollateral 0 = .ok (.iconst 0, 1) := by decide +kernel
theorem dX3_returnCollateral_1 : decode cX3_returnCollateral 1 = .ok (.istore_n 3, 1) := by decide +kernel
theorem dX3_returnCollateral_2 : decode cX3_returnCollateral 2 = .ok (.iload_n 3, 1) := by decide +kernel
theorem dX3_returnCollateral_3 : decode cX3_returnCollateral 3 = .ok (.iconst 4, 1) := by decide +kernel
theorem dX3_returnCollateral_4 : decode cX3_returnCollateral 4 = .ok (.if_icmp .ge 31, 3) := by decide +kernel
theorem dX3_returnCollateral_7 : decode cX3_returnCollateral 7 = .ok (.aload_n 2, 1) := by decide +kernel
theorem dX3_returnCollateral_8 : decode cX3_returnCollateral 8 = .ok (.getfield 169, 3) := by decide +kernel
theorem dX3_returnCollateral_11 : decode cX3_returnCollateral 11 = .ok (.iload_n 3, 1) := by decide +kernel
theorem dX3_returnCollateral_12 : decode cX3_returnCollateral 12 = .ok (.dup2, 1) := by decide +kernel
theorem dX3_returnCollateral_13 : decode cX3_returnCollateral 13 = .ok (.iaload, 1) := by decide +kernel
theorem dX3_returnCollateral_14 : decode cX3_returnCollateral 14 = .ok (.aload_n 1, 1) := by decide +kernel
theorem dX3_returnCollateral_15 : decode cX3_returnCollateral 15 = .ok (.getfield 186, 3) := by decide +kernel
theorem dX3_returnCollateral_18 : decode cX3_returnCollateral 18 = .ok (.iload_n 3, 1) := by decide +kernel
theorem dX3_returnCollateral_19 : decode cX3_returnCollateral 19 = .ok (.iaload, 1) := by decide +kernel
theorem dX3_returnCollateral_20 : decode cX3_returnCollateral 20 = .ok (.iadd, 1) := by decide +kernel
theorem dX3_returnCollateral_21 : decode cX3_returnCollateral 21 = .ok (.iastore, 1) := by decide +kernel
theorem dX3_returnCollateral_22 : decode cX3_returnCollateral 22 = .ok (.aload_n 1, 1) := by decide +kernel
theorem dX3_returnCollateral_23 : decode cX3_returnCollateral 23 = .ok (.getfield 186, 3) := by decide +kernel
theorem dX3_returnCollateral_26 : decode cX3_returnCollateral 26 = .ok (.iload_n 3, 1) := by decide +kernel
theorem dX3_returnCollateral_27 : decode cX3_returnCollateral 27 = .ok (.iconst 0, 1) := by decide +kernel
theorem dX3_returnCollateral_28 : decode cX3_returnCollateral 28 = .ok (.iastore, 1) := by decide +kernel
theorem dX3_returnCollateral_29 : decode cX3_returnCollateral 29 = .ok (.iinc 3 1, 3) := by decide +kernel
theorem dX3_returnCollateral_32 : decode cX3_returnCollateral 32 = .ok (.goto (-30), 3) := by decide +kernel
theorem dX3_returnCollateral_35 : decode cX3_returnCollateral 35 = .ok (.return_, 1) := by decide +kernel
theorem dX3_removeLoanAt_0 : decode cX3_removeLoanAt 0 = .ok (.aload_n 0, 1) := by decide +kernel
theorem dX3_removeLoanAt_1 : decode cX3_removeLoanAt 1 = .ok (.getfield 60, 3) := by decide +kernel
theorem dX3_removeLoanAt_4 : decode cX3_removeLoanAt 4 = .ok (.iload_n 1, 1) := by decide +kernel
theorem dX3_removeLoanAt_5 : decode cX3_removeLoanAt 5 = .ok (.aaload, 1) := by decide +kernel
theorem dX3_removeLoanAt_6 : decode cX3_removeLoanAt 6 = .ok (.astore_n 2, 1) := by decide +kernel
theorem dX3_removeLoanAt_7 : decode cX3_removeLoanAt 7 = .ok (.iload_n 1, 1) := by decide +kernel
theorem dX3_removeLoanAt_8 : decode cX3_removeLoanAt 8 = .ok (.istore_n 3, 1) := by decide +kernel
theorem dX3_removeLoanAt_9 : decode cX3_removeLoanAt 9 = .ok (.iload_n 3, 1) := by decide +kernel
theorem dX3_removeLoanAt_10 : decode cX3_removeLoanAt 10 = .ok (.iconst 1, 1) := by decide +kernel
theorem dX3_removeLoanAt_11 : decode cX3_removeLoanAt 11 = .ok (.iadd, 1) := by decide +kernel
theorem dX3_removeLoanAt_12 : decode cX3_removeLoanAt 12 = .ok (.aload_n 0, 1) := by decide +kernel
theorem dX3_removeLoanAt_13 : decode cX3_removeLoanAt 13 = .ok (.getfield 21, 3) := by decide +kernel
theorem dX3_removeLoanAt_16 : decode cX3_removeLoanAt 16 = .ok (.if_icmp .ge 23, 3) := by decide +kernel
theorem dX3_removeLoanAt_19 : decode cX3_removeLoanAt 19 = .ok (.aload_n 0, 1) := by decide +kernel
theorem dX3_removeLoanAt_20 : decode cX3_removeLoanAt 20 = .ok (.getfield 60, 3) := by decide +kernel
theorem dX3_removeLoanAt_23 : decode cX3_removeLoanAt 23 = .ok (.iload_n 3, 1) := by decide +kernel
theorem dX3_removeLoanAt_24 : decode cX3_removeLoanAt 24 = .ok (.aload_n 0, 1) := by decide +kernel
theorem dX3_removeLoanAt_25 : decode cX3_removeLoanAt 25 = .ok (.getfield 60, 3) := by decide +kernel
theorem dX3_removeLoanAt_28 : decode cX3_removeLoanAt 28 = .ok (.iload_n 3, 1) := by decide +kernel
theorem dX3_removeLoanAt_29 : decode cX3_removeLoanAt 29 = .ok (.iconst 1, 1) := by decide +kernel
theorem dX3_removeLoanAt_30 : decode cX3_removeLoanAt 30 = .ok (.iadd, 1) := by decide +kernel
theorem dX3_removeLoanAt_31 : decode cX3_removeLoanAt 31 = .ok (.aaload, 1) := by decide +kernel
theorem dX3_removeLoanAt_32 : decode cX3_removeLoanAt 32 = .ok (.aastore, 1) := by decide +kernel
theorem dX3_removeLoanAt_33 : decode cX3_removeLoanAt 33 = .ok (.iinc 3 1, 3) := by decide +kernel
theorem dX3_removeLoanAt_36 : decode cX3_removeLoanAt 36 = .ok (.goto (-27), 3) := by decide +kernel
theorem dX3_removeLoanAt_39 : decode cX3_removeLoanAt 39 = .ok (.aload_n 0, 1) := by decide +kernel
theorem dX3_removeLoanAt_40 : decode cX3_removeLoanAt 40 = .ok (.dup, 1) := by decide +kernel
theorem dX3_removeLoanAt_41 : decode cX3_removeLoanAt 41 = .ok (.getfield 21, 3) := by decide +kernel
theorem dX3_removeLoanAt_44 : decode cX3_removeLoanAt 44 = .ok (.iconst 1, 1) := by decide +kernel
theorem dX3_removeLoanAt_45 : decode cX3_removeLoanAt 45 = .ok (.isub, 1) := by decide +kernel
theorem dX3_removeLoanAt_46 : decode cX3_removeLoanAt 46 = .ok (.putfield 21, 3) := by decide +kernel
theorem dX3_removeLoanAt_49 : decode cX3_removeLoanAt 49 = .ok (.aload_n 0, 1) := by decide +kernel
theorem dX3_removeLoanAt_50 : decode cX3_removeLoanAt 50 = .ok (.getfield 60, 3) := by decide +kernel
theorem dX3_removeLoanAt_53 : decode cX3_removeLoanAt 53 = .ok (.aload_n 0, 1) := by decide +kernel
theorem dX3_removeLoanAt_54 : decode cX3_removeLoanAt 54 = .ok (.getfield 21, 3) := by decide +kernel
theorem dX3_removeLoanAt_57 : decode cX3_removeLoanAt 57 = .ok (.aload_n 2, 1) := by decide +kernel
theorem dX3_removeLoanAt_58 : decode cX3_removeLoanAt 58 = .ok (.aastore, 1) := by decide +kernel
theorem dX3_removeLoanAt_59 : decode cX3_removeLoanAt 59 = .ok (.return_, 1) := by decide +kernel
theorem dX3_sellUnits_0 : decode cX3_sellUnits 0 = .ok (.aload_n 0, 1) := by decide +kernel
theorem dX3_sellUnits_1 : decode cX3_sellUnits 1 = .ok (.iload_n 1, 1) := by decide +kernel
theorem dX3_sellUnits_2 : decode cX3_sellUnits 2 = .ok (.invokevirtual 158, 3) := by decide +kernel
theorem dX3_sellUnits_5 : decode cX3_sellUnits 5 = .ok (.astore 4, 2) := by decide +kernel
theorem dX3_sellUnits_7 : decode cX3_sellUnits 7 = .ok (.aload 4, 2) := by decide +kernel
theorem dX3_sellUnits_9 : decode cX3_sellUnits 9 = .ok (.ifnull 10, 3) := by decide +kernel
theorem dX3_sellUnits_12 : decode cX3_sellUnits 12 = .ok (.iload_n 2, 1) := by decide +kernel
theorem dX3_sellUnits_13 : decode cX3_sellUnits 13 = .ok (.invokestatic 162, 3) := by decide +kernel
theorem dX3_sellUnits_16 : decode cX3_sellUnits 16 = .ok (.ifCond .ne 7, 3) := by decide +kernel
theorem dX3_sellUnits_19 : decode cX3_sellUnits 19 = .ok (.getstatic 166, 3) := by decide +kernel
theorem dX3_sellUnits_22 : decode cX3_sellUnits 22 = .ok (.areturn, 1) := by decide +kernel
theorem dX3_sellUnits_23 : decode cX3_sellUnits 23 = .ok (.iload_n 3, 1) := by decide +kernel
theorem dX3_sellUnits_24 : decode cX3_sellUnits 24 = .ok (.iconst 1, 1) := by decide +kernel
theorem dX3_sellUnits_25 : decode cX3_sellUnits 25 = .ok (.bipush 99, 2) := by decide +kernel
theorem dX3_sellUnits_27 : decode cX3_sellUnits 27 = .ok (.invokestatic 144, 3) := by decide +kernel
theorem dX3_sellUnits_30 : decode cX3_sellUnits 30 = .ok (.ifCond .ne 7, 3) := by decide +kernel
theorem dX3_sellUnits_33 : decode cX3_sellUnits 33 = .ok (.getstatic 148, 3) := by decide +kernel
theorem dX3_sellUnits_36 : decode cX3_sellUnits 36 = .ok (.areturn, 1) := by decide +kernel
theorem dX3_sellUnits_37 : decode cX3_sellUnits 37 = .ok (.iload_n 3, 1) := by decide +kernel
theorem dX3_sellUnits_38 : decode cX3_sellUnits 38 = .ok (.aload_n 0, 1) := by decide +kernel
theorem dX3_sellUnits_39 : decode cX3_sellUnits 39 = .ok (.getfield 42, 3) := by decide +kernel
theorem dX3_sellUnits_42 : decode cX3_sellUnits 42 = .ok (.iload_n 2, 1) := by decide +kernel
theorem dX3_sellUnits_43 : decode cX3_sellUnits 43 = .ok (.iaload, 1) := by decide +kernel
theorem dX3_sellUnits_44 : decode cX3_sellUnits 44 = .ok (.imul, 1) := by decide +kernel
theorem dX3_sellUnits_45 : decode cX3_sellUnits 45 = .ok (.istore 5, 2) := by decide +kernel
theorem dX3_sellUnits_47 : decode cX3_sellUnits 47 = .ok (.aload_n 0, 1) := by decide +kernel
theorem dX3_sellUnits_48 : decode cX3_sellUnits 48 = .ok (.getfield 46, 3) := by decide +kernel
theorem dX3_sellUnits_51 : decode cX3_sellUnits 51 = .ok (.iload_n 2, 1) := by decide +kernel
theorem dX3_sellUnits_52 : decode cX3_sellUnits 52 = .ok (.iaload, 1) := by decide +kernel
theorem dX3_sellUnits_53 : decode cX3_sellUnits 53 = .ok (.iload_n 3, 1) := by decide +kernel
theorem dX3_sellUnits_54 : decode cX3_sellUnits 54 = .ok (.if_icmp .lt 28, 3) := by decide +kernel
theorem dX3_sellUnits_57 : decode cX3_sellUnits 57 = .ok (.aload 4, 2) := by decide +kernel
theorem dX3_sellUnits_59 : decode cX3_sellUnits 59 = .ok (.getfield 189, 3) := by decide +kernel
theorem dX3_sellUnits_62 : decode cX3_sellUnits 62 = .ok (.iload 5, 2) := by decide +kernel
theorem dX3_sellUnits_64 : decode cX3_sellUnits 64 = .ok (.if_icmp .lt 18, 3) := by decide +kernel
theorem dX3_sellUnits_67 : decode cX3_sellUnits 67 = .ok (.aload 4, 2) := by decide +kernel
theorem dX3_sellUnits_69 : decode cX3_sellUnits 69 = .ok (.getfield 169, 3) := by decide +kernel
theorem dX3_sellUnits_72 : decode cX3_sellUnits 72 = .ok (.iload_n 2, 1) := by decide +kernel
theorem dX3_sellUnits_73 : decode cX3_sellUnits 73 = .ok (.iaload, 1) := by decide +kernel
theorem dX3_sellUnits_74 : decode cX3_sellUnits 74 = .ok (.iload_n 3, 1) := by decide +kernel
theorem dX3_sellUnits_75 : decode cX3_sellUnits 75 = .ok (.iadd, 1) := by decide +kernel
theorem dX3_sellUnits_76 : decode cX3_sellUnits 76 = .ok (.sipush 999, 3) := by decide +kernel
theorem dX3_sellUnits_79 : decode cX3_sellUnits 79 = .ok (.if_icmp .le 7, 3) := by decide +kernel
theorem dX3_sellUnits_82 : decode cX3_sellUnits 82 = .ok (.getstatic 96, 3) := by decide +kernel
theorem dX3_sellUnits_85 : decode cX3_sellUnits 85 = .ok (.areturn, 1) := by decide +kernel
theorem dX3_sellUnits_86 : decode cX3_sellUnits 86 = .ok (.aload_n 0, 1) := by decide +kernel
theorem dX3_sellUnits_87 : decode cX3_sellUnits 87 = .ok (.getfield 46, 3) := by decide +kernel
theorem dX3_sellUnits_90 : decode cX3_sellUnits 90 = .ok (.iload_n 2, 1) := by decide +kernel
theorem dX3_sellUnits_91 : decode cX3_sellUnits 91 = .ok (.dup2, 1) := by decide +kernel
theorem dX3_sellUnits_92 : decode cX3_sellUnits 92 = .ok (.iaload, 1) := by decide +kernel
theorem dX3_sellUnits_93 : decode cX3_sellUnits 93 = .ok (.iload_n 3, 1) := by decide +kernel
theorem dX3_sellUnits_94 : decode cX3_sellUnits 94 = .ok (.isub, 1) := by decide +kernel
theorem dX3_sellUnits_95 : decode cX3_sellUnits 95 = .ok (.iastore, 1) := by decide +kernel
theorem dX3_sellUnits_96 : decode cX3_sellUnits 96 = .ok (.aload 4, 2) := by decide +kernel
theorem dX3_sellUnits_98 : decode cX3_sellUnits 98 = .ok (.getfield 169, 3) := by decide +kernel
theorem dX3_sellUnits_101 : decode cX3_sellUnits 101 = .ok (.iload_n 2, 1) := by decide +kernel
theorem dX3_sellUnits_102 : decode cX3_sellUnits 102 = .ok (.dup2, 1) := by decide +kernel
theorem dX3_sellUnits_103 : decode cX3_sellUnits 103 = .ok (.iaload, 1) := by decide +kernel
theorem dX3_sellUnits_104 : decode cX3_sellUnits 104 = .ok (.iload_n 3, 1) := by decide +kernel
theorem dX3_sellUnits_105 : decode cX3_sellUnits 105 = .ok (.iadd, 1) := by decide +kernel
theorem dX3_sellUnits_106 : decode cX3_sellUnits 106 = .ok (.iastore, 1) := by decide +kernel
theorem dX3_sellUnits_107 : decode cX3_sellUnits 107 = .ok (.aload 4, 2) := by decide +kernel
theorem dX3_sellUnits_109 : decode cX3_sellUnits 109 = .ok (.dup, 1) := by decide +kernel
theorem dX3_sellUnits_110 : decode cX3_sellUnits 110 = .ok (.getfield 189, 3) := by decide +kernel
theorem dX3_sellUnits_113 : decode cX3_sellUnits 113 = .ok (.iload 5, 2) := by decide +kernel
theorem dX3_sellUnits_115 : decode cX3_sellUnits 115 = .ok (.isub, 1) := by decide +kernel
theorem dX3_sellUnits_116 : decode cX3_sellUnits 116 = .ok (.putfield 189, 3) := by decide +kernel
theorem dX3_sellUnits_119 : decode cX3_sellUnits 119 = .ok (.aload_n 0, 1) := by decide +kernel
theorem dX3_sellUnits_120 : decode cX3_sellUnits 120 = .ok (.dup, 1) := by decide +kernel
theorem dX3_sellUnits_121 : decode cX3_sellUnits 121 = .ok (.getfield 15, 3) := by decide +kernel
theorem dX3_sellUnits_124 : decode cX3_sellUnits 124 = .ok (.iload 5, 2) := by decide +kernel
theorem dX3_sellUnits_126 : decode cX3_sellUnits 126 = .ok (.iadd, 1) := by decide +kernel
theorem dX3_sellUnits_127 : decode cX3_sellUnits 127 = .ok (.putfield 15, 3) := by decide +kernel
theorem dX3_sellUnits_130 : decode cX3_sellUnits 130 = .ok (.aload_n 0, 1) := by decide +kernel
theorem dX3_sellUnits_131 : decode cX3_sellUnits 131 = .ok (.iload 5, 2) := by decide +kernel
theorem dX3_sellUnits_133 : decode cX3_sellUnits 133 = .ok (.putfield 39, 3) := by decide +kernel
theorem dX3_sellUnits_136 : decode cX3_sellUnits 136 = .ok (.getstatic 155, 3) := by decide +kernel
theorem dX3_sellUnits_139 : decode cX3_sellUnits 139 = .ok (.areturn, 1) := by decide +kernel
theorem dX3_letDaysPass_0 : decode cX3_letDaysPass 0 = .ok (.iload_n 1, 1) := by decide +kernel
theorem dX3_letDaysPass_1 : decode cX3_letDaysPass 1 = .ok (.iconst 1, 1) := by decide +kernel
theorem dX3_letDaysPass_2 : decode cX3_letDaysPass 2 = .ok (.bipush 60, 2) := by decide +kernel
theorem dX3_letDaysPass_4 : decode cX3_letDaysPass 4 = .ok (.invokestatic 144, 3) := by decide +kernel
theorem dX3_letDaysPass_7 : decode cX3_letDaysPass 7 = .ok (.ifCond .ne 7, 3) := by decide +kernel
theorem dX3_letDaysPass_10 : decode cX3_letDaysPass 10 = .ok (.getstatic 148, 3) := by decide +kernel
theorem dX3_letDaysPass_13 : decode cX3_letDaysPass 13 = .ok (.areturn, 1) := by decide +kernel
theorem dX3_letDaysPass_14 : decode cX3_letDaysPass 14 = .ok (.aload_n 0, 1) := by decide +kernel
theorem dX3_letDaysPass_15 : decode cX3_letDaysPass 15 = .ok (.getfield 30, 3) := by decide +kernel
theorem dX3_letDaysPass_18 : decode cX3_letDaysPass 18 = .ok (.istore_n 2, 1) := by decide +kernel
theorem dX3_letDaysPass_19 : decode cX3_letDaysPass 19 = .ok (.iconst 0, 1) := by decide +kernel
theorem dX3_letDaysPass_20 : decode cX3_letDaysPass 20 = .ok (.istore_n 3, 1) := by decide +kernel
theorem dX3_letDaysPass_21 : decode cX3_letDaysPass 21 = .ok (.iload_n 3, 1) := by decide +kernel
theorem dX3_letDaysPass_22 : decode cX3_letDaysPass 22 = .ok (.iload_n 1, 1) := by decide +kernel
theorem dX3_letDaysPass_23 : decode cX3_letDaysPass 23 = .ok (.if_icmp .ge 13, 3) := by decide +kernel
theorem dX3_letDaysPass_26 : decode cX3_letDaysPass 26 = .ok (.aload_n 0, 1) := by decide +kernel
theorem dX3_letDaysPass_27 : decode cX3_letDaysPass 27 = .ok (.invokevirtual 227, 3) := by decide +kernel
theorem dX3_letDaysPass_30 : decode cX3_letDaysPass 30 = .ok (.iinc 3 1, 3) := by decide +kernel
theorem dX3_letDaysPass_33 : decode cX3_letDaysPass 33 = .ok (.goto (-12), 3) := by decide +kernel
theorem dX3_letDaysPass_36 : decode cX3_letDaysPass 36 = .ok (.aload_n 0, 1) := by decide +kernel
theorem dX3_letDaysPass_37 : decode cX3_letDaysPass 37 = .ok (.aload_n 0, 1) := by decide +kernel
theorem dX3_letDaysPass_38 : decode cX3_letDaysPass 38 = .ok (.getfield 30, 3) := by decide +kernel
theorem dX3_letDaysPass_41 : decode cX3_letDaysPass 41 = .ok (.iload_n 2, 1) := by decide +kernel
theorem dX3_letDaysPass_42 : decode cX3_letDaysPass 42 = .ok (.isub, 1) := by decide +kernel
theorem dX3_letDaysPass_43 : decode cX3_letDaysPass 43 = .ok (.putfield 39, 3) := by decide +kernel
theorem dX3_letDaysPass_46 : decode cX3_letDaysPass 46 = .ok (.getstatic 155, 3) := by decide +kernel
theorem dX3_letDaysPass_49 : decode cX3_letDaysPass 49 = .ok (.areturn, 1) := by decide +kernel
theorem dX3_letOneDayPass_0 : decode cX3_letOneDayPass 0 = .ok (.aload_n 0, 1) := by decide +kernel
theorem dX3_letOneDayPass_1 : decode cX3_letOneDayPass 1 = .ok (.dup, 1) := by decide +kernel
theorem dX3_letOneDayPass_2 : decode cX3_letOneDayPass 2 = .ok (.getfield 9, 3) := by decide +kernel
theorem dX3_letOneDayPass_5 : decode cX3_letOneDayPass 5 = .ok (.iconst 1, 1) := by decide +kernel
theorem dX3_letOneDayPass_6 : decode cX3_letOneDayPass 6 = .ok (.iadd, 1) := by decide +kernel
theorem dX3_letOneDayPass_7 : decode cX3_letOneDayPass 7 = .ok (.putfield 9, 3) := by decide +kernel
theorem dX3_letOneDayPass_10 : decode cX3_letOneDayPass 10 = .ok (.iconst 0, 1) := by decide +kernel
theorem dX3_letOneDayPass_11 : decode cX3_letOneDayPass 11 = .ok (.istore_n 1, 1) := by decide +kernel
theorem dX3_letOneDayPass_12 : decode cX3_letOneDayPass 12 = .ok (.iload_n 1, 1) := by decide +kernel
theorem dX3_letOneDayPass_13 : decode cX3_letOneDayPass 13 = .ok (.aload_n 0, 1) := by decide +kernel
theorem dX3_letOneDayPass_14 : decode cX3_letOneDayPass 14 = .ok (.getfield 21, 3) := by decide +kernel
theorem dX3_letOneDayPass_17 : decode cX3_letOneDayPass 17 = .ok (.if_icmp .ge 32, 3) := by decide +kernel
theorem dX3_letOneDayPass_20 : decode cX3_letOneDayPass 20 = .ok (.aload_n 0, 1) := by decide +kernel
theorem dX3_letOneDayPass_21 : decode cX3_letOneDayPass 21 = .ok (.getfield 60, 3) := by decide +kernel
theorem dX3_letOneDayPass_24 : decode cX3_letOneDayPass 24 = .ok (.iload_n 1, 1) := by decide +kernel
theorem dX3_letOneDayPass_25 : decode cX3_letOneDayPass 25 = .ok (.aaload, 1) := by decide +kernel
theorem dX3_letOneDayPass_26 : decode cX3_letOneDayPass 26 = .ok (.dup, 1) := by decide +kernel
theorem dX3_letOneDayPass_27 : decode cX3_letOneDayPass 27 = .ok (.getfield 230, 3) := by decide +kernel
theorem dX3_letOneDayPass_30 : decode cX3_letOneDayPass 30 = .ok (.aload_n 0, 1) := by decide +kernel
theorem dX3_letOneDayPass_31 : decode cX3_letOneDayPass 31 = .ok (.getfield 60, 3) := by decide +kernel
theorem dX3_letOneDayPass_34 : decode cX3_letOneDayPass 34 = .ok (.iload_n 1, 1) := by decide +kernel
theorem dX3_letOneDayPass_35 : decode cX3_letOneDayPass 35 = .ok (.aaload, 1) := by decide +kernel
theorem dX3_letOneDayPass_36 : decode cX3_letOneDayPass 36 = .ok (.invokevirtual 233, 3) := by decide +kernel
theorem dX3_letOneDayPass_39 : decode cX3_letOneDayPass 39 = .ok (.iadd, 1) := by decide +kernel
theorem dX3_letOneDayPass_40 : decode cX3_letOneDayPass 40 = .ok (.putfield 230, 3) := by decide +kernel
theorem dX3_letOneDayPass_43 : decode cX3_letOneDayPass 43 = .ok (.iinc 1 1, 3) := by decide +kernel
theorem dX3_letOneDayPass_46 : decode cX3_letOneDayPass 46 = .ok (.goto (-34), 3) := by decide +kernel
theorem dX3_letOneDayPass_49 : decode cX3_letOneDayPass 49 = .ok (.iconst 0, 1) := by decide +kernel
theorem dX3_letOneDayPass_50 : decode cX3_letOneDayPass 50 = .ok (.istore_n 1, 1) := by decide +kernel
theorem dX3_letOneDayPass_51 : decode cX3_letOneDayPass 51 = .ok (.aload_n 0, 1) := by decide +kernel
theorem dX3_letOneDayPass_52 : decode cX3_letOneDayPass 52 = .ok (.getfield 21, 3) := by decide +kernel
theorem dX3_letOneDayPass_55 : decode cX3_letOneDayPass 55 = .ok (.istore_n 2, 1) := by decide +kernel
theorem dX3_letOneDayPass_56 : decode cX3_letOneDayPass 56 = .ok (.iload_n 2, 1) := by decide +kernel
theorem dX3_letOneDayPass_57 : decode cX3_letOneDayPass 57 = .ok (.ifCond .le 43, 3) := by decide +kernel
theorem dX3_letOneDayPass_60 : decode cX3_letOneDayPass 60 = .ok (.aload_n 0, 1) := by decide +kernel
theorem dX3_letOneDayPass_61 : decode cX3_letOneDayPass 61 = .ok (.aload_n 0, 1) := by decide +kernel
theorem dX3_letOneDayPass_62 : decode cX3_letOneDayPass 62 = .ok (.getfield 60, 3) := by decide +kernel
theorem dX3_letOneDayPass_65 : decode cX3_letOneDayPass 65 = .ok (.iload_n 1, 1) := by decide +kernel
theorem dX3_letOneDayPass_66 : decode cX3_letOneDayPass 66 = .ok (.aaload, 1) := by decide +kernel
theorem dX3_letOneDayPass_67 : decode cX3_letOneDayPass 67 = .ok (.invokevirtual 236, 3) := by decide +kernel
theorem dX3_letOneDayPass_70 : decode cX3_letOneDayPass 70 = .ok (.ifCond .eq 21, 3) := by decide +kernel
theorem dX3_letOneDayPass_73 : decode cX3_letOneDayPass 73 = .ok (.aload_n 0, 1) := by decide +kernel
theorem dX3_letOneDayPass_74 : decode cX3_letOneDayPass 74 = .ok (.aload_n 0, 1) := by decide +kernel
theorem dX3_letOneDayPass_75 : decode cX3_letOneDayPass 75 = .ok (.getfield 60, 3) := by decide +kernel
theorem dX3_letOneDayPass_78 : decode cX3_letOneDayPass 78 = .ok (.iload_n 1, 1) := by decide +kernel
theorem dX3_letOneDayPass_79 : decode cX3_letOneDayPass 79 = .ok (.aaload, 1) := by decide +kernel
theorem dX3_letOneDayPass_80 : decode cX3_letOneDayPass 80 = .ok (.invokevirtual 240, 3) := by decide +kernel
theorem dX3_letOneDayPass_83 : decode cX3_letOneDayPass 83 = .ok (.aload_n 0, 1) := by decide +kernel
theorem dX3_letOneDayPass_84 : decode cX3_letOneDayPass 84 = .ok (.iload_n 1, 1) := by decide +kernel
theorem dX3_letOneDayPass_85 : decode cX3_letOneDayPass 85 = .ok (.invokevirtual 224, 3) := by decide +kernel
theorem dX3_letOneDayPass_88 : decode cX3_letOneDayPass 88 = .ok (.goto 6, 3) := by decide +kernel
theorem dX3_letOneDayPass_91 : decode cX3_letOneDayPass 91 = .ok (.iinc 1 1, 3) := by decide +kernel
theorem dX3_letOneDayPass_94 : decode cX3_letOneDayPass 94 = .ok (.iinc 2 (-1), 3) := by decide +kernel
theorem dX3_letOneDayPass_97 : decode cX3_letOneDayPass 97 = .ok (.goto (-41), 3) := by decide +kernel
theorem dX3_letOneDayPass_100 : decode cX3_letOneDayPass 100 = .ok (.return_, 1) := by decide +kernel
theorem dX3_isInDefault_0 : decode cX3_isInDefault 0 = .ok (.aload_n 0, 1) := by decide +kernel
theorem dX3_isInDefault_1 : decode cX3_isInDefault 1 = .ok (.getfield 9, 3) := by decide +kernel
theorem dX3_isInDefault_4 : decode cX3_isInDefault 4 = .ok (.aload_n 1, 1) := by decide +kernel
theorem dX3_isInDefault_5 : decode cX3_isInDefault 5 = .ok (.getfield 243, 3) := by decide +kernel
theorem dX3_isInDefault_8 : decode cX3_isInDefault 8 = .ok (.if_icmp .gt 18, 3) := by decide +kernel
theorem dX3_isInDefault_11 : decode cX3_isInDefault 11 = .ok (.aload_n 1, 1) := by decide +kernel
theorem dX3_isInDefault_12 : decode cX3_isInDefault 12 = .ok (.invokevirtual 210, 3) := by decide +kernel
theorem dX3_isInDefault_15 : decode cX3_isInDefault 15 = .ok (.aload_n 0, 1) := by decide +kernel
theorem dX3_isInDefault_16 : decode cX3_isInDefault 16 = .ok (.aload_n 1, 1) := by decide +kernel
theorem dX3_isInDefault_17 : decode cX3_isInDefault 17 = .ok (.getfield 186, 3) := by decide +kernel
theorem dX3_isInDefault_20 : decode cX3_isInDefault 20 = .ok (.invokevirtual 206, 3) := by decide +kernel
theorem dX3_isInDefault_23 : decode cX3_isInDefault 23 = .ok (.if_icmp .le 7, 3) := by decide +kernel
theorem dX3_isInDefault_26 : decode cX3_isInDefault 26 = .ok (.iconst 1, 1) := by decide +kernel
theorem dX3_isInDefault_27 : decode cX3_isInDefault 27 = .ok (.goto 4, 3) := by decide +kernel
theorem dX3_isInDefault_30 : decode cX3_isInDefault 30 = .ok (.iconst 0, 1) := by decide +kernel
theorem dX3_isInDefault_31 : decode cX3_isInDefault 31 = .ok (.ireturn, 1) := by decide +kernel
theorem dX3_seizeCollateral_0 : decode cX3_seizeCollateral 0 = .ok (.aload_n 1, 1) := by decide +kernel
theorem dX3_seizeCollateral_1 : decode cX3_seizeCollateral 1 = .ok (.invokevirtual 210, 3) := by decide +kernel
theorem dX3_seizeCollateral_4 : decode cX3_seizeCollateral 4 = .ok (.istore_n 2, 1) := by decide +kernel
theorem dX3_seizeCollateral_5 : decode cX3_seizeCollateral 5 = .ok (.iconst 0, 1) := by decide +kernel
theorem dX3_seizeCollateral_6 : decode cX3_seizeCollateral 6 = .ok (.istore_n 3, 1) := by decide +kernel
theorem dX3_seizeCollateral_7 : decode cX3_seizeCollateral 7 = .ok (.iload_n 3, 1) := by decide +kernel
theorem dX3_seizeCollateral_8 : decode cX3_seizeCollateral 8 = .ok (.iconst 4, 1) := by decide +kernel
theorem dX3_seizeCollateral_9 : decode cX3_seizeCollateral 9 = .ok (.if_icmp .ge 76, 3) := by decide +kernel
theorem dX3_seizeCollateral_12 : decode cX3_seizeCollateral 12 = .ok (.iload_n 2, 1) := by decide +kernel
theorem dX3_seizeCollateral_13 : decode cX3_seizeCollateral 13 = .ok (.ifCond .gt 7, 3) := by decide +kernel
theorem dX3_seizeCollateral_16 : decode cX3_seizeCollateral 16 = .ok (.iconst 0, 1) := by decide +kernel
theorem dX3_seizeCollateral_17 : decode cX3_seizeCollateral 17 = .ok (.goto 13, 3) := by decide +kernel
theorem dX3_seizeCollateral_20 : decode cX3_seizeCollateral 20 = .ok (.iload_n 2, 1) := by decide +kernel
theorem dX3_seizeCollateral_21 : decode cX3_seizeCollateral 21 = .ok (.aload_n 0, 1) := by decide +kernel
theorem dX3_seizeCollateral_22 : decode cX3_seizeCollateral 22 = .ok (.getfield 42, 3) := by decide +kernel
theorem dX3_seizeCollateral_25 : decode cX3_seizeCollateral 25 = .ok (.iload_n 3, 1) := by decide +kernel
theorem dX3_seizeCollateral_26 : decode cX3_seizeCollateral 26 = .ok (.iaload, 1) := by decide +kernel
theorem dX3_seizeCollateral_27 : decode cX3_seizeCollateral 27 = .ok (.invokestatic 246, 3) := by decide +kernel
theorem dX3_seizeCollateral_30 : decode cX3_seizeCollateral 30 = .ok (.istore 4, 2) := by decide +kernel
theorem dX3_seizeCollateral_32 : decode cX3_seizeCollateral 32 = .ok (.iload 4, 2) := by decide +kernel
theorem dX3_seizeCollateral_34 : decode cX3_seizeCollateral 34 = .ok (.aload_n 1, 1) := by decide +kernel
theorem dX3_seizeCollateral_35 : decode cX3_seizeCollateral 35 = .ok (.getfield 186, 3) := by decide +kernel
theorem dX3_seizeCollateral_38 : decode cX3_seizeCollateral 38 = .ok (.iload_n 3, 1) := by decide +kernel
theorem dX3_seizeCollateral_39 : decode cX3_seizeCollateral 39 = .ok (.iaload, 1) := by decide +kernel
theorem dX3_seizeCollateral_40 : decode cX3_seizeCollateral 40 = .ok (.invokestatic 250, 3) := by decide +kernel
theorem dX3_seizeCollateral_43 : decode cX3_seizeCollateral 43 = .ok (.istore 5, 2) := by decide +kernel
theorem dX3_seizeCollateral_45 : decode cX3_seizeCollateral 45 = .ok (.aload_n 1, 1) := by decide +kernel
theorem dX3_seizeCollateral_46 : decode cX3_seizeCollateral 46 = .ok (.getfield 186, 3) := by decide +kernel
theorem dX3_seizeCollateral_49 : decode cX3_seizeCollateral 49 = .ok (.iload_n 3, 1) := by decide +kernel
theorem dX3_seizeCollateral_50 : decode cX3_seizeCollateral 50 = .ok (.dup2, 1) := by decide +kernel
theorem dX3_seizeCollateral_51 : decode cX3_seizeCollateral 51 = .ok (.iaload, 1) := by decide +kernel
theorem dX3_seizeCollateral_52 : decode cX3_seizeCollateral 52 = .ok (.iload 5, 2) := by decide +kernel
theorem dX3_seizeCollateral_54 : decode cX3_seizeCollateral 54 = .ok (.isub, 1) := by decide +kernel
theorem dX3_seizeCollateral_55 : decode cX3_seizeCollateral 55 = .ok (.iastore, 1) := by decide +kernel
theorem dX3_seizeCollateral_56 : decode cX3_seizeCollateral 56 = .ok (.aload_n 0, 1) := by decide +kernel
theorem dX3_seizeCollateral_57 : decode cX3_seizeCollateral 57 = .ok (.getfield 46, 3) := by decide +kernel
theorem dX3_seizeCollateral_60 : decode cX3_seizeCollateral 60 = .ok (.iload_n 3, 1) := by decide +kernel
theorem dX3_seizeCollateral_61 : decode cX3_seizeCollateral 61 = .ok (.dup2, 1) := by decide +kernel
theorem dX3_seizeCollateral_62 : decode cX3_seizeCollateral 62 = .ok (.iaload, 1) := by decide +kernel
theorem dX3_seizeCollateral_63 : decode cX3_seizeCollateral 63 = .ok (.iload 5, 2) := by decide +kernel
theorem dX3_seizeCollateral_65 : decode cX3_seizeCollateral 65 = .ok (.iadd, 1) := by decide +kernel
theorem dX3_seizeCollateral_66 : decode cX3_seizeCollateral 66 = .ok (.iastore, 1) := by decide +kernel
theorem dX3_seizeCollateral_67 : decode cX3_seizeCollateral 67 = .ok (.iload_n 2, 1) := by decide +kernel
theorem dX3_seizeCollateral_68 : decode cX3_seizeCollateral 68 = .ok (.iload 5, 2) := by decide +kernel
theorem dX3_seizeCollateral_70 : decode cX3_seizeCollateral 70 = .ok (.aload_n 0, 1) := by decide +kernel
theorem dX3_seizeCollateral_71 : decode cX3_seizeCollateral 71 = .ok (.getfield 42, 3) := by decide +kernel
theorem dX3_seizeCollateral_74 : decode cX3_seizeCollateral 74 = .ok (.iload_n 3, 1) := by decide +kernel
theorem dX3_seizeCollateral_75 : decode cX3_seizeCollateral 75 = .ok (.iaload, 1) := by decide +kernel
theorem dX3_seizeCollateral_76 : decode cX3_seizeCollateral 76 = .ok (.imul, 1) := by decide +kernel
theorem dX3_seizeCollateral_77 : decode cX3_seizeCollateral 77 = .ok (.isub, 1) := by decide +kernel
theorem dX3_seizeCollateral_78 : decode cX3_seizeCollateral 78 = .ok (.istore_n 2, 1) := by decide +kernel
theorem dX3_seizeCollateral_79 : decode cX3_seizeCollateral 79 = .ok (.iinc 3 1, 3) := by decide +kernel
theorem dX3_seizeCollateral_82 : decode cX3_seizeCollateral 82 = .ok (.goto (-75), 3) := by decide +kernel
theorem dX3_seizeCollateral_85 : decode cX3_seizeCollateral 85 = .ok (.aload_n 0, 1) := by decide +kernel
theorem dX3_seizeCollateral_86 : decode cX3_seizeCollateral 86 = .ok (.dup, 1) := by decide +kernel
theorem dX3_seizeCollateral_87 : decode cX3_seizeCollateral 87 = .ok (.getfield 33, 3) := by decide +kernel
theorem dX3_seizeCollateral_90 : decode cX3_seizeCollateral 90 = .ok (.iload_n 2, 1) := by decide +kernel
theorem dX3_seizeCollateral_91 : decode cX3_seizeCollateral 91 = .ok (.iconst 0, 1) := by decide +kernel
theorem dX3_seizeCollateral_92 : decode cX3_seizeCollateral 92 = .ok (.invokestatic 255, 3) := by decide +kernel
theorem dX3_seizeCollateral_95 : decode cX3_seizeCollateral 95 = .ok (.iadd, 1) := by decide +kernel
theorem dX3_seizeCollateral_96 : decode cX3_seizeCollateral 96 = .ok (.putfield 33, 3) := by decide +kernel
theorem dX3_seizeCollateral_99 : decode cX3_seizeCollateral 99 = .ok (.aload_n 0, 1) := by decide +kernel
theorem dX3_seizeCollateral_100 : decode cX3_seizeCollateral 100 = .ok (.dup, 1) := by decide +kernel
theorem dX3_seizeCollateral_101 : decode cX3_seizeCollateral 101 = .ok (.getfield 30, 3) := by decide +kernel
theorem dX3_seizeCollateral_104 : decode cX3_seizeCollateral 104 = .ok (.iconst 1, 1) := by decide +kernel
theorem dX3_seizeCollateral_105 : decode cX3_seizeCollateral 105 = .ok (.iadd, 1) := by decide +kernel
theorem dX3_seizeCollateral_106 : decode cX3_seizeCollateral 106 = .ok (.putfield 30, 3) := by decide +kernel
theorem dX3_seizeCollateral_109 : decode cX3_seizeCollateral 109 = .ok (.aload_n 0, 1) := by decide +kernel
theorem dX3_seizeCollateral_110 : decode cX3_seizeCollateral 110 = .ok (.aload_n 1, 1) := by decide +kernel
theorem dX3_seizeCollateral_111 : decode cX3_seizeCollateral 111 = .ok (.getfield 203, 3) := by decide +kernel
theorem dX3_seizeCollateral_114 : decode cX3_seizeCollateral 114 = .ok (.invokevirtual 158, 3) := by decide +kernel
theorem dX3_seizeCollateral_117 : decode cX3_seizeCollateral 117 = .ok (.astore_n 3, 1) := by decide +kernel
theorem dX3_seizeCollateral_118 : decode cX3_seizeCollateral 118 = .ok (.aload_n 3, 1) := by decide +kernel
theorem dX3_seizeCollateral_119 : decode cX3_seizeCollateral 119 = .ok (.ifnull 19, 3) := by decide +kernel
theorem dX3_seizeCollateral_122 : decode cX3_seizeCollateral 122 = .ok (.aload_n 3, 1) := by decide +kernel
theorem dX3_seizeCollateral_123 : decode cX3_seizeCollateral 123 = .ok (.dup, 1) := by decide +kernel
theorem dX3_seizeCollateral_124 : decode cX3_seizeCollateral 124 = .ok (.getfield 258, 3) := by decide +kernel
theorem dX3_seizeCollateral_127 : decode cX3_seizeCollateral 127 = .ok (.iconst 1, 1) := by decide +kernel
theorem dX3_seizeCollateral_128 : decode cX3_seizeCollateral 128 = .ok (.iadd, 1) := by decide +kernel
theorem dX3_seizeCollateral_129 : decode cX3_seizeCollateral 129 = .ok (.putfield 258, 3) := by decide +kernel
theorem dX3_seizeCollateral_132 : decode cX3_seizeCollateral 132 = .ok (.aload_n 0, 1) := by decide +kernel
theorem dX3_seizeCollateral_133 : decode cX3_seizeCollateral 133 = .ok (.aload_n 1, 1) := by decide +kernel
theorem dX3_seizeCollateral_134 : decode cX3_seizeCollateral 134 = .ok (.aload_n 3, 1) := by decide +kernel
theorem dX3_seizeCollateral_135 : decode cX3_seizeCollateral 135 = .ok (.invokevirtual 220, 3) := by decide +kernel
theorem dX3_seizeCollateral_138 : decode cX3_seizeCollateral 138 = .ok (.return_, 1) := by decide +kernel
theorem dX3_loansHeldBy_0 : decode cX3_loansHeldBy 0 = .ok (.iconst 0, 1) := by decide +kernel
theorem dX3_loansHeldBy_1 : decode cX3_loansHeldBy 1 = .ok (.istore_n 2, 1) := by decide +kernel
theorem dX3_loansHeldBy_2 : decode cX3_loansHeldBy 2 = .ok (.iconst 0, 1) := by decide +kernel
theorem dX3_loansHeldBy_3 : decode cX3_loansHeldBy 3 = .ok (.istore_n 3, 1) := by decide +kernel
theorem dX3_loansHeldBy_4 : decode cX3_loansHeldBy 4 = .ok (.iload_n 3, 1) := by decide +kernel
theorem dX3_loansHeldBy_5 : decode cX3_loansHeldBy 5 = .ok (.aload_n 0, 1) := by decide +kernel
theorem dX3_loansHeldBy_6 : decode cX3_loansHeldBy 6 = .ok (.getfield 21, 3) := by decide +kernel
theorem dX3_loansHeldBy_9 : decode cX3_loansHeldBy 9 = .ok (.if_icmp .ge 25, 3) := by decide +kernel
theorem dX3_loansHeldBy_12 : decode cX3_loansHeldBy 12 = .ok (.aload_n 0, 1) := by decide +kernel
theorem dX3_loansHeldBy_13 : decode cX3_loansHeldBy 13 = .ok (.getfield 60, 3) := by decide +kernel
theorem dX3_loansHeldBy_16 : decode cX3_loansHeldBy 16 = .ok (.iload_n 3, 1) := by decide +kernel
theorem dX3_loansHeldBy_17 : decode cX3_loansHeldBy 17 = .ok (.aaload, 1) := by decide +kernel
theorem dX3_loansHeldBy_18 : decode cX3_loansHeldBy 18 = .ok (.getfield 203, 3) := by decide +kernel
theorem dX3_loansHeldBy_21 : decode cX3_loansHeldBy 21 = .ok (.iload_n 1, 1) := by decide +kernel
theorem dX3_loansHeldBy_22 : decode cX3_loansHeldBy 22 = .ok (.if_icmp .ne 6, 3) := by decide +kernel
theorem dX3_loansHeldBy_25 : decode cX3_loansHeldBy 25 = .ok (.iinc 2 1, 3) := by decide +kernel
theorem dX3_loansHeldBy_28 : decode cX3_loansHeldBy 28 = .ok (.iinc 3 1, 3) := by decide +kernel
theorem dX3_loansHeldBy_31 : decode cX3_loansHeldBy 31 = .ok (.goto (-27), 3) := by decide +kernel
theorem dX3_loansHeldBy_34 : decode cX3_loansHeldBy 34 = .ok (.iload_n 2, 1) := by decide +kernel
theorem dX3_loansHeldBy_35 : decode cX3_loansHeldBy 35 = .ok (.ireturn, 1) := by decide +kernel
theorem dX3_owedBy_0 : decode cX3_owedBy 0 = .ok (.iconst 0, 1) := by decide +kernel
theorem dX3_owedBy_1 : decode cX3_owedBy 1 = .ok (.istore_n 2, 1) := by decide +kernel
theorem dX3_owedBy_2 : decode cX3_owedBy 2 = .ok (.iconst 0, 1) := by decide +kernel
theorem dX3_owedBy_3 : decode cX3_owedBy 3 = .ok (.istore_n 3, 1) := by decide +kernel
theorem dX3_owedBy_4 : decode cX3_owedBy 4 = .ok (.iload_n 3, 1) := by decide +kernel
theorem dX3_owedBy_5 : decode cX3_owedBy 5 = .ok (.aload_n 0, 1) := by decide +kernel
theorem dX3_owedBy_6 : decode cX3_owedBy 6 = .ok (.getfield 21, 3) := by decide +kernel
theorem dX3_owedBy_9 : decode cX3_owedBy 9 = .ok (.if_icmp .ge 34, 3) := by decide +kernel
theorem dX3_owedBy_12 : decode cX3_owedBy 12 = .ok (.aload_n 0, 1) := by decide +kernel
theorem dX3_owedBy_13 : decode cX3_owedBy 13 = .ok (.getfield 60, 3) := by decide +kernel
theorem dX3_owedBy_16 : decode cX3_owedBy 16 = .ok (.iload_n 3, 1) := by decide +kernel
theorem dX3_owedBy_17 : decode cX3_owedBy 17 = .ok (.aaload, 1) := by decide +kernel
theorem dX3_owedBy_18 : decode cX3_owedBy 18 = .ok (.getfield 203, 3) := by decide +kernel
theorem dX3_owedBy_21 : decode cX3_owedBy 21 = .ok (.iload_n 1, 1) := by decide +kernel
theorem dX3_owedBy_22 : decode cX3_owedBy 22 = .ok (.if_icmp .ne 15, 3) := by decide +kernel
theorem dX3_owedBy_25 : decode cX3_owedBy 25 = .ok (.iload_n 2, 1) := by decide +kernel
theorem dX3_owedBy_26 : decode cX3_owedBy 26 = .ok (.aload_n 0, 1) := by decide +kernel
theorem dX3_owedBy_27 : decode cX3_owedBy 27 = .ok (.getfield 60, 3) := by decide +kernel
theorem dX3_owedBy_30 : decode cX3_owedBy 30 = .ok (.iload_n 3, 1) := by decide +kernel
theorem dX3_owedBy_31 : decode cX3_owedBy 31 = .ok (.aaload, 1) := by decide +kernel
theorem dX3_owedBy_32 : decode cX3_owedBy 32 = .ok (.invokevirtual 210, 3) := by decide +kernel
theorem dX3_owedBy_35 : decode cX3_owedBy 35 = .ok (.iadd, 1) := by decide +kernel
theorem dX3_owedBy_36 : decode cX3_owedBy 36 = .ok (.istore_n 2, 1) := by decide +kernel
theorem dX3_owedBy_37 : decode cX3_owedBy 37 = .ok (.iinc 3 1, 3) := by decide +kernel
theorem dX3_owedBy_40 : decode cX3_owedBy 40 = .ok (.goto (-36), 3) := by decide +kernel
theorem dX3_owedBy_43 : decode cX3_owedBy 43 = .ok (.iload_n 2, 1) := by decide +kernel
theorem dX3_owedBy_44 : decode cX3_owedBy 44 = .ok (.ireturn, 1) := by decide +kernel
theorem dX3_pledgedBy_0 : decode cX3_pledgedBy 0 = .ok (.iconst 0, 1) := by decide +kernel
theorem dX3_pledgedBy_1 : decode cX3_pledgedBy 1 = .ok (.istore_n 3, 1) := by decide +kernel
theorem dX3_pledgedBy_2 : decode cX3_pledgedBy 2 = .ok (.iconst 0, 1) := by decide +kernel
theorem dX3_pledgedBy_3 : decode cX3_pledgedBy 3 = .ok (.istore 4, 2) := by decide +kernel
theorem dX3_pledgedBy_5 : decode cX3_pledgedBy 5 = .ok (.iload 4, 2) := by decide +kernel
theorem dX3_pledgedBy_7 : decode cX3_pledgedBy 7 = .ok (.aload_n 0, 1) := by decide +kernel
theorem dX3_pledgedBy_8 : decode cX3_pledgedBy 8 = .ok (.getfield 21, 3) := by decide +kernel
theorem dX3_pledgedBy_11 : decode cX3_pledgedBy 11 = .ok (.if_icmp .ge 38, 3) := by decide +kernel
theorem dX3_pledgedBy_14 : decode cX3_pledgedBy 14 = .ok (.aload_n 0, 1) := by decide +kernel
theorem dX3_pledgedBy_15 : decode cX3_pledgedBy 15 = .ok (.getfield 60, 3) := by decide +kernel
theorem dX3_pledgedBy_18 : decode cX3_pledgedBy 18 = .ok (.iload 4, 2) := by decide +kernel
theorem dX3_pledgedBy_20 : decode cX3_pledgedBy 20 = .ok (.aaload, 1) := by decide +kernel
theorem dX3_pledgedBy_21 : decode cX3_pledgedBy 21 = .ok (.getfield 203, 3) := by decide +kernel
theorem dX3_pledgedBy_24 : decode cX3_pledgedBy 24 = .ok (.iload_n 1, 1) := by decide +kernel
theorem dX3_pledgedBy_25 : decode cX3_pledgedBy 25 = .ok (.if_icmp .ne 18, 3) := by decide +kernel
theorem dX3_pledgedBy_28 : decode cX3_pledgedBy 28 = .ok (.iload_n 3, 1) := by decide +kernel
theorem dX3_pledgedBy_29 : decode cX3_pledgedBy 29 = .ok (.aload_n 0, 1) := by decide +kernel
theorem dX3_pledgedBy_30 : decode cX3_pledgedBy 30 = .ok (.getfield 60, 3) := by decide +kernel
theorem dX3_pledgedBy_33 : decode cX3_pledgedBy 33 = .ok (.iload 4, 2) := by decide +kernel
theorem dX3_pledgedBy_35 : decode cX3_pledgedBy 35 = .ok (.aaload, 1) := by decide +kernel
theorem dX3_pledgedBy_36 : decode cX3_pledgedBy 36 = .ok (.getfield 186, 3) := by decide +kernel
theorem dX3_pledgedBy_39 : decode cX3_pledgedBy 39 = .ok (.iload_n 2, 1) := by decide +kernel
theorem dX3_pledgedBy_40 : decode cX3_pledgedBy 40 = .ok (.iaload, 1) := by decide +kernel
theorem dX3_pledgedBy_41 : decode cX3_pledgedBy 41 = .ok (.iadd, 1) := by decide +kernel
theorem dX3_pledgedBy_42 : decode cX3_pledgedBy 42 = .ok (.istore_n 3, 1) := by decide +kernel
theorem dX3_pledgedBy_43 : decode cX3_pledgedBy 43 = .ok (.iinc 4 1, 3) := by decide +kernel
theorem dX3_pledgedBy_46 : decode cX3_pledgedBy 46 = .ok (.goto (-41), 3) := by decide +kernel
theorem dX3_pledgedBy_49 : decode cX3_pledgedBy 49 = .ok (.iload_n 3, 1) := by decide +kernel
theorem dX3_pledgedBy_50 : decode cX3_pledgedBy 50 = .ok (.ireturn, 1) := by decide +kernel
theorem dX3_allDebts_0 : decode cX3_allDebts 0 = .ok (.iconst 0, 1) := by decide +kernel
theorem dX3_allDebts_1 : decode cX3_allDebts 1 = .ok (.istore_n 1, 1) := by decide +kernel
theorem dX3_allDebts_2 : decode cX3_allDebts 2 = .ok (.iconst 0, 1) := by decide +kernel
theorem dX3_allDebts_3 : decode cX3_allDebts 3 = .ok (.istore_n 2, 1) := by decide +kernel
theorem dX3_allDebts_4 : decode cX3_allDebts 4 = .ok (.iload_n 2, 1) := by decide +kernel
theorem dX3_allDebts_5 : decode cX3_allDebts 5 = .ok (.aload_n 0, 1) := by decide +kernel
theorem dX3_allDebts_6 : decode cX3_allDebts 6 = .ok (.getfield 21, 3) := by decide +kernel
theorem dX3_allDebts_9 : decode cX3_allDebts 9 = .ok (.if_icmp .ge 21, 3) := by decide +kernel
theorem dX3_allDebts_12 : decode cX3_allDebts 12 = .ok (.iload_n 1, 1) := by decide +kernel
theorem dX3_allDebts_13 : decode cX3_allDebts 13 = .ok (.aload_n 0, 1) := by decide +kernel
theorem dX3_allDebts_14 : decode cX3_allDebts 14 = .ok (.getfield 60, 3) := by decide +kernel
theorem dX3_allDebts_17 : decode cX3_allDebts 17 = .ok (.iload_n 2, 1) := by decide +kernel
theorem dX3_allDebts_18 : decode cX3_allDebts 18 = .ok (.aaload, 1) := by decide +kernel
theorem dX3_allDebts_19 : decode cX3_allDebts 19 = .ok (.invokevirtual 210, 3) := by decide +kernel
theorem dX3_allDebts_22 : decode cX3_allDebts 22 = .ok (.iadd, 1) := by decide +kernel
theorem dX3_allDebts_23 : decode cX3_allDebts 23 = .ok (.istore_n 1, 1) := by decide +kernel
theorem dX3_allDebts_24 : decode cX3_allDebts 24 = .ok (.iinc 2 1, 3) := by decide +kernel
theorem dX3_allDebts_27 : decode cX3_allDebts 27 = .ok (.goto (-23), 3) := by decide +kernel
theorem dX3_allDebts_30 : decode cX3_allDebts 30 = .ok (.iload_n 1, 1) := by decide +kernel
theorem dX3_allDebts_31 : decode cX3_allDebts 31 = .ok (.ireturn, 1) := by decide +kernel
theorem dX3_allCoins_0 : decode cX3_allCoins 0 = .ok (.aload_n 0, 1) := by decide +kernel
theorem dX3_allCoins_1 : decode cX3_allCoins 1 = .ok (.getfield 15, 3) := by decide +kernel
theorem dX3_allCoins_4 : decode cX3_allCoins 4 = .ok (.istore_n 1, 1) := by decide +kernel
theorem dX3_allCoins_5 : decode cX3_allCoins 5 = .ok (.iconst 0, 1) := by decide +kernel
theorem dX3_allCoins_6 : decode cX3_allCoins 6 = .ok (.istore_n 2, 1) := by decide +kernel
theorem dX3_allCoins_7 : decode cX3_allCoins 7 = .ok (.iload_n 2, 1) := by decide +kernel
theorem dX3_allCoins_8 : decode cX3_allCoins 8 = .ok (.aload_n 0, 1) := by decide +kernel
theorem dX3_allCoins_9 : decode cX3_allCoins 9 = .ok (.getfield 18, 3) := by decide +kernel
theorem dX3_allCoins_12 : decode cX3_allCoins 12 = .ok (.if_icmp .ge 21, 3) := by decide +kernel
theorem dX3_allCoins_15 : decode cX3_allCoins 15 = .ok (.iload_n 1, 1) := by decide +kernel
theorem dX3_allCoins_16 : decode cX3_allCoins 16 = .ok (.aload_n 0, 1) := by decide +kernel
theorem dX3_allCoins_17 : decode cX3_allCoins 17 = .ok (.getfield 54, 3) := by decide +kernel
theorem dX3_allCoins_20 : decode cX3_allCoins 20 = .ok (.iload_n 2, 1) := by decide +kernel
theorem dX3_allCoins_21 : decode cX3_allCoins 21 = .ok (.aaload, 1) := by decide +kernel
theorem dX3_allCoins_22 : decode cX3_allCoins 22 = .ok (.getfield 189, 3) := by decide +kernel
theorem dX3_allCoins_25 : decode cX3_allCoins 25 = .ok (.iadd, 1) := by decide +kernel
theorem dX3_allCoins_26 : decode cX3_allCoins 26 = .ok (.istore_n 1, 1) := by decide +kernel
theorem dX3_allCoins_27 : decode cX3_allCoins 27 = .ok (.iinc 2 1, 3) := by decide +kernel
theorem dX3_allCoins_30 : decode cX3_allCoins 30 = .ok (.goto (-23), 3) := by decide +kernel
theorem dX3_allCoins_33 : decode cX3_allCoins 33 = .ok (.iload_n 1, 1) := by decide +kernel
theorem dX3_allCoins_34 : decode cX3_allCoins 34 = .ok (.ireturn, 1) := by decide +kernel
theorem dX3_allUnits_0 : decode cX3_allUnits 0 = .ok (.aload_n 0, 1) := by decide +kernel
theorem dX3_allUnits_1 : decode cX3_allUnits 1 = .ok (.getfield 46, 3) := by decide +kernel
theorem dX3_allUnits_4 : decode cX3_allUnits 4 = .ok (.iload_n 1, 1) := by decide +kernel
theorem dX3_allUnits_5 : decode cX3_allUnits 5 = .ok (.iaload, 1) := by decide +kernel
theorem dX3_allUnits_6 : decode cX3_allUnits 6 = .ok (.istore_n 2, 1) := by decide +kernel
theorem dX3_allUnits_7 : decode cX3_allUnits 7 = .ok (.iconst 0, 1) := by decide +kernel
theorem dX3_allUnits_8 : decode cX3_allUnits 8 = .ok (.istore_n 3, 1) := by decide +kernel
theorem dX3_allUnits_9 : decode cX3_allUnits 9 = .ok (.iload_n 3, 1) := by decide +kernel
theorem dX3_allUnits_10 : decode cX3_allUnits 10 = .ok (.aload_n 0, 1) := by decide +kernel
theorem dX3_allUnits_11 : decode cX3_allUnits 11 = .ok (.getfield 18, 3) := by decide +kernel
theorem dX3_allUnits_14 : decode cX3_allUnits 14 = .ok (.if_icmp .ge 23, 3) := by decide +kernel
theorem dX3_allUnits_17 : decode cX3_allUnits 17 = .ok (.iload_n 2, 1) := by decide +kernel
theorem dX3_allUnits_18 : decode cX3_allUnits 18 = .ok (.aload_n 0, 1) := by decide +kernel
theorem dX3_allUnits_19 : decode cX3_allUnits 19 = .ok (.getfield 54, 3) := by decide +kernel
theorem dX3_allUnits_22 : decode cX3_allUnits 22 = .ok (.iload_n 3, 1) := by decide +kernel
theorem dX3_allUnits_23 : decode cX3_allUnits 23 = .ok (.aaload, 1) := by decide +kernel
theorem dX3_allUnits_24 : decode cX3_allUnits 24 = .ok (.getfield 169, 3) := by decide +kernel
theorem dX3_allUnits_27 : decode cX3_allUnits 27 = .ok (.iload_n 1, 1) := by decide +kernel
theorem dX3_allUnits_28 : decode cX3_allUnits 28 = .ok (.iaload, 1) := by decide +kernel
theorem dX3_allUnits_29 : decode cX3_allUnits 29 = .ok (.iadd, 1) := by decide +kernel
theorem dX3_allUnits_30 : decode cX3_allUnits 30 = .ok (.istore_n 2, 1) := by decide +kernel
theorem dX3_allUnits_31 : decode cX3_allUnits 31 = .ok (.iinc 3 1, 3) := by decide +kernel
theorem dX3_allUnits_34 : decode cX3_allUnits 34 = .ok (.goto (-25), 3) := by decide +kernel
theorem dX3_allUnits_37 : decode cX3_allUnits 37 = .ok (.iconst 0, 1) := by decide +kernel
theorem dX3_allUnits_38 : decode cX3_allUnits 38 = .ok (.istore_n 3, 1) := by decide +kernel
theorem dX3_allUnits_39 : decode cX3_allUnits 39 = .ok (.iload_n 3, 1) := by decide +kernel
theorem dX3_allUnits_40 : decode cX3_allUnits 40 = .ok (.aload_n 0, 1) := by decide +kernel
theorem dX3_allUnits_41 : decode cX3_allUnits 41 = .ok (.getfield 21, 3) := by decide +kernel
theorem dX3_allUnits_44 : decode cX3_allUnits 44 = .ok (.if_icmp .ge 23, 3) := by decide +kernel
theorem dX3_allUnits_47 : decode cX3_allUnits 47 = .ok (.iload_n 2, 1) := by decide +kernel
theorem dX3_allUnits_48 : decode cX3_allUnits 48 = .ok (.aload_n 0, 1) := by decide +kernel
theorem dX3_allUnits_49 : decode cX3_allUnits 49 = .ok (.getfield 60, 3) := by decide +kernel
theorem dX3_allUnits_52 : decode cX3_allUnits 52 = .ok (.iload_n 3, 1) := by decide +kernel
theorem dX3_allUnits_53 : decode cX3_allUnits 53 = .ok (.aaload, 1) := by decide +kernel
theorem dX3_allUnits_54 : decode cX3_allUnits 54 = .ok (.getfield 186, 3) := by decide +kernel
theorem dX3_allUnits_57 : decode cX3_allUnits 57 = .ok (.iload_n 1, 1) := by decide +kernel
theorem dX3_allUnits_58 : decode cX3_allUnits 58 = .ok (.iaload, 1) := by decide +kernel
theorem dX3_allUnits_59 : decode cX3_allUnits 59 = .ok (.iadd, 1) := by decide +kernel
theorem dX3_allUnits_60 : decode cX3_allUnits 60 = .ok (.istore_n 2, 1) := by decide +kernel
theorem dX3_allUnits_61 : decode cX3_allUnits 61 = .ok (.iinc 3 1, 3) := by decide +kernel
theorem dX3_allUnits_64 : decode cX3_allUnits 64 = .ok (.goto (-25), 3) := by decide +kernel
theorem dX3_allUnits_67 : decode cX3_allUnits 67 = .ok (.iload_n 2, 1) := by decide +kernel
theorem dX3_allUnits_68 : decode cX3_allUnits 68 = .ok (.ireturn, 1) := by decide +kernel
theorem dX3_daysLeft_0 : decode cX3_daysLeft 0 = .ok (.aload_n 1, 1) := by decide +kernel
theorem dX3_daysLeft_1 : decode cX3_daysLeft 1 = .ok (.getfield 243, 3) := by decide +kernel
theorem dX3_daysLeft_4 : decode cX3_daysLeft 4 = .ok (.aload_n 0, 1) := by decide +kernel
theorem dX3_daysLeft_5 : decode cX3_daysLeft 5 = .ok (.getfield 9, 3) := by decide +kernel
theorem dX3_daysLeft_8 : decode cX3_daysLeft 8 = .ok (.isub, 1) := by decide +kernel
theorem dX3_daysLeft_9 : decode cX3_daysLeft 9 = .ok (.iconst 1, 1) := by decide +kernel
theorem dX3_daysLeft_10 : decode cX3_daysLeft 10 = .ok (.iadd, 1) := by decide +kernel
theorem dX3_daysLeft_11 : decode cX3_daysLeft 11 = .ok (.istore_n 2, 1) := by decide +kernel
theorem dX3_daysLeft_12 : decode cX3_daysLeft 12 = .ok (.aload_n 0, 1) := by decide +kernel
theorem dX3_daysLeft_13 : decode cX3_daysLeft 13 = .ok (.aload_n 1, 1) := by decide +kernel
theorem dX3_daysLeft_14 : decode cX3_daysLeft 14 = .ok (.getfield 186, 3) := by decide +kernel
theorem dX3_daysLeft_17 : decode cX3_daysLeft 17 = .ok (.invokevirtual 206, 3) := by decide +kernel
theorem dX3_daysLeft_20 : decode cX3_daysLeft 20 = .ok (.aload_n 1, 1) := by decide +kernel
theorem dX3_daysLeft_21 : decode cX3_daysLeft 21 = .ok (.invokevirtual 210, 3) := by decide +kernel
theorem dX3_daysLeft_24 : decode cX3_daysLeft 24 = .ok (.isub, 1) := by decide +kernel
theorem dX3_daysLeft_25 : decode cX3_daysLeft 25 = .ok (.istore_n 3, 1) := by decide +kernel
theorem dX3_daysLeft_26 : decode cX3_daysLeft 26 = .ok (.aload_n 1, 1) := by decide +kernel
theorem dX3_daysLeft_27 : decode cX3_daysLeft 27 = .ok (.invokevirtual 233, 3) := by decide +kernel
theorem dX3_daysLeft_30 : decode cX3_daysLeft 30 = .ok (.istore 4, 2) := by decide +kernel
theorem dX3_daysLeft_32 : decode cX3_daysLeft 32 = .ok (.iload_n 3, 1) := by decide +kernel
theorem dX3_daysLeft_33 : decode cX3_daysLeft 33 = .ok (.ifCond .ge 5, 3) := by decide +kernel
theorem dX3_daysLeft_36 : decode cX3_daysLeft 36 = .ok (.iconst 1, 1) := by decide +kernel
theorem dX3_daysLeft_37 : decode cX3_daysLeft 37 = .ok (.ireturn, 1) := by decide +kernel
theorem dX3_daysLeft_38 : decode cX3_daysLeft 38 = .ok (.iload 4, 2) := by decide +kernel
theorem dX3_daysLeft_40 : decode cX3_daysLeft 40 = .ok (.ifCond .gt 7, 3) := by decide +kernel
theorem dX3_daysLeft_43 : decode cX3_daysLeft 43 = .ok (.iload_n 2, 1) := by decide +kernel
theorem dX3_daysLeft_44 : decode cX3_daysLeft 44 = .ok (.goto 13, 3) := by decide +kernel
theorem dX3_daysLeft_47 : decode cX3_daysLeft 47 = .ok (.iload_n 2, 1) := by decide +kernel
theorem dX3_daysLeft_48 : decode cX3_daysLeft 48 = .ok (.iload_n 3, 1) := by decide +kernel
theorem dX3_daysLeft_49 : decode cX3_daysLeft 49 = .ok (.iload 4, 2) := by decide +kernel
theorem dX3_daysLeft_51 : decode cX3_daysLeft 51 = .ok (.idiv, 1) := by decide +kernel
theorem dX3_daysLeft_52 : decode cX3_daysLeft 52 = .ok (.iconst 1, 1) := by decide +kernel
theorem dX3_daysLeft_53 : decode cX3_daysLeft 53 = .ok (.iadd, 1) := by decide +kernel
theorem dX3_daysLeft_54 : decode cX3_daysLeft 54 = .ok (.invokestatic 250, 3) := by decide +kernel
theorem dX3_daysLeft_57 : decode cX3_daysLeft 57 = .ok (.ireturn, 1) := by decide +kernel
theorem dX3_firstToDefault_0 : decode cX3_firstToDefault 0 = .ok (.aconst_null, 1) := by decide +kernel
theorem dX3_firstToDefault_1 : decode cX3_firstToDefault 1 = .ok (.astore_n 1, 1) := by decide +kernel
theorem dX3_firstToDefault_2 : decode cX3_firstToDefault 2 = .ok (.iconst 0, 1) := by decide +kernel
theorem dX3_firstToDefault_3 : decode cX3_firstToDefault 3 = .ok (.istore_n 2, 1) := by decide +kernel
theorem dX3_firstToDefault_4 : decode cX3_firstToDefault 4 = .ok (.iload_n 2, 1) := by decide +kernel
theorem dX3_firstToDefault_5 : decode cX3_firstToDefault 5 = .ok (.aload_n 0, 1) := by decide +kernel
theorem dX3_firstToDefault_6 : decode cX3_firstToDefault 6 = .ok (.getfield 21, 3) := by decide +kernel
theorem dX3_firstToDefault_9 : decode cX3_firstToDefault 9 = .ok (.if_icmp .ge 38, 3) := by decide +kernel
theorem dX3_firstToDefault_12 : decode cX3_firstToDefault 12 = .ok (.aload_n 1, 1) := by decide +kernel
theorem dX3_firstToDefault_13 : decode cX3_firstToDefault 13 = .ok (.ifnull 21, 3) := by decide +kernel
theorem dX3_firstToDefault_16 : decode cX3_firstToDefault 16 = .ok (.aload_n 0, 1) := by decide +kernel
theorem dX3_firstToDefault_17 : decode cX3_firstToDefault 17 = .ok (.aload_n 0, 1) := by decide +kernel
theorem dX3_firstToDefault_18 : decode cX3_firstToDefault 18 = .ok (.getfield 60, 3) := by decide +kernel
theorem dX3_firstToDefault_21 : decode cX3_firstToDefault 21 = .ok (.iload_n 2, 1) := by decide +kernel
theorem dX3_firstToDefault_22 : decode cX3_firstToDefault 22 = .ok (.aaload, 1) := by decide +kernel
theorem dX3_firstToDefault_23 : decode cX3_firstToDefault 23 = .ok (.invokevirtual 261, 3) := by decide +kernel
theorem dX3_firstToDefault_26 : decode cX3_firstToDefault 26 = .ok (.aload_n 0, 1) := by decide +kernel
theorem dX3_firstToDefault_27 : decode cX3_firstToDefault 27 = .ok (.aload_n 1, 1) := by decide +kernel
theorem dX3_firstToDefault_28 : decode cX3_firstToDefault 28 = .ok (.invokevirtual 261, 3) := by decide +kernel
theorem dX3_firstToDefault_31 : decode cX3_firstToDefault 31 = .ok (.if_icmp .ge 10, 3) := by decide +kernel
theorem dX3_firstToDefault_34 : decode cX3_firstToDefault 34 = .ok (.aload_n 0, 1) := by decide +kernel
theorem dX3_firstToDefault_35 : decode cX3_firstToDefault 35 = .ok (.getfield 60, 3) := by decide +kernel
theorem dX3_firstToDefault_38 : decode cX3_firstToDefault 38 = .ok (.iload_n 2, 1) := by decide +kernel
theorem dX3_firstToDefault_39 : decode cX3_firstToDefault 39 = .ok (.aaload, 1) := by decide +kernel
theorem dX3_firstToDefault_40 : decode cX3_firstToDefault 40 = .ok (.astore_n 1, 1) := by decide +kernel
theorem dX3_firstToDefault_41 : decode cX3_firstToDefault 41 = .ok (.iinc 2 1, 3) := by decide +kernel
theorem dX3_firstToDefault_44 : decode cX3_firstToDefault 44 = .ok (.goto (-40), 3) := by decide +kernel
theorem dX3_firstToDefault_47 : decode cX3_firstToDefault 47 = .ok (.aload_n 1, 1) := by decide +kernel
theorem dX3_firstToDefault_48 : decode cX3_firstToDefault 48 = .ok (.areturn, 1) := by decide +kernel
theorem dX3_loanOfRank_0 : decode cX3_loanOfRank 0 = .ok (.iconst 0, 1) := by decide +kernel
theorem dX3_loanOfRank_1 : decode cX3_loanOfRank 1 = .ok (.istore_n 2, 1) := by decide +kernel
theorem dX3_loanOfRank_2 : decode cX3_loanOfRank 2 = .ok (.iload_n 2, 1) := by decide +kernel
theorem dX3_loanOfRank_3 : decode cX3_loanOfRank 3 = .ok (.aload_n 0, 1) := by decide +kernel
theorem dX3_loanOfRank_4 : decode cX3_loanOfRank 4 = .ok (.getfield 21, 3) := by decide +kernel
theorem dX3_loanOfRank_7 : decode cX3_loanOfRank 7 = .ok (.if_icmp .ge 30, 3) := by decide +kernel
theorem dX3_loanOfRank_10 : decode cX3_loanOfRank 10 = .ok (.aload_n 0, 1) := by decide +kernel
theorem dX3_loanOfRank_11 : decode cX3_loanOfRank 11 = .ok (.aload_n 0, 1) := by decide +kernel
theorem dX3_loanOfRank_12 : decode cX3_loanOfRank 12 = .ok (.getfield 60, 3) := by decide +kernel
theorem dX3_loanOfRank_15 : decode cX3_loanOfRank 15 = .ok (.iload_n 2, 1) := by decide +kernel
theorem dX3_loanOfRank_16 : decode cX3_loanOfRank 16 = .ok (.aaload, 1) := by decide +kernel
theorem dX3_loanOfRank_17 : decode cX3_loanOfRank 17 = .ok (.invokevirtual 265, 3) := by decide +kernel
theorem dX3_loanOfRank_20 : decode cX3_loanOfRank 20 = .ok (.iload_n 1, 1) := by decide +kernel
theorem dX3_loanOfRank_21 : decode cX3_loanOfRank 21 = .ok (.if_icmp .ne 10, 3) := by decide +kernel
theorem dX3_loanOfRank_24 : decode cX3_loanOfRank 24 = .ok (.aload_n 0, 1) := by decide +kernel
theorem dX3_loanOfRank_25 : decode cX3_loanOfRank 25 = .ok (.getfield 60, 3) := by decide +kernel
theorem dX3_loanOfRank_28 : decode cX3_loanOfRank 28 = .ok (.iload_n 2, 1) := by decide +kernel
theorem dX3_loanOfRank_29 : decode cX3_loanOfRank 29 = .ok (.aaload, 1) := by decide +kernel
theorem dX3_loanOfRank_30 : decode cX3_loanOfRank 30 = .ok (.areturn, 1) := by decide +kernel
theorem dX3_loanOfRank_31 : decode cX3_loanOfRank 31 = .ok (.iinc 2 1, 3) := by decide +kernel
theorem dX3_loanOfRank_34 : decode cX3_loanOfRank 34 = .ok (.goto (-32), 3) := by decide +kernel
theorem dX3_loanOfRank_37 : decode cX3_loanOfRank 37 = .ok (.aconst_null, 1) := by decide +kernel
theorem dX3_loanOfRank_38 : decode cX3_loanOfRank 38 = .ok (.areturn, 1) := by decide +kernel
theorem dX3_loansBefore_0 : decode cX3_loansBefore 0 = .ok (.iconst 0, 1) := by decide +kernel
theorem dX3_loansBefore_1 : decode cX3_loansBefore 1 = .ok (.istore_n 2, 1) := by decide +kernel
theorem dX3_loansBefore_2 : decode cX3_loansBefore 2 = .ok (.iconst 0, 1) := by decide +kernel
theorem dX3_loansBefore_3 : decode cX3_loansBefore 3 = .ok (.istore_n 3, 1) := by decide +kernel
theorem dX3_loansBefore_4 : decode cX3_loansBefore 4 = .ok (.iload_n 3, 1) := by decide +kernel
theorem dX3_loansBefore_5 : decode cX3_loansBefore 5 = .ok (.aload_n 0, 1) := by decide +kernel
theorem dX3_loansBefore_6 : decode cX3_loansBefore 6 = .ok (.getfield 21, 3) := by decide +kernel
theorem dX3_loansBefore_9 : decode cX3_loansBefore 9 = .ok (.if_icmp .ge 25, 3) := by decide +kernel
theorem dX3_loansBefore_12 : decode cX3_loansBefore 12 = .ok (.aload_n 0, 1) := by decide +kernel
theorem dX3_loansBefore_13 : decode cX3_loansBefore 13 = .ok (.getfield 60, 3) := by decide +kernel
theorem dX3_loansBefore_16 : decode cX3_loansBefore 16 = .ok (.iload_n 3, 1) := by decide +kernel
theorem dX3_loansBefore_17 : decode cX3_loansBefore 17 = .ok (.aaload, 1) := by decide +kernel
theorem dX3_loansBefore_18 : decode cX3_loansBefore 18 = .ok (.aload_n 1, 1) := by decide +kernel
theorem dX3_loansBefore_19 : decode cX3_loansBefore 19 = .ok (.invokevirtual 268, 3) := by decide +kernel
theorem dX3_loansBefore_22 : decode cX3_loansBefore 22 = .ok (.ifCond .eq 6, 3) := by decide +kernel
theorem dX3_loansBefore_25 : decode cX3_loansBefore 25 = .ok (.iinc 2 1, 3) := by decide +kernel
theorem dX3_loansBefore_28 : decode cX3_loansBefore 28 = .ok (.iinc 3 1, 3) := by decide +kernel
theorem dX3_loansBefore_31 : decode cX3_loansBefore 31 = .ok (.goto (-27), 3) := by decide +kernel
theorem dX3_loansBefore_34 : decode cX3_loansBefore 34 = .ok (.iload_n 2, 1) := by decide +kernel
theorem dX3_loansBefore_35 : decode cX3_loansBefore 35 = .ok (.ireturn, 1) := by decide +kernel
theorem dX5_init_0 : decode cX5_init 0 = .ok (.aload_n 0, 1) := by decide +kernel
theorem dX5_init_1 : decode cX5_init 1 = .ok (.invokespecial 3, 3) := by decide +kernel
theorem dX5_init_4 : decode cX5_init 4 = .ok (.aload_n 0, 1) := by decide +kernel
theorem dX5_init_5 : decode cX5_init 5 = .ok (.iconst 0, 1) := by decide +kernel
theorem dX5_init_6 : decode cX5_init 6 = .ok (.putfield 9, 3) := by decide +kernel
theorem dX5_init_9 : decode cX5_init 9 = .ok (.aload_n 0, 1) := by decide +kernel
theorem dX5_init_10 : decode cX5_init 10 = .ok (.iconst 0, 1) := by decide +kernel
theorem dX5_init_11 : decode cX5_init 11 = .ok (.putfield 15, 3) := by decide +kernel
theorem dX5_init_14 : decode cX5_init 14 = .ok (.aload_n 0, 1) := by decide +kernel
theorem dX5_init_15 : decode cX5_init 15 = .ok (.bipush 8, 2) := by decide +kernel
theorem dX5_init_17 : decode cX5_init 17 = .ok (.anewarray 18, 3) := by decide +kernel
theorem dX5_init_20 : decode cX5_init 20 = .ok (.putfield 20, 3) := by decide +kernel
theorem dX5_init_23 : decode cX5_init 23 = .ok (.iconst 0, 1) := by decide +kernel
theorem dX5_init_24 : decode cX5_init 24 = .ok (.istore_n 1, 1) := by decide +kernel
theorem dX5_init_25 : decode cX5_init 25 = .ok (.iload_n 1, 1) := by decide +kernel
theorem dX5_init_26 : decode cX5_init 26 = .ok (.bipush 8, 2) := by decide +kernel
theorem dX5_init_28 : decode cX5_init 28 = .ok (.if_icmp .ge 22, 3) := by decide +kernel
theorem dX5_init_31 : decode cX5_init 31 = .ok (.aload_n 0, 1) := by decide +kernel
theorem dX5_init_32 : decode cX5_init 32 = .ok (.getfield 20, 3) := by decide +kernel
theorem dX5_init_35 : decode cX5_init 35 = .ok (.iload_n 1, 1) := by decide +kernel
theorem dX5_init_36 : decode cX5_init 36 = .ok (.new 18, 3) := by decide +kernel
theorem dX5_init_39 : decode cX5_init 39 = .ok (.dup, 1) := by decide +kernel
theorem dX5_init_40 : decode cX5_init 40 = .ok (.invokespecial 24, 3) := by decide +kernel
theorem dX5_init_43 : decode cX5_init 43 = .ok (.aastore, 1) := by decide +kernel
theorem dX5_init_44 : decode cX5_init 44 = .ok (.iinc 1 1, 3) := by decide +kernel
theorem dX5_init_47 : decode cX5_init 47 = .ok (.goto (-22), 3) := by decide +kernel
theorem dX5_init_50 : decode cX5_init 50 = .ok (.return_, 1) := by decide +kernel
theorem dX5_remember_0 : decode cX5_remember 0 = .ok (.aload_n 0, 1) := by decide +kernel
theorem dX5_remember_1 : decode cX5_remember 1 = .ok (.getfield 20, 3) := by decide +kernel
theorem dX5_remember_4 : decode cX5_remember 4 = .ok (.aload_n 0, 1) := by decide +kernel
theorem dX5_remember_5 : decode cX5_remember 5 = .ok (.getfield 15, 3) := by decide +kernel
theorem dX5_remember_8 : decode cX5_remember 8 = .ok (.aaload, 1) := by decide +kernel
theorem dX5_remember_9 : decode cX5_remember 9 = .ok (.aload_n 1, 1) := by decide +kernel
theorem dX5_remember_10 : decode cX5_remember 10 = .ok (.invokevirtual 25, 3) := by decide +kernel
theorem dX5_remember_13 : decode cX5_remember 13 = .ok (.aload_n 0, 1) := by decide +kernel
theorem dX5_remember_14 : decode cX5_remember 14 = .ok (.aload_n 0, 1) := by decide +kernel
theorem dX5_remember_15 : decode cX5_remember 15 = .ok (.getfield 15, 3) := by decide +kernel
theorem dX5_remember_18 : decode cX5_remember 18 = .ok (.iconst 1, 1) := by decide +kernel
theorem dX5_remember_19 : decode cX5_remember 19 = .ok (.iadd, 1) := by decide +kernel
theorem dX5_remember_20 : decode cX5_remember 20 = .ok (.bipush 8, 2) := by decide +kernel
theorem dX5_remember_22 : decode cX5_remember 22 = .ok (.if_icmp .ge 12, 3) := by decide +kernel
theorem dX5_remember_25 : decode cX5_remember 25 = .ok (.aload_n 0, 1) := by decide +kernel
theorem dX5_remember_26 : decode cX5_remember 26 = .ok (.getfield 15, 3) := by decide +kernel
theorem dX5_remember_29 : decode cX5_remember 29 = .ok (.iconst 1, 1) := by decide +kernel
theorem dX5_remember_30 : decode cX5_remember 30 = .ok (.iadd, 1) := by decide +kernel
theorem dX5_remember_31 : decode cX5_remember 31 = .ok (.goto 4, 3) := by decide +kernel
theorem dX5_remember_34 : decode cX5_remember 34 = .ok (.iconst 0, 1) := by decide +kernel
theorem dX5_remember_35 : decode cX5_remember 35 = .ok (.putfield 15, 3) := by decide +kernel
theorem dX5_remember_38 : decode cX5_remember 38 = .ok (.aload_n 0, 1) := by decide +kernel
theorem dX5_remember_39 : decode cX5_remember 39 = .ok (.aload_n 0, 1) := by decide +kernel
theorem dX5_remember_40 : decode cX5_remember 40 = .ok (.getfield 9, 3) := by decide +kernel
theorem dX5_remember_43 : decode cX5_remember 43 = .ok (.iconst 1, 1) := by decide +kernel
theorem dX5_remember_44 : decode cX5_remember 44 = .ok (.iadd, 1) := by decide +kernel
theorem dX5_remember_45 : decode cX5_remember 45 = .ok (.bipush 8, 2) := by decide +kernel
theorem dX5_remember_47 : decode cX5_remember 47 = .ok (.invokestatic 29, 3) := by decide +kernel
theorem dX5_remember_50 : decode cX5_remember 50 = .ok (.putfield 9, 3) := by decide +kernel
theorem dX5_remember_53 : decode cX5_remember 53 = .ok (.return_, 1) := by decide +kernel
theorem dX5_takeBack_0 : decode cX5_takeBack 0 = .ok (.aload_n 0, 1) := by decide +kernel
theorem dX5_takeBack_1 : decode cX5_takeBack 1 = .ok (.getfield 9, 3) := by decide +kernel
theorem dX5_takeBack_4 : decode cX5_takeBack 4 = .ok (.ifCond .le 48, 3) := by decide +kernel
theorem dX5_takeBack_7 : decode cX5_takeBack 7 = .ok (.aload_n 0, 1) := by decide +kernel
theorem dX5_takeBack_8 : decode cX5_takeBack 8 = .ok (.aload_n 0, 1) := by decide +kernel
theorem dX5_takeBack_9 : decode cX5_takeBack 9 = .ok (.getfield 15, 3) := by decide +kernel
theorem dX5_takeBack_12 : decode cX5_takeBack 12 = .ok (.ifCond .le 12, 3) := by decide +kernel
theorem dX5_takeBack_15 : decode cX5_takeBack 15 = .ok (.aload_n 0, 1) := by decide +kernel
theorem dX5_takeBack_16 : decode cX5_takeBack 16 = .ok (.getfield 15, 3) := by decide +kernel
theorem dX5_takeBack_19 : decode cX5_takeBack 19 = .ok (.iconst 1, 1) := by decide +kernel
theorem dX5_takeBack_20 : decode cX5_takeBack 20 = .ok (.isub, 1) := by decide +kernel
theorem dX5_takeBack_21 : decode cX5_takeBack 21 = .ok (.goto 5, 3) := by decide +kernel
theorem dX5_takeBack_24 : decode cX5_takeBack 24 = .ok (.bipush 7, 2) := by decide +kernel
theorem dX5_takeBack_26 : decode cX5_takeBack 26 = .ok (.putfield 15, 3) := by decide +kernel
theorem dX5_takeBack_29 : decode cX5_takeBack 29 = .ok (.aload_n 1, 1) := by decide +kernel
theorem dX5_takeBack_30 : decode cX5_takeBack 30 = .ok (.aload_n 0, 1) := by decide +kernel
theorem dX5_takeBack_31 : decode cX5_takeBack 31 = .ok (.getfield 20, 3) := by decide +kernel
theorem dX5_takeBack_34 : decode cX5_takeBack 34 = .ok (.aload_n 0, 1) := by decide +kernel
theorem dX5_takeBack_35 : decode cX5_takeBack 35 = .ok (.getfield 15, 3) := by decide +kernel
theorem dX5_takeBack_38 : decode cX5_takeBack 38 = .ok (.aaload, 1) := by decide +kernel
theorem dX5_takeBack_39 : decode cX5_takeBack 39 = .ok (.invokevirtual 25, 3) := by decide +kernel
theorem dX5_takeBack_42 : decode cX5_takeBack 42 = .ok (.aload_n 0, 1) := by decide +kernel
theorem dX5_takeBack_43 : decode cX5_takeBack 43 = .ok (.dup, 1) := by decide +kernel
theorem dX5_takeBack_44 : decode cX5_takeBack 44 = .ok (.getfield 9, 3) := by decide +kernel
theorem dX5_takeBack_47 : decode cX5_takeBack 47 = .ok (.iconst 1, 1) := by decide +kernel
theorem dX5_takeBack_48 : decode cX5_takeBack 48 = .ok (.isub, 1) := by decide +kernel
theorem dX5_takeBack_49 : decode cX5_takeBack 49 = .ok (.putfield 9, 3) := by decide +kernel
theorem dX5_takeBack_52 : decode cX5_takeBack 52 = .ok (.return_, 1) := by decide +kernel
theorem dX5_forgetAll_0 : decode cX5_forgetAll 0 = .ok (.aload_n 0, 1) := by decide +kernel
theorem dX5_forgetAll_1 : decode cX5_forgetAll 1 = .ok (.iconst 0, 1) := by decide +kernel
theorem dX5_forgetAll_2 : decode cX5_forgetAll 2 = .ok (.putfield 9, 3) := by decide +kernel
theorem dX5_forgetAll_5 : decode cX5_forgetAll 5 = .ok (.return_, 1) := by decide +kernel
theorem dX6_init_0 : decode cX6_init 0 = .ok (.aload_n 0, 1) := by decide +kernel
theorem dX6_init_1 : decode cX6_init 1 = .ok (.invokespecial 3, 3) := by decide +kernel
theorem dX6_init_4 : decode cX6_init 4 = .ok (.aload_n 0, 1) := by decide +kernel
theorem dX6_init_5 : decode cX6_init 5 = .ok (.iconst 0, 1) := by decide +kernel
theorem dX6_init_6 : decode cX6_init 6 = .ok (.putfield 9, 3) := by decide +kernel
theorem dX6_init_9 : decode cX6_init 9 = .ok (.aload_n 0, 1) := by decide +kernel
theorem dX6_init_10 : decode cX6_init 10 = .ok (.bipush 20, 2) := by decide +kernel
theorem dX6_init_12 : decode cX6_init 12 = .ok (.newarray .int, 2) := by decide +kernel
theorem dX6_init_14 : decode cX6_init 14 = .ok (.putfield 15, 3) := by decide +kernel
theorem dX6_init_17 : decode cX6_init 17 = .ok (.aload_n 0, 1) := by decide +kernel
theorem dX6_init_18 : decode cX6_init 18 = .ok (.bipush 20, 2) := by decide +kernel
theorem dX6_init_20 : decode cX6_init 20 = .ok (.newarray .int, 2) := by decide +kernel
theorem dX6_init_22 : decode cX6_init 22 = .ok (.putfield 19, 3) := by decide +kernel
theorem dX6_init_25 : decode cX6_init 25 = .ok (.aload_n 0, 1) := by decide +kernel
theorem dX6_init_26 : decode cX6_init 26 = .ok (.bipush 20, 2) := by decide +kernel
theorem dX6_init_28 : decode cX6_init 28 = .ok (.newarray .int, 2) := by decide +kernel
theorem dX6_init_30 : decode cX6_init 30 = .ok (.putfield 22, 3) := by decide +kernel
theorem dX6_init_33 : decode cX6_init 33 = .ok (.return_, 1) := by decide +kernel
theorem dX6_positionOf_0 : decode cX6_positionOf 0 = .ok (.iconst 0, 1) := by decide +kernel
theorem dX6_positionOf_1 : decode cX6_positionOf 1 = .ok (.istore_n 3, 1) := by decide +kernel
theorem dX6_positionOf_2 : decode cX6_positionOf 2 = .ok (.iload_n 3, 1) := by decide +kernel
theorem dX6_positionOf_3 : decode cX6_positionOf 3 = .ok (.aload_n 0, 1) := by decide +kernel
theorem dX6_positionOf_4 : decode cX6_positionOf 4 = .ok (.getfield 9, 3) := by decide +kernel
theorem dX6_positionOf_7 : decode cX6_positionOf 7 = .ok (.if_icmp .ge 31, 3) := by decide +kernel
theorem dX6_positionOf_10 : decode cX6_positionOf 10 = .ok (.aload_n 0, 1) := by decide +kernel
theorem dX6_positionOf_11 : decode cX6_positionOf 11 = .ok (.getfield 15, 3) := by decide +kernel
theorem dX6_positionOf_14 : decode cX6_positionOf 14 = .ok (.iload_n 3, 1) := by decide +kernel
theorem dX6_positionOf_15 : decode cX6_positionOf 15 = .ok (.iaload, 1) := by decide +kernel
theorem dX6_positionOf_16 : decode cX6_positionOf 16 = .ok (.iload_n 1, 1) := by decide +kernel
theorem dX6_positionOf_17 : decode cX6_positionOf 17 = .ok (.if_icmp .ne 15, 3) := by decide +kernel
theorem dX6_positionOf_20 : decode cX6_positionOf 20 = .ok (.aload_n 0, 1) := by decide +kernel
theorem dX6_positionOf_21 : decode cX6_positionOf 21 = .ok (.getfield 19, 3) := by decide +kernel
theorem dX6_positionOf_24 : decode cX6_positionOf 24 = .ok (.iload_n 3, 1) := by decide +kernel
theorem dX6_positionOf_25 : decode cX6_positionOf 25 = .ok (.iaload, 1) := by decide +kernel
theorem dX6_positionOf_26 : decode cX6_positionOf 26 = .ok (.iload_n 2, 1) := by decide +kernel
theorem dX6_positionOf_27 : decode cX6_positionOf 27 = .ok (.if_icmp .ne 5, 3) := by decide +kernel
theorem dX6_positionOf_30 : decode cX6_positionOf 30 = .ok (.iload_n 3, 1) := by decide +kernel
theorem dX6_positionOf_31 : decode cX6_positionOf 31 = .ok (.ireturn, 1) := by decide +kernel
theorem dX6_positionOf_32 : decode cX6_positionOf 32 = .ok (.iinc 3 1, 3) := by decide +kernel
theorem dX6_positionOf_35 : decode cX6_positionOf 35 = .ok (.goto (-33), 3) := by decide +kernel
theorem dX6_positionOf_38 : decode cX6_positionOf 38 = .ok (.iconst (-1), 1) := by decide +kernel
theorem dX6_positionOf_39 : decode cX6_positionOf 39 = .ok (.ireturn, 1) := by decide +kernel
theorem dX6_enter_0 : decode cX6_enter 0 = .ok (.aload_n 0, 1) := by decide +kernel
theorem dX6_enter_1 : decode cX6_enter 1 = .ok (.iload_n 1, 1) := by decide +kernel
theorem dX6_enter_2 : decode cX6_enter 2 = .ok (.iload_n 2, 1) := by decide +kernel
theorem dX6_enter_3 : decode cX6_enter 3 = .ok (.invokevirtual 25, 3) := by decide +kernel
theorem dX6_enter_6 : decode cX6_enter 6 = .ok (.istore 4, 2) := by decide +kernel
theorem dX6_enter_8 : decode cX6_enter 8 = .ok (.iload 4, 2) := by decide +kernel
theorem dX6_enter_10 : decode cX6_enter 10 = .ok (.ifCond .lt 15, 3) := by decide +kernel
theorem dX6_enter_13 : decode cX6_enter 13 = .ok (.aload_n 0, 1) := by decide +kernel
theorem dX6_enter_14 : decode cX6_enter 14 = .ok (.getfield 22, 3) := by decide +kernel
theorem dX6_enter_17 : decode cX6_enter 17 = .ok (.iload 4, 2) := by decide +kernel
theorem dX6_enter_19 : decode cX6_enter 19 = .ok (.dup2, 1) := by decide +kernel
theorem dX6_enter_20 : decode cX6_enter 20 = .ok (.iaload, 1) := by decide +kernel
theorem dX6_enter_21 : decode cX6_enter 21 = .ok (.iload_n 3, 1) := by decide +kernel
theorem dX6_enter_22 : decode cX6_enter 22 = .ok (.iadd, 1) := by decide +kernel
theorem dX6_enter_23 : decode cX6_enter 23 = .ok (.iastore, 1) := by decide +kernel
theorem dX6_enter_24 : decode cX6_enter 24 = .ok (.return_, 1) := by decide +kernel
theorem dX6_enter_25 : decode cX6_enter 25 = .ok (.aload_n 0, 1) := by decide +kernel
theorem dX6_enter_26 : decode cX6_enter 26 = .ok (.getfield 9, 3) := by decide +kernel
theorem dX6_enter_29 : decode cX6_enter 29 = .ok (.bipush 20, 2) := by decide +kernel
theorem dX6_enter_31 : decode cX6_enter 31 = .ok (.if_icmp .lt 7, 3) := by decide +kernel
theorem dX6_enter_34 : decode cX6_enter 34 = .ok (.aload_n 0, 1) := by decide +kernel
theorem dX6_enter_35 : decode cX6_enter 35 = .ok (.invokevirtual 29, 3) := by decide +kernel
theorem dX6_enter_38 : decode cX6_enter 38 = .ok (.aload_n 0, 1) := by decide +kernel
theorem dX6_enter_39 : decode cX6_enter 39 = .ok (.getfield 15, 3) := by decide +kernel
theorem dX6_enter_42 : decode cX6_enter 42 = .ok (.aload_n 0, 1) := by decide +kernel
theorem dX6_enter_43 : decode cX6_enter 43 = .ok (.getfield 9, 3) := by decide +kernel
theorem dX6_enter_46 : decode cX6_enter 46 = .ok (.iload_n 1, 1) := by decide +kernel
theorem dX6_enter_47 : decode cX6_enter 47 = .ok (.iastore, 1) := by decide +kernel
theorem dX6_enter_48 : decode cX6_enter 48 = .ok (.aload_n 0, 1) := by decide +kernel
theorem dX6_enter_49 : decode cX6_enter 49 = .ok (.getfield 19, 3) := by decide +kernel
theorem dX6_enter_52 : decode cX6_enter 52 = .ok (.aload_n 0, 1) := by decide +kernel
theorem dX6_enter_53 : decode cX6_enter 53 = .ok (.getfield 9, 3) := by decide +kernel
theorem dX6_enter_56 : decode cX6_enter 56 = .ok (.iload_n 2, 1) := by decide +kernel
theorem dX6_enter_57 : decode cX6_enter 57 = .ok (.iastore, 1) := by decide +kernel
theorem dX6_enter_58 : decode cX6_enter 58 = .ok (.aload_n 0, 1) := by decide +kernel
theorem dX6_enter_59 : decode cX6_enter 59 = .ok (.getfield 22, 3) := by decide +kernel
theorem dX6_enter_62 : decode cX6_enter 62 = .ok (.aload_n 0, 1) := by decide +kernel
theorem dX6_enter_63 : decode cX6_enter 63 = .ok (.getfield 9, 3) := by decide +kernel
theorem dX6_enter_66 : decode cX6_enter 66 = .ok (.iload_n 3, 1) := by decide +kernel
theorem dX6_enter_67 : decode cX6_enter 67 = .ok (.iastore, 1) := by decide +kernel
theorem dX6_enter_68 : decode cX6_enter 68 = .ok (.aload_n 0, 1) := by decide +kernel
theorem dX6_enter_69 : decode cX6_enter 69 = .ok (.dup, 1) := by decide +kernel
theorem dX6_enter_70 : decode cX6_enter 70 = .ok (.getfield 9, 3) := by decide +kernel
theorem dX6_enter_73 : decode cX6_enter 73 = .ok (.iconst 1, 1) := by decide +kernel
theorem dX6_enter_74 : decode cX6_enter 74 = .ok (.iadd, 1) := by decide +kernel
theorem dX6_enter_75 : decode cX6_enter 75 = .ok (.putfield 9, 3) := by decide +kernel
theorem dX6_enter_78 : decode cX6_enter 78 = .ok (.return_, 1) := by decide +kernel
theorem dX6_removeOldest_0 : decode cX6_removeOldest 0 = .ok (.aload_n 0, 1) := by decide +kernel
theorem dX6_removeOldest_1 : decode cX6_removeOldest 1 = .ok (.bipush 19, 2) := by decide +kernel
theorem dX6_removeOldest_3 : decode cX6_removeOldest 3 = .ok (.putfield 9, 3) := by decide +kernel
theorem dX6_removeOldest_6 : decode cX6_removeOldest 6 = .ok (.aload_n 0, 1) := by decide +kernel
theorem dX6_removeOldest_7 : decode cX6_removeOldest 7 = .ok (.getfield 15, 3) := by decide +kernel
theorem dX6_removeOldest_10 : decode cX6_removeOldest 10 = .ok (.iconst 1, 1) := by decide +kernel
theorem dX6_removeOldest_11 : decode cX6_removeOldest 11 = .ok (.aload_n 0, 1) := by decide +kernel
theorem dX6_removeOldest_12 : decode cX6_removeOldest 12 = .ok (.getfield 15, 3) := by decide +kernel
theorem dX6_removeOldest_15 : decode cX6_removeOldest 15 = .ok (.iconst 0, 1) := by decide +kernel
theorem dX6_removeOldest_16 : decode cX6_removeOldest 16 = .ok (.aload_n 0, 1) := by decide +kernel
theorem dX6_removeOldest_17 : decode cX6_removeOldest 17 = .ok (.getfield 9, 3) := by decide +kernel
theorem dX6_removeOldest_20 : decode cX6_removeOldest 20 = .ok (.invokestatic 32, 3) := by decide +kernel
theorem dX6_removeOldest_23 : decode cX6_removeOldest 23 = .ok (.aload_n 0, 1) := by decide +kernel
theorem dX6_removeOldest_24 : decode cX6_removeOldest 24 = .ok (.getfield 19, 3) := by decide +kernel
theorem dX6_removeOldest_27 : decode cX6_removeOldest 27 = .ok (.iconst 1, 1) := by decide +kernel
theorem dX6_removeOldest_28 : decode cX6_removeOldest 28 = .ok (.aload_n 0, 1) := by decide +kernel
theorem dX6_removeOldest_29 : decode cX6_removeOldest 29 = .ok (.getfield 19, 3) := by decide +kernel
theorem dX6_removeOldest_32 : decode cX6_removeOldest 32 = .ok (.iconst 0, 1) := by decide +kernel
theorem dX6_removeOldest_33 : decode cX6_removeOldest 33 = .ok (.aload_n 0, 1) := by decide +kernel
theorem dX6_removeOldest_34 : decode cX6_removeOldest 34 = .ok (.getfield 9, 3) := by decide +kernel
theorem dX6_removeOldest_37 : decode cX6_removeOldest 37 = .ok (.invokestatic 32, 3) := by decide +kernel
theorem dX6_removeOldest_40 : decode cX6_removeOldest 40 = .ok (.aload_n 0, 1) := by decide +kernel
theorem dX6_removeOldest_41 : decode cX6_removeOldest 41 = .ok (.getfield 22, 3) := by decide +kernel
theorem dX6_removeOldest_44 : decode cX6_removeOldest 44 = .ok (.iconst 1, 1) := by decide +kernel
theorem dX6_removeOldest_45 : decode cX6_removeOldest 45 = .ok (.aload_n 0, 1) := by decide +kernel
theorem dX6_removeOldest_46 : decode cX6_removeOldest 46 = .ok (.getfield 22, 3) := by decide +kernel
theorem dX6_removeOldest_49 : decode cX6_removeOldest 49 = .ok (.iconst 0, 1) := by decide +kernel
theorem dX6_removeOldest_50 : decode cX6_removeOldest 50 = .ok (.aload_n 0, 1) := by decide +kernel
theorem dX6_removeOldest_51 : decode cX6_removeOldest 51 = .ok (.getfield 9, 3) := by decide +kernel
theorem dX6_removeOldest_54 : decode cX6_removeOldest 54 = .ok (.invokestatic 32, 3) := by decide +kernel
theorem dX6_removeOldest_57 : decode cX6_removeOldest 57 = .ok (.return_, 1) := by decide +kernel
theorem dX6_sumFor_0 : decode cX6_sumFor 0 = .ok (.iconst 0, 1) := by decide +kernel
theorem dX6_sumFor_1 : decode cX6_sumFor 1 = .ok (.istore_n 2, 1) := by decide +kernel
theorem dX6_sumFor_2 : decode cX6_sumFor 2 = .ok (.iconst 0, 1) := by decide +kernel
theorem dX6_sumFor_3 : decode cX6_sumFor 3 = .ok (.istore_n 3, 1) := by decide +kernel
theorem dX6_sumFor_4 : decode cX6_sumFor 4 = .ok (.iload_n 3, 1) := by decide +kernel
theorem dX6_sumFor_5 : decode cX6_sumFor 5 = .ok (.aload_n 0, 1) := by decide +kernel
theorem dX6_sumFor_6 : decode cX6_sumFor 6 = .ok (.getfield 9, 3) := by decide +kernel
theorem dX6_sumFor_9 : decode cX6_sumFor 9 = .ok (.if_icmp .ge 28, 3) := by decide +kernel
theorem dX6_sumFor_12 : decode cX6_sumFor 12 = .ok (.aload_n 0, 1) := by decide +kernel
theorem dX6_sumFor_13 : decode cX6_sumFor 13 = .ok (.getfield 19, 3) := by decide +kernel
theorem dX6_sumFor_16 : decode cX6_sumFor 16 = .ok (.iload_n 3, 1) := by decide +kernel
theorem dX6_sumFor_17 : decode cX6_sumFor 17 = .ok (.iaload, 1) := by decide +kernel
theorem dX6_sumFor_18 : decode cX6_sumFor 18 = .ok (.iload_n 1, 1) := by decide +kernel
theorem dX6_sumFor_19 : decode cX6_sumFor 19 = .ok (.if_icmp .ne 12, 3) := by decide +kernel
theorem dX6_sumFor_22 : decode cX6_sumFor 22 = .ok (.iload_n 2, 1) := by decide +kernel
theorem dX6_sumFor_23 : decode cX6_sumFor 23 = .ok (.aload_n 0, 1) := by decide +kernel
theorem dX6_sumFor_24 : decode cX6_sumFor 24 = .ok (.getfield 22, 3) := by decide +kernel
theorem dX6_sumFor_27 : decode cX6_sumFor 27 = .ok (.iload_n 3, 1) := by decide +kernel
theorem dX6_sumFor_28 : decode cX6_sumFor 28 = .ok (.iaload, 1) := by decide +kernel
theorem dX6_sumFor_29 : decode cX6_sumFor 29 = .ok (.iadd, 1) := by decide +kernel
theorem dX6_sumFor_30 : decode cX6_sumFor 30 = .ok (.istore_n 2, 1) := by decide +kernel
theorem dX6_sumFor_31 : decode cX6_sumFor 31 = .ok (.iinc 3 1, 3) := by decide +kernel
theorem dX6_sumFor_34 : decode cX6_sumFor 34 = .ok (.goto (-30), 3) := by decide +kernel
theorem dX6_sumFor_37 : decode cX6_sumFor 37 = .ok (.iload_n 2, 1) := by decide +kernel
theorem dX6_sumFor_38 : decode cX6_sumFor 38 = .ok (.ireturn, 1) := by decide +kernel
theorem dX6_copyFrom_0 : decode cX6_copyFrom 0 = .ok (.aload_n 0, 1) := by decide +kernel
theorem dX6_copyFrom_1 : decode cX6_copyFrom 1 = .ok (.aload_n 1, 1) := by decide +kernel
theorem dX6_copyFrom_2 : decode cX6_copyFrom 2 = .ok (.getfield 9, 3) := by decide +kernel
theorem dX6_copyFrom_5 : decode cX6_copyFrom 5 = .ok (.putfield 9, 3) := by decide +kernel
theorem dX6_copyFrom_8 : decode cX6_copyFrom 8 = .ok (.aload_n 1, 1) := by decide +kernel
theorem dX6_copyFrom_9 : decode cX6_copyFrom 9 = .ok (.getfield 15, 3) := by decide +kernel
theorem dX6_copyFrom_12 : decode cX6_copyFrom 12 = .ok (.iconst 0, 1) := by decide +kernel
theorem dX6_copyFrom_13 : decode cX6_copyFrom 13 = .ok (.aload_n 0, 1) := by decide +kernel
theorem dX6_copyFrom_14 : decode cX6_copyFrom 14 = .ok (.getfield 15, 3) := by decide +kernel
theorem dX6_copyFrom_17 : decode cX6_copyFrom 17 = .ok (.iconst 0, 1) := by decide +kernel
theorem dX6_copyFrom_18 : decode cX6_copyFrom 18 = .ok (.bipush 20, 2) := by decide +kernel
theorem dX6_copyFrom_20 : decode cX6_copyFrom 20 = .ok (.invokestatic 32, 3) := by decide +kernel
theorem dX6_copyFrom_23 : decode cX6_copyFrom 23 = .ok (.aload_n 1, 1) := by decide +kernel
theorem dX6_copyFrom_24 : decode cX6_copyFrom 24 = .ok (.getfield 19, 3) := by decide +kernel
theorem dX6_copyFrom_27 : decode cX6_copyFrom 27 = .ok (.iconst 0, 1) := by decide +kernel
theorem dX6_copyFrom_28 : decode cX6_copyFrom 28 = .ok (.aload_n 0, 1) := by decide +kernel
theorem dX6_copyFrom_29 : decode cX6_copyFrom 29 = .ok (.getfield 19, 3) := by decide +kernel
theorem dX6_copyFrom_32 : decode cX6_copyFrom 32 = .ok (.iconst 0, 1) := by decide +kernel
theorem dX6_copyFrom_33 : decode cX6_copyFrom 33 = .ok (.bipush 20, 2) := by decide +kernel
theorem dX6_copyFrom_35 : decode cX6_copyFrom 35 = .ok (.invokestatic 32, 3) := by decide +kernel
theorem dX6_copyFrom_38 : decode cX6_copyFrom 38 = .ok (.aload_n 1, 1) := by decide +kernel
theorem dX6_copyFrom_39 : decode cX6_copyFrom 39 = .ok (.getfield 22, 3) := by decide +kernel
theorem dX6_copyFrom_42 : decode cX6_copyFrom 42 = .ok (.iconst 0, 1) := by decide +kernel
theorem dX6_copyFrom_43 : decode cX6_copyFrom 43 = .ok (.aload_n 0, 1) := by decide +kernel
theorem dX6_copyFrom_44 : decode cX6_copyFrom 44 = .ok (.getfield 22, 3) := by decide +kernel
theorem dX6_copyFrom_47 : decode cX6_copyFrom 47 = .ok (.iconst 0, 1) := by decide +kernel
theorem dX6_copyFrom_48 : decode cX6_copyFrom 48 = .ok (.bipush 20, 2) := by decide +kernel
theorem dX6_copyFrom_50 : decode cX6_copyFrom 50 = .ok (.invokestatic 32, 3) := by decide +kernel
theorem dX6_copyFrom_53 : decode cX6_copyFrom 53 = .ok (.return_, 1) := by decide +kernel
theorem dX7_init_0 : decode cX7_init 0 = .ok (.aload_n 0, 1) := by decide +kernel
theorem dX7_init_1 : decode cX7_init 1 = .ok (.invokespecial 3, 3) := by decide +kernel
theorem dX7_init_4 : decode cX7_init 4 = .ok (.aload_n 0, 1) := by decide +kernel
theorem dX7_init_5 : decode cX7_init 5 = .ok (.iconst 0, 1) := by decide +kernel
theorem dX7_init_6 : decode cX7_init 6 = .ok (.putfield 9, 3) := by decide +kernel
theorem dX7_init_9 : decode cX7_init 9 = .ok (.aload_n 0, 1) := by decide +kernel
theorem dX7_init_10 : decode cX7_init 10 = .ok (.iconst 0, 1) := by decide +kernel
theorem dX7_init_11 : decode cX7_init 11 = .ok (.putfield 15, 3) := by decide +kernel
theorem dX7_init_14 : decode cX7_init 14 = .ok (.aload_n 0, 1) := by decide +kernel
theorem dX7_init_15 : decode cX7_init 15 = .ok (.iconst 0, 1) := by decide +kernel
theorem dX7_init_16 : decode cX7_init 16 = .ok (.putfield 18, 3) := by decide +kernel
theorem dX7_init_19 : decode cX7_init 19 = .ok (.aload_n 0, 1) := by decide +kernel
theorem dX7_init_20 : decode cX7_init 20 = .ok (.iconst 0, 1) := by decide +kernel
theorem dX7_init_21 : decode cX7_init 21 = .ok (.putfield 21, 3) := by decide +kernel
theorem dX7_init_24 : decode cX7_init 24 = .ok (.aload_n 0, 1) := by decide +kernel
theorem dX7_init_25 : decode cX7_init 25 = .ok (.iconst 0, 1) := by decide +kernel
theorem dX7_init_26 : decode cX7_init 26 = .ok (.putfield 24, 3) := by decide +kernel
theorem dX7_init_29 : decode cX7_init 29 = .ok (.aload_n 0, 1) := by decide +kernel
theorem dX7_init_30 : decode cX7_init 30 = .ok (.iconst 0, 1) := by decide +kernel
theorem dX7_init_31 : decode cX7_init 31 = .ok (.putfield 27, 3) := by decide +kernel
theorem dX7_init_34 : decode cX7_init 34 = .ok (.aload_n 0, 1) := by decide +kernel
theorem dX7_init_35 : decode cX7_init 35 = .ok (.iconst 4, 1) := by decide +kernel
theorem dX7_init_36 : decode cX7_init 36 = .ok (.newarray .int, 2) := by decide +kernel
theorem dX7_init_38 : decode cX7_init 38 = .ok (.putfield 30, 3) := by decide +kernel
theorem dX7_init_41 : decode cX7_init 41 = .ok (.return_, 1) := by decide +kernel
theorem dX7_begin_0 : decode cX7_begin 0 = .ok (.aload_n 0, 1) := by decide +kernel
theorem dX7_begin_1 : decode cX7_begin 1 = .ok (.iload_n 1, 1) := by decide +kernel
theorem dX7_begin_2 : decode cX7_begin 2 = .ok (.putfield 9, 3) := by decide +kernel
theorem dX7_begin_5 : decode cX7_begin 5 = .ok (.aload_n 0, 1) := by decide +kernel
theorem dX7_begin_6 : decode cX7_begin 6 = .ok (.iload_n 2, 1) := by decide +kernel
theorem dX7_begin_7 : decode cX7_begin 7 = .ok (.putfield 15, 3) := by decide +kernel
theorem dX7_begin_10 : decode cX7_begin 10 = .ok (.aload_n 0, 1) := by decide +kernel
theorem dX7_begin_11 : decode cX7_begin 11 = .ok (.iload_n 3, 1) := by decide +kernel
theorem dX7_begin_12 : decode cX7_begin 12 = .ok (.putfield 18, 3) := by decide +kernel
theorem dX7_begin_15 : decode cX7_begin 15 = .ok (.aload_n 0, 1) := by decide +kernel
theorem dX7_begin_16 : decode cX7_begin 16 = .ok (.iconst 0, 1) := by decide +kernel
theorem dX7_begin_17 : decode cX7_begin 17 = .ok (.putfield 21, 3) := by decide +kernel
theorem dX7_begin_20 : decode cX7_begin 20 = .ok (.aload_n 0, 1) := by decide +kernel
theorem dX7_begin_21 : decode cX7_begin 21 = .ok (.iload 4, 2) := by decide +kernel
theorem dX7_begin_23 : decode cX7_begin 23 = .ok (.putfield 24, 3) := by decide +kernel
theorem dX7_begin_26 : decode cX7_begin 26 = .ok (.aload_n 0, 1) := by decide +kernel
theorem dX7_begin_27 : decode cX7_begin 27 = .ok (.iload 5, 2) := by decide +kernel
theorem dX7_begin_29 : decode cX7_begin 29 = .ok (.putfield 27, 3) := by decide +kernel
theorem dX7_begin_32 : decode cX7_begin 32 = .ok (.iconst 0, 1) := by decide +kernel
theorem dX7_begin_33 : decode cX7_begin 33 = .ok (.istore 6, 2) := by decide +kernel
theorem dX7_begin_35 : decode cX7_begin 35 = .ok (.iload 6, 2) := by decide +kernel
theorem dX7_begin_37 : decode cX7_begin 37 = .ok (.iconst 4, 1) := by decide +kernel
theorem dX7_begin_38 : decode cX7_begin 38 = .ok (.if_icmp .ge 17, 3) := by decide +kernel
theorem dX7_begin_41 : decode cX7_begin 41 = .ok (.aload_n 0, 1) := by decide +kernel
theorem dX7_begin_42 : decode cX7_begin 42 = .ok (.getfield 30, 3) := by decide +kernel
theorem dX7_begin_45 : decode cX7_begin 45 = .ok (.iload 6, 2) := by decide +kernel
theorem dX7_begin_47 : decode cX7_begin 47 = .ok (.iconst 0, 1) := by decide +kernel
theorem dX7_begin_48 : decode cX7_begin 48 = .ok (.iastore, 1) := by decide +kernel
theorem dX7_begin_49 : decode cX7_begin 49 = .ok (.iinc 6 1, 3) := by decide +kernel
theorem dX7_begin_52 : decode cX7_begin 52 = .ok (.goto (-17), 3) := by decide +kernel
theorem dX7_begin_55 : decode cX7_begin 55 = .ok (.return_, 1) := by decide +kernel
theorem dX7_owed_0 : decode cX7_owed 0 = .ok (.aload_n 0, 1) := by decide +kernel
theorem dX7_owed_1 : decode cX7_owed 1 = .ok (.getfield 18, 3) := by decide +kernel
theorem dX7_owed_4 : decode cX7_owed 4 = .ok (.aload_n 0, 1) := by decide +kernel
theorem dX7_owed_5 : decode cX7_owed 5 = .ok (.getfield 21, 3) := by decide +kernel
theorem dX7_owed_8 : decode cX7_owed 8 = .ok (.iadd, 1) := by decide +kernel
theorem dX7_owed_9 : decode cX7_owed 9 = .ok (.ireturn, 1) := by decide +kernel
theorem dX7_dailyInterest_0 : decode cX7_dailyInterest 0 = .ok (.aload_n 0, 1) := by decide +kernel
theorem dX7_dailyInterest_1 : decode cX7_dailyInterest 1 = .ok (.getfield 18, 3) := by decide +kernel
theorem dX7_dailyInterest_4 : decode cX7_dailyInterest 4 = .ok (.aload_n 0, 1) := by decide +kernel
theorem dX7_dailyInterest_5 : decode cX7_dailyInterest 5 = .ok (.getfield 24, 3) := by decide +kernel
theorem dX7_dailyInterest_8 : decode cX7_dailyInterest 8 = .ok (.imul, 1) := by decide +kernel
theorem dX7_dailyInterest_9 : decode cX7_dailyInterest 9 = .ok (.sipush 1000, 3) := by decide +kernel
theorem dX7_dailyInterest_12 : decode cX7_dailyInterest 12 = .ok (.invokestatic 34, 3) := by decide +kernel
theorem dX7_dailyInterest_15 : decode cX7_dailyInterest 15 = .ok (.ireturn, 1) := by decide +kernel
theorem dX7_payOff_0 : decode cX7_payOff 0 = .ok (.aload_n 0, 1) := by decide +kernel
theorem dX7_payOff_1 : decode cX7_payOff 1 = .ok (.getfield 21, 3) := by decide +kernel
theorem dX7_payOff_4 : decode cX7_payOff 4 = .ok (.iload_n 1, 1) := by decide +kernel
theorem dX7_payOff_5 : decode cX7_payOff 5 = .ok (.invokestatic 38, 3) := by decide +kernel
theorem dX7_payOff_8 : decode cX7_payOff 8 = .ok (.istore_n 2, 1) := by decide +kernel
theorem dX7_payOff_9 : decode cX7_payOff 9 = .ok (.aload_n 0, 1) := by decide +kernel
theorem dX7_payOff_10 : decode cX7_payOff 10 = .ok (.dup, 1) := by decide +kernel
theorem dX7_payOff_11 : decode cX7_payOff 11 = .ok (.getfield 21, 3) := by decide +kernel
theorem dX7_payOff_14 : decode cX7_payOff 14 = .ok (.iload_n 2, 1) := by decide +kernel
theorem dX7_payOff_15 : decode cX7_payOff 15 = .ok (.isub, 1) := by decide +kernel
theorem dX7_payOff_16 : decode cX7_payOff 16 = .ok (.putfield 21, 3) := by decide +kernel
theorem dX7_payOff_19 : decode cX7_payOff 19 = .ok (.aload_n 0, 1) := by decide +kernel
theorem dX7_payOff_20 : decode cX7_payOff 20 = .ok (.dup, 1) := by decide +kernel
theorem dX7_payOff_21 : decode cX7_payOff 21 = .ok (.getfield 18, 3) := by decide +kernel
theorem dX7_payOff_24 : decode cX7_payOff 24 = .ok (.iload_n 1, 1) := by decide +kernel
theorem dX7_payOff_25 : decode cX7_payOff 25 = .ok (.iload_n 2, 1) := by decide +kernel
theorem dX7_payOff_26 : decode cX7_payOff 26 = .ok (.isub, 1) := by decide +kernel
theorem dX7_payOff_27 : decode cX7_payOff 27 = .ok (.isub, 1) := by decide +kernel
theorem dX7_payOff_28 : decode cX7_payOff 28 = .ok (.putfield 18, 3) := by decide +kernel
theorem dX7_payOff_31 : decode cX7_payOff 31 = .ok (.return_, 1) := by decide +kernel
theorem dX7_comesBefore_0 : decode cX7_comesBefore 0 = .ok (.aload_n 0, 1) := by decide +kernel
theorem dX7_comesBefore_1 : decode cX7_comesBefore 1 = .ok (.invokevirtual 43, 3) := by decide +kernel
theorem dX7_comesBefore_4 : decode cX7_comesBefore 4 = .ok (.aload_n 1, 1) := by decide +kernel
theorem dX7_comesBefore_5 : decode cX7_comesBefore 5 = .ok (.invokevirtual 43, 3) := by decide +kernel
theorem dX7_comesBefore_8 : decode cX7_comesBefore 8 = .ok (.if_icmp .eq 20, 3) := by decide +kernel
theorem dX7_comesBefore_11 : decode cX7_comesBefore 11 = .ok (.aload_n 0, 1) := by decide +kernel
theorem dX7_comesBefore_12 : decode cX7_comesBefore 12 = .ok (.invokevirtual 43, 3) := by decide +kernel
theorem dX7_comesBefore_15 : decode cX7_comesBefore 15 = .ok (.aload_n 1, 1) := by decide +kernel
theorem dX7_comesBefore_16 : decode cX7_comesBefore 16 = .ok (.invokevirtual 43, 3) := by decide +kernel
theorem dX7_comesBefore_19 : decode cX7_comesBefore 19 = .ok (.if_icmp .le 7, 3) := by decide +kernel
theorem dX7_comesBefore_22 : decode cX7_comesBefore 22 = .ok (.iconst 1, 1) := by decide +kernel
theorem dX7_comesBefore_23 : decode cX7_comesBefore 23 = .ok (.goto 4, 3) := by decide +kernel
theorem dX7_comesBefore_26 : decode cX7_comesBefore 26 = .ok (.iconst 0, 1) := by decide +kernel
theorem dX7_comesBefore_27 : decode cX7_comesBefore 27 = .ok (.ireturn, 1) := by decide +kernel
theorem dX7_comesBefore_28 : decode cX7_comesBefore 28 = .ok (.aload_n 0, 1) := by decide +kernel
theorem dX7_comesBefore_29 : decode cX7_comesBefore 29 = .ok (.getfield 27, 3) := by decide +kernel
theorem dX7_comesBefore_32 : decode cX7_comesBefore 32 = .ok (.aload_n 1, 1) := by decide +kernel
theorem dX7_comesBefore_33 : decode cX7_comesBefore 33 = .ok (.getfield 27, 3) := by decide +kernel
theorem dX7_comesBefore_36 : decode cX7_comesBefore 36 = .ok (.if_icmp .eq 20, 3) := by decide +kernel
theorem dX7_comesBefore_39 : decode cX7_comesBefore 39 = .ok (.aload_n 0, 1) := by decide +kernel
theorem dX7_comesBefore_40 : decode cX7_comesBefore 40 = .ok (.getfield 27, 3) := by decide +kernel
theorem dX7_comesBefore_43 : decode cX7_comesBefore 43 = .ok (.aload_n 1, 1) := by decide +kernel
theorem dX7_comesBefore_44 : decode cX7_comesBefore 44 = .ok (.getfield 27, 3) := by decide +kernel
theorem dX7_comesBefore_47 : decode cX7_comesBefore 47 = .ok (.if_icmp .ge 7, 3) := by decide +kernel
theorem dX7_comesBefore_50 : decode cX7_comesBefore 50 = .ok (.iconst 1, 1) := by decide +kernel
theorem dX7_comesBefore_51 : decode cX7_comesBefore 51 = .ok (.goto 4, 3) := by decide +kernel
theorem dX7_comesBefore_54 : decode cX7_comesBefore 54 = .ok (.iconst 0, 1) := by decide +kernel
theorem dX7_comesBefore_55 : decode cX7_comesBefore 55 = .ok (.ireturn, 1) := by decide +kernel
theorem dX7_comesBefore_56 : decode cX7_comesBefore 56 = .ok (.aload_n 0, 1) := by decide +kernel
theorem dX7_comesBefore_57 : decode cX7_comesBefore 57 = .ok (.getfield 9, 3) := by decide +kernel
theorem dX7_comesBefore_60 : decode cX7_comesBefore 60 = .ok (.aload_n 1, 1) := by decide +kernel
theorem dX7_comesBefore_61 : decode cX7_comesBefore 61 = .ok (.getfield 9, 3) := by decide +kernel
theorem dX7_comesBefore_64 : decode cX7_comesBefore 64 = .ok (.if_icmp .ge 7, 3) := by decide +kernel
theorem dX7_comesBefore_67 : decode cX7_comesBefore 67 = .ok (.iconst 1, 1) := by decide +kernel
theorem dX7_comesBefore_68 : decode cX7_comesBefore 68 = .ok (.goto 4, 3) := by decide +kernel
theorem dX7_comesBefore_71 : decode cX7_comesBefore 71 = .ok (.iconst 0, 1) := by decide +kernel
theorem dX7_comesBefore_72 : decode cX7_comesBefore 72 = .ok (.ireturn, 1) := by decide +kernel
theorem dX7_copyFrom_0 : decode cX7_copyFrom 0 = .ok (.aload_n 0, 1) := by decide +kernel
theorem dX7_copyFrom_1 : decode cX7_copyFrom 1 = .ok (.aload_n 1, 1) := by decide +kernel
theorem dX7_copyFrom_2 : decode cX7_copyFrom 2 = .ok (.getfield 9, 3) := by decide +kernel
theorem dX7_copyFrom_5 : decode cX7_copyFrom 5 = .ok (.putfield 9, 3) := by decide +kernel
theorem dX7_copyFrom_8 : decode cX7_copyFrom 8 = .ok (.aload_n 0, 1) := by decide +kernel
theorem dX7_copyFrom_9 : decode cX7_copyFrom 9 = .ok (.aload_n 1, 1) := by decide +kernel
theorem dX7_copyFrom_10 : decode cX7_copyFrom 10 = .ok (.getfield 15, 3) := by decide +kernel
theorem dX7_copyFrom_13 : decode cX7_copyFrom 13 = .ok (.putfield 15, 3) := by decide +kernel
theorem dX7_copyFrom_16 : decode cX7_copyFrom 16 = .ok (.aload_n 0, 1) := by decide +kernel
theorem dX7_copyFrom_17 : decode cX7_copyFrom 17 = .ok (.aload_n 1, 1) := by decide +kernel
theorem dX7_copyFrom_18 : decode cX7_copyFrom 18 = .ok (.getfield 18, 3) := by decide +kernel
theorem dX7_copyFrom_21 : decode cX7_copyFrom 21 = .ok (.putfield 18, 3) := by decide +kernel
theorem dX7_copyFrom_24 : decode cX7_copyFrom 24 = .ok (.aload_n 0, 1) := by decide +kernel
theorem dX7_copyFrom_25 : decode cX7_copyFrom 25 = .ok (.aload_n 1, 1) := by decide +kernel
theorem dX7_copyFrom_26 : decode cX7_copyFrom 26 = .ok (.getfield 21, 3) := by decide +kernel
theorem dX7_copyFrom_29 : decode cX7_copyFrom 29 = .ok (.putfield 21, 3) := by decide +kernel
theorem dX7_copyFrom_32 : decode cX7_copyFrom 32 = .ok (.aload_n 0, 1) := by decide +kernel
theorem dX7_copyFrom_33 : decode cX7_copyFrom 33 = .ok (.aload_n 1, 1) := by decide +kernel
theorem dX7_copyFrom_34 : decode cX7_copyFrom 34 = .ok (.getfield 24, 3) := by decide +kernel
theorem dX7_copyFrom_37 : decode cX7_copyFrom 37 = .ok (.putfield 24, 3) := by decide +kernel
theorem dX7_copyFrom_40 : decode cX7_copyFrom 40 = .ok (.aload_n 0, 1) := by decide +kernel
theorem dX7_copyFrom_41 : decode cX7_copyFrom 41 = .ok (.aload_n 1, 1) := by decide +kernel
theorem dX7_copyFrom_42 : decode cX7_copyFrom 42 = .ok (.getfield 27, 3) := by decide +kernel
theorem dX7_copyFrom_45 : decode cX7_copyFrom 45 = .ok (.putfield 27, 3) := by decide +kernel
theorem dX7_copyFrom_48 : decode cX7_copyFrom 48 = .ok (.aload_n 1, 1) := by decide +kernel
theorem dX7_copyFrom_49 : decode cX7_copyFrom 49 = .ok (.getfield 30, 3) := by decide +kernel
theorem dX7_copyFrom_52 : decode cX7_copyFrom 52 = .ok (.iconst 0, 1) := by decide +kernel
theorem dX7_copyFrom_53 : decode cX7_copyFrom 53 = .ok (.aload_n 0, 1) := by decide +kernel
theorem dX7_copyFrom_54 : decode cX7_copyFrom 54 = .ok (.getfield 30, 3) := by decide +kernel
theorem dX7_copyFrom_57 : decode cX7_copyFrom 57 = .ok (.iconst 0, 1) := by decide +kernel
theorem dX7_copyFrom_58 : decode cX7_copyFrom 58 = .ok (.iconst 4, 1) := by decide +kernel
theorem dX7_copyFrom_59 : decode cX7_copyFrom 59 = .ok (.invokestatic 47, 3) := by decide +kernel
theorem dX7_copyFrom_62 : decode cX7_copyFrom 62 = .ok (.return_, 1) := by decide +kernel
theorem dX9_init_0 : decode cX9_init 0 = .ok (.aload_n 0, 1) := by decide +kernel
theorem dX9_init_1 : decode cX9_init 1 = .ok (.invokespecial 1, 3) := by decide +kernel
theorem dX9_init_4 : decode cX9_init 4 = .ok (.aload_n 0, 1) := by decide +kernel
theorem dX9_init_5 : decode cX9_init 5 = .ok (.new 7, 3) := by decide +kernel
theorem dX9_init_8 : decode cX9_init 8 = .ok (.dup, 1) := by decide +kernel
theorem dX9_init_9 : decode cX9_init 9 = .ok (.invokespecial 9, 3) := by decide +kernel
theorem dX9_init_12 : decode cX9_init 12 = .ok (.putfield 10, 3) := by decide +kernel
theorem dX9_init_15 : decode cX9_init 15 = .ok (.aload_n 0, 1) := by decide +kernel
theorem dX9_init_16 : decode cX9_init 16 = .ok (.new 7, 3) := by decide +kernel
theorem dX9_init_19 : decode cX9_init 19 = .ok (.dup, 1) := by decide +kernel
theorem dX9_init_20 : decode cX9_init 20 = .ok (.invokespecial 9, 3) := by decide +kernel
theorem dX9_init_23 : decode cX9_init 23 = .ok (.putfield 16, 3) := by decide +kernel
theorem dX9_init_26 : decode cX9_init 26 = .ok (.aload_n 0, 1) := by decide +kernel
theorem dX9_init_27 : decode cX9_init 27 = .ok (.new 7, 3) := by decide +kernel
theorem dX9_init_30 : decode cX9_init 30 = .ok (.dup, 1) := by decide +kernel
theorem dX9_init_31 : decode cX9_init 31 = .ok (.invokespecial 9, 3) := by decide +kernel
theorem dX9_init_34 : decode cX9_init 34 = .ok (.putfield 19, 3) := by decide +kernel
theorem dX9_init_37 : decode cX9_init 37 = .ok (.aload_n 0, 1) := by decide +kernel
theorem dX9_init_38 : decode cX9_init 38 = .ok (.new 7, 3) := by decide +kernel
theorem dX9_init_41 : decode cX9_init 41 = .ok (.dup, 1) := by decide +kernel
theorem dX9_init_42 : decode cX9_init 42 = .ok (.invokespecial 9, 3) := by decide +kernel
theorem dX9_init_45 : decode cX9_init 45 = .ok (.putfield 22, 3) := by decide +kernel
theorem dX9_init_48 : decode cX9_init 48 = .ok (.aload_n 0, 1) := by decide +kernel
theorem dX9_init_49 : decode cX9_init 49 = .ok (.new 25, 3) := by decide +kernel
theorem dX9_init_52 : decode cX9_init 52 = .ok (.dup, 1) := by decide +kernel
theorem dX9_init_53 : decode cX9_init 53 = .ok (.invokespecial 27, 3) := by decide +kernel
theorem dX9_init_56 : decode cX9_init 56 = .ok (.putfield 28, 3) := by decide +kernel
theorem dX9_init_59 : decode cX9_init 59 = .ok (.aload_n 0, 1) := by decide +kernel
theorem dX9_init_60 : decode cX9_init 60 = .ok (.new 32, 3) := by decide +kernel
theorem dX9_init_63 : decode cX9_init 63 = .ok (.dup, 1) := by decide +kernel
theorem dX9_init_64 : decode cX9_init 64 = .ok (.invokespecial 34, 3) := by decide +kernel
theorem dX9_init_67 : decode cX9_init 67 = .ok (.putfield 35, 3) := by decide +kernel
theorem dX9_init_70 : decode cX9_init 70 = .ok (.aload_n 0, 1) := by decide +kernel
theorem dX9_init_71 : decode cX9_init 71 = .ok (.bipush 60, 2) := by decide +kernel
theorem dX9_init_73 : decode cX9_init 73 = .ok (.newarray .char, 2) := by decide +kernel
theorem dX9_init_75 : decode cX9_init 75 = .ok (.putfield 39, 3) := by decide +kernel
theorem dX9_init_78 : decode cX9_init 78 = .ok (.aload_n 0, 1) := by decide +kernel
theorem dX9_init_79 : decode cX9_init 79 = .ok (.new 43, 3) := by decide +kernel
theorem dX9_init_82 : decode cX9_init 82 = .ok (.dup, 1) := by decide +kernel
theorem dX9_init_83 : decode cX9_init 83 = .ok (.invokespecial 45, 3) := by decide +kernel
theorem dX9_init_86 : decode cX9_init 86 = .ok (.putfield 46, 3) := by decide +kernel
theorem dX9_init_89 : decode cX9_init 89 = .ok (.aload_n 0, 1) := by decide +kernel
theorem dX9_init_90 : decode cX9_init 90 = .ok (.iconst 0, 1) := by decide +kernel
theorem dX9_init_91 : decode cX9_init 91 = .ok (.putfield 50, 3) := by decide +kernel
theorem dX9_init_94 : decode cX9_init 94 = .ok (.aload_n 0, 1) := by decide +kernel
theorem dX9_init_95 : decode cX9_init 95 = .ok (.iconst 0, 1) := by decide +kernel
theorem dX9_init_96 : decode cX9_init 96 = .ok (.putfield 54, 3) := by decide +kernel
theorem dX9_init_99 : decode cX9_init 99 = .ok (.aload_n 0, 1) := by decide +kernel
theorem dX9_init_100 : decode cX9_init 100 = .ok (.iconst (-1), 1) := by decide +kernel
theorem dX9_init_101 : decode cX9_init 101 = .ok (.putfield 58, 3) := by decide +kernel
theorem dX9_init_104 : decode cX9_init 104 = .ok (.aload_n 0, 1) := by decide +kernel
theorem dX9_init_105 : decode cX9_init 105 = .ok (.iconst (-1), 1) := by decide +kernel
theorem dX9_init_106 : decode cX9_init 106 = .ok (.putfield 61, 3) := by decide +kernel
theorem dX9_init_109 : decode cX9_init 109 = .ok (.return_, 1) := by decide +kernel
theorem dX9_addBorrower_0 : decode cX9_addBorrower 0 = .ok (.aload_n 0, 1) := by decide +kernel
theorem dX9_addBorrower_1 : decode cX9_addBorrower 1 = .ok (.getfield 16, 3) := by decide +kernel
theorem dX9_addBorrower_4 : decode cX9_addBorrower 4 = .ok (.aload_n 0, 1) := by decide +kernel
theorem dX9_addBorrower_5 : decode cX9_addBorrower 5 = .ok (.getfield 10, 3) := by decide +kernel
theorem dX9_addBorrower_8 : decode cX9_addBorrower 8 = .ok (.invokevirtual 64, 3) := by decide +kernel
theorem dX9_addBorrower_11 : decode cX9_addBorrower 11 = .ok (.aload_n 0, 1) := by decide +kernel
theorem dX9_addBorrower_12 : decode cX9_addBorrower 12 = .ok (.aload_n 0, 1) := by decide +kernel
theorem dX9_addBorrower_13 : decode cX9_addBorrower 13 = .ok (.getfield 10, 3) := by decide +kernel
theorem dX9_addBorrower_16 : decode cX9_addBorrower 16 = .ok (.iload_n 1, 1) := by decide +kernel
theorem dX9_addBorrower_17 : decode cX9_addBorrower 17 = .ok (.invokevirtual 68, 3) := by decide +kernel
theorem dX9_addBorrower_20 : decode cX9_addBorrower 20 = .ok (.invokevirtual 72, 3) := by decide +kernel
theorem dX9_addBorrower_23 : decode cX9_addBorrower 23 = .ok (.ireturn, 1) := by decide +kernel
theorem dX9_bring_0 : decode cX9_bring 0 = .ok (.aload_n 0, 1) := by decide +kernel
theorem dX9_bring_1 : decode cX9_bring 1 = .ok (.getfield 16, 3) := by decide +kernel
theorem dX9_bring_4 : decode cX9_bring 4 = .ok (.aload_n 0, 1) := by decide +kernel
theorem dX9_bring_5 : decode cX9_bring 5 = .ok (.getfield 10, 3) := by decide +kernel
theorem dX9_bring_8 : decode cX9_bring 8 = .ok (.invokevirtual 64, 3) := by decide +kernel
theorem dX9_bring_11 : decode cX9_bring 11 = .ok (.aload_n 0, 1) := by decide +kernel
theorem dX9_bring_12 : decode cX9_bring 12 = .ok (.aload_n 0, 1) := by decide +kernel
theorem dX9_bring_13 : decode cX9_bring 13 = .ok (.getfield 10, 3) := by decide +kernel
theorem dX9_bring_16 : decode cX9_bring 16 = .ok (.iload_n 1, 1) := by decide +kernel
theorem dX9_bring_17 : decode cX9_bring 17 = .ok (.iload_n 2, 1) := by decide +kernel
theorem dX9_bring_18 : decode cX9_bring 18 = .ok (.iload_n 3, 1) := by decide +kernel
theorem dX9_bring_19 : decode cX9_bring 19 = .ok (.invokevirtual 76, 3) := by decide +kernel
theorem dX9_bring_22 : decode cX9_bring 22 = .ok (.invokevirtual 72, 3) := by decide +kernel
theorem dX9_bring_25 : decode cX9_bring 25 = .ok (.ireturn, 1) := by decide +kernel
theorem dX9_setPrice_0 : decode cX9_setPrice 0 = .ok (.aload_n 0, 1) := by decide +kernel
theorem dX9_setPrice_1 : decode cX9_setPrice 1 = .ok (.getfield 16, 3) := by decide +kernel
theorem dX9_setPrice_4 : decode cX9_setPrice 4 = .ok (.aload_n 0, 1) := by decide +kernel
theorem dX9_setPrice_5 : decode cX9_setPrice 5 = .ok (.getfield 10, 3) := by decide +kernel
theorem dX9_setPrice_8 : decode cX9_setPrice 8 = .ok (.invokevirtual 64, 3) := by decide +kernel
theorem dX9_setPrice_11 : decode cX9_setPrice 11 = .ok (.aload_n 0, 1) := by decide +kernel
theorem dX9_setPrice_12 : decode cX9_setPrice 12 = .ok (.aload_n 0, 1) := by decide +kernel
theorem dX9_setPrice_13 : decode cX9_setPrice 13 = .ok (.getfield 10, 3) := by decide +kernel
theorem dX9_setPrice_16 : decode cX9_setPrice 16 = .ok (.iload_n 1, 1) := by decide +kernel
theorem dX9_setPrice_17 : decode cX9_setPrice 17 = .ok (.iload_n 2, 1) := by decide +kernel
theorem dX9_setPrice_18 : decode cX9_setPrice 18 = .ok (.invokevirtual 80, 3) := by decide +kernel
theorem dX9_setPrice_21 : decode cX9_setPrice 21 = .ok (.invokevirtual 72, 3) := by decide +kernel
theorem dX9_setPrice_24 : decode cX9_setPrice 24 = .ok (.ireturn, 1) := by decide +kernel
theorem dX9_lend_0 : decode cX9_lend 0 = .ok (.aload_n 0, 1) := by decide +kernel
theorem dX9_lend_1 : decode cX9_lend 1 = .ok (.getfield 16, 3) := by decide +kernel
theorem dX9_lend_4 : decode cX9_lend 4 = .ok (.aload_n 0, 1) := by decide +kernel
theorem dX9_lend_5 : decode cX9_lend 5 = .ok (.getfield 10, 3) := by decide +kernel
theorem dX9_lend_8 : decode cX9_lend 8 = .ok (.invokevirtual 64, 3) := by decide +kernel
theorem dX9_lend_11 : decode cX9_lend 11 = .ok (.aload_n 0, 1) := by decide +kernel
theorem dX9_lend_12 : decode cX9_lend 12 = .ok (.aload_n 0, 1) := by decide +kernel
theorem dX9_lend_13 : decode cX9_lend 13 = .ok (.getfield 10, 3) := by decide +kernel
theorem dX9_lend_16 : decode cX9_lend 16 = .ok (.iload_n 1, 1) := by decide +kernel
theorem dX9_lend_17 : decode cX9_lend 17 = .ok (.iload_n 2, 1) := by decide +kernel
theorem dX9_lend_18 : decode cX9_lend 18 = .ok (.iload_n 3, 1) := by decide +kernel
theorem dX9_lend_19 : decode cX9_lend 19 = .ok (.iload 4, 2) := by decide +kernel
theorem dX9_lend_21 : decode cX9_lend 21 = .ok (.iload 5, 2) := by decide +kernel
theorem dX9_lend_23 : decode cX9_lend 23 = .ok (.invokevirtual 84, 3) := by decide +kernel
theorem dX9_lend_26 : decode cX9_lend 26 = .ok (.invokevirtual 72, 3) := by decide +kernel
theorem dX9_lend_29 : decode cX9_lend 29 = .ok (.ireturn, 1) := by decide +kernel
theorem dX9_pledge_0 : decode cX9_pledge 0 = .ok (.aload_n 0, 1) := by decide +kernel
theorem dX9_pledge_1 : decode cX9_pledge 1 = .ok (.getfield 16, 3) := by decide +kernel
theorem dX9_pledge_4 : decode cX9_pledge 4 = .ok (.aload_n 0, 1) := by decide +kernel
theorem dX9_pledge_5 : decode cX9_pledge 5 = .ok (.getfield 10, 3) := by decide +kernel
theorem dX9_pledge_8 : decode cX9_pledge 8 = .ok (.invokevirtual 64, 3) := by decide +kernel
theorem dX9_pledge_11 : decode cX9_pledge 11 = .ok (.aload_n 0, 1) := by decide +kernel
theorem dX9_pledge_12 : decode cX9_pledge 12 = .ok (.aload_n 0, 1) := by decide +kernel
theorem dX9_pledge_13 : decode cX9_pledge 13 = .ok (.getfield 10, 3) := by decide +kernel
theorem dX9_pledge_16 : decode cX9_pledge 16 = .ok (.iload_n 1, 1) := by decide +kernel
theorem dX9_pledge_17 : decode cX9_pledge 17 = .ok (.iload_n 2, 1) := by decide +kernel
theorem dX9_pledge_18 : decode cX9_pledge 18 = .ok (.iload_n 3, 1) := by decide +kernel
theorem dX9_pledge_19 : decode cX9_pledge 19 = .ok (.invokevirtual 88, 3) := by decide +kernel
theorem dX9_pledge_22 : decode cX9_pledge 22 = .ok (.invokevirtual 72, 3) := by decide +kernel
theorem dX9_pledge_25 : decode cX9_pledge 25 = .ok (.ireturn, 1) := by decide +kernel
theorem dX9_release_0 : decode cX9_release 0 = .ok (.aload_n 0, 1) := by decide +kernel
theorem dX9_release_1 : decode cX9_release 1 = .ok (.getfield 16, 3) := by decide +kernel
theorem dX9_release_4 : decode cX9_release 4 = .ok (.aload_n 0, 1) := by decide +kernel
theorem dX9_release_5 : decode cX9_release 5 = .ok (.getfield 10, 3) := by decide +kernel
theorem dX9_release_8 : decode cX9_release 8 = .ok (.invokevirtual 64, 3) := by decide +kernel
theorem dX9_release_11 : decode cX9_release 11 = .ok (.aload_n 0, 1) := by decide +kernel
theorem dX9_release_12 : decode cX9_release 12 = .ok (.aload_n 0, 1) := by decide +kernel
theorem dX9_release_13 : decode cX9_release 13 = .ok (.getfield 10, 3) := by decide +kernel
theorem dX9_release_16 : decode cX9_release 16 = .ok (.iload_n 1, 1) := by decide +kernel
theorem dX9_release_17 : decode cX9_release 17 = .ok (.iload_n 2, 1) := by decide +kernel
theorem dX9_release_18 : decode cX9_release 18 = .ok (.iload_n 3, 1) := by decide +kernel
theorem dX9_release_19 : decode cX9_release 19 = .ok (.invokevirtual 91, 3) := by decide +kernel
theorem dX9_release_22 : decode cX9_release 22 = .ok (.invokevirtual 72, 3) := by decide +kernel
theorem dX9_release_25 : decode cX9_release 25 = .ok (.ireturn, 1) := by decide +kernel
theorem dX9_repay_0 : decode cX9_repay 0 = .ok (.aload_n 0, 1) := by decide +kernel
theorem dX9_repay_1 : decode cX9_repay 1 = .ok (.getfield 16, 3) := by decide +kernel
theorem dX9_repay_4 : decode cX9_repay 4 = .ok (.aload_n 0, 1) := by decide +kernel
theorem dX9_repay_5 : decode cX9_repay 5 = .ok (.getfield 10, 3) := by decide +kernel
theorem dX9_repay_8 : decode cX9_repay 8 = .ok (.invokevirtual 64, 3) := by decide +kernel
theorem dX9_repay_11 : decode cX9_repay 11 = .ok (.aload_n 0, 1) := by decide +kernel
theorem dX9_repay_12 : decode cX9_repay 12 = .ok (.aload_n 0, 1) := by decide +kernel
theorem dX9_repay_13 : decode cX9_repay 13 = .ok (.getfield 10, 3) := by decide +kernel
theorem dX9_repay_16 : decode cX9_repay 16 = .ok (.iload_n 1, 1) := by decide +kernel
theorem dX9_repay_17 : decode cX9_repay 17 = .ok (.iload_n 2, 1) := by decide +kernel
theorem dX9_repay_18 : decode cX9_repay 18 = .ok (.invokevirtual 94, 3) := by decide +kernel
theorem dX9_repay_21 : decode cX9_repay 21 = .ok (.invokevirtual 72, 3) := by decide +kernel
theorem dX9_repay_24 : decode cX9_repay 24 = .ok (.ireturn, 1) := by decide +kernel
theorem dX9_buy_0 : decode cX9_buy 0 = .ok (.aload_n 0, 1) := by decide +kernel
theorem dX9_buy_1 : decode cX9_buy 1 = .ok (.getfield 16, 3) := by decide +kernel
theorem dX9_buy_4 : decode cX9_buy 4 = .ok (.aload_n 0, 1) := by decide +kernel
theorem dX9_buy_5 : decode cX9_buy 5 = .ok (.getfield 10, 3) := by decide +kernel
theorem dX9_buy_8 : decode cX9_buy 8 = .ok (.invokevirtual 64, 3) := by decide +kernel
theorem dX9_buy_11 : decode cX9_buy 11 = .ok (.aload_n 0, 1) := by decide +kernel
theorem dX9_buy_12 : decode cX9_buy 12 = .ok (.aload_n 0, 1) := by decide +kernel
theorem dX9_buy_13 : decode cX9_buy 13 = .ok (.getfield 10, 3) := by decide +kernel
theorem dX9_buy_16 : decode cX9_buy 16 = .ok (.iload_n 1, 1) := by decide +kernel
theorem dX9_buy_17 : decode cX9_buy 17 = .ok (.iload_n 2, 1) := by decide +kernel
theorem dX9_buy_18 : decode cX9_buy 18 = .ok (.iload_n 3, 1) := by decide +kernel
theorem dX9_buy_19 : decode cX9_buy 19 = .ok (.invokevirtual 97, 3) := by decide +kernel
theorem dX9_buy_22 : decode cX9_buy 22 = .ok (.invokevirtual 72, 3) := by decide +kernel
theorem dX9_buy_25 : decode cX9_buy 25 = .ok (.ireturn, 1) := by decide +kernel
theorem dX9_pass_0 : decode cX9_pass 0 = .ok (.aload_n 0, 1) := by decide +kernel
theorem dX9_pass_1 : decode cX9_pass 1 = .ok (.getfield 16, 3) := by decide +kernel
theorem dX9_pass_4 : decode cX9_pass 4 = .ok (.aload_n 0, 1) := by decide +kernel
theorem dX9_pass_5 : decode cX9_pass 5 = .ok (.getfield 10, 3) := by decide +kernel
theorem dX9_pass_8 : decode cX9_pass 8 = .ok (.invokevirtual 64, 3) := by decide +kernel
theorem dX9_pass_11 : decode cX9_pass 11 = .ok (.aload_n 0, 1) := by decide +kernel
theorem dX9_pass_12 : decode cX9_pass 12 = .ok (.aload_n 0, 1) := by decide +kernel
theorem dX9_pass_13 : decode cX9_pass 13 = .ok (.getfield 10, 3) := by decide +kernel
theorem dX9_pass_16 : decode cX9_pass 16 = .ok (.iload_n 1, 1) := by decide +kernel
theorem dX9_pass_17 : decode cX9_pass 17 = .ok (.invokevirtual 100, 3) := by decide +kernel
theorem dX9_pass_20 : decode cX9_pass 20 = .ok (.invokevirtual 72, 3) := by decide +kernel
theorem dX9_pass_23 : decode cX9_pass 23 = .ok (.ireturn, 1) := by decide +kernel
theorem dX9_finishChange_0 : decode cX9_finishChange 0 = .ok (.aload_n 1, 1) := by decide +kernel
theorem dX9_finishChange_1 : decode cX9_finishChange 1 = .ok (.invokestatic 103, 3) := by decide +kernel
theorem dX9_finishChange_4 : decode cX9_finishChange 4 = .ok (.aload_n 0, 1) := by decide +kernel
theorem dX9_finishChange_5 : decode cX9_finishChange 5 = .ok (.getfield 28, 3) := by decide +kernel
theorem dX9_finishChange_8 : decode cX9_finishChange 8 = .ok (.aload_n 0, 1) := by decide +kernel
theorem dX9_finishChange_9 : decode cX9_finishChange 9 = .ok (.getfield 16, 3) := by decide +kernel
theorem dX9_finishChange_12 : decode cX9_finishChange 12 = .ok (.invokevirtual 107, 3) := by decide +kernel
theorem dX9_finishChange_15 : decode cX9_finishChange 15 = .ok (.aload_n 0, 1) := by decide +kernel
theorem dX9_finishChange_16 : decode cX9_finishChange 16 = .ok (.getfield 10, 3) := by decide +kernel
theorem dX9_finishChange_19 : decode cX9_finishChange 19 = .ok (.getfield 110, 3) := by decide +kernel
theorem dX9_finishChange_22 : decode cX9_finishChange 22 = .ok (.ireturn, 1) := by decide +kernel
theorem dX9_refuse_0 : decode cX9_refuse 0 = .ok (.aload_n 0, 1) := by decide +kernel
theorem dX9_refuse_1 : decode cX9_refuse 1 = .ok (.getstatic 113, 3) := by decide +kernel
theorem dX9_refuse_4 : decode cX9_refuse 4 = .ok (.if_acmp .ne 13, 3) := by decide +kernel
theorem dX9_refuse_7 : decode cX9_refuse 7 = .ok (.new 119, 3) := by decide +kernel
theorem dX9_refuse_10 : decode cX9_refuse 10 = .ok (.dup, 1) := by decide +kernel
theorem dX9_refuse_11 : decode cX9_refuse 11 = .ok (.ldc 121, 2) := by decide +kernel
theorem dX9_refuse_13 : decode cX9_refuse 13 = .ok (.invokespecial 123, 3) := by decide +kernel
theorem dX9_refuse_16 : decode cX9_refuse 16 = .ok (.athrow, 1) := by decide +kernel
theorem dX9_refuse_17 : decode cX9_refuse 17 = .ok (.aload_n 0, 1) := by decide +kernel
theorem dX9_refuse_18 : decode cX9_refuse 18 = .ok (.getstatic 126, 3) := by decide +kernel
theorem dX9_refuse_21 : decode cX9_refuse 21 = .ok (.if_acmp .ne 13, 3) := by decide +kernel
theorem dX9_refuse_24 : decode cX9_refuse 24 = .ok (.new 129, 3) := by decide +kernel
theorem dX9_refuse_27 : decode cX9_refuse 27 = .ok (.dup, 1) := by decide +kernel
theorem dX9_refuse_28 : decode cX9_refuse 28 = .ok (.ldc 131, 2) := by decide +kernel
theorem dX9_refuse_30 : decode cX9_refuse 30 = .ok (.invokespecial 133, 3) := by decide +kernel
theorem dX9_refuse_33 : decode cX9_refuse 33 = .ok (.athrow, 1) := by decide +kernel
theorem dX9_refuse_34 : decode cX9_refuse 34 = .ok (.aload_n 0, 1) := by decide +kernel
theorem dX9_refuse_35 : decode cX9_refuse 35 = .ok (.getstatic 134, 3) := by decide +kernel
theorem dX9_refuse_38 : decode cX9_refuse 38 = .ok (.if_acmp .ne 13, 3) := by decide +kernel
theorem dX9_refuse_41 : decode cX9_refuse 41 = .ok (.new 137, 3) := by decide +kernel
theorem dX9_refuse_44 : decode cX9_refuse 44 = .ok (.dup, 1) := by decide +kernel
theorem dX9_refuse_45 : decode cX9_refuse 45 = .ok (.ldc 139, 2) := by decide +kernel
theorem dX9_refuse_47 : decode cX9_refuse 47 = .ok (.invokespecial 141, 3) := by decide +kernel
theorem dX9_refuse_50 : decode cX9_refuse 50 = .ok (.athrow, 1) := by decide +kernel
theorem dX9_refuse_51 : decode cX9_refuse 51 = .ok (.aload_n 0, 1) := by decide +kernel
theorem dX9_refuse_52 : decode cX9_refuse 52 = .ok (.getstatic 142, 3) := by decide +kernel
theorem dX9_refuse_55 : decode cX9_refuse 55 = .ok (.if_acmp .ne 13, 3) := by decide +kernel
theorem dX9_refuse_58 : decode cX9_refuse 58 = .ok (.new 145, 3) := by decide +kernel
theorem dX9_refuse_61 : decode cX9_refuse 61 = .ok (.dup, 1) := by decide +kernel
theorem dX9_refuse_62 : decode cX9_refuse 62 = .ok (.ldc 147, 2) := by decide +kernel
theorem dX9_refuse_64 : decode cX9_refuse 64 = .ok (.invokespecial 149, 3) := by decide +kernel
theorem dX9_refuse_67 : decode cX9_refuse 67 = .ok (.athrow, 1) := by decide +kernel
theorem dX9_refuse_68 : decode cX9_refuse 68 = .ok (.return_, 1) := by decide +kernel
theorem dX9_day_0 : decode cX9_day 0 = .ok (.aload_n 0, 1) := by decide +kernel
theorem dX9_day_1 : decode cX9_day 1 = .ok (.getfield 10, 3) := by decide +kernel
theorem dX9_day_4 : decode cX9_day 4 = .ok (.getfield 150, 3) := by decide +kernel
theorem dX9_day_7 : decode cX9_day 7 = .ok (.ireturn, 1) := by decide +kernel
theorem dX9_price_0 : decode cX9_price 0 = .ok (.iload_n 1, 1) := by decide +kernel
theorem dX9_price_1 : decode cX9_price 1 = .ok (.invokestatic 153, 3) := by decide +kernel
theorem dX9_price_4 : decode cX9_price 4 = .ok (.aload_n 0, 1) := by decide +kernel
theorem dX9_price_5 : decode cX9_price 5 = .ok (.getfield 10, 3) := by decide +kernel
theorem dX9_price_8 : decode cX9_price 8 = .ok (.getfield 157, 3) := by decide +kernel
theorem dX9_price_11 : decode cX9_price 11 = .ok (.iload_n 1, 1) := by decide +kernel
theorem dX9_price_12 : decode cX9_price 12 = .ok (.iaload, 1) := by decide +kernel
theorem dX9_price_13 : decode cX9_price 13 = .ok (.ireturn, 1) := by decide +kernel
theorem dX9_capital_0 : decode cX9_capital 0 = .ok (.aload_n 0, 1) := by decide +kernel
theorem dX9_capital_1 : decode cX9_capital 1 = .ok (.getfield 10, 3) := by decide +kernel
theorem dX9_capital_4 : decode cX9_capital 4 = .ok (.getfield 161, 3) := by decide +kernel
theorem dX9_capital_7 : decode cX9_capital 7 = .ok (.ireturn, 1) := by decide +kernel
theorem dX9_stock_0 : decode cX9_stock 0 = .ok (.iload_n 1, 1) := by decide +kernel
theorem dX9_stock_1 : decode cX9_stock 1 = .ok (.invokestatic 153, 3) := by decide +kernel
theorem dX9_stock_4 : decode cX9_stock 4 = .ok (.aload_n 0, 1) := by decide +kernel
theorem dX9_stock_5 : decode cX9_stock 5 = .ok (.getfield 10, 3) := by decide +kernel
theorem dX9_stock_8 : decode cX9_stock 8 = .ok (.getfield 164, 3) := by decide +kernel
theorem dX9_stock_11 : decode cX9_stock 11 = .ok (.iload_n 1, 1) := by decide +kernel
theorem dX9_stock_12 : decode cX9_stock 12 = .ok (.iaload, 1) := by decide +kernel
theorem dX9_stock_13 : decode cX9_stock 13 = .ok (.ireturn, 1) := by decide +kernel
theorem dX9_borrowerCount_0 : decode cX9_borrowerCount 0 = .ok (.aload_n 0, 1) := by decide +kernel
theorem dX9_borrowerCount_1 : decode cX9_borrowerCount 1 = .ok (.getfield 10, 3) := by decide +kernel
theorem dX9_borrowerCount_4 : decode cX9_borrowerCount 4 = .ok (.getfield 167, 3) := by decide +kernel
theorem dX9_borrowerCount_7 : decode cX9_borrowerCount 7 = .ok (.ireturn, 1) := by decide +kernel
theorem dX9_coins_0 : decode cX9_coins 0 = .ok (.aload_n 0, 1) := by decide +kernel
theorem dX9_coins_1 : decode cX9_coins 1 = .ok (.iload_n 1, 1) := by decide +kernel
theorem dX9_coins_2 : decode cX9_coins 2 = .ok (.invokevirtual 170, 3) := by decide +kernel
theorem dX9_coins_5 : decode cX9_coins 5 = .ok (.getfield 174, 3) := by decide +kernel
theorem dX9_coins_8 : decode cX9_coins 8 = .ok (.ireturn, 1) := by decide +kernel
theorem dX9_units_0 : decode cX9_units 0 = .ok (.aload_n 0, 1) := by decide +kernel
theorem dX9_units_1 : decode cX9_units 1 = .ok (.iload_n 1, 1) := by decide +kernel
theorem dX9_units_2 : decode cX9_units 2 = .ok (.invokevirtual 170, 3) := by decide +kernel
theorem dX9_units_5 : decode cX9_units 5 = .ok (.astore_n 3, 1) := by decide +kernel
theorem dX9_units_6 : decode cX9_units 6 = .ok (.iload_n 2, 1) := by decide +kernel
theorem dX9_units_7 : decode cX9_units 7 = .ok (.invokestatic 153, 3) := by decide +kernel
theorem dX9_units_10 : decode cX9_units 10 = .ok (.aload_n 3, 1) := by decide +kernel
theorem dX9_units_11 : decode cX9_units 11 = .ok (.getfield 179, 3) := by decide +kernel
theorem dX9_units_14 : decode cX9_units 14 = .ok (.iload_n 2, 1) := by decide +kernel
theorem dX9_units_15 : decode cX9_units 15 = .ok (.iaload, 1) := by decide +kernel
theorem dX9_units_16 : decode cX9_units 16 = .ok (.ireturn, 1) := by decide +kernel
theorem dX9_pledgedUnits_0 : decode cX9_pledgedUnits 0 = .ok (.aload_n 0, 1) := by decide +kernel
theorem dX9_pledgedUnits_1 : decode cX9_pledgedUnits 1 = .ok (.iload_n 1, 1) := by decide +kernel
theorem dX9_pledgedUnits_2 : decode cX9_pledgedUnits 2 = .ok (.invokevirtual 170, 3) := by decide +kernel
theorem dX9_pledgedUnits_5 : decode cX9_pledgedUnits 5 = .ok (.pop, 1) := by decide +kernel
theorem dX9_pledgedUnits_6 : decode cX9_pledgedUnits 6 = .ok (.iload_n 2, 1) := by decide +kernel
theorem dX9_pledgedUnits_7 : decode cX9_pledgedUnits 7 = .ok (.invokestatic 153, 3) := by decide +kernel
theorem dX9_pledgedUnits_10 : decode cX9_pledgedUnits 10 = .ok (.aload_n 0, 1) := by decide +kernel
theorem dX9_pledgedUnits_11 : decode cX9_pledgedUnits 11 = .ok (.getfield 10, 3) := by decide +kernel
theorem dX9_pledgedUnits_14 : decode cX9_pledgedUnits 14 = .ok (.iload_n 1, 1) := by decide +kernel
theorem dX9_pledgedUnits_15 : decode cX9_pledgedUnits 15 = .ok (.iload_n 2, 1) := by decide +kernel
theorem dX9_pledgedUnits_16 : decode cX9_pledgedUnits 16 = .ok (.invokevirtual 182, 3) := by decide +kernel
theorem dX9_pledgedUnits_19 : decode cX9_pledgedUnits 19 = .ok (.ireturn, 1) := by decide +kernel
theorem dX9_defaults_0 : decode cX9_defaults 0 = .ok (.aload_n 0, 1) := by decide +kernel
theorem dX9_defaults_1 : decode cX9_defaults 1 = .ok (.iload_n 1, 1) := by decide +kernel
theorem dX9_defaults_2 : decode cX9_defaults 2 = .ok (.invokevirtual 170, 3) := by decide +kernel
theorem dX9_defaults_5 : decode cX9_defaults 5 = .ok (.getfield 186, 3) := by decide +kernel
theorem dX9_defaults_8 : decode cX9_defaults 8 = .ok (.ireturn, 1) := by decide +kernel
theorem dX9_canBorrow_0 : decode cX9_canBorrow 0 = .ok (.aload_n 0, 1) := by decide +kernel
theorem dX9_canBorrow_1 : decode cX9_canBorrow 1 = .ok (.iload_n 1, 1) := by decide +kernel
theorem dX9_canBorrow_2 : decode cX9_canBorrow 2 = .ok (.invokevirtual 170, 3) := by decide +kernel
theorem dX9_canBorrow_5 : decode cX9_canBorrow 5 = .ok (.invokevirtual 189, 3) := by decide +kernel
theorem dX9_canBorrow_8 : decode cX9_canBorrow 8 = .ok (.ireturn, 1) := by decide +kernel
theorem dX9_loansOf_0 : decode cX9_loansOf 0 = .ok (.aload_n 0, 1) := by decide +kernel
theorem dX9_loansOf_1 : decode cX9_loansOf 1 = .ok (.iload_n 1, 1) := by decide +kernel
theorem dX9_loansOf_2 : decode cX9_loansOf 2 = .ok (.invokevirtual 170, 3) := by decide +kernel
theorem dX9_loansOf_5 : decode cX9_loansOf 5 = .ok (.pop, 1) := by decide +kernel
theorem dX9_loansOf_6 : decode cX9_loansOf 6 = .ok (.aload_n 0, 1) := by decide +kernel
theorem dX9_loansOf_7 : decode cX9_loansOf 7 = .ok (.getfield 10, 3) := by decide +kernel
theorem dX9_loansOf_10 : decode cX9_loansOf 10 = .ok (.iload_n 1, 1) := by decide +kernel
theorem dX9_loansOf_11 : decode cX9_loansOf 11 = .ok (.invokevirtual 193, 3) := by decide +kernel
theorem dX9_loansOf_14 : decode cX9_loansOf 14 = .ok (.ireturn, 1) := by decide +kernel
theorem dX9_debtOf_0 : decode cX9_debtOf 0 = .ok (.aload_n 0, 1) := by decide +kernel
theorem dX9_debtOf_1 : decode cX9_debtOf 1 = .ok (.iload_n 1, 1) := by decide +kernel
theorem dX9_debtOf_2 : decode cX9_debtOf 2 = .ok (.invokevirtual 170, 3) := by decide +kernel
theorem dX9_debtOf_5 : decode cX9_debtOf 5 = .ok (.pop, 1) := by decide +kernel
theorem dX9_debtOf_6 : decode cX9_debtOf 6 = .ok (.aload_n 0, 1) := by decide +kernel
theorem dX9_debtOf_7 : decode cX9_debtOf 7 = .ok (.getfield 10, 3) := by decide +kernel
theorem dX9_debtOf_10 : decode cX9_debtOf 10 = .ok (.iload_n 1, 1) := by decide +kernel
theorem dX9_debtOf_11 : decode cX9_debtOf 11 = .ok (.invokevirtual 197, 3) := by decide +kernel
theorem dX9_debtOf_14 : decode cX9_debtOf 14 = .ok (.ireturn, 1) := by decide +kernel
theorem dX9_wealth_0 : decode cX9_wealth 0 = .ok (.aload_n 0, 1) := by decide +kernel
theorem dX9_wealth_1 : decode cX9_wealth 1 = .ok (.iload_n 1, 1) := by decide +kernel
theorem dX9_wealth_2 : decode cX9_wealth 2 = .ok (.invokevirtual 170, 3) := by decide +kernel
theorem dX9_wealth_5 : decode cX9_wealth 5 = .ok (.astore_n 2, 1) := by decide +kernel
theorem dX9_wealth_6 : decode cX9_wealth 6 = .ok (.aload_n 2, 1) := by decide +kernel
theorem dX9_wealth_7 : decode cX9_wealth 7 = .ok (.getfield 174, 3) := by decide +kernel
theorem dX9_wealth_10 : decode cX9_wealth 10 = .ok (.aload_n 0, 1) := by decide +kernel
theorem dX9_wealth_11 : decode cX9_wealth 11 = .ok (.getfield 10, 3) := by decide +kernel
theorem dX9_wealth_14 : decode cX9_wealth 14 = .ok (.iload_n 1, 1) := by decide +kernel
theorem dX9_wealth_15 : decode cX9_wealth 15 = .ok (.invokevirtual 197, 3) := by decide +kernel
theorem dX9_wealth_18 : decode cX9_wealth 18 = .ok (.isub, 1) := by decide +kernel
theorem dX9_wealth_19 : decode cX9_wealth 19 = .ok (.istore_n 3, 1) := by decide +kernel
theorem dX9_wealth_20 : decode cX9_wealth 20 = .ok (.iconst 0, 1) := by decide +kernel
theorem dX9_wealth_21 : decode cX9_wealth 21 = .ok (.istore 4, 2) := by decide +kernel
theorem dX9_wealth_23 : decode cX9_wealth 23 = .ok (.iload 4, 2) := by decide +kernel
theorem dX9_wealth_25 : decode cX9_wealth 25 = .ok (.iconst 4, 1) := by decide +kernel
theorem dX9_wealth_26 : decode cX9_wealth 26 = .ok (.if_icmp .ge 41, 3) := by decide +kernel
theorem dX9_wealth_29 : decode cX9_wealth 29 = .ok (.iload_n 3, 1) := by decide +kernel
theorem dX9_wealth_30 : decode cX9_wealth 30 = .ok (.aload_n 2, 1) := by decide +kernel
theorem dX9_wealth_31 : decode cX9_wealth 31 = .ok (.getfield 179, 3) := by decide +kernel
theorem dX9_wealth_34 : decode cX9_wealth 34 = .ok (.iload 4, 2) := by decide +kernel
theorem dX9_wealth_36 : decode cX9_wealth 36 = .ok (.iaload, 1) := by decide +kernel
theorem dX9_wealth_37 : decode cX9_wealth 37 = .ok (.aload_n 0, 1) := by decide +kernel
theorem dX9_wealth_38 : decode cX9_wealth 38 = .ok (.getfield 10, 3) := by decide +kernel
theorem dX9_wealth_41 : decode cX9_wealth 41 = .ok (.iload_n 1, 1) := by decide +kernel
theorem dX9_wealth_42 : decode cX9_wealth 42 = .ok (.iload 4, 2) := by decide +kernel
theorem dX9_wealth_44 : decode cX9_wealth 44 = .ok (.invokevirtual 182, 3) := by decide +kernel
theorem dX9_wealth_47 : decode cX9_wealth 47 = .ok (.iadd, 1) := by decide +kernel
theorem dX9_wealth_48 : decode cX9_wealth 48 = .ok (.aload_n 0, 1) := by decide +kernel
theorem dX9_wealth_49 : decode cX9_wealth 49 = .ok (.getfield 10, 3) := by decide +kernel
theorem dX9_wealth_52 : decode cX9_wealth 52 = .ok (.getfield 157, 3) := by decide +kernel
theorem dX9_wealth_55 : decode cX9_wealth 55 = .ok (.iload 4, 2) := by decide +kernel
theorem dX9_wealth_57 : decode cX9_wealth 57 = .ok (.iaload, 1) := by decide +kernel
theorem dX9_wealth_58 : decode cX9_wealth 58 = .ok (.imul, 1) := by decide +kernel
theorem dX9_wealth_59 : decode cX9_wealth 59 = .ok (.iadd, 1) := by decide +kernel
theorem dX9_wealth_60 : decode cX9_wealth 60 = .ok (.istore_n 3, 1) := by decide +kernel
theorem dX9_wealth_61 : decode cX9_wealth 61 = .ok (.iinc 4 1, 3) := by decide +kernel
theorem dX9_wealth_64 : decode cX9_wealth 64 = .ok (.goto (-41), 3) := by decide +kernel
theorem dX9_wealth_67 : decode cX9_wealth 67 = .ok (.iload_n 3, 1) := by decide +kernel
theorem dX9_wealth_68 : decode cX9_wealth 68 = .ok (.ireturn, 1) := by decide +kernel
theorem dX9_loanCount_0 : decode cX9_loanCount 0 = .ok (.aload_n 0, 1) := by decide +kernel
theorem dX9_loanCount_1 : decode cX9_loanCount 1 = .ok (.getfield 10, 3) := by decide +kernel
theorem dX9_loanCount_4 : decode cX9_loanCount 4 = .ok (.getfield 200, 3) := by decide +kernel
theorem dX9_loanCount_7 : decode cX9_loanCount 7 = .ok (.ireturn, 1) := by decide +kernel
theorem dX9_exists_0 : decode cX9_exists 0 = .ok (.aload_n 0, 1) := by decide +kernel
theorem dX9_exists_1 : decode cX9_exists 1 = .ok (.getfield 10, 3) := by decide +kernel
theorem dX9_exists_4 : decode cX9_exists 4 = .ok (.iload_n 1, 1) := by decide +kernel
theorem dX9_exists_5 : decode cX9_exists 5 = .ok (.invokevirtual 203, 3) := by decide +kernel
theorem dX9_exists_8 : decode cX9_exists 8 = .ok (.ifnull 7, 3) := by decide +kernel
theorem dX9_exists_11 : decode cX9_exists 11 = .ok (.iconst 1, 1) := by decide +kernel
theorem dX9_exists_12 : decode cX9_exists 12 = .ok (.goto 4, 3) := by decide +kernel
theorem dX9_exists_15 : decode cX9_exists 15 = .ok (.iconst 0, 1) := by decide +kernel
theorem dX9_exists_16 : decode cX9_exists 16 = .ok (.ireturn, 1) := by decide +kernel
theorem dX9_idAt_0 : decode cX9_idAt 0 = .ok (.iload_n 1, 1) := by decide +kernel
theorem dX9_idAt_1 : decode cX9_idAt 1 = .ok (.ifCond .lt 14, 3) := by decide +kernel
theorem dX9_idAt_4 : decode cX9_idAt 4 = .ok (.iload_n 1, 1) := by decide +kernel
theorem dX9_idAt_5 : decode cX9_idAt 5 = .ok (.aload_n 0, 1) := by decide +kernel
theorem dX9_idAt_6 : decode cX9_idAt 6 = .ok (.getfield 10, 3) := by decide +kernel
theorem dX9_idAt_9 : decode cX9_idAt 9 = .ok (.getfield 200, 3) := by decide +kernel
theorem dX9_idAt_12 : decode cX9_idAt 12 = .ok (.if_icmp .lt 13, 3) := by decide +kernel
theorem dX9_idAt_15 : decode cX9_idAt 15 = .ok (.new 129, 3) := by decide +kernel
theorem dX9_idAt_18 : decode cX9_idAt 18 = .ok (.dup, 1) := by decide +kernel
theorem dX9_idAt_19 : decode cX9_idAt 19 = .ok (.ldc 207, 2) := by decide +kernel
theorem dX9_idAt_21 : decode cX9_idAt 21 = .ok (.invokespecial 133, 3) := by decide +kernel
theorem dX9_idAt_24 : decode cX9_idAt 24 = .ok (.athrow, 1) := by decide +kernel
theorem dX9_idAt_25 : decode cX9_idAt 25 = .ok (.aload_n 0, 1) := by decide +kernel
theorem dX9_idAt_26 : decode cX9_idAt 26 = .ok (.getfield 10, 3) := by decide +kernel
theorem dX9_idAt_29 : decode cX9_idAt 29 = .ok (.getfield 209, 3) := by decide +kernel
theorem dX9_idAt_32 : decode cX9_idAt 32 = .ok (.iload_n 1, 1) := by decide +kernel
theorem dX9_idAt_33 : decode cX9_idAt 33 = .ok (.aaload, 1) := by decide +kernel
theorem dX9_idAt_34 : decode cX9_idAt 34 = .ok (.getfield 213, 3) := by decide +kernel
theorem dX9_idAt_37 : decode cX9_idAt 37 = .ok (.ireturn, 1) := by decide +kernel
theorem dX9_borrowerOf_0 : decode cX9_borrowerOf 0 = .ok (.aload_n 0, 1) := by decide +kernel
theorem dX9_borrowerOf_1 : decode cX9_borrowerOf 1 = .ok (.iload_n 1, 1) := by decide +kernel
theorem dX9_borrowerOf_2 : decode cX9_borrowerOf 2 = .ok (.invokevirtual 218, 3) := by decide +kernel
theorem dX9_borrowerOf_5 : decode cX9_borrowerOf 5 = .ok (.getfield 221, 3) := by decide +kernel
theorem dX9_borrowerOf_8 : decode cX9_borrowerOf 8 = .ok (.ireturn, 1) := by decide +kernel
theorem dX9_principal_0 : decode cX9_principal 0 = .ok (.aload_n 0, 1) := by decide +kernel
theorem dX9_principal_1 : decode cX9_principal 1 = .ok (.iload_n 1, 1) := by decide +kernel
theorem dX9_principal_2 : decode cX9_principal 2 = .ok (.invokevirtual 218, 3) := by decide +kernel
theorem dX9_principal_5 : decode cX9_principal 5 = .ok (.getfield 224, 3) := by decide +kernel
theorem dX9_principal_8 : decode cX9_principal 8 = .ok (.ireturn, 1) := by decide +kernel
theorem dX9_interest_0 : decode cX9_interest 0 = .ok (.aload_n 0, 1) := by decide +kernel
theorem dX9_interest_1 : decode cX9_interest 1 = .ok (.iload_n 1, 1) := by decide +kernel
theorem dX9_interest_2 : decode cX9_interest 2 = .ok (.invokevirtual 218, 3) := by decide +kernel
theorem dX9_interest_5 : decode cX9_interest 5 = .ok (.getfield 227, 3) := by decide +kernel
theorem dX9_interest_8 : decode cX9_interest 8 = .ok (.ireturn, 1) := by decide +kernel
theorem dX9_debt_0 : decode cX9_debt 0 = .ok (.aload_n 0, 1) := by decide +kernel
theorem dX9_debt_1 : decode cX9_debt 1 = .ok (.iload_n 1, 1) := by decide +kernel
theorem dX9_debt_2 : decode cX9_debt 2 = .ok (.invokevirtual 218, 3) := by decide +kernel
theorem dX9_debt_5 : decode cX9_debt 5 = .ok (.invokevirtual 230, 3) := by decide +kernel
theorem dX9_debt_8 : decode cX9_debt 8 = .ok (.ireturn, 1) := by decide +kernel
theorem dX9_rate_0 : decode cX9_rate 0 = .ok (.aload_n 0, 1) := by decide +kernel
theorem dX9_rate_1 : decode cX9_rate 1 = .ok (.iload_n 1, 1) := by decide +kernel
theorem dX9_rate_2 : decode cX9_rate 2 = .ok (.invokevirtual 218, 3) := by decide +kernel
theorem dX9_rate_5 : decode cX9_rate 5 = .ok (.getfield 234, 3) := by decide +kernel
theorem dX9_rate_8 : decode cX9_rate 8 = .ok (.ireturn, 1) := by decide +kernel
theorem dX9_dueDay_0 : decode cX9_dueDay 0 = .ok (.aload_n 0, 1) := by decide +kernel
theorem dX9_dueDay_1 : decode cX9_dueDay 1 = .ok (.iload_n 1, 1) := by decide +kernel
theorem dX9_dueDay_2 : decode cX9_dueDay 2 = .ok (.invokevirtual 218, 3) := by decide +kernel
theorem dX9_dueDay_5 : decode cX9_dueDay 5 = .ok (.getfield 237, 3) := by decide +kernel
theorem dX9_dueDay_8 : decode cX9_dueDay 8 = .ok (.ireturn, 1) := by decide +kernel
theorem dX9_collateral_0 : decode cX9_collateral 0 = .ok (.aload_n 0, 1) := by decide +kernel
theorem dX9_collateral_1 : decode cX9_collateral 1 = .ok (.iload_n 1, 1) := by decide +kernel
theorem dX9_collateral_2 : decode cX9_collateral 2 = .ok (.invokevirtual 218, 3) := by decide +kernel
theorem dX9_collateral_5 : decode cX9_collateral 5 = .ok (.astore_n 3, 1) := by decide +kernel
theorem dX9_collateral_6 : decode cX9_collateral 6 = .ok (.iload_n 2, 1) := by decide +kernel
theorem dX9_collateral_7 : decode cX9_collateral 7 = .ok (.invokestatic 153, 3) := by decide +kernel
theorem dX9_collateral_10 : decode cX9_collateral 10 = .ok (.aload_n 3, 1) := by decide +kernel
theorem dX9_collateral_11 : decode cX9_collateral 11 = .ok (.getfield 240, 3) := by decide +kernel
theorem dX9_collateral_14 : decode cX9_collateral 14 = .ok (.iload_n 2, 1) := by decide +kernel
theorem dX9_collateral_15 : decode cX9_collateral 15 = .ok (.iaload, 1) := by decide +kernel
theorem dX9_collateral_16 : decode cX9_collateral 16 = .ok (.ireturn, 1) := by decide +kernel
theorem dX9_collateralValue_0 : decode cX9_collateralValue 0 = .ok (.aload_n 0, 1) := by decide +kernel
theorem dX9_collateralValue_1 : decode cX9_collateralValue 1 = .ok (.getfield 10, 3) := by decide +kernel
theorem dX9_collateralValue_4 : decode cX9_collateralValue 4 = .ok (.aload_n 0, 1) := by decide +kernel
theorem dX9_collateralValue_5 : decode cX9_collateralValue 5 = .ok (.iload_n 1, 1) := by decide +kernel
theorem dX9_collateralValue_6 : decode cX9_collateralValue 6 = .ok (.invokevirtual 218, 3) := by decide +kernel
theorem dX9_collateralValue_9 : decode cX9_collateralValue 9 = .ok (.getfield 240, 3) := by decide +kernel
theorem dX9_collateralValue_12 : decode cX9_collateralValue 12 = .ok (.invokevirtual 243, 3) := by decide +kernel
theorem dX9_collateralValue_15 : decode cX9_collateralValue 15 = .ok (.ireturn, 1) := by decide +kernel
theorem dX9_isCovered_0 : decode cX9_isCovered 0 = .ok (.aload_n 0, 1) := by decide +kernel
theorem dX9_isCovered_1 : decode cX9_isCovered 1 = .ok (.iload_n 1, 1) := by decide +kernel
theorem dX9_isCovered_2 : decode cX9_isCovered 2 = .ok (.invokevirtual 218, 3) := by decide +kernel
theorem dX9_isCovered_5 : decode cX9_isCovered 5 = .ok (.astore_n 2, 1) := by decide +kernel
theorem dX9_isCovered_6 : decode cX9_isCovered 6 = .ok (.aload_n 2, 1) := by decide +kernel
theorem dX9_isCovered_7 : decode cX9_isCovered 7 = .ok (.invokevirtual 230, 3) := by decide +kernel
theorem dX9_isCovered_10 : decode cX9_isCovered 10 = .ok (.aload_n 0, 1) := by decide +kernel
theorem dX9_isCovered_11 : decode cX9_isCovered 11 = .ok (.getfield 10, 3) := by decide +kernel
theorem dX9_isCovered_14 : decode cX9_isCovered 14 = .ok (.aload_n 2, 1) := by decide +kernel
theorem dX9_isCovered_15 : decode cX9_isCovered 15 = .ok (.getfield 240, 3) := by decide +kernel
theorem dX9_isCovered_18 : decode cX9_isCovered 18 = .ok (.invokevirtual 243, 3) := by decide +kernel
theorem dX9_isCovered_21 : decode cX9_isCovered 21 = .ok (.invokestatic 247, 3) := by decide +kernel
theorem dX9_isCovered_24 : decode cX9_isCovered 24 = .ok (.ireturn, 1) := by decide +kernel
theorem dX9_missingUnits_0 : decode cX9_missingUnits 0 = .ok (.aload_n 0, 1) := by decide +kernel
theorem dX9_missingUnits_1 : decode cX9_missingUnits 1 = .ok (.iload_n 1, 1) := by decide +kernel
theorem dX9_missingUnits_2 : decode cX9_missingUnits 2 = .ok (.invokevirtual 218, 3) := by decide +kernel
theorem dX9_missingUnits_5 : decode cX9_missingUnits 5 = .ok (.astore_n 3, 1) := by decide +kernel
theorem dX9_missingUnits_6 : decode cX9_missingUnits 6 = .ok (.iload_n 2, 1) := by decide +kernel
theorem dX9_missingUnits_7 : decode cX9_missingUnits 7 = .ok (.invokestatic 153, 3) := by decide +kernel
theorem dX9_missingUnits_10 : decode cX9_missingUnits 10 = .ok (.iconst 3, 1) := by decide +kernel
theorem dX9_missingUnits_11 : decode cX9_missingUnits 11 = .ok (.aload_n 3, 1) := by decide +kernel
theorem dX9_missingUnits_12 : decode cX9_missingUnits 12 = .ok (.invokevirtual 230, 3) := by decide +kernel
theorem dX9_missingUnits_15 : decode cX9_missingUnits 15 = .ok (.imul, 1) := by decide +kernel
theorem dX9_missingUnits_16 : decode cX9_missingUnits 16 = .ok (.iconst 2, 1) := by decide +kernel
theorem dX9_missingUnits_17 : decode cX9_missingUnits 17 = .ok (.aload_n 0, 1) := by decide +kernel
theorem dX9_missingUnits_18 : decode cX9_missingUnits 18 = .ok (.getfield 10, 3) := by decide +kernel
theorem dX9_missingUnits_21 : decode cX9_missingUnits 21 = .ok (.aload_n 3, 1) := by decide +kernel
theorem dX9_missingUnits_22 : decode cX9_missingUnits 22 = .ok (.getfield 240, 3) := by decide +kernel
theorem dX9_missingUnits_25 : decode cX9_missingUnits 25 = .ok (.invokevirtual 243, 3) := by decide +kernel
theorem dX9_missingUnits_28 : decode cX9_missingUnits 28 = .ok (.imul, 1) := by decide +kernel
theorem dX9_missingUnits_29 : decode cX9_missingUnits 29 = .ok (.isub, 1) := by decide +kernel
theorem dX9_missingUnits_30 : decode cX9_missingUnits 30 = .ok (.istore 4, 2) := by decide +kernel
theorem dX9_missingUnits_32 : decode cX9_missingUnits 32 = .ok (.iload 4, 2) := by decide +kernel
theorem dX9_missingUnits_34 : decode cX9_missingUnits 34 = .ok (.ifCond .gt 7, 3) := by decide +kernel
theorem dX9_missingUnits_37 : decode cX9_missingUnits 37 = .ok (.iconst 0, 1) := by decide +kernel
theorem dX9_missingUnits_38 : decode cX9_missingUnits 38 = .ok (.goto 19, 3) := by decide +kernel
theorem dX9_missingUnits_41 : decode cX9_missingUnits 41 = .ok (.iload 4, 2) := by decide +kernel
theorem dX9_missingUnits_43 : decode cX9_missingUnits 43 = .ok (.iconst 2, 1) := by decide +kernel
theorem dX9_missingUnits_44 : decode cX9_missingUnits 44 = .ok (.aload_n 0, 1) := by decide +kernel
theorem dX9_missingUnits_45 : decode cX9_missingUnits 45 = .ok (.getfield 10, 3) := by decide +kernel
theorem dX9_missingUnits_48 : decode cX9_missingUnits 48 = .ok (.getfield 157, 3) := by decide +kernel
theorem dX9_missingUnits_51 : decode cX9_missingUnits 51 = .ok (.iload_n 2, 1) := by decide +kernel
theorem dX9_missingUnits_52 : decode cX9_missingUnits 52 = .ok (.iaload, 1) := by decide +kernel
theorem dX9_missingUnits_53 : decode cX9_missingUnits 53 = .ok (.imul, 1) := by decide +kernel
theorem dX9_missingUnits_54 : decode cX9_missingUnits 54 = .ok (.invokestatic 251, 3) := by decide +kernel
theorem dX9_missingUnits_57 : decode cX9_missingUnits 57 = .ok (.ireturn, 1) := by decide +kernel
theorem dX9_daysToDefault_0 : decode cX9_daysToDefault 0 = .ok (.aload_n 0, 1) := by decide +kernel
theorem dX9_daysToDefault_1 : decode cX9_daysToDefault 1 = .ok (.getfield 10, 3) := by decide +kernel
theorem dX9_daysToDefault_4 : decode cX9_daysToDefault 4 = .ok (.aload_n 0, 1) := by decide +kernel
theorem dX9_daysToDefault_5 : decode cX9_daysToDefault 5 = .ok (.iload_n 1, 1) := by decide +kernel
theorem dX9_daysToDefault_6 : decode cX9_daysToDefault 6 = .ok (.invokevirtual 218, 3) := by decide +kernel
theorem dX9_daysToDefault_9 : decode cX9_daysToDefault 9 = .ok (.invokevirtual 254, 3) := by decide +kernel
theorem dX9_daysToDefault_12 : decode cX9_daysToDefault 12 = .ok (.ireturn, 1) := by decide +kernel
theorem dX9_daysToDefaultByDays_0 : decode cX9_daysToDefaultByDays 0 = .ok (.aload_n 0, 1) := by decide +kernel
theorem dX9_daysToDefaultByDays_1 : decode cX9_daysToDefaultByDays 1 = .ok (.iload_n 1, 1) := by decide +kernel
theorem dX9_daysToDefaultByDays_2 : decode cX9_daysToDefaultByDays 2 = .ok (.invokevirtual 218, 3) := by decide +kernel
theorem dX9_daysToDefaultByDays_5 : decode cX9_daysToDefaultByDays 5 = .ok (.pop, 1) := by decide +kernel
theorem dX9_daysToDefaultByDays_6 : decode cX9_daysToDefaultByDays 6 = .ok (.aload_n 0, 1) := by decide +kernel
theorem dX9_daysToDefaultByDays_7 : decode cX9_daysToDefaultByDays 7 = .ok (.iload_n 1, 1) := by decide +kernel
theorem dX9_daysToDefaultByDays_8 : decode cX9_daysToDefaultByDays 8 = .ok (.invokevirtual 258, 3) := by decide +kernel
theorem dX9_daysToDefaultByDays_11 : decode cX9_daysToDefaultByDays 11 = .ok (.ireturn, 1) := by decide +kernel
theorem dX9_daysLeftByTrial_0 : decode cX9_daysLeftByTrial 0 = .ok (.aload_n 0, 1) := by decide +kernel
theorem dX9_daysLeftByTrial_1 : decode cX9_daysLeftByTrial 1 = .ok (.getfield 19, 3) := by decide +kernel
theorem dX9_daysLeftByTrial_4 : decode cX9_daysLeftByTrial 4 = .ok (.aload_n 0, 1) := by decide +kernel
theorem dX9_daysLeftByTrial_5 : decode cX9_daysLeftByTrial 5 = .ok (.getfield 10, 3) := by decide +kernel
theorem dX9_daysLeftByTrial_8 : decode cX9_daysLeftByTrial 8 = .ok (.invokevirtual 64, 3) := by decide +kernel
theorem dX9_daysLeftByTrial_11 : decode cX9_daysLeftByTrial 11 = .ok (.iconst 0, 1) := by decide +kernel
theorem dX9_daysLeftByTrial_12 : decode cX9_daysLeftByTrial 12 = .ok (.istore_n 2, 1) := by decide +kernel
theorem dX9_daysLeftByTrial_13 : decode cX9_daysLeftByTrial 13 = .ok (.iload_n 2, 1) := by decide +kernel
theorem dX9_daysLeftByTrial_14 : decode cX9_daysLeftByTrial 14 = .ok (.bipush 60, 2) := by decide +kernel
theorem dX9_daysLeftByTrial_16 : decode cX9_daysLeftByTrial 16 = .ok (.if_icmp .gt 27, 3) := by decide +kernel
theorem dX9_daysLeftByTrial_19 : decode cX9_daysLeftByTrial 19 = .ok (.aload_n 0, 1) := by decide +kernel
theorem dX9_daysLeftByTrial_20 : decode cX9_daysLeftByTrial 20 = .ok (.getfield 19, 3) := by decide +kernel
theorem dX9_daysLeftByTrial_23 : decode cX9_daysLeftByTrial 23 = .ok (.iload_n 1, 1) := by decide +kernel
theorem dX9_daysLeftByTrial_24 : decode cX9_daysLeftByTrial 24 = .ok (.invokevirtual 203, 3) := by decide +kernel
theorem dX9_daysLeftByTrial_27 : decode cX9_daysLeftByTrial 27 = .ok (.ifnull 16, 3) := by decide +kernel
theorem dX9_daysLeftByTrial_30 : decode cX9_daysLeftByTrial 30 = .ok (.aload_n 0, 1) := by decide +kernel
theorem dX9_daysLeftByTrial_31 : decode cX9_daysLeftByTrial 31 = .ok (.getfield 19, 3) := by decide +kernel
theorem dX9_daysLeftByTrial_34 : decode cX9_daysLeftByTrial 34 = .ok (.invokevirtual 261, 3) := by decide +kernel
theorem dX9_daysLeftByTrial_37 : decode cX9_daysLeftByTrial 37 = .ok (.iinc 2 1, 3) := by decide +kernel
theorem dX9_daysLeftByTrial_40 : decode cX9_daysLeftByTrial 40 = .ok (.goto (-27), 3) := by decide +kernel
theorem dX9_daysLeftByTrial_43 : decode cX9_daysLeftByTrial 43 = .ok (.iload_n 2, 1) := by decide +kernel
theorem dX9_daysLeftByTrial_44 : decode cX9_daysLeftByTrial 44 = .ok (.ireturn, 1) := by decide +kernel
theorem dX9_interestAfter_0 : decode cX9_interestAfter 0 = .ok (.aload_n 0, 1) := by decide +kernel
theorem dX9_interestAfter_1 : decode cX9_interestAfter 1 = .ok (.iload_n 1, 1) := by decide +kernel
theorem dX9_interestAfter_2 : decode cX9_interestAfter 2 = .ok (.invokevirtual 218, 3) := by decide +kernel
theorem dX9_interestAfter_5 : decode cX9_interestAfter 5 = .ok (.astore_n 3, 1) := by decide +kernel
theorem dX9_interestAfter_6 : decode cX9_interestAfter 6 = .ok (.iload_n 2, 1) := by decide +kernel
theorem dX9_interestAfter_7 : decode cX9_interestAfter 7 = .ok (.iconst 0, 1) := by decide +kernel
theorem dX9_interestAfter_8 : decode cX9_interestAfter 8 = .ok (.bipush 60, 2) := by decide +kernel
theorem dX9_interestAfter_10 : decode cX9_interestAfter 10 = .ok (.invokestatic 264, 3) := by decide +kernel
theorem dX9_interestAfter_13 : decode cX9_interestAfter 13 = .ok (.ifCond .ne 14, 3) := by decide +kernel
theorem dX9_interestAfter_16 : decode cX9_interestAfter 16 = .ok (.new 137, 3) := by decide +kernel
theorem dX9_interestAfter_19 : decode cX9_interestAfter 19 = .ok (.dup, 1) := by decide +kernel
theorem dX9_interestAfter_20 : decode cX9_interestAfter 20 = .ok (.ldc_w 268, 3) := by decide +kernel
theorem dX9_interestAfter_23 : decode cX9_interestAfter 23 = .ok (.invokespecial 141, 3) := by decide +kernel
theorem dX9_interestAfter_26 : decode cX9_interestAfter 26 = .ok (.athrow, 1) := by decide +kernel
theorem dX9_interestAfter_27 : decode cX9_interestAfter 27 = .ok (.aload_n 3, 1) := by decide +kernel
theorem dX9_interestAfter_28 : decode cX9_interestAfter 28 = .ok (.getfield 227, 3) := by decide +kernel
theorem dX9_interestAfter_31 : decode cX9_interestAfter 31 = .ok (.iload_n 2, 1) := by decide +kernel
theorem dX9_interestAfter_32 : decode cX9_interestAfter 32 = .ok (.aload_n 3, 1) := by decide +kernel
theorem dX9_interestAfter_33 : decode cX9_interestAfter 33 = .ok (.invokevirtual 270, 3) := by decide +kernel
theorem dX9_interestAfter_36 : decode cX9_interestAfter 36 = .ok (.imul, 1) := by decide +kernel
theorem dX9_interestAfter_37 : decode cX9_interestAfter 37 = .ok (.iadd, 1) := by decide +kernel
theorem dX9_interestAfter_38 : decode cX9_interestAfter 38 = .ok (.ireturn, 1) := by decide +kernel
theorem dX9_greatestPrincipal_0 : decode cX9_greatestPrincipal 0 = .ok (.aload_n 0, 1) := by decide +kernel
theorem dX9_greatestPrincipal_1 : decode cX9_greatestPrincipal 1 = .ok (.iload_n 1, 1) := by decide +kernel
theorem dX9_greatestPrincipal_2 : decode cX9_greatestPrincipal 2 = .ok (.invokevirtual 170, 3) := by decide +kernel
theorem dX9_greatestPrincipal_5 : decode cX9_greatestPrincipal 5 = .ok (.astore 4, 2) := by decide +kernel
theorem dX9_greatestPrincipal_7 : decode cX9_greatestPrincipal 7 = .ok (.iload_n 2, 1) := by decide +kernel
theorem dX9_greatestPrincipal_8 : decode cX9_greatestPrincipal 8 = .ok (.invokestatic 153, 3) := by decide +kernel
theorem dX9_greatestPrincipal_11 : decode cX9_greatestPrincipal 11 = .ok (.iload_n 3, 1) := by decide +kernel
theorem dX9_greatestPrincipal_12 : decode cX9_greatestPrincipal 12 = .ok (.iconst 1, 1) := by decide +kernel
theorem dX9_greatestPrincipal_13 : decode cX9_greatestPrincipal 13 = .ok (.bipush 99, 2) := by decide +kernel
theorem dX9_greatestPrincipal_15 : decode cX9_greatestPrincipal 15 = .ok (.invokestatic 264, 3) := by decide +kernel
theorem dX9_greatestPrincipal_18 : decode cX9_greatestPrincipal 18 = .ok (.ifCond .ne 14, 3) := by decide +kernel
theorem dX9_greatestPrincipal_21 : decode cX9_greatestPrincipal 21 = .ok (.new 137, 3) := by decide +kernel
theorem dX9_greatestPrincipal_24 : decode cX9_greatestPrincipal 24 = .ok (.dup, 1) := by decide +kernel
theorem dX9_greatestPrincipal_25 : decode cX9_greatestPrincipal 25 = .ok (.ldc_w 273, 3) := by decide +kernel
theorem dX9_greatestPrincipal_28 : decode cX9_greatestPrincipal 28 = .ok (.invokespecial 141, 3) := by decide +kernel
theorem dX9_greatestPrincipal_31 : decode cX9_greatestPrincipal 31 = .ok (.athrow, 1) := by decide +kernel
theorem dX9_greatestPrincipal_32 : decode cX9_greatestPrincipal 32 = .ok (.iconst 2, 1) := by decide +kernel
theorem dX9_greatestPrincipal_33 : decode cX9_greatestPrincipal 33 = .ok (.iload_n 3, 1) := by decide +kernel
theorem dX9_greatestPrincipal_34 : decode cX9_greatestPrincipal 34 = .ok (.imul, 1) := by decide +kernel
theorem dX9_greatestPrincipal_35 : decode cX9_greatestPrincipal 35 = .ok (.aload_n 0, 1) := by decide +kernel
theorem dX9_greatestPrincipal_36 : decode cX9_greatestPrincipal 36 = .ok (.getfield 10, 3) := by decide +kernel
theorem dX9_greatestPrincipal_39 : decode cX9_greatestPrincipal 39 = .ok (.getfield 157, 3) := by decide +kernel
theorem dX9_greatestPrincipal_42 : decode cX9_greatestPrincipal 42 = .ok (.iload_n 2, 1) := by decide +kernel
theorem dX9_greatestPrincipal_43 : decode cX9_greatestPrincipal 43 = .ok (.iaload, 1) := by decide +kernel
theorem dX9_greatestPrincipal_44 : decode cX9_greatestPrincipal 44 = .ok (.imul, 1) := by decide +kernel
theorem dX9_greatestPrincipal_45 : decode cX9_greatestPrincipal 45 = .ok (.iconst 3, 1) := by decide +kernel
theorem dX9_greatestPrincipal_46 : decode cX9_greatestPrincipal 46 = .ok (.idiv, 1) := by decide +kernel
theorem dX9_greatestPrincipal_47 : decode cX9_greatestPrincipal 47 = .ok (.istore 5, 2) := by decide +kernel
theorem dX9_greatestPrincipal_49 : decode cX9_greatestPrincipal 49 = .ok (.iload 5, 2) := by decide +kernel
theorem dX9_greatestPrincipal_51 : decode cX9_greatestPrincipal 51 = .ok (.aload_n 0, 1) := by decide +kernel
theorem dX9_greatestPrincipal_52 : decode cX9_greatestPrincipal 52 = .ok (.getfield 10, 3) := by decide +kernel
theorem dX9_greatestPrincipal_55 : decode cX9_greatestPrincipal 55 = .ok (.getfield 161, 3) := by decide +kernel
theorem dX9_greatestPrincipal_58 : decode cX9_greatestPrincipal 58 = .ok (.invokestatic 275, 3) := by decide +kernel
theorem dX9_greatestPrincipal_61 : decode cX9_greatestPrincipal 61 = .ok (.sipush 500, 3) := by decide +kernel
theorem dX9_greatestPrincipal_64 : decode cX9_greatestPrincipal 64 = .ok (.invokestatic 275, 3) := by decide +kernel
theorem dX9_greatestPrincipal_67 : decode cX9_greatestPrincipal 67 = .ok (.istore 6, 2) := by decide +kernel
theorem dX9_greatestPrincipal_69 : decode cX9_greatestPrincipal 69 = .ok (.iload 6, 2) := by decide +kernel
theorem dX9_greatestPrincipal_71 : decode cX9_greatestPrincipal 71 = .ok (.iconst 1, 1) := by decide +kernel
theorem dX9_greatestPrincipal_72 : decode cX9_greatestPrincipal 72 = .ok (.if_icmp .lt 17, 3) := by decide +kernel
theorem dX9_greatestPrincipal_75 : decode cX9_greatestPrincipal 75 = .ok (.aload_n 0, 1) := by decide +kernel
theorem dX9_greatestPrincipal_76 : decode cX9_greatestPrincipal 76 = .ok (.getfield 10, 3) := by decide +kernel
theorem dX9_greatestPrincipal_79 : decode cX9_greatestPrincipal 79 = .ok (.aload 4, 2) := by decide +kernel
theorem dX9_greatestPrincipal_81 : decode cX9_greatestPrincipal 81 = .ok (.iload_n 2, 1) := by decide +kernel
theorem dX9_greatestPrincipal_82 : decode cX9_greatestPrincipal 82 = .ok (.iload_n 3, 1) := by decide +kernel
theorem dX9_greatestPrincipal_83 : decode cX9_greatestPrincipal 83 = .ok (.invokevirtual 280, 3) := by decide +kernel
theorem dX9_greatestPrincipal_86 : decode cX9_greatestPrincipal 86 = .ok (.ifCond .ne 14, 3) := by decide +kernel
theorem dX9_greatestPrincipal_89 : decode cX9_greatestPrincipal 89 = .ok (.new 119, 3) := by decide +kernel
theorem dX9_greatestPrincipal_92 : decode cX9_greatestPrincipal 92 = .ok (.dup, 1) := by decide +kernel
theorem dX9_greatestPrincipal_93 : decode cX9_greatestPrincipal 93 = .ok (.ldc_w 284, 3) := by decide +kernel
theorem dX9_greatestPrincipal_96 : decode cX9_greatestPrincipal 96 = .ok (.invokespecial 123, 3) := by decide +kernel
theorem dX9_greatestPrincipal_99 : decode cX9_greatestPrincipal 99 = .ok (.athrow, 1) := by decide +kernel
theorem dX9_greatestPrincipal_100 : decode cX9_greatestPrincipal 100 = .ok (.iload 6, 2) := by decide +kernel
theorem dX9_greatestPrincipal_102 : decode cX9_greatestPrincipal 102 = .ok (.ireturn, 1) := by decide +kernel
theorem dX9_riskiest_0 : decode cX9_riskiest 0 = .ok (.aload_n 0, 1) := by decide +kernel
theorem dX9_riskiest_1 : decode cX9_riskiest 1 = .ok (.getfield 10, 3) := by decide +kernel
theorem dX9_riskiest_4 : decode cX9_riskiest 4 = .ok (.invokevirtual 286, 3) := by decide +kernel
theorem dX9_riskiest_7 : decode cX9_riskiest 7 = .ok (.astore_n 1, 1) := by decide +kernel
theorem dX9_riskiest_8 : decode cX9_riskiest 8 = .ok (.aload_n 1, 1) := by decide +kernel
theorem dX9_riskiest_9 : decode cX9_riskiest 9 = .ok (.ifnonnull 14, 3) := by decide +kernel
theorem dX9_riskiest_12 : decode cX9_riskiest 12 = .ok (.new 119, 3) := by decide +kernel
theorem dX9_riskiest_15 : decode cX9_riskiest 15 = .ok (.dup, 1) := by decide +kernel
theorem dX9_riskiest_16 : decode cX9_riskiest 16 = .ok (.ldc_w 290, 3) := by decide +kernel
theorem dX9_riskiest_19 : decode cX9_riskiest 19 = .ok (.invokespecial 123, 3) := by decide +kernel
theorem dX9_riskiest_22 : decode cX9_riskiest 22 = .ok (.athrow, 1) := by decide +kernel
theorem dX9_riskiest_23 : decode cX9_riskiest 23 = .ok (.aload_n 1, 1) := by decide +kernel
theorem dX9_riskiest_24 : decode cX9_riskiest 24 = .ok (.getfield 213, 3) := by decide +kernel
theorem dX9_riskiest_27 : decode cX9_riskiest 27 = .ok (.ireturn, 1) := by decide +kernel
theorem dX9_loanByDebt_0 : decode cX9_loanByDebt 0 = .ok (.aload_n 0, 1) := by decide +kernel
theorem dX9_loanByDebt_1 : decode cX9_loanByDebt 1 = .ok (.getfield 10, 3) := by decide +kernel
theorem dX9_loanByDebt_4 : decode cX9_loanByDebt 4 = .ok (.iload_n 1, 1) := by decide +kernel
theorem dX9_loanByDebt_5 : decode cX9_loanByDebt 5 = .ok (.invokevirtual 292, 3) := by decide +kernel
theorem dX9_loanByDebt_8 : decode cX9_loanByDebt 8 = .ok (.astore_n 2, 1) := by decide +kernel
theorem dX9_loanByDebt_9 : decode cX9_loanByDebt 9 = .ok (.aload_n 2, 1) := by decide +kernel
theorem dX9_loanByDebt_10 : decode cX9_loanByDebt 10 = .ok (.ifnonnull 14, 3) := by decide +kernel
theorem dX9_loanByDebt_13 : decode cX9_loanByDebt 13 = .ok (.new 119, 3) := by decide +kernel
theorem dX9_loanByDebt_16 : decode cX9_loanByDebt 16 = .ok (.dup, 1) := by decide +kernel
theorem dX9_loanByDebt_17 : decode cX9_loanByDebt 17 = .ok (.ldc_w 295, 3) := by decide +kernel
theorem dX9_loanByDebt_20 : decode cX9_loanByDebt 20 = .ok (.invokespecial 123, 3) := by decide +kernel
theorem dX9_loanByDebt_23 : decode cX9_loanByDebt 23 = .ok (.athrow, 1) := by decide +kernel
theorem dX9_loanByDebt_24 : decode cX9_loanByDebt 24 = .ok (.aload_n 2, 1) := by decide +kernel
theorem dX9_loanByDebt_25 : decode cX9_loanByDebt 25 = .ok (.getfield 213, 3) := by decide +kernel
theorem dX9_loanByDebt_28 : decode cX9_loanByDebt 28 = .ok (.ireturn, 1) := by decide +kernel
theorem dX9_ledgerSize_0 : decode cX9_ledgerSize 0 = .ok (.aload_n 0, 1) := by decide +kernel
theorem dX9_ledgerSize_1 : decode cX9_ledgerSize 1 = .ok (.getfield 10, 3) := by decide +kernel
theorem dX9_ledgerSize_4 : decode cX9_ledgerSize 4 = .ok (.getfield 297, 3) := by decide +kernel
theorem dX9_ledgerSize_7 : decode cX9_ledgerSize 7 = .ok (.getfield 301, 3) := by decide +kernel
theorem dX9_ledgerSize_10 : decode cX9_ledgerSize 10 = .ok (.ireturn, 1) := by decide +kernel
theorem dX9_ledgerAmount_0 : decode cX9_ledgerAmount 0 = .ok (.aload_n 0, 1) := by decide +kernel
theorem dX9_ledgerAmount_1 : decode cX9_ledgerAmount 1 = .ok (.getfield 10, 3) := by decide +kernel
theorem dX9_ledgerAmount_4 : decode cX9_ledgerAmount 4 = .ok (.getfield 297, 3) := by decide +kernel
theorem dX9_ledgerAmount_7 : decode cX9_ledgerAmount 7 = .ok (.iload_n 1, 1) := by decide +kernel
theorem dX9_ledgerAmount_8 : decode cX9_ledgerAmount 8 = .ok (.iload_n 2, 1) := by decide +kernel
theorem dX9_ledgerAmount_9 : decode cX9_ledgerAmount 9 = .ok (.invokevirtual 306, 3) := by decide +kernel
theorem dX9_ledgerAmount_12 : decode cX9_ledgerAmount 12 = .ok (.istore_n 3, 1) := by decide +kernel
theorem dX9_ledgerAmount_13 : decode cX9_ledgerAmount 13 = .ok (.iload_n 3, 1) := by decide +kernel
theorem dX9_ledgerAmount_14 : decode cX9_ledgerAmount 14 = .ok (.ifCond .ge 14, 3) := by decide +kernel
theorem dX9_ledgerAmount_17 : decode cX9_ledgerAmount 17 = .ok (.new 119, 3) := by decide +kernel
theorem dX9_ledgerAmount_20 : decode cX9_ledgerAmount 20 = .ok (.dup, 1) := by decide +kernel
theorem dX9_ledgerAmount_21 : decode cX9_ledgerAmount 21 = .ok (.ldc_w 309, 3) := by decide +kernel
theorem dX9_ledgerAmount_24 : decode cX9_ledgerAmount 24 = .ok (.invokespecial 123, 3) := by decide +kernel
theorem dX9_ledgerAmount_27 : decode cX9_ledgerAmount 27 = .ok (.athrow, 1) := by decide +kernel
theorem dX9_ledgerAmount_28 : decode cX9_ledgerAmount 28 = .ok (.aload_n 0, 1) := by decide +kernel
theorem dX9_ledgerAmount_29 : decode cX9_ledgerAmount 29 = .ok (.getfield 10, 3) := by decide +kernel
theorem dX9_ledgerAmount_32 : decode cX9_ledgerAmount 32 = .ok (.getfield 297, 3) := by decide +kernel
theorem dX9_ledgerAmount_35 : decode cX9_ledgerAmount 35 = .ok (.getfield 311, 3) := by decide +kernel
theorem dX9_ledgerAmount_38 : decode cX9_ledgerAmount 38 = .ok (.iload_n 3, 1) := by decide +kernel
theorem dX9_ledgerAmount_39 : decode cX9_ledgerAmount 39 = .ok (.iaload, 1) := by decide +kernel
theorem dX9_ledgerAmount_40 : decode cX9_ledgerAmount 40 = .ok (.ireturn, 1) := by decide +kernel
theorem dX9_ledgerDay_0 : decode cX9_ledgerDay 0 = .ok (.aload_n 0, 1) := by decide +kernel
theorem dX9_ledgerDay_1 : decode cX9_ledgerDay 1 = .ok (.iload_n 1, 1) := by decide +kernel
theorem dX9_ledgerDay_2 : decode cX9_ledgerDay 2 = .ok (.invokevirtual 314, 3) := by decide +kernel
theorem dX9_ledgerDay_5 : decode cX9_ledgerDay 5 = .ok (.aload_n 0, 1) := by decide +kernel
theorem dX9_ledgerDay_6 : decode cX9_ledgerDay 6 = .ok (.getfield 10, 3) := by decide +kernel
theorem dX9_ledgerDay_9 : decode cX9_ledgerDay 9 = .ok (.getfield 297, 3) := by decide +kernel
theorem dX9_ledgerDay_12 : decode cX9_ledgerDay 12 = .ok (.getfield 317, 3) := by decide +kernel
theorem dX9_ledgerDay_15 : decode cX9_ledgerDay 15 = .ok (.iload_n 1, 1) := by decide +kernel
theorem dX9_ledgerDay_16 : decode cX9_ledgerDay 16 = .ok (.iaload, 1) := by decide +kernel
theorem dX9_ledgerDay_17 : decode cX9_ledgerDay 17 = .ok (.ireturn, 1) := by decide +kernel
theorem dX9_ledgerLoan_0 : decode cX9_ledgerLoan 0 = .ok (.aload_n 0, 1) := by decide +kernel
theorem dX9_ledgerLoan_1 : decode cX9_ledgerLoan 1 = .ok (.iload_n 1, 1) := by decide +kernel
theorem dX9_ledgerLoan_2 : decode cX9_ledgerLoan 2 = .ok (.invokevirtual 314, 3) := by decide +kernel
theorem dX9_ledgerLoan_5 : decode cX9_ledgerLoan 5 = .ok (.aload_n 0, 1) := by decide +kernel
theorem dX9_ledgerLoan_6 : decode cX9_ledgerLoan 6 = .ok (.getfield 10, 3) := by decide +kernel
theorem dX9_ledgerLoan_9 : decode cX9_ledgerLoan 9 = .ok (.getfield 297, 3) := by decide +kernel
theorem dX9_ledgerLoan_12 : decode cX9_ledgerLoan 12 = .ok (.getfield 320, 3) := by decide +kernel
theorem dX9_ledgerLoan_15 : decode cX9_ledgerLoan 15 = .ok (.iload_n 1, 1) := by decide +kernel
theorem dX9_ledgerLoan_16 : decode cX9_ledgerLoan 16 = .ok (.iaload, 1) := by decide +kernel
theorem dX9_ledgerLoan_17 : decode cX9_ledgerLoan 17 = .ok (.ireturn, 1) := by decide +kernel
theorem dX9_ledgerOf_0 : decode cX9_ledgerOf 0 = .ok (.aload_n 0, 1) := by decide +kernel
theorem dX9_ledgerOf_1 : decode cX9_ledgerOf 1 = .ok (.getfield 10, 3) := by decide +kernel
theorem dX9_ledgerOf_4 : decode cX9_ledgerOf 4 = .ok (.getfield 297, 3) := by decide +kernel
theorem dX9_ledgerOf_7 : decode cX9_ledgerOf 7 = .ok (.iload_n 1, 1) := by decide +kernel
theorem dX9_ledgerOf_8 : decode cX9_ledgerOf 8 = .ok (.invokevirtual 323, 3) := by decide +kernel
theorem dX9_ledgerOf_11 : decode cX9_ledgerOf 11 = .ok (.ireturn, 1) := by decide +kernel
theorem dX9_repaidLoans_0 : decode cX9_repaidLoans 0 = .ok (.aload_n 0, 1) := by decide +kernel
theorem dX9_repaidLoans_1 : decode cX9_repaidLoans 1 = .ok (.getfield 10, 3) := by decide +kernel
theorem dX9_repaidLoans_4 : decode cX9_repaidLoans 4 = .ok (.getfield 326, 3) := by decide +kernel
theorem dX9_repaidLoans_7 : decode cX9_repaidLoans 7 = .ok (.ireturn, 1) := by decide +kernel
theorem dX9_defaultedLoans_0 : decode cX9_defaultedLoans 0 = .ok (.aload_n 0, 1) := by decide +kernel
theorem dX9_defaultedLoans_1 : decode cX9_defaultedLoans 1 = .ok (.getfield 10, 3) := by decide +kernel
theorem dX9_defaultedLoans_4 : decode cX9_defaultedLoans 4 = .ok (.getfield 329, 3) := by decide +kernel
theorem dX9_defaultedLoans_7 : decode cX9_defaultedLoans 7 = .ok (.ireturn, 1) := by decide +kernel
theorem dX9_losses_0 : decode cX9_losses 0 = .ok (.aload_n 0, 1) := by decide +kernel
theorem dX9_losses_1 : decode cX9_losses 1 = .ok (.getfield 10, 3) := by decide +kernel
theorem dX9_losses_4 : decode cX9_losses 4 = .ok (.getfield 332, 3) := by decide +kernel
theorem dX9_losses_7 : decode cX9_losses 7 = .ok (.ireturn, 1) := by decide +kernel
theorem dX9_totalCoins_0 : decode cX9_totalCoins 0 = .ok (.aload_n 0, 1) := by decide +kernel
theorem dX9_totalCoins_1 : decode cX9_totalCoins 1 = .ok (.getfield 10, 3) := by decide +kernel
theorem dX9_totalCoins_4 : decode cX9_totalCoins 4 = .ok (.invokevirtual 335, 3) := by decide +kernel
theorem dX9_totalCoins_7 : decode cX9_totalCoins 7 = .ok (.ireturn, 1) := by decide +kernel
theorem dX9_totalUnits_0 : decode cX9_totalUnits 0 = .ok (.iload_n 1, 1) := by decide +kernel
theorem dX9_totalUnits_1 : decode cX9_totalUnits 1 = .ok (.invokestatic 153, 3) := by decide +kernel
theorem dX9_totalUnits_4 : decode cX9_totalUnits 4 = .ok (.aload_n 0, 1) := by decide +kernel
theorem dX9_totalUnits_5 : decode cX9_totalUnits 5 = .ok (.getfield 10, 3) := by decide +kernel
theorem dX9_totalUnits_8 : decode cX9_totalUnits 8 = .ok (.iload_n 1, 1) := by decide +kernel
theorem dX9_totalUnits_9 : decode cX9_totalUnits 9 = .ok (.invokevirtual 338, 3) := by decide +kernel
theorem dX9_totalUnits_12 : decode cX9_totalUnits 12 = .ok (.ireturn, 1) := by decide +kernel
theorem dX9_meanDebt_0 : decode cX9_meanDebt 0 = .ok (.aload_n 0, 1) := by decide +kernel
theorem dX9_meanDebt_1 : decode cX9_meanDebt 1 = .ok (.getfield 10, 3) := by decide +kernel
theorem dX9_meanDebt_4 : decode cX9_meanDebt 4 = .ok (.getfield 200, 3) := by decide +kernel
theorem dX9_meanDebt_7 : decode cX9_meanDebt 7 = .ok (.ifCond .ne 14, 3) := by decide +kernel
theorem dX9_meanDebt_10 : decode cX9_meanDebt 10 = .ok (.new 341, 3) := by decide +kernel
theorem dX9_meanDebt_13 : decode cX9_meanDebt 13 = .ok (.dup, 1) := by decide +kernel
theorem dX9_meanDebt_14 : decode cX9_meanDebt 14 = .ok (.ldc_w 290, 3) := by decide +kernel
theorem dX9_meanDebt_17 : decode cX9_meanDebt 17 = .ok (.invokespecial 343, 3) := by decide +kernel
theorem dX9_meanDebt_20 : decode cX9_meanDebt 20 = .ok (.athrow, 1) := by decide +kernel
theorem dX9_meanDebt_21 : decode cX9_meanDebt 21 = .ok (.aload_n 0, 1) := by decide +kernel
theorem dX9_meanDebt_22 : decode cX9_meanDebt 22 = .ok (.getfield 10, 3) := by decide +kernel
theorem dX9_meanDebt_25 : decode cX9_meanDebt 25 = .ok (.invokevirtual 344, 3) := by decide +kernel
theorem dX9_meanDebt_28 : decode cX9_meanDebt 28 = .ok (.i2d, 1) := by decide +kernel
theorem dX9_meanDebt_29 : decode cX9_meanDebt 29 = .ok (.aload_n 0, 1) := by decide +kernel
theorem dX9_meanDebt_30 : decode cX9_meanDebt 30 = .ok (.getfield 10, 3) := by decide +kernel
theorem dX9_meanDebt_33 : decode cX9_meanDebt 33 = .ok (.getfield 200, 3) := by decide +kernel
theorem dX9_meanDebt_36 : decode cX9_meanDebt 36 = .ok (.i2d, 1) := by decide +kernel
theorem dX9_meanDebt_37 : decode cX9_meanDebt 37 = .ok (.ddiv, 1) := by decide +kernel
theorem dX9_meanDebt_38 : decode cX9_meanDebt 38 = .ok (.dreturn, 1) := by decide +kernel
theorem dX9_defaultShare_0 : decode cX9_defaultShare 0 = .ok (.aload_n 0, 1) := by decide +kernel
theorem dX9_defaultShare_1 : decode cX9_defaultShare 1 = .ok (.getfield 10, 3) := by decide +kernel
theorem dX9_defaultShare_4 : decode cX9_defaultShare 4 = .ok (.getfield 347, 3) := by decide +kernel
theorem dX9_defaultShare_7 : decode cX9_defaultShare 7 = .ok (.ifCond .ne 14, 3) := by decide +kernel
theorem dX9_defaultShare_10 : decode cX9_defaultShare 10 = .ok (.new 341, 3) := by decide +kernel
theorem dX9_defaultShare_13 : decode cX9_defaultShare 13 = .ok (.dup, 1) := by decide +kernel
theorem dX9_defaultShare_14 : decode cX9_defaultShare 14 = .ok (.ldc_w 350, 3) := by decide +kernel
theorem dX9_defaultShare_17 : decode cX9_defaultShare 17 = .ok (.invokespecial 343, 3) := by decide +kernel
theorem dX9_defaultShare_20 : decode cX9_defaultShare 20 = .ok (.athrow, 1) := by decide +kernel
theorem dX9_defaultShare_21 : decode cX9_defaultShare 21 = .ok (.aload_n 0, 1) := by decide +kernel
theorem dX9_defaultShare_22 : decode cX9_defaultShare 22 = .ok (.getfield 10, 3) := by decide +kernel
theorem dX9_defaultShare_25 : decode cX9_defaultShare 25 = .ok (.getfield 329, 3) := by decide +kernel
theorem dX9_defaultShare_28 : decode cX9_defaultShare 28 = .ok (.i2f, 1) := by decide +kernel
theorem dX9_defaultShare_29 : decode cX9_defaultShare 29 = .ok (.aload_n 0, 1) := by decide +kernel
theorem dX9_defaultShare_30 : decode cX9_defaultShare 30 = .ok (.getfield 10, 3) := by decide +kernel
theorem dX9_defaultShare_33 : decode cX9_defaultShare 33 = .ok (.getfield 347, 3) := by decide +kernel
theorem dX9_defaultShare_36 : decode cX9_defaultShare 36 = .ok (.i2f, 1) := by decide +kernel
theorem dX9_defaultShare_37 : decode cX9_defaultShare 37 = .ok (.fdiv, 1) := by decide +kernel
theorem dX9_defaultShare_38 : decode cX9_defaultShare 38 = .ok (.freturn, 1) := by decide +kernel
theorem dX9_isBalanced_0 : decode cX9_isBalanced 0 = .ok (.aload_n 0, 1) := by decide +kernel
theorem dX9_isBalanced_1 : decode cX9_isBalanced 1 = .ok (.getfield 10, 3) := by decide +kernel
theorem dX9_isBalanced_4 : decode cX9_isBalanced 4 = .ok (.invokevirtual 335, 3) := by decide +kernel
theorem dX9_isBalanced_7 : decode cX9_isBalanced 7 = .ok (.sipush 1000, 3) := by decide +kernel
theorem dX9_isBalanced_10 : decode cX9_isBalanced 10 = .ok (.aload_n 0, 1) := by decide +kernel
theorem dX9_isBalanced_11 : decode cX9_isBalanced 11 = .ok (.getfield 10, 3) := by decide +kernel
theorem dX9_isBalanced_14 : decode cX9_isBalanced 14 = .ok (.getfield 352, 3) := by decide +kernel
theorem dX9_isBalanced_17 : decode cX9_isBalanced 17 = .ok (.iadd, 1) := by decide +kernel
theorem dX9_isBalanced_18 : decode cX9_isBalanced 18 = .ok (.if_icmp .eq 5, 3) := by decide +kernel
theorem dX9_isBalanced_21 : decode cX9_isBalanced 21 = .ok (.iconst 0, 1) := by decide +kernel
theorem dX9_isBalanced_22 : decode cX9_isBalanced 22 = .ok (.ireturn, 1) := by decide +kernel
theorem dX9_isBalanced_23 : decode cX9_isBalanced 23 = .ok (.iconst 0, 1) := by decide +kernel
theorem dX9_isBalanced_24 : decode cX9_isBalanced 24 = .ok (.istore_n 1, 1) := by decide +kernel
theorem dX9_isBalanced_25 : decode cX9_isBalanced 25 = .ok (.iload_n 1, 1) := by decide +kernel
theorem dX9_isBalanced_26 : decode cX9_isBalanced 26 = .ok (.iconst 4, 1) := by decide +kernel
theorem dX9_isBalanced_27 : decode cX9_isBalanced 27 = .ok (.if_icmp .ge 31, 3) := by decide +kernel
theorem dX9_isBalanced_30 : decode cX9_isBalanced 30 = .ok (.aload_n 0, 1) := by decide +kernel
theorem dX9_isBalanced_31 : decode cX9_isBalanced 31 = .ok (.getfield 10, 3) := by decide +kernel
theorem dX9_isBalanced_34 : decode cX9_isBalanced 34 = .ok (.iload_n 1, 1) := by decide +kernel
theorem dX9_isBalanced_35 : decode cX9_isBalanced 35 = .ok (.invokevirtual 338, 3) := by decide +kernel
theorem dX9_isBalanced_38 : decode cX9_isBalanced 38 = .ok (.aload_n 0, 1) := by decide +kernel
theorem dX9_isBalanced_39 : decode cX9_isBalanced 39 = .ok (.getfield 10, 3) := by decide +kernel
theorem dX9_isBalanced_42 : decode cX9_isBalanced 42 = .ok (.getfield 355, 3) := by decide +kernel
theorem dX9_isBalanced_45 : decode cX9_isBalanced 45 = .ok (.iload_n 1, 1) := by decide +kernel
theorem dX9_isBalanced_46 : decode cX9_isBalanced 46 = .ok (.iaload, 1) := by decide +kernel
theorem dX9_isBalanced_47 : decode cX9_isBalanced 47 = .ok (.if_icmp .eq 5, 3) := by decide +kernel
theorem dX9_isBalanced_50 : decode cX9_isBalanced 50 = .ok (.iconst 0, 1) := by decide +kernel
theorem dX9_isBalanced_51 : decode cX9_isBalanced 51 = .ok (.ireturn, 1) := by decide +kernel
theorem dX9_isBalanced_52 : decode cX9_isBalanced 52 = .ok (.iinc 1 1, 3) := by decide +kernel
theorem dX9_isBalanced_55 : decode cX9_isBalanced 55 = .ok (.goto (-30), 3) := by decide +kernel
theorem dX9_isBalanced_58 : decode cX9_isBalanced 58 = .ok (.iconst 0, 1) := by decide +kernel
theorem dX9_isBalanced_59 : decode cX9_isBalanced 59 = .ok (.istore_n 1, 1) := by decide +kernel
theorem dX9_isBalanced_60 : decode cX9_isBalanced 60 = .ok (.iload_n 1, 1) := by decide +kernel
theorem dX9_isBalanced_61 : decode cX9_isBalanced 61 = .ok (.aload_n 0, 1) := by decide +kernel
theorem dX9_isBalanced_62 : decode cX9_isBalanced 62 = .ok (.getfield 10, 3) := by decide +kernel
theorem dX9_isBalanced_65 : decode cX9_isBalanced 65 = .ok (.getfield 200, 3) := by decide +kernel
theorem dX9_isBalanced_68 : decode cX9_isBalanced 68 = .ok (.if_icmp .ge 40, 3) := by decide +kernel
theorem dX9_isBalanced_71 : decode cX9_isBalanced 71 = .ok (.aload_n 0, 1) := by decide +kernel
theorem dX9_isBalanced_72 : decode cX9_isBalanced 72 = .ok (.getfield 10, 3) := by decide +kernel
theorem dX9_isBalanced_75 : decode cX9_isBalanced 75 = .ok (.getfield 209, 3) := by decide +kernel
theorem dX9_isBalanced_78 : decode cX9_isBalanced 78 = .ok (.iload_n 1, 1) := by decide +kernel
theorem dX9_isBalanced_79 : decode cX9_isBalanced 79 = .ok (.aaload, 1) := by decide +kernel
theorem dX9_isBalanced_80 : decode cX9_isBalanced 80 = .ok (.astore_n 2, 1) := by decide +kernel
theorem dX9_isBalanced_81 : decode cX9_isBalanced 81 = .ok (.aload_n 0, 1) := by decide +kernel
theorem dX9_isBalanced_82 : decode cX9_isBalanced 82 = .ok (.getfield 10, 3) := by decide +kernel
theorem dX9_isBalanced_85 : decode cX9_isBalanced 85 = .ok (.aload_n 2, 1) := by decide +kernel
theorem dX9_isBalanced_86 : decode cX9_isBalanced 86 = .ok (.invokevirtual 254, 3) := by decide +kernel
theorem dX9_isBalanced_89 : decode cX9_isBalanced 89 = .ok (.aload_n 0, 1) := by decide +kernel
theorem dX9_isBalanced_90 : decode cX9_isBalanced 90 = .ok (.aload_n 2, 1) := by decide +kernel
theorem dX9_isBalanced_91 : decode cX9_isBalanced 91 = .ok (.getfield 213, 3) := by decide +kernel
theorem dX9_isBalanced_94 : decode cX9_isBalanced 94 = .ok (.invokevirtual 258, 3) := by decide +kernel
theorem dX9_isBalanced_97 : decode cX9_isBalanced 97 = .ok (.if_icmp .eq 5, 3) := by decide +kernel
theorem dX9_isBalanced_100 : decode cX9_isBalanced 100 = .ok (.iconst 0, 1) := by decide +kernel
theorem dX9_isBalanced_101 : decode cX9_isBalanced 101 = .ok (.ireturn, 1) := by decide +kernel
theorem dX9_isBalanced_102 : decode cX9_isBalanced 102 = .ok (.iinc 1 1, 3) := by decide +kernel
theorem dX9_isBalanced_105 : decode cX9_isBalanced 105 = .ok (.goto (-45), 3) := by decide +kernel
theorem dX9_isBalanced_108 : decode cX9_isBalanced 108 = .ok (.iconst 1, 1) := by decide +kernel
theorem dX9_isBalanced_109 : decode cX9_isBalanced 109 = .ok (.ireturn, 1) := by decide +kernel
theorem dX9_formatLoan_0 : decode cX9_formatLoan 0 = .ok (.aload_n 0, 1) := by decide +kernel
theorem dX9_formatLoan_1 : decode cX9_formatLoan 1 = .ok (.iload_n 1, 1) := by decide +kernel
theorem dX9_formatLoan_2 : decode cX9_formatLoan 2 = .ok (.invokevirtual 218, 3) := by decide +kernel
theorem dX9_formatLoan_5 : decode cX9_formatLoan 5 = .ok (.astore_n 2, 1) := by decide +kernel
theorem dX9_formatLoan_6 : decode cX9_formatLoan 6 = .ok (.aload_n 0, 1) := by decide +kernel
theorem dX9_formatLoan_7 : decode cX9_formatLoan 7 = .ok (.getfield 46, 3) := by decide +kernel
theorem dX9_formatLoan_10 : decode cX9_formatLoan 10 = .ok (.iconst 0, 1) := by decide +kernel
theorem dX9_formatLoan_11 : decode cX9_formatLoan 11 = .ok (.invokevirtual 358, 3) := by decide +kernel
theorem dX9_formatLoan_14 : decode cX9_formatLoan 14 = .ok (.aload_n 0, 1) := by decide +kernel
theorem dX9_formatLoan_15 : decode cX9_formatLoan 15 = .ok (.getfield 46, 3) := by decide +kernel
theorem dX9_formatLoan_18 : decode cX9_formatLoan 18 = .ok (.bipush 76, 2) := by decide +kernel
theorem dX9_formatLoan_20 : decode cX9_formatLoan 20 = .ok (.invokevirtual 361, 3) := by decide +kernel
theorem dX9_formatLoan_23 : decode cX9_formatLoan 23 = .ok (.aload_n 2, 1) := by decide +kernel
theorem dX9_formatLoan_24 : decode cX9_formatLoan 24 = .ok (.getfield 213, 3) := by decide +kernel
theorem dX9_formatLoan_27 : decode cX9_formatLoan 27 = .ok (.invokevirtual 365, 3) := by decide +kernel
theorem dX9_formatLoan_30 : decode cX9_formatLoan 30 = .ok (.ldc_w 368, 3) := by decide +kernel
theorem dX9_formatLoan_33 : decode cX9_formatLoan 33 = .ok (.invokevirtual 370, 3) := by decide +kernel
theorem dX9_formatLoan_36 : decode cX9_formatLoan 36 = .ok (.aload_n 2, 1) := by decide +kernel
theorem dX9_formatLoan_37 : decode cX9_formatLoan 37 = .ok (.getfield 221, 3) := by decide +kernel
theorem dX9_formatLoan_40 : decode cX9_formatLoan 40 = .ok (.invokevirtual 365, 3) := by decide +kernel
theorem dX9_formatLoan_43 : decode cX9_formatLoan 43 = .ok (.pop, 1) := by decide +kernel
theorem dX9_formatLoan_44 : decode cX9_formatLoan 44 = .ok (.aload_n 0, 1) := by decide +kernel
theorem dX9_formatLoan_45 : decode cX9_formatLoan 45 = .ok (.getfield 46, 3) := by decide +kernel
theorem dX9_formatLoan_48 : decode cX9_formatLoan 48 = .ok (.bipush 32, 2) := by decide +kernel
theorem dX9_formatLoan_50 : decode cX9_formatLoan 50 = .ok (.invokevirtual 361, 3) := by decide +kernel
theorem dX9_formatLoan_53 : decode cX9_formatLoan 53 = .ok (.aload_n 2, 1) := by decide +kernel
theorem dX9_formatLoan_54 : decode cX9_formatLoan 54 = .ok (.getfield 224, 3) := by decide +kernel
theorem dX9_formatLoan_57 : decode cX9_formatLoan 57 = .ok (.invokevirtual 365, 3) := by decide +kernel
theorem dX9_formatLoan_60 : decode cX9_formatLoan 60 = .ok (.bipush 43, 2) := by decide +kernel
theorem dX9_formatLoan_62 : decode cX9_formatLoan 62 = .ok (.invokevirtual 361, 3) := by decide +kernel
theorem dX9_formatLoan_65 : decode cX9_formatLoan 65 = .ok (.aload_n 2, 1) := by decide +kernel
theorem dX9_formatLoan_66 : decode cX9_formatLoan 66 = .ok (.getfield 227, 3) := by decide +kernel
theorem dX9_formatLoan_69 : decode cX9_formatLoan 69 = .ok (.invokevirtual 365, 3) := by decide +kernel
theorem dX9_formatLoan_72 : decode cX9_formatLoan 72 = .ok (.pop, 1) := by decide +kernel
theorem dX9_formatLoan_73 : decode cX9_formatLoan 73 = .ok (.aload_n 0, 1) := by decide +kernel
theorem dX9_formatLoan_74 : decode cX9_formatLoan 74 = .ok (.getfield 46, 3) := by decide +kernel
theorem dX9_formatLoan_77 : decode cX9_formatLoan 77 = .ok (.ldc_w 373, 3) := by decide +kernel
theorem dX9_formatLoan_80 : decode cX9_formatLoan 80 = .ok (.invokevirtual 370, 3) := by decide +kernel
theorem dX9_formatLoan_83 : decode cX9_formatLoan 83 = .ok (.aload_n 2, 1) := by decide +kernel
theorem dX9_formatLoan_84 : decode cX9_formatLoan 84 = .ok (.getfield 234, 3) := by decide +kernel
theorem dX9_formatLoan_87 : decode cX9_formatLoan 87 = .ok (.invokevirtual 365, 3) := by decide +kernel
theorem dX9_formatLoan_90 : decode cX9_formatLoan 90 = .ok (.ldc_w 375, 3) := by decide +kernel
theorem dX9_formatLoan_93 : decode cX9_formatLoan 93 = .ok (.invokevirtual 370, 3) := by decide +kernel
theorem dX9_formatLoan_96 : decode cX9_formatLoan 96 = .ok (.aload_n 2, 1) := by decide +kernel
theorem dX9_formatLoan_97 : decode cX9_formatLoan 97 = .ok (.getfield 237, 3) := by decide +kernel
theorem dX9_formatLoan_100 : decode cX9_formatLoan 100 = .ok (.invokevirtual 365, 3) := by decide +kernel
theorem dX9_formatLoan_103 : decode cX9_formatLoan 103 = .ok (.pop, 1) := by decide +kernel
theorem dX9_formatLoan_104 : decode cX9_formatLoan 104 = .ok (.iconst 0, 1) := by decide +kernel
theorem dX9_formatLoan_105 : decode cX9_formatLoan 105 = .ok (.istore_n 3, 1) := by decide +kernel
theorem dX9_formatLoan_106 : decode cX9_formatLoan 106 = .ok (.iload_n 3, 1) := by decide +kernel
theorem dX9_formatLoan_107 : decode cX9_formatLoan 107 = .ok (.iconst 4, 1) := by decide +kernel
theorem dX9_formatLoan_108 : decode cX9_formatLoan 108 = .ok (.if_icmp .ge 46, 3) := by decide +kernel
theorem dX9_formatLoan_111 : decode cX9_formatLoan 111 = .ok (.aload_n 2, 1) := by decide +kernel
theorem dX9_formatLoan_112 : decode cX9_formatLoan 112 = .ok (.getfield 240, 3) := by decide +kernel
theorem dX9_formatLoan_115 : decode cX9_formatLoan 115 = .ok (.iload_n 3, 1) := by decide +kernel
theorem dX9_formatLoan_116 : decode cX9_formatLoan 116 = .ok (.iaload, 1) := by decide +kernel
theorem dX9_formatLoan_117 : decode cX9_formatLoan 117 = .ok (.ifCond .le 31, 3) := by decide +kernel
theorem dX9_formatLoan_120 : decode cX9_formatLoan 120 = .ok (.aload_n 0, 1) := by decide +kernel
theorem dX9_formatLoan_121 : decode cX9_formatLoan 121 = .ok (.getfield 46, 3) := by decide +kernel
theorem dX9_formatLoan_124 : decode cX9_formatLoan 124 = .ok (.bipush 32, 2) := by decide +kernel
theorem dX9_formatLoan_126 : decode cX9_formatLoan 126 = .ok (.invokevirtual 361, 3) := by decide +kernel
theorem dX9_formatLoan_129 : decode cX9_formatLoan 129 = .ok (.iload_n 3, 1) := by decide +kernel
theorem dX9_formatLoan_130 : decode cX9_formatLoan 130 = .ok (.invokevirtual 365, 3) := by decide +kernel
theorem dX9_formatLoan_133 : decode cX9_formatLoan 133 = .ok (.bipush 120, 2) := by decide +kernel
theorem dX9_formatLoan_135 : decode cX9_formatLoan 135 = .ok (.invokevirtual 361, 3) := by decide +kernel
theorem dX9_formatLoan_138 : decode cX9_formatLoan 138 = .ok (.aload_n 2, 1) := by decide +kernel
theorem dX9_formatLoan_139 : decode cX9_formatLoan 139 = .ok (.getfield 240, 3) := by decide +kernel
theorem dX9_formatLoan_142 : decode cX9_formatLoan 142 = .ok (.iload_n 3, 1) := by decide +kernel
theorem dX9_formatLoan_143 : decode cX9_formatLoan 143 = .ok (.iaload, 1) := by decide +kernel
theorem dX9_formatLoan_144 : decode cX9_formatLoan 144 = .ok (.invokevirtual 365, 3) := by decide +kernel
theorem dX9_formatLoan_147 : decode cX9_formatLoan 147 = .ok (.pop, 1) := by decide +kernel
theorem dX9_formatLoan_148 : decode cX9_formatLoan 148 = .ok (.iinc 3 1, 3) := by decide +kernel
theorem dX9_formatLoan_151 : decode cX9_formatLoan 151 = .ok (.goto (-45), 3) := by decide +kernel
theorem dX9_formatLoan_154 : decode cX9_formatLoan 154 = .ok (.aload_n 0, 1) := by decide +kernel
theorem dX9_formatLoan_155 : decode cX9_formatLoan 155 = .ok (.getfield 46, 3) := by decide +kernel
theorem dX9_formatLoan_158 : decode cX9_formatLoan 158 = .ok (.invokevirtual 377, 3) := by decide +kernel
theorem dX9_formatLoan_161 : decode cX9_formatLoan 161 = .ok (.ireturn, 1) := by decide +kernel
theorem dX9_lineChar_0 : decode cX9_lineChar 0 = .ok (.iload_n 1, 1) := by decide +kernel
theorem dX9_lineChar_1 : decode cX9_lineChar 1 = .ok (.ifCond .lt 14, 3) := by decide +kernel
theorem dX9_lineChar_4 : decode cX9_lineChar 4 = .ok (.iload_n 1, 1) := by decide +kernel
theorem dX9_lineChar_5 : decode cX9_lineChar 5 = .ok (.aload_n 0, 1) := by decide +kernel
theorem dX9_lineChar_6 : decode cX9_lineChar 6 = .ok (.getfield 46, 3) := by decide +kernel
theorem dX9_lineChar_9 : decode cX9_lineChar 9 = .ok (.invokevirtual 377, 3) := by decide +kernel
theorem dX9_lineChar_12 : decode cX9_lineChar 12 = .ok (.if_icmp .lt 14, 3) := by decide +kernel
theorem dX9_lineChar_15 : decode cX9_lineChar 15 = .ok (.new 129, 3) := by decide +kernel
theorem dX9_lineChar_18 : decode cX9_lineChar 18 = .ok (.dup, 1) := by decide +kernel
theorem dX9_lineChar_19 : decode cX9_lineChar 19 = .ok (.ldc_w 380, 3) := by decide +kernel
theorem dX9_lineChar_22 : decode cX9_lineChar 22 = .ok (.invokespecial 133, 3) := by decide +kernel
theorem dX9_lineChar_25 : decode cX9_lineChar 25 = .ok (.athrow, 1) := by decide +kernel
theorem dX9_lineChar_26 : decode cX9_lineChar 26 = .ok (.aload_n 0, 1) := by decide +kernel
theorem dX9_lineChar_27 : decode cX9_lineChar 27 = .ok (.getfield 46, 3) := by decide +kernel
theorem dX9_lineChar_30 : decode cX9_lineChar 30 = .ok (.iload_n 1, 1) := by decide +kernel
theorem dX9_lineChar_31 : decode cX9_lineChar 31 = .ok (.invokevirtual 382, 3) := by decide +kernel
theorem dX9_lineChar_34 : decode cX9_lineChar 34 = .ok (.ireturn, 1) := by decide +kernel
theorem dX9_append_0 : decode cX9_append 0 = .ok (.iload_n 1, 1) := by decide +kernel
theorem dX9_append_1 : decode cX9_append 1 = .ok (.bipush 32, 2) := by decide +kernel
theorem dX9_append_3 : decode cX9_append 3 = .ok (.if_icmp .lt 9, 3) := by decide +kernel
theorem dX9_append_6 : decode cX9_append 6 = .ok (.iload_n 1, 1) := by decide +kernel
theorem dX9_append_7 : decode cX9_append 7 = .ok (.bipush 126, 2) := by decide +kernel
theorem dX9_append_9 : decode cX9_append 9 = .ok (.if_icmp .le 14, 3) := by decide +kernel
theorem dX9_append_12 : decode cX9_append 12 = .ok (.new 137, 3) := by decide +kernel
theorem dX9_append_15 : decode cX9_append 15 = .ok (.dup, 1) := by decide +kernel
theorem dX9_append_16 : decode cX9_append 16 = .ok (.ldc_w 386, 3) := by decide +kernel
theorem dX9_append_19 : decode cX9_append 19 = .ok (.invokespecial 141, 3) := by decide +kernel
theorem dX9_append_22 : decode cX9_append 22 = .ok (.athrow, 1) := by decide +kernel
theorem dX9_append_23 : decode cX9_append 23 = .ok (.aload_n 0, 1) := by decide +kernel
theorem dX9_append_24 : decode cX9_append 24 = .ok (.getfield 50, 3) := by decide +kernel
theorem dX9_append_27 : decode cX9_append 27 = .ok (.bipush 60, 2) := by decide +kernel
theorem dX9_append_29 : decode cX9_append 29 = .ok (.if_icmp .lt 14, 3) := by decide +kernel
theorem dX9_append_32 : decode cX9_append 32 = .ok (.new 145, 3) := by decide +kernel
theorem dX9_append_35 : decode cX9_append 35 = .ok (.dup, 1) := by decide +kernel
theorem dX9_append_36 : decode cX9_append 36 = .ok (.ldc_w 388, 3) := by decide +kernel
theorem dX9_append_39 : decode cX9_append 39 = .ok (.invokespecial 149, 3) := by decide +kernel
theorem dX9_append_42 : decode cX9_append 42 = .ok (.athrow, 1) := by decide +kernel
theorem dX9_append_43 : decode cX9_append 43 = .ok (.aload_n 0, 1) := by decide +kernel
theorem dX9_append_44 : decode cX9_append 44 = .ok (.getfield 39, 3) := by decide +kernel
theorem dX9_append_47 : decode cX9_append 47 = .ok (.aload_n 0, 1) := by decide +kernel
theorem dX9_append_48 : decode cX9_append 48 = .ok (.getfield 50, 3) := by decide +kernel
theorem dX9_append_51 : decode cX9_append 51 = .ok (.iload_n 1, 1) := by decide +kernel
theorem dX9_append_52 : decode cX9_append 52 = .ok (.castore, 1) := by decide +kernel
theorem dX9_append_53 : decode cX9_append 53 = .ok (.aload_n 0, 1) := by decide +kernel
theorem dX9_append_54 : decode cX9_append 54 = .ok (.dup, 1) := by decide +kernel
theorem dX9_append_55 : decode cX9_append 55 = .ok (.getfield 50, 3) := by decide +kernel
theorem dX9_append_58 : decode cX9_append 58 = .ok (.iconst 1, 1) := by decide +kernel
theorem dX9_append_59 : decode cX9_append 59 = .ok (.iadd, 1) := by decide +kernel
theorem dX9_append_60 : decode cX9_append 60 = .ok (.putfield 50, 3) := by decide +kernel
theorem dX9_append_63 : decode cX9_append 63 = .ok (.aload_n 0, 1) := by decide +kernel
theorem dX9_append_64 : decode cX9_append 64 = .ok (.getfield 50, 3) := by decide +kernel
theorem dX9_append_67 : decode cX9_append 67 = .ok (.ireturn, 1) := by decide +kernel
theorem dX9_run_0 : decode cX9_run 0 = .ok (.aload_n 0, 1) := by decide +kernel
theorem dX9_run_1 : decode cX9_run 1 = .ok (.getfield 50, 3) := by decide +kernel
theorem dX9_run_4 : decode cX9_run 4 = .ok (.istore_n 1, 1) := by decide +kernel
theorem dX9_run_5 : decode cX9_run 5 = .ok (.aload_n 0, 1) := by decide +kernel
theorem dX9_run_6 : decode cX9_run 6 = .ok (.iconst 0, 1) := by decide +kernel
theorem dX9_run_7 : decode cX9_run 7 = .ok (.putfield 50, 3) := by decide +kernel
theorem dX9_run_10 : decode cX9_run 10 = .ok (.aload_n 0, 1) := by decide +kernel
theorem dX9_run_11 : decode cX9_run 11 = .ok (.iload_n 1, 1) := by decide +kernel
theorem dX9_run_12 : decode cX9_run 12 = .ok (.invokevirtual 390, 3) := by decide +kernel
theorem dX9_run_15 : decode cX9_run 15 = .ok (.istore_n 2, 1) := by decide +kernel
theorem dX9_run_16 : decode cX9_run 16 = .ok (.iload_n 2, 1) := by decide +kernel
theorem dX9_run_17 : decode cX9_run 17 = .ok (.iconst (-1), 1) := by decide +kernel
theorem dX9_run_18 : decode cX9_run 18 = .ok (.if_icmp .ne 25, 3) := by decide +kernel
theorem dX9_run_21 : decode cX9_run 21 = .ok (.aload_n 0, 1) := by decide +kernel
theorem dX9_run_22 : decode cX9_run 22 = .ok (.aload_n 0, 1) := by decide +kernel
theorem dX9_run_23 : decode cX9_run 23 = .ok (.getfield 35, 3) := by decide +kernel
theorem dX9_run_26 : decode cX9_run 26 = .ok (.getfield 393, 3) := by decide +kernel
theorem dX9_run_29 : decode cX9_run 29 = .ok (.putfield 58, 3) := by decide +kernel
theorem dX9_run_32 : decode cX9_run 32 = .ok (.new 137, 3) := by decide +kernel
theorem dX9_run_35 : decode cX9_run 35 = .ok (.dup, 1) := by decide +kernel
theorem dX9_run_36 : decode cX9_run 36 = .ok (.ldc_w 396, 3) := by decide +kernel
theorem dX9_run_39 : decode cX9_run 39 = .ok (.invokespecial 141, 3) := by decide +kernel
theorem dX9_run_42 : decode cX9_run 42 = .ok (.athrow, 1) := by decide +kernel
theorem dX9_run_43 : decode cX9_run 43 = .ok (.aload_n 0, 1) := by decide +kernel
theorem dX9_run_44 : decode cX9_run 44 = .ok (.getfield 16, 3) := by decide +kernel
theorem dX9_run_47 : decode cX9_run 47 = .ok (.aload_n 0, 1) := by decide +kernel
theorem dX9_run_48 : decode cX9_run 48 = .ok (.getfield 10, 3) := by decide +kernel
theorem dX9_run_51 : decode cX9_run 51 = .ok (.invokevirtual 64, 3) := by decide +kernel
theorem dX9_run_54 : decode cX9_run 54 = .ok (.aload_n 0, 1) := by decide +kernel
theorem dX9_run_55 : decode cX9_run 55 = .ok (.iload_n 1, 1) := by decide +kernel
theorem dX9_run_56 : decode cX9_run 56 = .ok (.iload_n 2, 1) := by decide +kernel
theorem dX9_run_57 : decode cX9_run 57 = .ok (.invokevirtual 398, 3) := by decide +kernel
theorem dX9_run_60 : decode cX9_run 60 = .ok (.istore_n 3, 1) := by decide +kernel
theorem dX9_run_61 : decode cX9_run 61 = .ok (.iload_n 3, 1) := by decide +kernel
theorem dX9_run_62 : decode cX9_run 62 = .ok (.iconst (-1), 1) := by decide +kernel
theorem dX9_run_63 : decode cX9_run 63 = .ok (.if_icmp .eq 30, 3) := by decide +kernel
theorem dX9_run_66 : decode cX9_run 66 = .ok (.aload_n 0, 1) := by decide +kernel
theorem dX9_run_67 : decode cX9_run 67 = .ok (.getfield 10, 3) := by decide +kernel
theorem dX9_run_70 : decode cX9_run 70 = .ok (.aload_n 0, 1) := by decide +kernel
theorem dX9_run_71 : decode cX9_run 71 = .ok (.getfield 16, 3) := by decide +kernel
theorem dX9_run_74 : decode cX9_run 74 = .ok (.invokevirtual 64, 3) := by decide +kernel
theorem dX9_run_77 : decode cX9_run 77 = .ok (.aload_n 0, 1) := by decide +kernel
theorem dX9_run_78 : decode cX9_run 78 = .ok (.iload_n 3, 1) := by decide +kernel
theorem dX9_run_79 : decode cX9_run 79 = .ok (.putfield 61, 3) := by decide +kernel
theorem dX9_run_82 : decode cX9_run 82 = .ok (.new 145, 3) := by decide +kernel
theorem dX9_run_85 : decode cX9_run 85 = .ok (.dup, 1) := by decide +kernel
theorem dX9_run_86 : decode cX9_run 86 = .ok (.ldc_w 401, 3) := by decide +kernel
theorem dX9_run_89 : decode cX9_run 89 = .ok (.invokespecial 149, 3) := by decide +kernel
theorem dX9_run_92 : decode cX9_run 92 = .ok (.athrow, 1) := by decide +kernel
theorem dX9_run_93 : decode cX9_run 93 = .ok (.aload_n 0, 1) := by decide +kernel
theorem dX9_run_94 : decode cX9_run 94 = .ok (.getfield 28, 3) := by decide +kernel
theorem dX9_run_97 : decode cX9_run 97 = .ok (.aload_n 0, 1) := by decide +kernel
theorem dX9_run_98 : decode cX9_run 98 = .ok (.getfield 16, 3) := by decide +kernel
theorem dX9_run_101 : decode cX9_run 101 = .ok (.invokevirtual 107, 3) := by decide +kernel
theorem dX9_run_104 : decode cX9_run 104 = .ok (.iload_n 2, 1) := by decide +kernel
theorem dX9_run_105 : decode cX9_run 105 = .ok (.ireturn, 1) := by decide +kernel
theorem dX9_countCommands_0 : decode cX9_countCommands 0 = .ok (.aload_n 0, 1) := by decide +kernel
theorem dX9_countCommands_1 : decode cX9_countCommands 1 = .ok (.getfield 35, 3) := by decide +kernel
theorem dX9_countCommands_4 : decode cX9_countCommands 4 = .ok (.aload_n 0, 1) := by decide +kernel
theorem dX9_countCommands_5 : decode cX9_countCommands 5 = .ok (.getfield 39, 3) := by decide +kernel
theorem dX9_countCommands_8 : decode cX9_countCommands 8 = .ok (.iload_n 1, 1) := by decide +kernel
theorem dX9_countCommands_9 : decode cX9_countCommands 9 = .ok (.invokevirtual 403, 3) := by decide +kernel
theorem dX9_countCommands_12 : decode cX9_countCommands 12 = .ok (.iconst 1, 1) := by decide +kernel
theorem dX9_countCommands_13 : decode cX9_countCommands 13 = .ok (.istore_n 2, 1) := by decide +kernel
theorem dX9_countCommands_14 : decode cX9_countCommands 14 = .ok (.iload_n 2, 1) := by decide +kernel
theorem dX9_countCommands_15 : decode cX9_countCommands 15 = .ok (.bipush 60, 2) := by decide +kernel
theorem dX9_countCommands_17 : decode cX9_countCommands 17 = .ok (.if_icmp .gt 33, 3) := by decide +kernel
theorem dX9_countCommands_20 : decode cX9_countCommands 20 = .ok (.aload_n 0, 1) := by decide +kernel
theorem dX9_countCommands_21 : decode cX9_countCommands 21 = .ok (.getfield 35, 3) := by decide +kernel
theorem dX9_countCommands_24 : decode cX9_countCommands 24 = .ok (.invokevirtual 407, 3) := by decide +kernel
theorem dX9_countCommands_27 : decode cX9_countCommands 27 = .ok (.ifCond .ne 5, 3) := by decide +kernel
theorem dX9_countCommands_30 : decode cX9_countCommands 30 = .ok (.iconst (-1), 1) := by decide +kernel
theorem dX9_countCommands_31 : decode cX9_countCommands 31 = .ok (.ireturn, 1) := by decide +kernel
theorem dX9_countCommands_32 : decode cX9_countCommands 32 = .ok (.aload_n 0, 1) := by decide +kernel
theorem dX9_countCommands_33 : decode cX9_countCommands 33 = .ok (.getfield 35, 3) := by decide +kernel
theorem dX9_countCommands_36 : decode cX9_countCommands 36 = .ok (.invokevirtual 410, 3) := by decide +kernel
theorem dX9_countCommands_39 : decode cX9_countCommands 39 = .ok (.ifCond .eq 5, 3) := by decide +kernel
theorem dX9_countCommands_42 : decode cX9_countCommands 42 = .ok (.iload_n 2, 1) := by decide +kernel
theorem dX9_countCommands_43 : decode cX9_countCommands 43 = .ok (.ireturn, 1) := by decide +kernel
theorem dX9_countCommands_44 : decode cX9_countCommands 44 = .ok (.iinc 2 1, 3) := by decide +kernel
theorem dX9_countCommands_47 : decode cX9_countCommands 47 = .ok (.goto (-33), 3) := by decide +kernel
theorem dX9_countCommands_50 : decode cX9_countCommands 50 = .ok (.iconst (-1), 1) := by decide +kernel
theorem dX9_countCommands_51 : decode cX9_countCommands 51 = .ok (.ireturn, 1) := by decide +kernel
theorem dX9_executeCommands_0 : decode cX9_executeCommands 0 = .ok (.aload_n 0, 1) := by decide +kernel
theorem dX9_executeCommands_1 : decode cX9_executeCommands 1 = .ok (.getfield 35, 3) := by decide +kernel
theorem dX9_executeCommands_4 : decode cX9_executeCommands 4 = .ok (.aload_n 0, 1) := by decide +kernel
theorem dX9_executeCommands_5 : decode cX9_executeCommands 5 = .ok (.getfield 39, 3) := by decide +kernel
theorem dX9_executeCommands_8 : decode cX9_executeCommands 8 = .ok (.iload_n 1, 1) := by decide +kernel
theorem dX9_executeCommands_9 : decode cX9_executeCommands 9 = .ok (.invokevirtual 403, 3) := by decide +kernel
theorem dX9_executeCommands_12 : decode cX9_executeCommands 12 = .ok (.iconst 0, 1) := by decide +kernel
theorem dX9_executeCommands_13 : decode cX9_executeCommands 13 = .ok (.istore_n 3, 1) := by decide +kernel
theorem dX9_executeCommands_14 : decode cX9_executeCommands 14 = .ok (.iload_n 3, 1) := by decide +kernel
theorem dX9_executeCommands_15 : decode cX9_executeCommands 15 = .ok (.iload_n 2, 1) := by decide +kernel
theorem dX9_executeCommands_16 : decode cX9_executeCommands 16 = .ok (.if_icmp .ge 48, 3) := by decide +kernel
theorem dX9_executeCommands_19 : decode cX9_executeCommands 19 = .ok (.aload_n 0, 1) := by decide +kernel
theorem dX9_executeCommands_20 : decode cX9_executeCommands 20 = .ok (.getfield 35, 3) := by decide +kernel
theorem dX9_executeCommands_23 : decode cX9_executeCommands 23 = .ok (.invokevirtual 407, 3) := by decide +kernel
theorem dX9_executeCommands_26 : decode cX9_executeCommands 26 = .ok (.ifCond .eq 30, 3) := by decide +kernel
theorem dX9_executeCommands_29 : decode cX9_executeCommands 29 = .ok (.aload_n 0, 1) := by decide +kernel
theorem dX9_executeCommands_30 : decode cX9_executeCommands 30 = .ok (.getfield 10, 3) := by decide +kernel
theorem dX9_executeCommands_33 : decode cX9_executeCommands 33 = .ok (.aload_n 0, 1) := by decide +kernel
theorem dX9_executeCommands_34 : decode cX9_executeCommands 34 = .ok (.getfield 35, 3) := by decide +kernel
theorem dX9_executeCommands_37 : decode cX9_executeCommands 37 = .ok (.getfield 413, 3) := by decide +kernel
theorem dX9_executeCommands_40 : decode cX9_executeCommands 40 = .ok (.aload_n 0, 1) := by decide +kernel
theorem dX9_executeCommands_41 : decode cX9_executeCommands 41 = .ok (.getfield 35, 3) := by decide +kernel
theorem dX9_executeCommands_44 : decode cX9_executeCommands 44 = .ok (.getfield 417, 3) := by decide +kernel
theorem dX9_executeCommands_47 : decode cX9_executeCommands 47 = .ok (.invokevirtual 420, 3) := by decide +kernel
theorem dX9_executeCommands_50 : decode cX9_executeCommands 50 = .ok (.getstatic 424, 3) := by decide +kernel
theorem dX9_executeCommands_53 : decode cX9_executeCommands 53 = .ok (.if_acmp .eq 5, 3) := by decide +kernel
theorem dX9_executeCommands_56 : decode cX9_executeCommands 56 = .ok (.iload_n 3, 1) := by decide +kernel
theorem dX9_executeCommands_57 : decode cX9_executeCommands 57 = .ok (.ireturn, 1) := by decide +kernel
theorem dX9_executeCommands_58 : decode cX9_executeCommands 58 = .ok (.iinc 3 1, 3) := by decide +kernel
theorem dX9_executeCommands_61 : decode cX9_executeCommands 61 = .ok (.goto (-47), 3) := by decide +kernel
theorem dX9_executeCommands_64 : decode cX9_executeCommands 64 = .ok (.iconst (-1), 1) := by decide +kernel
theorem dX9_executeCommands_65 : decode cX9_executeCommands 65 = .ok (.ireturn, 1) := by decide +kernel
theorem dX9_errorPosition_0 : decode cX9_errorPosition 0 = .ok (.aload_n 0, 1) := by decide +kernel
theorem dX9_errorPosition_1 : decode cX9_errorPosition 1 = .ok (.getfield 58, 3) := by decide +kernel
theorem dX9_errorPosition_4 : decode cX9_errorPosition 4 = .ok (.iconst (-1), 1) := by decide +kernel
theorem dX9_errorPosition_5 : decode cX9_errorPosition 5 = .ok (.if_icmp .ne 14, 3) := by decide +kernel
theorem dX9_errorPosition_8 : decode cX9_errorPosition 8 = .ok (.new 119, 3) := by decide +kernel
theorem dX9_errorPosition_11 : decode cX9_errorPosition 11 = .ok (.dup, 1) := by decide +kernel
theorem dX9_errorPosition_12 : decode cX9_errorPosition 12 = .ok (.ldc_w 427, 3) := by decide +kernel
theorem dX9_errorPosition_15 : decode cX9_errorPosition 15 = .ok (.invokespecial 123, 3) := by decide +kernel
theorem dX9_errorPosition_18 : decode cX9_errorPosition 18 = .ok (.athrow, 1) := by decide +kernel
theorem dX9_errorPosition_19 : decode cX9_errorPosition 19 = .ok (.aload_n 0, 1) := by decide +kernel
theorem dX9_errorPosition_20 : decode cX9_errorPosition 20 = .ok (.getfield 58, 3) := by decide +kernel
theorem dX9_errorPosition_23 : decode cX9_errorPosition 23 = .ok (.ireturn, 1) := by decide +kernel
theorem dX9_failedCommand_0 : decode cX9_failedCommand 0 = .ok (.aload_n 0, 1) := by decide +kernel
theorem dX9_failedCommand_1 : decode cX9_failedCommand 1 = .ok (.getfield 61, 3) := by decide +kernel
theorem dX9_failedCommand_4 : decode cX9_failedCommand 4 = .ok (.iconst (-1), 1) := by decide +kernel
theorem dX9_failedCommand_5 : decode cX9_failedCommand 5 = .ok (.if_icmp .ne 14, 3) := by decide +kernel
theorem dX9_failedCommand_8 : decode cX9_failedCommand 8 = .ok (.new 119, 3) := by decide +kernel
theorem dX9_failedCommand_11 : decode cX9_failedCommand 11 = .ok (.dup, 1) := by decide +kernel
theorem dX9_failedCommand_12 : decode cX9_failedCommand 12 = .ok (.ldc_w 429, 3) := by decide +kernel
theorem dX9_failedCommand_15 : decode cX9_failedCommand 15 = .ok (.invokespecial 123, 3) := by decide +kernel
theorem dX9_failedCommand_18 : decode cX9_failedCommand 18 = .ok (.athrow, 1) := by decide +kernel
theorem dX9_failedCommand_19 : decode cX9_failedCommand 19 = .ok (.aload_n 0, 1) := by decide +kernel
theorem dX9_failedCommand_20 : decode cX9_failedCommand 20 = .ok (.getfield 61, 3) := by decide +kernel
theorem dX9_failedCommand_23 : decode cX9_failedCommand 23 = .ok (.ireturn, 1) := by decide +kernel
theorem dX9_undoableCount_0 : decode cX9_undoableCount 0 = .ok (.aload_n 0, 1) := by decide +kernel
theorem dX9_undoableCount_1 : decode cX9_undoableCount 1 = .ok (.getfield 28, 3) := by decide +kernel
theorem dX9_undoableCount_4 : decode cX9_undoableCount 4 = .ok (.getfield 431, 3) := by decide +kernel
theorem dX9_undoableCount_7 : decode cX9_undoableCount 7 = .ok (.ireturn, 1) := by decide +kernel
theorem dX9_undo_0 : decode cX9_undo 0 = .ok (.aload_n 0, 1) := by decide +kernel
theorem dX9_undo_1 : decode cX9_undo 1 = .ok (.getfield 28, 3) := by decide +kernel
theorem dX9_undo_4 : decode cX9_undo 4 = .ok (.getfield 431, 3) := by decide +kernel
theorem dX9_undo_7 : decode cX9_undo 7 = .ok (.ifCond .ne 14, 3) := by decide +kernel
theorem dX9_undo_10 : decode cX9_undo 10 = .ok (.new 145, 3) := by decide +kernel
theorem dX9_undo_13 : decode cX9_undo 13 = .ok (.dup, 1) := by decide +kernel
theorem dX9_undo_14 : decode cX9_undo 14 = .ok (.ldc_w 434, 3) := by decide +kernel
theorem dX9_undo_17 : decode cX9_undo 17 = .ok (.invokespecial 149, 3) := by decide +kernel
theorem dX9_undo_20 : decode cX9_undo 20 = .ok (.athrow, 1) := by decide +kernel
theorem dX9_undo_21 : decode cX9_undo 21 = .ok (.aload_n 0, 1) := by decide +kernel
theorem dX9_undo_22 : decode cX9_undo 22 = .ok (.getfield 28, 3) := by decide +kernel
theorem dX9_undo_25 : decode cX9_undo 25 = .ok (.aload_n 0, 1) := by decide +kernel
theorem dX9_undo_26 : decode cX9_undo 26 = .ok (.getfield 10, 3) := by decide +kernel
theorem dX9_undo_29 : decode cX9_undo 29 = .ok (.invokevirtual 436, 3) := by decide +kernel
theorem dX9_undo_32 : decode cX9_undo 32 = .ok (.aload_n 0, 1) := by decide +kernel
theorem dX9_undo_33 : decode cX9_undo 33 = .ok (.getfield 28, 3) := by decide +kernel
theorem dX9_undo_36 : decode cX9_undo 36 = .ok (.getfield 431, 3) := by decide +kernel
theorem dX9_undo_39 : decode cX9_undo 39 = .ok (.ireturn, 1) := by decide +kernel
theorem dX9_save_0 : decode cX9_save 0 = .ok (.aload_n 0, 1) := by decide +kernel
theorem dX9_save_1 : decode cX9_save 1 = .ok (.getfield 22, 3) := by decide +kernel
theorem dX9_save_4 : decode cX9_save 4 = .ok (.aload_n 0, 1) := by decide +kernel
theorem dX9_save_5 : decode cX9_save 5 = .ok (.getfield 10, 3) := by decide +kernel
theorem dX9_save_8 : decode cX9_save 8 = .ok (.invokevirtual 64, 3) := by decide +kernel
theorem dX9_save_11 : decode cX9_save 11 = .ok (.aload_n 0, 1) := by decide +kernel
theorem dX9_save_12 : decode cX9_save 12 = .ok (.iconst 1, 1) := by decide +kernel
theorem dX9_save_13 : decode cX9_save 13 = .ok (.putfield 54, 3) := by decide +kernel
theorem dX9_save_16 : decode cX9_save 16 = .ok (.aload_n 0, 1) := by decide +kernel
theorem dX9_save_17 : decode cX9_save 17 = .ok (.getfield 10, 3) := by decide +kernel
theorem dX9_save_20 : decode cX9_save 20 = .ok (.getfield 200, 3) := by decide +kernel
theorem dX9_save_23 : decode cX9_save 23 = .ok (.ireturn, 1) := by decide +kernel
theorem dX9_restore_0 : decode cX9_restore 0 = .ok (.aload_n 0, 1) := by decide +kernel
theorem dX9_restore_1 : decode cX9_restore 1 = .ok (.getfield 54, 3) := by decide +kernel
theorem dX9_restore_4 : decode cX9_restore 4 = .ok (.ifCond .ne 14, 3) := by decide +kernel
theorem dX9_restore_7 : decode cX9_restore 7 = .ok (.new 145, 3) := by decide +kernel
theorem dX9_restore_10 : decode cX9_restore 10 = .ok (.dup, 1) := by decide +kernel
theorem dX9_restore_11 : decode cX9_restore 11 = .ok (.ldc_w 439, 3) := by decide +kernel
theorem dX9_restore_14 : decode cX9_restore 14 = .ok (.invokespecial 149, 3) := by decide +kernel
theorem dX9_restore_17 : decode cX9_restore 17 = .ok (.athrow, 1) := by decide +kernel
theorem dX9_restore_18 : decode cX9_restore 18 = .ok (.aload_n 0, 1) := by decide +kernel
theorem dX9_restore_19 : decode cX9_restore 19 = .ok (.getfield 10, 3) := by decide +kernel
theorem dX9_restore_22 : decode cX9_restore 22 = .ok (.aload_n 0, 1) := by decide +kernel
theorem dX9_restore_23 : decode cX9_restore 23 = .ok (.getfield 22, 3) := by decide +kernel
theorem dX9_restore_26 : decode cX9_restore 26 = .ok (.invokevirtual 64, 3) := by decide +kernel
theorem dX9_restore_29 : decode cX9_restore 29 = .ok (.aload_n 0, 1) := by decide +kernel
theorem dX9_restore_30 : decode cX9_restore 30 = .ok (.getfield 28, 3) := by decide +kernel
theorem dX9_restore_33 : decode cX9_restore 33 = .ok (.invokevirtual 441, 3) := by decide +kernel
theorem dX9_restore_36 : decode cX9_restore 36 = .ok (.aload_n 0, 1) := by decide +kernel
theorem dX9_restore_37 : decode cX9_restore 37 = .ok (.getfield 10, 3) := by decide +kernel
theorem dX9_restore_40 : decode cX9_restore 40 = .ok (.getfield 200, 3) := by decide +kernel
theorem dX9_restore_43 : decode cX9_restore 43 = .ok (.ireturn, 1) := by decide +kernel
theorem dX9_requireKind_0 : decode cX9_requireKind 0 = .ok (.iload_n 0, 1) := by decide +kernel
theorem dX9_requireKind_1 : decode cX9_requireKind 1 = .ok (.invokestatic 444, 3) := by decide +kernel
theorem dX9_requireKind_4 : decode cX9_requireKind 4 = .ok (.ifCond .ne 14, 3) := by decide +kernel
theorem dX9_requireKind_7 : decode cX9_requireKind 7 = .ok (.new 129, 3) := by decide +kernel
theorem dX9_requireKind_10 : decode cX9_requireKind 10 = .ok (.dup, 1) := by decide +kernel
theorem dX9_requireKind_11 : decode cX9_requireKind 11 = .ok (.ldc_w 448, 3) := by decide +kernel
theorem dX9_requireKind_14 : decode cX9_requireKind 14 = .ok (.invokespecial 133, 3) := by decide +kernel
theorem dX9_requireKind_17 : decode cX9_requireKind 17 = .ok (.athrow, 1) := by decide +kernel
theorem dX9_requireKind_18 : decode cX9_requireKind 18 = .ok (.return_, 1) := by decide +kernel
theorem dX9_requireBorrower_0 : decode cX9_requireBorrower 0 = .ok (.aload_n 0, 1) := by decide +kernel
theorem dX9_requireBorrower_1 : decode cX9_requireBorrower 1 = .ok (.getfield 10, 3) := by decide +kernel
theorem dX9_requireBorrower_4 : decode cX9_requireBorrower 4 = .ok (.iload_n 1, 1) := by decide +kernel
theorem dX9_requireBorrower_5 : decode cX9_requireBorrower 5 = .ok (.invokevirtual 450, 3) := by decide +kernel
theorem dX9_requireBorrower_8 : decode cX9_requireBorrower 8 = .ok (.astore_n 2, 1) := by decide +kernel
theorem dX9_requireBorrower_9 : decode cX9_requireBorrower 9 = .ok (.aload_n 2, 1) := by decide +kernel
theorem dX9_requireBorrower_10 : decode cX9_requireBorrower 10 = .ok (.ifnonnull 14, 3) := by decide +kernel
theorem dX9_requireBorrower_13 : decode cX9_requireBorrower 13 = .ok (.new 129, 3) := by decide +kernel
theorem dX9_requireBorrower_16 : decode cX9_requireBorrower 16 = .ok (.dup, 1) := by decide +kernel
theorem dX9_requireBorrower_17 : decode cX9_requireBorrower 17 = .ok (.ldc_w 453, 3) := by decide +kernel
theorem dX9_requireBorrower_20 : decode cX9_requireBorrower 20 = .ok (.invokespecial 133, 3) := by decide +kernel
theorem dX9_requireBorrower_23 : decode cX9_requireBorrower 23 = .ok (.athrow, 1) := by decide +kernel
theorem dX9_requireBorrower_24 : decode cX9_requireBorrower 24 = .ok (.aload_n 2, 1) := by decide +kernel
theorem dX9_requireBorrower_25 : decode cX9_requireBorrower 25 = .ok (.areturn, 1) := by decide +kernel
theorem dX9_requireLoan_0 : decode cX9_requireLoan 0 = .ok (.aload_n 0, 1) := by decide +kernel
theorem dX9_requireLoan_1 : decode cX9_requireLoan 1 = .ok (.getfield 10, 3) := by decide +kernel
theorem dX9_requireLoan_4 : decode cX9_requireLoan 4 = .ok (.iload_n 1, 1) := by decide +kernel
theorem dX9_requireLoan_5 : decode cX9_requireLoan 5 = .ok (.invokevirtual 203, 3) := by decide +kernel
theorem dX9_requireLoan_8 : decode cX9_requireLoan 8 = .ok (.astore_n 2, 1) := by decide +kernel
theorem dX9_requireLoan_9 : decode cX9_requireLoan 9 = .ok (.aload_n 2, 1) := by decide +kernel
theorem dX9_requireLoan_10 : decode cX9_requireLoan 10 = .ok (.ifnonnull 14, 3) := by decide +kernel
theorem dX9_requireLoan_13 : decode cX9_requireLoan 13 = .ok (.new 119, 3) := by decide +kernel
theorem dX9_requireLoan_16 : decode cX9_requireLoan 16 = .ok (.dup, 1) := by decide +kernel
theorem dX9_requireLoan_17 : decode cX9_requireLoan 17 = .ok (.ldc_w 455, 3) := by decide +kernel
theorem dX9_requireLoan_20 : decode cX9_requireLoan 20 = .ok (.invokespecial 123, 3) := by decide +kernel
theorem dX9_requireLoan_23 : decode cX9_requireLoan 23 = .ok (.athrow, 1) := by decide +kernel
theorem dX9_requireLoan_24 : decode cX9_requireLoan 24 = .ok (.aload_n 2, 1) := by decide +kernel
theorem dX9_requireLoan_25 : decode cX9_requireLoan 25 = .ok (.areturn, 1) := by decide +kernel
theorem dX9_requireEntry_0 : decode cX9_requireEntry 0 = .ok (.iload_n 1, 1) := by decide +kernel
theorem dX9_requireEntry_1 : decode cX9_requireEntry 1 = .ok (.ifCond .lt 17, 3) := by decide +kernel
theorem dX9_requireEntry_4 : decode cX9_requireEntry 4 = .ok (.iload_n 1, 1) := by decide +kernel
theorem dX9_requireEntry_5 : decode cX9_requireEntry 5 = .ok (.aload_n 0, 1) := by decide +kernel
theorem dX9_requireEntry_6 : decode cX9_requireEntry 6 = .ok (.getfield 10, 3) := by decide +kernel
theorem dX9_requireEntry_9 : decode cX9_requireEntry 9 = .ok (.getfield 297, 3) := by decide +kernel
theorem dX9_requireEntry_12 : decode cX9_requireEntry 12 = .ok (.getfield 301, 3) := by decide +kernel
theorem dX9_requireEntry_15 : decode cX9_requireEntry 15 = .ok (.if_icmp .lt 14, 3) := by decide +kernel
theorem dX9_requireEntry_18 : decode cX9_requireEntry 18 = .ok (.new 119, 3) := by decide +kernel
theorem dX9_requireEntry_21 : decode cX9_requireEntry 21 = .ok (.dup, 1) := by decide +kernel
theorem dX9_requireEntry_22 : decode cX9_requireEntry 22 = .ok (.ldc_w 457, 3) := by decide +kernel
theorem dX9_requireEntry_25 : decode cX9_requireEntry 25 = .ok (.invokespecial 123, 3) := by decide +kernel
theorem dX9_requireEntry_28 : decode cX9_requireEntry 28 = .ok (.athrow, 1) := by decide +kernel
theorem dX9_requireEntry_29 : decode cX9_requireEntry 29 = .ok (.return_, 1) := by decide +kernel
theorem dX9_isKind_0 : decode cX9_isKind 0 = .ok (.iload_n 0, 1) := by decide +kernel
theorem dX9_isKind_1 : decode cX9_isKind 1 = .ok (.ifCond .lt 12, 3) := by decide +kernel
theorem dX9_isKind_4 : decode cX9_isKind 4 = .ok (.iload_n 0, 1) := by decide +kernel
theorem dX9_isKind_5 : decode cX9_isKind 5 = .ok (.iconst 4, 1) := by decide +kernel
theorem dX9_isKind_6 : decode cX9_isKind 6 = .ok (.if_icmp .ge 7, 3) := by decide +kernel
theorem dX9_isKind_9 : decode cX9_isKind 9 = .ok (.iconst 1, 1) := by decide +kernel
theorem dX9_isKind_10 : decode cX9_isKind 10 = .ok (.goto 4, 3) := by decide +kernel
theorem dX9_isKind_13 : decode cX9_isKind 13 = .ok (.iconst 0, 1) := by decide +kernel
theorem dX9_isKind_14 : decode cX9_isKind 14 = .ok (.ireturn, 1) := by decide +kernel
theorem dX9_isWithin_0 : decode cX9_isWithin 0 = .ok (.iload_n 0, 1) := by decide +kernel
theorem dX9_isWithin_1 : decode cX9_isWithin 1 = .ok (.iload_n 1, 1) := by decide +kernel
theorem dX9_isWithin_2 : decode cX9_isWithin 2 = .ok (.if_icmp .lt 12, 3) := by decide +kernel
theorem dX9_isWithin_5 : decode cX9_isWithin 5 = .ok (.iload_n 0, 1) := by decide +kernel
theorem dX9_isWithin_6 : decode cX9_isWithin 6 = .ok (.iload_n 2, 1) := by decide +kernel
theorem dX9_isWithin_7 : decode cX9_isWithin 7 = .ok (.if_icmp .gt 7, 3) := by decide +kernel
theorem dX9_isWithin_10 : decode cX9_isWithin 10 = .ok (.iconst 1, 1) := by decide +kernel
theorem dX9_isWithin_11 : decode cX9_isWithin 11 = .ok (.goto 4, 3) := by decide +kernel
theorem dX9_isWithin_14 : decode cX9_isWithin 14 = .ok (.iconst 0, 1) := by decide +kernel
theorem dX9_isWithin_15 : decode cX9_isWithin 15 = .ok (.ireturn, 1) := by decide +kernel
theorem dX9_covers_0 : decode cX9_covers 0 = .ok (.iconst 3, 1) := by decide +kernel
theorem dX9_covers_1 : decode cX9_covers 1 = .ok (.iload_n 0, 1) := by decide +kernel
theorem dX9_covers_2 : decode cX9_covers 2 = .ok (.imul, 1) := by decide +kernel
theorem dX9_covers_3 : decode cX9_covers 3 = .ok (.iconst 2, 1) := by decide +kernel
theorem dX9_covers_4 : decode cX9_covers 4 = .ok (.iload_n 1, 1) := by decide +kernel
theorem dX9_covers_5 : decode cX9_covers 5 = .ok (.imul, 1) := by decide +kernel
theorem dX9_covers_6 : decode cX9_covers 6 = .ok (.if_icmp .gt 7, 3) := by decide +kernel
theorem dX9_covers_9 : decode cX9_covers 9 = .ok (.iconst 1, 1) := by decide +kernel
theorem dX9_covers_10 : decode cX9_covers 10 = .ok (.goto 4, 3) := by decide +kernel
theorem dX9_covers_13 : decode cX9_covers 13 = .ok (.iconst 0, 1) := by decide +kernel
theorem dX9_covers_14 : decode cX9_covers 14 = .ok (.ireturn, 1) := by decide +kernel
theorem dX9_quotientUp_0 : decode cX9_quotientUp 0 = .ok (.iload_n 1, 1) := by decide +kernel
theorem dX9_quotientUp_1 : decode cX9_quotientUp 1 = .ok (.ifCond .gt 7, 3) := by decide +kernel
theorem dX9_quotientUp_4 : decode cX9_quotientUp 4 = .ok (.iconst 0, 1) := by decide +kernel
theorem dX9_quotientUp_5 : decode cX9_quotientUp 5 = .ok (.goto 10, 3) := by decide +kernel
theorem dX9_quotientUp_8 : decode cX9_quotientUp 8 = .ok (.iload_n 0, 1) := by decide +kernel
theorem dX9_quotientUp_9 : decode cX9_quotientUp 9 = .ok (.iload_n 1, 1) := by decide +kernel
theorem dX9_quotientUp_10 : decode cX9_quotientUp 10 = .ok (.iadd, 1) := by decide +kernel
theorem dX9_quotientUp_11 : decode cX9_quotientUp 11 = .ok (.iconst 1, 1) := by decide +kernel
theorem dX9_quotientUp_12 : decode cX9_quotientUp 12 = .ok (.isub, 1) := by decide +kernel
theorem dX9_quotientUp_13 : decode cX9_quotientUp 13 = .ok (.iload_n 1, 1) := by decide +kernel
theorem dX9_quotientUp_14 : decode cX9_quotientUp 14 = .ok (.idiv, 1) := by decide +kernel
theorem dX9_quotientUp_15 : decode cX9_quotientUp 15 = .ok (.ireturn, 1) := by decide +kernel
