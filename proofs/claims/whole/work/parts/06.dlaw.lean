theorem dL_addBorrower_0 : decode cL_addBorrower 0 = .ok (.aload_n 2, 1) := by decide +kernel
theorem dL_addBorrower_1 : decode cL_addBorrower 1 = .ok (.iconst 0, 1) := by decide +kernel
theorem dL_addBorrower_2 : decode cL_addBorrower 2 = .ok (.aload_n 0, 1) := by decide +kernel
theorem dL_addBorrower_3 : decode cL_addBorrower 3 = .ok (.iload_n 1, 1) := by decide +kernel
theorem dL_addBorrower_4 : decode cL_addBorrower 4 = .ok (.invokevirtual 7, 3) := by decide +kernel
theorem dL_addBorrower_7 : decode cL_addBorrower 7 = .ok (.i2l, 1) := by decide +kernel
theorem dL_addBorrower_8 : decode cL_addBorrower 8 = .ok (.lastore, 1) := by decide +kernel
theorem dL_addBorrower_9 : decode cL_addBorrower 9 = .ok (.goto 9, 3) := by decide +kernel
theorem dL_addBorrower_12 : decode cL_addBorrower 12 = .ok (.astore_n 3, 1) := by decide +kernel
theorem dL_addBorrower_13 : decode cL_addBorrower 13 = .ok (.iconst 1, 1) := by decide +kernel
theorem dL_addBorrower_14 : decode cL_addBorrower 14 = .ok (.ireturn, 1) := by decide +kernel
theorem dL_addBorrower_15 : decode cL_addBorrower 15 = .ok (.astore_n 3, 1) := by decide +kernel
theorem dL_addBorrower_16 : decode cL_addBorrower 16 = .ok (.iconst 2, 1) := by decide +kernel
theorem dL_addBorrower_17 : decode cL_addBorrower 17 = .ok (.ireturn, 1) := by decide +kernel
theorem dL_addBorrower_18 : decode cL_addBorrower 18 = .ok (.iconst 0, 1) := by decide +kernel
theorem dL_addBorrower_19 : decode cL_addBorrower 19 = .ok (.ireturn, 1) := by decide +kernel
theorem dL_bring_0 : decode cL_bring 0 = .ok (.aload 4, 2) := by decide +kernel
theorem dL_bring_2 : decode cL_bring 2 = .ok (.iconst 0, 1) := by decide +kernel
theorem dL_bring_3 : decode cL_bring 3 = .ok (.aload_n 0, 1) := by decide +kernel
theorem dL_bring_4 : decode cL_bring 4 = .ok (.iload_n 1, 1) := by decide +kernel
theorem dL_bring_5 : decode cL_bring 5 = .ok (.iload_n 2, 1) := by decide +kernel
theorem dL_bring_6 : decode cL_bring 6 = .ok (.iload_n 3, 1) := by decide +kernel
theorem dL_bring_7 : decode cL_bring 7 = .ok (.invokevirtual 17, 3) := by decide +kernel
theorem dL_bring_10 : decode cL_bring 10 = .ok (.i2l, 1) := by decide +kernel
theorem dL_bring_11 : decode cL_bring 11 = .ok (.lastore, 1) := by decide +kernel
theorem dL_bring_12 : decode cL_bring 12 = .ok (.goto 15, 3) := by decide +kernel
theorem dL_bring_15 : decode cL_bring 15 = .ok (.astore 5, 2) := by decide +kernel
theorem dL_bring_17 : decode cL_bring 17 = .ok (.iconst 1, 1) := by decide +kernel
theorem dL_bring_18 : decode cL_bring 18 = .ok (.ireturn, 1) := by decide +kernel
theorem dL_bring_19 : decode cL_bring 19 = .ok (.astore 5, 2) := by decide +kernel
theorem dL_bring_21 : decode cL_bring 21 = .ok (.iconst 2, 1) := by decide +kernel
theorem dL_bring_22 : decode cL_bring 22 = .ok (.ireturn, 1) := by decide +kernel
theorem dL_bring_23 : decode cL_bring 23 = .ok (.astore 5, 2) := by decide +kernel
theorem dL_bring_25 : decode cL_bring 25 = .ok (.iconst 3, 1) := by decide +kernel
theorem dL_bring_26 : decode cL_bring 26 = .ok (.ireturn, 1) := by decide +kernel
theorem dL_bring_27 : decode cL_bring 27 = .ok (.iconst 0, 1) := by decide +kernel
theorem dL_bring_28 : decode cL_bring 28 = .ok (.ireturn, 1) := by decide +kernel
theorem dL_setPrice_0 : decode cL_setPrice 0 = .ok (.aload_n 3, 1) := by decide +kernel
theorem dL_setPrice_1 : decode cL_setPrice 1 = .ok (.iconst 0, 1) := by decide +kernel
theorem dL_setPrice_2 : decode cL_setPrice 2 = .ok (.aload_n 0, 1) := by decide +kernel
theorem dL_setPrice_3 : decode cL_setPrice 3 = .ok (.iload_n 1, 1) := by decide +kernel
theorem dL_setPrice_4 : decode cL_setPrice 4 = .ok (.iload_n 2, 1) := by decide +kernel
theorem dL_setPrice_5 : decode cL_setPrice 5 = .ok (.invokevirtual 23, 3) := by decide +kernel
theorem dL_setPrice_8 : decode cL_setPrice 8 = .ok (.i2l, 1) := by decide +kernel
theorem dL_setPrice_9 : decode cL_setPrice 9 = .ok (.lastore, 1) := by decide +kernel
theorem dL_setPrice_10 : decode cL_setPrice 10 = .ok (.goto 11, 3) := by decide +kernel
theorem dL_setPrice_13 : decode cL_setPrice 13 = .ok (.astore 4, 2) := by decide +kernel
theorem dL_setPrice_15 : decode cL_setPrice 15 = .ok (.iconst 1, 1) := by decide +kernel
theorem dL_setPrice_16 : decode cL_setPrice 16 = .ok (.ireturn, 1) := by decide +kernel
theorem dL_setPrice_17 : decode cL_setPrice 17 = .ok (.astore 4, 2) := by decide +kernel
theorem dL_setPrice_19 : decode cL_setPrice 19 = .ok (.iconst 2, 1) := by decide +kernel
theorem dL_setPrice_20 : decode cL_setPrice 20 = .ok (.ireturn, 1) := by decide +kernel
theorem dL_setPrice_21 : decode cL_setPrice 21 = .ok (.iconst 0, 1) := by decide +kernel
theorem dL_setPrice_22 : decode cL_setPrice 22 = .ok (.ireturn, 1) := by decide +kernel
theorem dL_lend_0 : decode cL_lend 0 = .ok (.aload 6, 2) := by decide +kernel
theorem dL_lend_2 : decode cL_lend 2 = .ok (.iconst 0, 1) := by decide +kernel
theorem dL_lend_3 : decode cL_lend 3 = .ok (.aload_n 0, 1) := by decide +kernel
theorem dL_lend_4 : decode cL_lend 4 = .ok (.iload_n 1, 1) := by decide +kernel
theorem dL_lend_5 : decode cL_lend 5 = .ok (.iload_n 2, 1) := by decide +kernel
theorem dL_lend_6 : decode cL_lend 6 = .ok (.iload_n 3, 1) := by decide +kernel
theorem dL_lend_7 : decode cL_lend 7 = .ok (.iload 4, 2) := by decide +kernel
theorem dL_lend_9 : decode cL_lend 9 = .ok (.iload 5, 2) := by decide +kernel
theorem dL_lend_11 : decode cL_lend 11 = .ok (.invokevirtual 27, 3) := by decide +kernel
theorem dL_lend_14 : decode cL_lend 14 = .ok (.i2l, 1) := by decide +kernel
theorem dL_lend_15 : decode cL_lend 15 = .ok (.lastore, 1) := by decide +kernel
theorem dL_lend_16 : decode cL_lend 16 = .ok (.goto 15, 3) := by decide +kernel
theorem dL_lend_19 : decode cL_lend 19 = .ok (.astore 7, 2) := by decide +kernel
theorem dL_lend_21 : decode cL_lend 21 = .ok (.iconst 1, 1) := by decide +kernel
theorem dL_lend_22 : decode cL_lend 22 = .ok (.ireturn, 1) := by decide +kernel
theorem dL_lend_23 : decode cL_lend 23 = .ok (.astore 7, 2) := by decide +kernel
theorem dL_lend_25 : decode cL_lend 25 = .ok (.iconst 2, 1) := by decide +kernel
theorem dL_lend_26 : decode cL_lend 26 = .ok (.ireturn, 1) := by decide +kernel
theorem dL_lend_27 : decode cL_lend 27 = .ok (.astore 7, 2) := by decide +kernel
theorem dL_lend_29 : decode cL_lend 29 = .ok (.iconst 3, 1) := by decide +kernel
theorem dL_lend_30 : decode cL_lend 30 = .ok (.ireturn, 1) := by decide +kernel
theorem dL_lend_31 : decode cL_lend 31 = .ok (.iconst 0, 1) := by decide +kernel
theorem dL_lend_32 : decode cL_lend 32 = .ok (.ireturn, 1) := by decide +kernel
theorem dL_pledge_0 : decode cL_pledge 0 = .ok (.aload 4, 2) := by decide +kernel
theorem dL_pledge_2 : decode cL_pledge 2 = .ok (.iconst 0, 1) := by decide +kernel
theorem dL_pledge_3 : decode cL_pledge 3 = .ok (.aload_n 0, 1) := by decide +kernel
theorem dL_pledge_4 : decode cL_pledge 4 = .ok (.iload_n 1, 1) := by decide +kernel
theorem dL_pledge_5 : decode cL_pledge 5 = .ok (.iload_n 2, 1) := by decide +kernel
theorem dL_pledge_6 : decode cL_pledge 6 = .ok (.iload_n 3, 1) := by decide +kernel
theorem dL_pledge_7 : decode cL_pledge 7 = .ok (.invokevirtual 31, 3) := by decide +kernel
theorem dL_pledge_10 : decode cL_pledge 10 = .ok (.i2l, 1) := by decide +kernel
theorem dL_pledge_11 : decode cL_pledge 11 = .ok (.lastore, 1) := by decide +kernel
theorem dL_pledge_12 : decode cL_pledge 12 = .ok (.goto 19, 3) := by decide +kernel
theorem dL_pledge_15 : decode cL_pledge 15 = .ok (.astore 5, 2) := by decide +kernel
theorem dL_pledge_17 : decode cL_pledge 17 = .ok (.iconst 1, 1) := by decide +kernel
theorem dL_pledge_18 : decode cL_pledge 18 = .ok (.ireturn, 1) := by decide +kernel
theorem dL_pledge_19 : decode cL_pledge 19 = .ok (.astore 5, 2) := by decide +kernel
theorem dL_pledge_21 : decode cL_pledge 21 = .ok (.iconst 2, 1) := by decide +kernel
theorem dL_pledge_22 : decode cL_pledge 22 = .ok (.ireturn, 1) := by decide +kernel
theorem dL_pledge_23 : decode cL_pledge 23 = .ok (.astore 5, 2) := by decide +kernel
theorem dL_pledge_25 : decode cL_pledge 25 = .ok (.iconst 3, 1) := by decide +kernel
theorem dL_pledge_26 : decode cL_pledge 26 = .ok (.ireturn, 1) := by decide +kernel
theorem dL_pledge_27 : decode cL_pledge 27 = .ok (.astore 5, 2) := by decide +kernel
theorem dL_pledge_29 : decode cL_pledge 29 = .ok (.iconst 4, 1) := by decide +kernel
theorem dL_pledge_30 : decode cL_pledge 30 = .ok (.ireturn, 1) := by decide +kernel
theorem dL_pledge_31 : decode cL_pledge 31 = .ok (.iconst 0, 1) := by decide +kernel
theorem dL_pledge_32 : decode cL_pledge 32 = .ok (.ireturn, 1) := by decide +kernel
theorem dL_release_0 : decode cL_release 0 = .ok (.aload 4, 2) := by decide +kernel
theorem dL_release_2 : decode cL_release 2 = .ok (.iconst 0, 1) := by decide +kernel
theorem dL_release_3 : decode cL_release 3 = .ok (.aload_n 0, 1) := by decide +kernel
theorem dL_release_4 : decode cL_release 4 = .ok (.iload_n 1, 1) := by decide +kernel
theorem dL_release_5 : decode cL_release 5 = .ok (.iload_n 2, 1) := by decide +kernel
theorem dL_release_6 : decode cL_release 6 = .ok (.iload_n 3, 1) := by decide +kernel
theorem dL_release_7 : decode cL_release 7 = .ok (.invokevirtual 36, 3) := by decide +kernel
theorem dL_release_10 : decode cL_release 10 = .ok (.i2l, 1) := by decide +kernel
theorem dL_release_11 : decode cL_release 11 = .ok (.lastore, 1) := by decide +kernel
theorem dL_release_12 : decode cL_release 12 = .ok (.goto 19, 3) := by decide +kernel
theorem dL_release_15 : decode cL_release 15 = .ok (.astore 5, 2) := by decide +kernel
theorem dL_release_17 : decode cL_release 17 = .ok (.iconst 1, 1) := by decide +kernel
theorem dL_release_18 : decode cL_release 18 = .ok (.ireturn, 1) := by decide +kernel
theorem dL_release_19 : decode cL_release 19 = .ok (.astore 5, 2) := by decide +kernel
theorem dL_release_21 : decode cL_release 21 = .ok (.iconst 2, 1) := by decide +kernel
theorem dL_release_22 : decode cL_release 22 = .ok (.ireturn, 1) := by decide +kernel
theorem dL_release_23 : decode cL_release 23 = .ok (.astore 5, 2) := by decide +kernel
theorem dL_release_25 : decode cL_release 25 = .ok (.iconst 3, 1) := by decide +kernel
theorem dL_release_26 : decode cL_release 26 = .ok (.ireturn, 1) := by decide +kernel
theorem dL_release_27 : decode cL_release 27 = .ok (.astore 5, 2) := by decide +kernel
theorem dL_release_29 : decode cL_release 29 = .ok (.iconst 4, 1) := by decide +kernel
theorem dL_release_30 : decode cL_release 30 = .ok (.ireturn, 1) := by decide +kernel
theorem dL_release_31 : decode cL_release 31 = .ok (.iconst 0, 1) := by decide +kernel
theorem dL_release_32 : decode cL_release 32 = .ok (.ireturn, 1) := by decide +kernel
theorem dL_repay_0 : decode cL_repay 0 = .ok (.aload_n 3, 1) := by decide +kernel
theorem dL_repay_1 : decode cL_repay 1 = .ok (.iconst 0, 1) := by decide +kernel
theorem dL_repay_2 : decode cL_repay 2 = .ok (.aload_n 0, 1) := by decide +kernel
theorem dL_repay_3 : decode cL_repay 3 = .ok (.iload_n 1, 1) := by decide +kernel
theorem dL_repay_4 : decode cL_repay 4 = .ok (.iload_n 2, 1) := by decide +kernel
theorem dL_repay_5 : decode cL_repay 5 = .ok (.invokevirtual 39, 3) := by decide +kernel
theorem dL_repay_8 : decode cL_repay 8 = .ok (.i2l, 1) := by decide +kernel
theorem dL_repay_9 : decode cL_repay 9 = .ok (.lastore, 1) := by decide +kernel
theorem dL_repay_10 : decode cL_repay 10 = .ok (.goto 15, 3) := by decide +kernel
theorem dL_repay_13 : decode cL_repay 13 = .ok (.astore 4, 2) := by decide +kernel
theorem dL_repay_15 : decode cL_repay 15 = .ok (.iconst 1, 1) := by decide +kernel
theorem dL_repay_16 : decode cL_repay 16 = .ok (.ireturn, 1) := by decide +kernel
theorem dL_repay_17 : decode cL_repay 17 = .ok (.astore 4, 2) := by decide +kernel
theorem dL_repay_19 : decode cL_repay 19 = .ok (.iconst 2, 1) := by decide +kernel
theorem dL_repay_20 : decode cL_repay 20 = .ok (.ireturn, 1) := by decide +kernel
theorem dL_repay_21 : decode cL_repay 21 = .ok (.astore 4, 2) := by decide +kernel
theorem dL_repay_23 : decode cL_repay 23 = .ok (.iconst 3, 1) := by decide +kernel
theorem dL_repay_24 : decode cL_repay 24 = .ok (.ireturn, 1) := by decide +kernel
theorem dL_repay_25 : decode cL_repay 25 = .ok (.iconst 0, 1) := by decide +kernel
theorem dL_repay_26 : decode cL_repay 26 = .ok (.ireturn, 1) := by decide +kernel
theorem dL_buy_0 : decode cL_buy 0 = .ok (.aload 4, 2) := by decide +kernel
theorem dL_buy_2 : decode cL_buy 2 = .ok (.iconst 0, 1) := by decide +kernel
theorem dL_buy_3 : decode cL_buy 3 = .ok (.aload_n 0, 1) := by decide +kernel
theorem dL_buy_4 : decode cL_buy 4 = .ok (.iload_n 1, 1) := by decide +kernel
theorem dL_buy_5 : decode cL_buy 5 = .ok (.iload_n 2, 1) := by decide +kernel
theorem dL_buy_6 : decode cL_buy 6 = .ok (.iload_n 3, 1) := by decide +kernel
theorem dL_buy_7 : decode cL_buy 7 = .ok (.invokevirtual 42, 3) := by decide +kernel
theorem dL_buy_10 : decode cL_buy 10 = .ok (.i2l, 1) := by decide +kernel
theorem dL_buy_11 : decode cL_buy 11 = .ok (.lastore, 1) := by decide +kernel
theorem dL_buy_12 : decode cL_buy 12 = .ok (.goto 15, 3) := by decide +kernel
theorem dL_buy_15 : decode cL_buy 15 = .ok (.astore 5, 2) := by decide +kernel
theorem dL_buy_17 : decode cL_buy 17 = .ok (.iconst 1, 1) := by decide +kernel
theorem dL_buy_18 : decode cL_buy 18 = .ok (.ireturn, 1) := by decide +kernel
theorem dL_buy_19 : decode cL_buy 19 = .ok (.astore 5, 2) := by decide +kernel
theorem dL_buy_21 : decode cL_buy 21 = .ok (.iconst 2, 1) := by decide +kernel
theorem dL_buy_22 : decode cL_buy 22 = .ok (.ireturn, 1) := by decide +kernel
theorem dL_buy_23 : decode cL_buy 23 = .ok (.astore 5, 2) := by decide +kernel
theorem dL_buy_25 : decode cL_buy 25 = .ok (.iconst 3, 1) := by decide +kernel
theorem dL_buy_26 : decode cL_buy 26 = .ok (.ireturn, 1) := by decide +kernel
theorem dL_buy_27 : decode cL_buy 27 = .ok (.iconst 0, 1) := by decide +kernel
theorem dL_buy_28 : decode cL_buy 28 = .ok (.ireturn, 1) := by decide +kernel
theorem dL_pass_0 : decode cL_pass 0 = .ok (.aload_n 2, 1) := by decide +kernel
theorem dL_pass_1 : decode cL_pass 1 = .ok (.iconst 0, 1) := by decide +kernel
theorem dL_pass_2 : decode cL_pass 2 = .ok (.aload_n 0, 1) := by decide +kernel
theorem dL_pass_3 : decode cL_pass 3 = .ok (.iload_n 1, 1) := by decide +kernel
theorem dL_pass_4 : decode cL_pass 4 = .ok (.invokevirtual 45, 3) := by decide +kernel
theorem dL_pass_7 : decode cL_pass 7 = .ok (.i2l, 1) := by decide +kernel
theorem dL_pass_8 : decode cL_pass 8 = .ok (.lastore, 1) := by decide +kernel
theorem dL_pass_9 : decode cL_pass 9 = .ok (.goto 6, 3) := by decide +kernel
theorem dL_pass_12 : decode cL_pass 12 = .ok (.astore_n 3, 1) := by decide +kernel
theorem dL_pass_13 : decode cL_pass 13 = .ok (.iconst 1, 1) := by decide +kernel
theorem dL_pass_14 : decode cL_pass 14 = .ok (.ireturn, 1) := by decide +kernel
theorem dL_pass_15 : decode cL_pass 15 = .ok (.iconst 0, 1) := by decide +kernel
theorem dL_pass_16 : decode cL_pass 16 = .ok (.ireturn, 1) := by decide +kernel
theorem dL_price_0 : decode cL_price 0 = .ok (.aload_n 2, 1) := by decide +kernel
theorem dL_price_1 : decode cL_price 1 = .ok (.iconst 0, 1) := by decide +kernel
theorem dL_price_2 : decode cL_price 2 = .ok (.aload_n 0, 1) := by decide +kernel
theorem dL_price_3 : decode cL_price 3 = .ok (.iload_n 1, 1) := by decide +kernel
theorem dL_price_4 : decode cL_price 4 = .ok (.invokevirtual 48, 3) := by decide +kernel
theorem dL_price_7 : decode cL_price 7 = .ok (.i2l, 1) := by decide +kernel
theorem dL_price_8 : decode cL_price 8 = .ok (.lastore, 1) := by decide +kernel
theorem dL_price_9 : decode cL_price 9 = .ok (.goto 6, 3) := by decide +kernel
theorem dL_price_12 : decode cL_price 12 = .ok (.astore_n 3, 1) := by decide +kernel
theorem dL_price_13 : decode cL_price 13 = .ok (.iconst 1, 1) := by decide +kernel
theorem dL_price_14 : decode cL_price 14 = .ok (.ireturn, 1) := by decide +kernel
theorem dL_price_15 : decode cL_price 15 = .ok (.iconst 0, 1) := by decide +kernel
theorem dL_price_16 : decode cL_price 16 = .ok (.ireturn, 1) := by decide +kernel
theorem dL_stock_0 : decode cL_stock 0 = .ok (.aload_n 2, 1) := by decide +kernel
theorem dL_stock_1 : decode cL_stock 1 = .ok (.iconst 0, 1) := by decide +kernel
theorem dL_stock_2 : decode cL_stock 2 = .ok (.aload_n 0, 1) := by decide +kernel
theorem dL_stock_3 : decode cL_stock 3 = .ok (.iload_n 1, 1) := by decide +kernel
theorem dL_stock_4 : decode cL_stock 4 = .ok (.invokevirtual 51, 3) := by decide +kernel
theorem dL_stock_7 : decode cL_stock 7 = .ok (.i2l, 1) := by decide +kernel
theorem dL_stock_8 : decode cL_stock 8 = .ok (.lastore, 1) := by decide +kernel
theorem dL_stock_9 : decode cL_stock 9 = .ok (.goto 6, 3) := by decide +kernel
theorem dL_stock_12 : decode cL_stock 12 = .ok (.astore_n 3, 1) := by decide +kernel
theorem dL_stock_13 : decode cL_stock 13 = .ok (.iconst 1, 1) := by decide +kernel
theorem dL_stock_14 : decode cL_stock 14 = .ok (.ireturn, 1) := by decide +kernel
theorem dL_stock_15 : decode cL_stock 15 = .ok (.iconst 0, 1) := by decide +kernel
theorem dL_stock_16 : decode cL_stock 16 = .ok (.ireturn, 1) := by decide +kernel
theorem dL_coins_0 : decode cL_coins 0 = .ok (.aload_n 2, 1) := by decide +kernel
theorem dL_coins_1 : decode cL_coins 1 = .ok (.iconst 0, 1) := by decide +kernel
theorem dL_coins_2 : decode cL_coins 2 = .ok (.aload_n 0, 1) := by decide +kernel
theorem dL_coins_3 : decode cL_coins 3 = .ok (.iload_n 1, 1) := by decide +kernel
theorem dL_coins_4 : decode cL_coins 4 = .ok (.invokevirtual 54, 3) := by decide +kernel
theorem dL_coins_7 : decode cL_coins 7 = .ok (.i2l, 1) := by decide +kernel
theorem dL_coins_8 : decode cL_coins 8 = .ok (.lastore, 1) := by decide +kernel
theorem dL_coins_9 : decode cL_coins 9 = .ok (.goto 6, 3) := by decide +kernel
theorem dL_coins_12 : decode cL_coins 12 = .ok (.astore_n 3, 1) := by decide +kernel
theorem dL_coins_13 : decode cL_coins 13 = .ok (.iconst 1, 1) := by decide +kernel
theorem dL_coins_14 : decode cL_coins 14 = .ok (.ireturn, 1) := by decide +kernel
theorem dL_coins_15 : decode cL_coins 15 = .ok (.iconst 0, 1) := by decide +kernel
theorem dL_coins_16 : decode cL_coins 16 = .ok (.ireturn, 1) := by decide +kernel
theorem dL_units_0 : decode cL_units 0 = .ok (.aload_n 3, 1) := by decide +kernel
theorem dL_units_1 : decode cL_units 1 = .ok (.iconst 0, 1) := by decide +kernel
theorem dL_units_2 : decode cL_units 2 = .ok (.aload_n 0, 1) := by decide +kernel
theorem dL_units_3 : decode cL_units 3 = .ok (.iload_n 1, 1) := by decide +kernel
theorem dL_units_4 : decode cL_units 4 = .ok (.iload_n 2, 1) := by decide +kernel
theorem dL_units_5 : decode cL_units 5 = .ok (.invokevirtual 57, 3) := by decide +kernel
theorem dL_units_8 : decode cL_units 8 = .ok (.i2l, 1) := by decide +kernel
theorem dL_units_9 : decode cL_units 9 = .ok (.lastore, 1) := by decide +kernel
theorem dL_units_10 : decode cL_units 10 = .ok (.goto 7, 3) := by decide +kernel
theorem dL_units_13 : decode cL_units 13 = .ok (.astore 4, 2) := by decide +kernel
theorem dL_units_15 : decode cL_units 15 = .ok (.iconst 1, 1) := by decide +kernel
theorem dL_units_16 : decode cL_units 16 = .ok (.ireturn, 1) := by decide +kernel
theorem dL_units_17 : decode cL_units 17 = .ok (.iconst 0, 1) := by decide +kernel
theorem dL_units_18 : decode cL_units 18 = .ok (.ireturn, 1) := by decide +kernel
theorem dL_pledgedUnits_0 : decode cL_pledgedUnits 0 = .ok (.aload_n 3, 1) := by decide +kernel
theorem dL_pledgedUnits_1 : decode cL_pledgedUnits 1 = .ok (.iconst 0, 1) := by decide +kernel
theorem dL_pledgedUnits_2 : decode cL_pledgedUnits 2 = .ok (.aload_n 0, 1) := by decide +kernel
theorem dL_pledgedUnits_3 : decode cL_pledgedUnits 3 = .ok (.iload_n 1, 1) := by decide +kernel
theorem dL_pledgedUnits_4 : decode cL_pledgedUnits 4 = .ok (.iload_n 2, 1) := by decide +kernel
theorem dL_pledgedUnits_5 : decode cL_pledgedUnits 5 = .ok (.invokevirtual 60, 3) := by decide +kernel
theorem dL_pledgedUnits_8 : decode cL_pledgedUnits 8 = .ok (.i2l, 1) := by decide +kernel
theorem dL_pledgedUnits_9 : decode cL_pledgedUnits 9 = .ok (.lastore, 1) := by decide +kernel
theorem dL_pledgedUnits_10 : decode cL_pledgedUnits 10 = .ok (.goto 7, 3) := by decide +kernel
theorem dL_pledgedUnits_13 : decode cL_pledgedUnits 13 = .ok (.astore 4, 2) := by decide +kernel
theorem dL_pledgedUnits_15 : decode cL_pledgedUnits 15 = .ok (.iconst 1, 1) := by decide +kernel
theorem dL_pledgedUnits_16 : decode cL_pledgedUnits 16 = .ok (.ireturn, 1) := by decide +kernel
theorem dL_pledgedUnits_17 : decode cL_pledgedUnits 17 = .ok (.iconst 0, 1) := by decide +kernel
theorem dL_pledgedUnits_18 : decode cL_pledgedUnits 18 = .ok (.ireturn, 1) := by decide +kernel
theorem dL_defaults_0 : decode cL_defaults 0 = .ok (.aload_n 2, 1) := by decide +kernel
theorem dL_defaults_1 : decode cL_defaults 1 = .ok (.iconst 0, 1) := by decide +kernel
theorem dL_defaults_2 : decode cL_defaults 2 = .ok (.aload_n 0, 1) := by decide +kernel
theorem dL_defaults_3 : decode cL_defaults 3 = .ok (.iload_n 1, 1) := by decide +kernel
theorem dL_defaults_4 : decode cL_defaults 4 = .ok (.invokevirtual 63, 3) := by decide +kernel
theorem dL_defaults_7 : decode cL_defaults 7 = .ok (.i2l, 1) := by decide +kernel
theorem dL_defaults_8 : decode cL_defaults 8 = .ok (.lastore, 1) := by decide +kernel
theorem dL_defaults_9 : decode cL_defaults 9 = .ok (.goto 6, 3) := by decide +kernel
theorem dL_defaults_12 : decode cL_defaults 12 = .ok (.astore_n 3, 1) := by decide +kernel
theorem dL_defaults_13 : decode cL_defaults 13 = .ok (.iconst 1, 1) := by decide +kernel
theorem dL_defaults_14 : decode cL_defaults 14 = .ok (.ireturn, 1) := by decide +kernel
theorem dL_defaults_15 : decode cL_defaults 15 = .ok (.iconst 0, 1) := by decide +kernel
theorem dL_defaults_16 : decode cL_defaults 16 = .ok (.ireturn, 1) := by decide +kernel
theorem dL_canBorrow_0 : decode cL_canBorrow 0 = .ok (.aload_n 2, 1) := by decide +kernel
theorem dL_canBorrow_1 : decode cL_canBorrow 1 = .ok (.iconst 0, 1) := by decide +kernel
theorem dL_canBorrow_2 : decode cL_canBorrow 2 = .ok (.aload_n 0, 1) := by decide +kernel
theorem dL_canBorrow_3 : decode cL_canBorrow 3 = .ok (.iload_n 1, 1) := by decide +kernel
theorem dL_canBorrow_4 : decode cL_canBorrow 4 = .ok (.invokevirtual 66, 3) := by decide +kernel
theorem dL_canBorrow_7 : decode cL_canBorrow 7 = .ok (.ifCond .eq 7, 3) := by decide +kernel
theorem dL_canBorrow_10 : decode cL_canBorrow 10 = .ok (.lconst 1, 1) := by decide +kernel
theorem dL_canBorrow_11 : decode cL_canBorrow 11 = .ok (.goto 4, 3) := by decide +kernel
theorem dL_canBorrow_14 : decode cL_canBorrow 14 = .ok (.lconst 0, 1) := by decide +kernel
theorem dL_canBorrow_15 : decode cL_canBorrow 15 = .ok (.lastore, 1) := by decide +kernel
theorem dL_canBorrow_16 : decode cL_canBorrow 16 = .ok (.goto 6, 3) := by decide +kernel
theorem dL_canBorrow_19 : decode cL_canBorrow 19 = .ok (.astore_n 3, 1) := by decide +kernel
theorem dL_canBorrow_20 : decode cL_canBorrow 20 = .ok (.iconst 1, 1) := by decide +kernel
theorem dL_canBorrow_21 : decode cL_canBorrow 21 = .ok (.ireturn, 1) := by decide +kernel
theorem dL_canBorrow_22 : decode cL_canBorrow 22 = .ok (.iconst 0, 1) := by decide +kernel
theorem dL_canBorrow_23 : decode cL_canBorrow 23 = .ok (.ireturn, 1) := by decide +kernel
theorem dL_loansOf_0 : decode cL_loansOf 0 = .ok (.aload_n 2, 1) := by decide +kernel
theorem dL_loansOf_1 : decode cL_loansOf 1 = .ok (.iconst 0, 1) := by decide +kernel
theorem dL_loansOf_2 : decode cL_loansOf 2 = .ok (.aload_n 0, 1) := by decide +kernel
theorem dL_loansOf_3 : decode cL_loansOf 3 = .ok (.iload_n 1, 1) := by decide +kernel
theorem dL_loansOf_4 : decode cL_loansOf 4 = .ok (.invokevirtual 70, 3) := by decide +kernel
theorem dL_loansOf_7 : decode cL_loansOf 7 = .ok (.i2l, 1) := by decide +kernel
theorem dL_loansOf_8 : decode cL_loansOf 8 = .ok (.lastore, 1) := by decide +kernel
theorem dL_loansOf_9 : decode cL_loansOf 9 = .ok (.goto 6, 3) := by decide +kernel
theorem dL_loansOf_12 : decode cL_loansOf 12 = .ok (.astore_n 3, 1) := by decide +kernel
theorem dL_loansOf_13 : decode cL_loansOf 13 = .ok (.iconst 1, 1) := by decide +kernel
theorem dL_loansOf_14 : decode cL_loansOf 14 = .ok (.ireturn, 1) := by decide +kernel
theorem dL_loansOf_15 : decode cL_loansOf 15 = .ok (.iconst 0, 1) := by decide +kernel
theorem dL_loansOf_16 : decode cL_loansOf 16 = .ok (.ireturn, 1) := by decide +kernel
theorem dL_debtOf_0 : decode cL_debtOf 0 = .ok (.aload_n 2, 1) := by decide +kernel
theorem dL_debtOf_1 : decode cL_debtOf 1 = .ok (.iconst 0, 1) := by decide +kernel
theorem dL_debtOf_2 : decode cL_debtOf 2 = .ok (.aload_n 0, 1) := by decide +kernel
theorem dL_debtOf_3 : decode cL_debtOf 3 = .ok (.iload_n 1, 1) := by decide +kernel
theorem dL_debtOf_4 : decode cL_debtOf 4 = .ok (.invokevirtual 73, 3) := by decide +kernel
theorem dL_debtOf_7 : decode cL_debtOf 7 = .ok (.i2l, 1) := by decide +kernel
theorem dL_debtOf_8 : decode cL_debtOf 8 = .ok (.lastore, 1) := by decide +kernel
theorem dL_debtOf_9 : decode cL_debtOf 9 = .ok (.goto 6, 3) := by decide +kernel
theorem dL_debtOf_12 : decode cL_debtOf 12 = .ok (.astore_n 3, 1) := by decide +kernel
theorem dL_debtOf_13 : decode cL_debtOf 13 = .ok (.iconst 1, 1) := by decide +kernel
theorem dL_debtOf_14 : decode cL_debtOf 14 = .ok (.ireturn, 1) := by decide +kernel
theorem dL_debtOf_15 : decode cL_debtOf 15 = .ok (.iconst 0, 1) := by decide +kernel
theorem dL_debtOf_16 : decode cL_debtOf 16 = .ok (.ireturn, 1) := by decide +kernel
theorem dL_wealth_0 : decode cL_wealth 0 = .ok (.aload_n 2, 1) := by decide +kernel
theorem dL_wealth_1 : decode cL_wealth 1 = .ok (.iconst 0, 1) := by decide +kernel
theorem dL_wealth_2 : decode cL_wealth 2 = .ok (.aload_n 0, 1) := by decide +kernel
theorem dL_wealth_3 : decode cL_wealth 3 = .ok (.iload_n 1, 1) := by decide +kernel
theorem dL_wealth_4 : decode cL_wealth 4 = .ok (.invokevirtual 76, 3) := by decide +kernel
theorem dL_wealth_7 : decode cL_wealth 7 = .ok (.i2l, 1) := by decide +kernel
theorem dL_wealth_8 : decode cL_wealth 8 = .ok (.lastore, 1) := by decide +kernel
theorem dL_wealth_9 : decode cL_wealth 9 = .ok (.goto 6, 3) := by decide +kernel
theorem dL_wealth_12 : decode cL_wealth 12 = .ok (.astore_n 3, 1) := by decide +kernel
theorem dL_wealth_13 : decode cL_wealth 13 = .ok (.iconst 1, 1) := by decide +kernel
theorem dL_wealth_14 : decode cL_wealth 14 = .ok (.ireturn, 1) := by decide +kernel
theorem dL_wealth_15 : decode cL_wealth 15 = .ok (.iconst 0, 1) := by decide +kernel
theorem dL_wealth_16 : decode cL_wealth 16 = .ok (.ireturn, 1) := by decide +kernel
theorem dL_idAt_0 : decode cL_idAt 0 = .ok (.aload_n 2, 1) := by decide +kernel
theorem dL_idAt_1 : decode cL_idAt 1 = .ok (.iconst 0, 1) := by decide +kernel
theorem dL_idAt_2 : decode cL_idAt 2 = .ok (.aload_n 0, 1) := by decide +kernel
theorem dL_idAt_3 : decode cL_idAt 3 = .ok (.iload_n 1, 1) := by decide +kernel
theorem dL_idAt_4 : decode cL_idAt 4 = .ok (.invokevirtual 79, 3) := by decide +kernel
theorem dL_idAt_7 : decode cL_idAt 7 = .ok (.i2l, 1) := by decide +kernel
theorem dL_idAt_8 : decode cL_idAt 8 = .ok (.lastore, 1) := by decide +kernel
theorem dL_idAt_9 : decode cL_idAt 9 = .ok (.goto 6, 3) := by decide +kernel
theorem dL_idAt_12 : decode cL_idAt 12 = .ok (.astore_n 3, 1) := by decide +kernel
theorem dL_idAt_13 : decode cL_idAt 13 = .ok (.iconst 1, 1) := by decide +kernel
theorem dL_idAt_14 : decode cL_idAt 14 = .ok (.ireturn, 1) := by decide +kernel
theorem dL_idAt_15 : decode cL_idAt 15 = .ok (.iconst 0, 1) := by decide +kernel
theorem dL_idAt_16 : decode cL_idAt 16 = .ok (.ireturn, 1) := by decide +kernel
theorem dL_borrowerOf_0 : decode cL_borrowerOf 0 = .ok (.aload_n 2, 1) := by decide +kernel
theorem dL_borrowerOf_1 : decode cL_borrowerOf 1 = .ok (.iconst 0, 1) := by decide +kernel
theorem dL_borrowerOf_2 : decode cL_borrowerOf 2 = .ok (.aload_n 0, 1) := by decide +kernel
theorem dL_borrowerOf_3 : decode cL_borrowerOf 3 = .ok (.iload_n 1, 1) := by decide +kernel
theorem dL_borrowerOf_4 : decode cL_borrowerOf 4 = .ok (.invokevirtual 82, 3) := by decide +kernel
theorem dL_borrowerOf_7 : decode cL_borrowerOf 7 = .ok (.i2l, 1) := by decide +kernel
theorem dL_borrowerOf_8 : decode cL_borrowerOf 8 = .ok (.lastore, 1) := by decide +kernel
theorem dL_borrowerOf_9 : decode cL_borrowerOf 9 = .ok (.goto 6, 3) := by decide +kernel
theorem dL_borrowerOf_12 : decode cL_borrowerOf 12 = .ok (.astore_n 3, 1) := by decide +kernel
theorem dL_borrowerOf_13 : decode cL_borrowerOf 13 = .ok (.iconst 1, 1) := by decide +kernel
theorem dL_borrowerOf_14 : decode cL_borrowerOf 14 = .ok (.ireturn, 1) := by decide +kernel
theorem dL_borrowerOf_15 : decode cL_borrowerOf 15 = .ok (.iconst 0, 1) := by decide +kernel
theorem dL_borrowerOf_16 : decode cL_borrowerOf 16 = .ok (.ireturn, 1) := by decide +kernel
theorem dL_principal_0 : decode cL_principal 0 = .ok (.aload_n 2, 1) := by decide +kernel
theorem dL_principal_1 : decode cL_principal 1 = .ok (.iconst 0, 1) := by decide +kernel
theorem dL_principal_2 : decode cL_principal 2 = .ok (.aload_n 0, 1) := by decide +kernel
theorem dL_principal_3 : decode cL_principal 3 = .ok (.iload_n 1, 1) := by decide +kernel
theorem dL_principal_4 : decode cL_principal 4 = .ok (.invokevirtual 85, 3) := by decide +kernel
theorem dL_principal_7 : decode cL_principal 7 = .ok (.i2l, 1) := by decide +kernel
theorem dL_principal_8 : decode cL_principal 8 = .ok (.lastore, 1) := by decide +kernel
theorem dL_principal_9 : decode cL_principal 9 = .ok (.goto 6, 3) := by decide +kernel
theorem dL_principal_12 : decode cL_principal 12 = .ok (.astore_n 3, 1) := by decide +kernel
theorem dL_principal_13 : decode cL_principal 13 = .ok (.iconst 1, 1) := by decide +kernel
theorem dL_principal_14 : decode cL_principal 14 = .ok (.ireturn, 1) := by decide +kernel
theorem dL_principal_15 : decode cL_principal 15 = .ok (.iconst 0, 1) := by decide +kernel
theorem dL_principal_16 : decode cL_principal 16 = .ok (.ireturn, 1) := by decide +kernel
theorem dL_interest_0 : decode cL_interest 0 = .ok (.aload_n 2, 1) := by decide +kernel
theorem dL_interest_1 : decode cL_interest 1 = .ok (.iconst 0, 1) := by decide +kernel
theorem dL_interest_2 : decode cL_interest 2 = .ok (.aload_n 0, 1) := by decide +kernel
theorem dL_interest_3 : decode cL_interest 3 = .ok (.iload_n 1, 1) := by decide +kernel
theorem dL_interest_4 : decode cL_interest 4 = .ok (.invokevirtual 88, 3) := by decide +kernel
theorem dL_interest_7 : decode cL_interest 7 = .ok (.i2l, 1) := by decide +kernel
theorem dL_interest_8 : decode cL_interest 8 = .ok (.lastore, 1) := by decide +kernel
theorem dL_interest_9 : decode cL_interest 9 = .ok (.goto 6, 3) := by decide +kernel
theorem dL_interest_12 : decode cL_interest 12 = .ok (.astore_n 3, 1) := by decide +kernel
theorem dL_interest_13 : decode cL_interest 13 = .ok (.iconst 1, 1) := by decide +kernel
theorem dL_interest_14 : decode cL_interest 14 = .ok (.ireturn, 1) := by decide +kernel
theorem dL_interest_15 : decode cL_interest 15 = .ok (.iconst 0, 1) := by decide +kernel
theorem dL_interest_16 : decode cL_interest 16 = .ok (.ireturn, 1) := by decide +kernel
theorem dL_debt_0 : decode cL_debt 0 = .ok (.aload_n 2, 1) := by decide +kernel
theorem dL_debt_1 : decode cL_debt 1 = .ok (.iconst 0, 1) := by decide +kernel
theorem dL_debt_2 : decode cL_debt 2 = .ok (.aload_n 0, 1) := by decide +kernel
theorem dL_debt_3 : decode cL_debt 3 = .ok (.iload_n 1, 1) := by decide +kernel
theorem dL_debt_4 : decode cL_debt 4 = .ok (.invokevirtual 91, 3) := by decide +kernel
theorem dL_debt_7 : decode cL_debt 7 = .ok (.i2l, 1) := by decide +kernel
theorem dL_debt_8 : decode cL_debt 8 = .ok (.lastore, 1) := by decide +kernel
theorem dL_debt_9 : decode cL_debt 9 = .ok (.goto 6, 3) := by decide +kernel
theorem dL_debt_12 : decode cL_debt 12 = .ok (.astore_n 3, 1) := by decide +kernel
theorem dL_debt_13 : decode cL_debt 13 = .ok (.iconst 1, 1) := by decide +kernel
theorem dL_debt_14 : decode cL_debt 14 = .ok (.ireturn, 1) := by decide +kernel
theorem dL_debt_15 : decode cL_debt 15 = .ok (.iconst 0, 1) := by decide +kernel
theorem dL_debt_16 : decode cL_debt 16 = .ok (.ireturn, 1) := by decide +kernel
theorem dL_rate_0 : decode cL_rate 0 = .ok (.aload_n 2, 1) := by decide +kernel
theorem dL_rate_1 : decode cL_rate 1 = .ok (.iconst 0, 1) := by decide +kernel
theorem dL_rate_2 : decode cL_rate 2 = .ok (.aload_n 0, 1) := by decide +kernel
theorem dL_rate_3 : decode cL_rate 3 = .ok (.iload_n 1, 1) := by decide +kernel
theorem dL_rate_4 : decode cL_rate 4 = .ok (.invokevirtual 94, 3) := by decide +kernel
theorem dL_rate_7 : decode cL_rate 7 = .ok (.i2l, 1) := by decide +kernel
theorem dL_rate_8 : decode cL_rate 8 = .ok (.lastore, 1) := by decide +kernel
theorem dL_rate_9 : decode cL_rate 9 = .ok (.goto 6, 3) := by decide +kernel
theorem dL_rate_12 : decode cL_rate 12 = .ok (.astore_n 3, 1) := by decide +kernel
theorem dL_rate_13 : decode cL_rate 13 = .ok (.iconst 1, 1) := by decide +kernel
theorem dL_rate_14 : decode cL_rate 14 = .ok (.ireturn, 1) := by decide +kernel
theorem dL_rate_15 : decode cL_rate 15 = .ok (.iconst 0, 1) := by decide +kernel
theorem dL_rate_16 : decode cL_rate 16 = .ok (.ireturn, 1) := by decide +kernel
theorem dL_dueDay_0 : decode cL_dueDay 0 = .ok (.aload_n 2, 1) := by decide +kernel
theorem dL_dueDay_1 : decode cL_dueDay 1 = .ok (.iconst 0, 1) := by decide +kernel
theorem dL_dueDay_2 : decode cL_dueDay 2 = .ok (.aload_n 0, 1) := by decide +kernel
theorem dL_dueDay_3 : decode cL_dueDay 3 = .ok (.iload_n 1, 1) := by decide +kernel
theorem dL_dueDay_4 : decode cL_dueDay 4 = .ok (.invokevirtual 97, 3) := by decide +kernel
theorem dL_dueDay_7 : decode cL_dueDay 7 = .ok (.i2l, 1) := by decide +kernel
theorem dL_dueDay_8 : decode cL_dueDay 8 = .ok (.lastore, 1) := by decide +kernel
theorem dL_dueDay_9 : decode cL_dueDay 9 = .ok (.goto 6, 3) := by decide +kernel
theorem dL_dueDay_12 : decode cL_dueDay 12 = .ok (.astore_n 3, 1) := by decide +kernel
theorem dL_dueDay_13 : decode cL_dueDay 13 = .ok (.iconst 1, 1) := by decide +kernel
theorem dL_dueDay_14 : decode cL_dueDay 14 = .ok (.ireturn, 1) := by decide +kernel
theorem dL_dueDay_15 : decode cL_dueDay 15 = .ok (.iconst 0, 1) := by decide +kernel
theorem dL_dueDay_16 : decode cL_dueDay 16 = .ok (.ireturn, 1) := by decide +kernel
theorem dL_collateral_0 : decode cL_collateral 0 = .ok (.aload_n 3, 1) := by decide +kernel
theorem dL_collateral_1 : decode cL_collateral 1 = .ok (.iconst 0, 1) := by decide +kernel
theorem dL_collateral_2 : decode cL_collateral 2 = .ok (.aload_n 0, 1) := by decide +kernel
theorem dL_collateral_3 : decode cL_collateral 3 = .ok (.iload_n 1, 1) := by decide +kernel
theorem dL_collateral_4 : decode cL_collateral 4 = .ok (.iload_n 2, 1) := by decide +kernel
theorem dL_collateral_5 : decode cL_collateral 5 = .ok (.invokevirtual 100, 3) := by decide +kernel
theorem dL_collateral_8 : decode cL_collateral 8 = .ok (.i2l, 1) := by decide +kernel
theorem dL_collateral_9 : decode cL_collateral 9 = .ok (.lastore, 1) := by decide +kernel
theorem dL_collateral_10 : decode cL_collateral 10 = .ok (.goto 11, 3) := by decide +kernel
theorem dL_collateral_13 : decode cL_collateral 13 = .ok (.astore 4, 2) := by decide +kernel
theorem dL_collateral_15 : decode cL_collateral 15 = .ok (.iconst 1, 1) := by decide +kernel
theorem dL_collateral_16 : decode cL_collateral 16 = .ok (.ireturn, 1) := by decide +kernel
theorem dL_collateral_17 : decode cL_collateral 17 = .ok (.astore 4, 2) := by decide +kernel
theorem dL_collateral_19 : decode cL_collateral 19 = .ok (.iconst 2, 1) := by decide +kernel
theorem dL_collateral_20 : decode cL_collateral 20 = .ok (.ireturn, 1) := by decide +kernel
theorem dL_collateral_21 : decode cL_collateral 21 = .ok (.iconst 0, 1) := by decide +kernel
theorem dL_collateral_22 : decode cL_collateral 22 = .ok (.ireturn, 1) := by decide +kernel
theorem dL_collateralValue_0 : decode cL_collateralValue 0 = .ok (.aload_n 2, 1) := by decide +kernel
theorem dL_collateralValue_1 : decode cL_collateralValue 1 = .ok (.iconst 0, 1) := by decide +kernel
theorem dL_collateralValue_2 : decode cL_collateralValue 2 = .ok (.aload_n 0, 1) := by decide +kernel
theorem dL_collateralValue_3 : decode cL_collateralValue 3 = .ok (.iload_n 1, 1) := by decide +kernel
theorem dL_collateralValue_4 : decode cL_collateralValue 4 = .ok (.invokevirtual 103, 3) := by decide +kernel
theorem dL_collateralValue_7 : decode cL_collateralValue 7 = .ok (.i2l, 1) := by decide +kernel
theorem dL_collateralValue_8 : decode cL_collateralValue 8 = .ok (.lastore, 1) := by decide +kernel
theorem dL_collateralValue_9 : decode cL_collateralValue 9 = .ok (.goto 6, 3) := by decide +kernel
theorem dL_collateralValue_12 : decode cL_collateralValue 12 = .ok (.astore_n 3, 1) := by decide +kernel
theorem dL_collateralValue_13 : decode cL_collateralValue 13 = .ok (.iconst 1, 1) := by decide +kernel
theorem dL_collateralValue_14 : decode cL_collateralValue 14 = .ok (.ireturn, 1) := by decide +kernel
theorem dL_collateralValue_15 : decode cL_collateralValue 15 = .ok (.iconst 0, 1) := by decide +kernel
theorem dL_collateralValue_16 : decode cL_collateralValue 16 = .ok (.ireturn, 1) := by decide +kernel
theorem dL_isCovered_0 : decode cL_isCovered 0 = .ok (.aload_n 2, 1) := by decide +kernel
theorem dL_isCovered_1 : decode cL_isCovered 1 = .ok (.iconst 0, 1) := by decide +kernel
theorem dL_isCovered_2 : decode cL_isCovered 2 = .ok (.aload_n 0, 1) := by decide +kernel
theorem dL_isCovered_3 : decode cL_isCovered 3 = .ok (.iload_n 1, 1) := by decide +kernel
theorem dL_isCovered_4 : decode cL_isCovered 4 = .ok (.invokevirtual 106, 3) := by decide +kernel
theorem dL_isCovered_7 : decode cL_isCovered 7 = .ok (.ifCond .eq 7, 3) := by decide +kernel
theorem dL_isCovered_10 : decode cL_isCovered 10 = .ok (.lconst 1, 1) := by decide +kernel
theorem dL_isCovered_11 : decode cL_isCovered 11 = .ok (.goto 4, 3) := by decide +kernel
theorem dL_isCovered_14 : decode cL_isCovered 14 = .ok (.lconst 0, 1) := by decide +kernel
theorem dL_isCovered_15 : decode cL_isCovered 15 = .ok (.lastore, 1) := by decide +kernel
theorem dL_isCovered_16 : decode cL_isCovered 16 = .ok (.goto 6, 3) := by decide +kernel
theorem dL_isCovered_19 : decode cL_isCovered 19 = .ok (.astore_n 3, 1) := by decide +kernel
theorem dL_isCovered_20 : decode cL_isCovered 20 = .ok (.iconst 1, 1) := by decide +kernel
theorem dL_isCovered_21 : decode cL_isCovered 21 = .ok (.ireturn, 1) := by decide +kernel
theorem dL_isCovered_22 : decode cL_isCovered 22 = .ok (.iconst 0, 1) := by decide +kernel
theorem dL_isCovered_23 : decode cL_isCovered 23 = .ok (.ireturn, 1) := by decide +kernel
theorem dL_missingUnits_0 : decode cL_missingUnits 0 = .ok (.aload_n 3, 1) := by decide +kernel
theorem dL_missingUnits_1 : decode cL_missingUnits 1 = .ok (.iconst 0, 1) := by decide +kernel
theorem dL_missingUnits_2 : decode cL_missingUnits 2 = .ok (.aload_n 0, 1) := by decide +kernel
theorem dL_missingUnits_3 : decode cL_missingUnits 3 = .ok (.iload_n 1, 1) := by decide +kernel
theorem dL_missingUnits_4 : decode cL_missingUnits 4 = .ok (.iload_n 2, 1) := by decide +kernel
theorem dL_missingUnits_5 : decode cL_missingUnits 5 = .ok (.invokevirtual 109, 3) := by decide +kernel
theorem dL_missingUnits_8 : decode cL_missingUnits 8 = .ok (.i2l, 1) := by decide +kernel
theorem dL_missingUnits_9 : decode cL_missingUnits 9 = .ok (.lastore, 1) := by decide +kernel
theorem dL_missingUnits_10 : decode cL_missingUnits 10 = .ok (.goto 11, 3) := by decide +kernel
theorem dL_missingUnits_13 : decode cL_missingUnits 13 = .ok (.astore 4, 2) := by decide +kernel
theorem dL_missingUnits_15 : decode cL_missingUnits 15 = .ok (.iconst 1, 1) := by decide +kernel
theorem dL_missingUnits_16 : decode cL_missingUnits 16 = .ok (.ireturn, 1) := by decide +kernel
theorem dL_missingUnits_17 : decode cL_missingUnits 17 = .ok (.astore 4, 2) := by decide +kernel
theorem dL_missingUnits_19 : decode cL_missingUnits 19 = .ok (.iconst 2, 1) := by decide +kernel
theorem dL_missingUnits_20 : decode cL_missingUnits 20 = .ok (.ireturn, 1) := by decide +kernel
theorem dL_missingUnits_21 : decode cL_missingUnits 21 = .ok (.iconst 0, 1) := by decide +kernel
theorem dL_missingUnits_22 : decode cL_missingUnits 22 = .ok (.ireturn, 1) := by decide +kernel
theorem dL_daysToDefault_0 : decode cL_daysToDefault 0 = .ok (.aload_n 2, 1) := by decide +kernel
theorem dL_daysToDefault_1 : decode cL_daysToDefault 1 = .ok (.iconst 0, 1) := by decide +kernel
theorem dL_daysToDefault_2 : decode cL_daysToDefault 2 = .ok (.aload_n 0, 1) := by decide +kernel
theorem dL_daysToDefault_3 : decode cL_daysToDefault 3 = .ok (.iload_n 1, 1) := by decide +kernel
theorem dL_daysToDefault_4 : decode cL_daysToDefault 4 = .ok (.invokevirtual 112, 3) := by decide +kernel
theorem dL_daysToDefault_7 : decode cL_daysToDefault 7 = .ok (.i2l, 1) := by decide +kernel
theorem dL_daysToDefault_8 : decode cL_daysToDefault 8 = .ok (.lastore, 1) := by decide +kernel
theorem dL_daysToDefault_9 : decode cL_daysToDefault 9 = .ok (.goto 6, 3) := by decide +kernel
theorem dL_daysToDefault_12 : decode cL_daysToDefault 12 = .ok (.astore_n 3, 1) := by decide +kernel
theorem dL_daysToDefault_13 : decode cL_daysToDefault 13 = .ok (.iconst 1, 1) := by decide +kernel
theorem dL_daysToDefault_14 : decode cL_daysToDefault 14 = .ok (.ireturn, 1) := by decide +kernel
theorem dL_daysToDefault_15 : decode cL_daysToDefault 15 = .ok (.iconst 0, 1) := by decide +kernel
theorem dL_daysToDefault_16 : decode cL_daysToDefault 16 = .ok (.ireturn, 1) := by decide +kernel
theorem dL_daysToDefaultByDays_0 : decode cL_daysToDefaultByDays 0 = .ok (.aload_n 2, 1) := by decide +kernel
theorem dL_daysToDefaultByDays_1 : decode cL_daysToDefaultByDays 1 = .ok (.iconst 0, 1) := by decide +kernel
theorem dL_daysToDefaultByDays_2 : decode cL_daysToDefaultByDays 2 = .ok (.aload_n 0, 1) := by decide +kernel
theorem dL_daysToDefaultByDays_3 : decode cL_daysToDefaultByDays 3 = .ok (.iload_n 1, 1) := by decide +kernel
theorem dL_daysToDefaultByDays_4 : decode cL_daysToDefaultByDays 4 = .ok (.invokevirtual 115, 3) := by decide +kernel
theorem dL_daysToDefaultByDays_7 : decode cL_daysToDefaultByDays 7 = .ok (.i2l, 1) := by decide +kernel
theorem dL_daysToDefaultByDays_8 : decode cL_daysToDefaultByDays 8 = .ok (.lastore, 1) := by decide +kernel
theorem dL_daysToDefaultByDays_9 : decode cL_daysToDefaultByDays 9 = .ok (.goto 6, 3) := by decide +kernel
theorem dL_daysToDefaultByDays_12 : decode cL_daysToDefaultByDays 12 = .ok (.astore_n 3, 1) := by decide +kernel
theorem dL_daysToDefaultByDays_13 : decode cL_daysToDefaultByDays 13 = .ok (.iconst 1, 1) := by decide +kernel
theorem dL_daysToDefaultByDays_14 : decode cL_daysToDefaultByDays 14 = .ok (.ireturn, 1) := by decide +kernel
theorem dL_daysToDefaultByDays_15 : decode cL_daysToDefaultByDays 15 = .ok (.iconst 0, 1) := by decide +kernel
theorem dL_daysToDefaultByDays_16 : decode cL_daysToDefaultByDays 16 = .ok (.ireturn, 1) := by decide +kernel
theorem dL_interestAfter_0 : decode cL_interestAfter 0 = .ok (.aload_n 3, 1) := by decide +kernel
theorem dL_interestAfter_1 : decode cL_interestAfter 1 = .ok (.iconst 0, 1) := by decide +kernel
theorem dL_interestAfter_2 : decode cL_interestAfter 2 = .ok (.aload_n 0, 1) := by decide +kernel
theorem dL_interestAfter_3 : decode cL_interestAfter 3 = .ok (.iload_n 1, 1) := by decide +kernel
theorem dL_interestAfter_4 : decode cL_interestAfter 4 = .ok (.iload_n 2, 1) := by decide +kernel
theorem dL_interestAfter_5 : decode cL_interestAfter 5 = .ok (.invokevirtual 118, 3) := by decide +kernel
theorem dL_interestAfter_8 : decode cL_interestAfter 8 = .ok (.i2l, 1) := by decide +kernel
theorem dL_interestAfter_9 : decode cL_interestAfter 9 = .ok (.lastore, 1) := by decide +kernel
theorem dL_interestAfter_10 : decode cL_interestAfter 10 = .ok (.goto 11, 3) := by decide +kernel
theorem dL_interestAfter_13 : decode cL_interestAfter 13 = .ok (.astore 4, 2) := by decide +kernel
theorem dL_interestAfter_15 : decode cL_interestAfter 15 = .ok (.iconst 1, 1) := by decide +kernel
theorem dL_interestAfter_16 : decode cL_interestAfter 16 = .ok (.ireturn, 1) := by decide +kernel
theorem dL_interestAfter_17 : decode cL_interestAfter 17 = .ok (.astore 4, 2) := by decide +kernel
theorem dL_interestAfter_19 : decode cL_interestAfter 19 = .ok (.iconst 2, 1) := by decide +kernel
theorem dL_interestAfter_20 : decode cL_interestAfter 20 = .ok (.ireturn, 1) := by decide +kernel
theorem dL_interestAfter_21 : decode cL_interestAfter 21 = .ok (.iconst 0, 1) := by decide +kernel
theorem dL_interestAfter_22 : decode cL_interestAfter 22 = .ok (.ireturn, 1) := by decide +kernel
theorem dL_greatestPrincipal_0 : decode cL_greatestPrincipal 0 = .ok (.aload 4, 2) := by decide +kernel
theorem dL_greatestPrincipal_2 : decode cL_greatestPrincipal 2 = .ok (.iconst 0, 1) := by decide +kernel
theorem dL_greatestPrincipal_3 : decode cL_greatestPrincipal 3 = .ok (.aload_n 0, 1) := by decide +kernel
theorem dL_greatestPrincipal_4 : decode cL_greatestPrincipal 4 = .ok (.iload_n 1, 1) := by decide +kernel
theorem dL_greatestPrincipal_5 : decode cL_greatestPrincipal 5 = .ok (.iload_n 2, 1) := by decide +kernel
theorem dL_greatestPrincipal_6 : decode cL_greatestPrincipal 6 = .ok (.iload_n 3, 1) := by decide +kernel
theorem dL_greatestPrincipal_7 : decode cL_greatestPrincipal 7 = .ok (.invokevirtual 121, 3) := by decide +kernel
theorem dL_greatestPrincipal_10 : decode cL_greatestPrincipal 10 = .ok (.i2l, 1) := by decide +kernel
theorem dL_greatestPrincipal_11 : decode cL_greatestPrincipal 11 = .ok (.lastore, 1) := by decide +kernel
theorem dL_greatestPrincipal_12 : decode cL_greatestPrincipal 12 = .ok (.goto 15, 3) := by decide +kernel
theorem dL_greatestPrincipal_15 : decode cL_greatestPrincipal 15 = .ok (.astore 5, 2) := by decide +kernel
theorem dL_greatestPrincipal_17 : decode cL_greatestPrincipal 17 = .ok (.iconst 1, 1) := by decide +kernel
theorem dL_greatestPrincipal_18 : decode cL_greatestPrincipal 18 = .ok (.ireturn, 1) := by decide +kernel
theorem dL_greatestPrincipal_19 : decode cL_greatestPrincipal 19 = .ok (.astore 5, 2) := by decide +kernel
theorem dL_greatestPrincipal_21 : decode cL_greatestPrincipal 21 = .ok (.iconst 2, 1) := by decide +kernel
theorem dL_greatestPrincipal_22 : decode cL_greatestPrincipal 22 = .ok (.ireturn, 1) := by decide +kernel
theorem dL_greatestPrincipal_23 : decode cL_greatestPrincipal 23 = .ok (.astore 5, 2) := by decide +kernel
theorem dL_greatestPrincipal_25 : decode cL_greatestPrincipal 25 = .ok (.iconst 3, 1) := by decide +kernel
theorem dL_greatestPrincipal_26 : decode cL_greatestPrincipal 26 = .ok (.ireturn, 1) := by decide +kernel
theorem dL_greatestPrincipal_27 : decode cL_greatestPrincipal 27 = .ok (.iconst 0, 1) := by decide +kernel
theorem dL_greatestPrincipal_28 : decode cL_greatestPrincipal 28 = .ok (.ireturn, 1) := by decide +kernel
theorem dL_riskiest_0 : decode cL_riskiest 0 = .ok (.aload_n 1, 1) := by decide +kernel
theorem dL_riskiest_1 : decode cL_riskiest 1 = .ok (.iconst 0, 1) := by decide +kernel
theorem dL_riskiest_2 : decode cL_riskiest 2 = .ok (.aload_n 0, 1) := by decide +kernel
theorem dL_riskiest_3 : decode cL_riskiest 3 = .ok (.invokevirtual 124, 3) := by decide +kernel
theorem dL_riskiest_6 : decode cL_riskiest 6 = .ok (.i2l, 1) := by decide +kernel
theorem dL_riskiest_7 : decode cL_riskiest 7 = .ok (.lastore, 1) := by decide +kernel
theorem dL_riskiest_8 : decode cL_riskiest 8 = .ok (.goto 6, 3) := by decide +kernel
theorem dL_riskiest_11 : decode cL_riskiest 11 = .ok (.astore_n 2, 1) := by decide +kernel
theorem dL_riskiest_12 : decode cL_riskiest 12 = .ok (.iconst 1, 1) := by decide +kernel
theorem dL_riskiest_13 : decode cL_riskiest 13 = .ok (.ireturn, 1) := by decide +kernel
theorem dL_riskiest_14 : decode cL_riskiest 14 = .ok (.iconst 0, 1) := by decide +kernel
theorem dL_riskiest_15 : decode cL_riskiest 15 = .ok (.ireturn, 1) := by decide +kernel
theorem dL_loanByDebt_0 : decode cL_loanByDebt 0 = .ok (.aload_n 2, 1) := by decide +kernel
theorem dL_loanByDebt_1 : decode cL_loanByDebt 1 = .ok (.iconst 0, 1) := by decide +kernel
theorem dL_loanByDebt_2 : decode cL_loanByDebt 2 = .ok (.aload_n 0, 1) := by decide +kernel
theorem dL_loanByDebt_3 : decode cL_loanByDebt 3 = .ok (.iload_n 1, 1) := by decide +kernel
theorem dL_loanByDebt_4 : decode cL_loanByDebt 4 = .ok (.invokevirtual 128, 3) := by decide +kernel
theorem dL_loanByDebt_7 : decode cL_loanByDebt 7 = .ok (.i2l, 1) := by decide +kernel
theorem dL_loanByDebt_8 : decode cL_loanByDebt 8 = .ok (.lastore, 1) := by decide +kernel
theorem dL_loanByDebt_9 : decode cL_loanByDebt 9 = .ok (.goto 6, 3) := by decide +kernel
theorem dL_loanByDebt_12 : decode cL_loanByDebt 12 = .ok (.astore_n 3, 1) := by decide +kernel
theorem dL_loanByDebt_13 : decode cL_loanByDebt 13 = .ok (.iconst 1, 1) := by decide +kernel
theorem dL_loanByDebt_14 : decode cL_loanByDebt 14 = .ok (.ireturn, 1) := by decide +kernel
theorem dL_loanByDebt_15 : decode cL_loanByDebt 15 = .ok (.iconst 0, 1) := by decide +kernel
theorem dL_loanByDebt_16 : decode cL_loanByDebt 16 = .ok (.ireturn, 1) := by decide +kernel
theorem dL_ledgerAmount_0 : decode cL_ledgerAmount 0 = .ok (.aload_n 3, 1) := by decide +kernel
theorem dL_ledgerAmount_1 : decode cL_ledgerAmount 1 = .ok (.iconst 0, 1) := by decide +kernel
theorem dL_ledgerAmount_2 : decode cL_ledgerAmount 2 = .ok (.aload_n 0, 1) := by decide +kernel
theorem dL_ledgerAmount_3 : decode cL_ledgerAmount 3 = .ok (.iload_n 1, 1) := by decide +kernel
theorem dL_ledgerAmount_4 : decode cL_ledgerAmount 4 = .ok (.iload_n 2, 1) := by decide +kernel
theorem dL_ledgerAmount_5 : decode cL_ledgerAmount 5 = .ok (.invokevirtual 131, 3) := by decide +kernel
theorem dL_ledgerAmount_8 : decode cL_ledgerAmount 8 = .ok (.i2l, 1) := by decide +kernel
theorem dL_ledgerAmount_9 : decode cL_ledgerAmount 9 = .ok (.lastore, 1) := by decide +kernel
theorem dL_ledgerAmount_10 : decode cL_ledgerAmount 10 = .ok (.goto 7, 3) := by decide +kernel
theorem dL_ledgerAmount_13 : decode cL_ledgerAmount 13 = .ok (.astore 4, 2) := by decide +kernel
theorem dL_ledgerAmount_15 : decode cL_ledgerAmount 15 = .ok (.iconst 1, 1) := by decide +kernel
theorem dL_ledgerAmount_16 : decode cL_ledgerAmount 16 = .ok (.ireturn, 1) := by decide +kernel
theorem dL_ledgerAmount_17 : decode cL_ledgerAmount 17 = .ok (.iconst 0, 1) := by decide +kernel
theorem dL_ledgerAmount_18 : decode cL_ledgerAmount 18 = .ok (.ireturn, 1) := by decide +kernel
theorem dL_ledgerDay_0 : decode cL_ledgerDay 0 = .ok (.aload_n 2, 1) := by decide +kernel
theorem dL_ledgerDay_1 : decode cL_ledgerDay 1 = .ok (.iconst 0, 1) := by decide +kernel
theorem dL_ledgerDay_2 : decode cL_ledgerDay 2 = .ok (.aload_n 0, 1) := by decide +kernel
theorem dL_ledgerDay_3 : decode cL_ledgerDay 3 = .ok (.iload_n 1, 1) := by decide +kernel
theorem dL_ledgerDay_4 : decode cL_ledgerDay 4 = .ok (.invokevirtual 134, 3) := by decide +kernel
theorem dL_ledgerDay_7 : decode cL_ledgerDay 7 = .ok (.i2l, 1) := by decide +kernel
theorem dL_ledgerDay_8 : decode cL_ledgerDay 8 = .ok (.lastore, 1) := by decide +kernel
theorem dL_ledgerDay_9 : decode cL_ledgerDay 9 = .ok (.goto 6, 3) := by decide +kernel
theorem dL_ledgerDay_12 : decode cL_ledgerDay 12 = .ok (.astore_n 3, 1) := by decide +kernel
theorem dL_ledgerDay_13 : decode cL_ledgerDay 13 = .ok (.iconst 1, 1) := by decide +kernel
theorem dL_ledgerDay_14 : decode cL_ledgerDay 14 = .ok (.ireturn, 1) := by decide +kernel
theorem dL_ledgerDay_15 : decode cL_ledgerDay 15 = .ok (.iconst 0, 1) := by decide +kernel
theorem dL_ledgerDay_16 : decode cL_ledgerDay 16 = .ok (.ireturn, 1) := by decide +kernel
theorem dL_ledgerLoan_0 : decode cL_ledgerLoan 0 = .ok (.aload_n 2, 1) := by decide +kernel
theorem dL_ledgerLoan_1 : decode cL_ledgerLoan 1 = .ok (.iconst 0, 1) := by decide +kernel
theorem dL_ledgerLoan_2 : decode cL_ledgerLoan 2 = .ok (.aload_n 0, 1) := by decide +kernel
theorem dL_ledgerLoan_3 : decode cL_ledgerLoan 3 = .ok (.iload_n 1, 1) := by decide +kernel
theorem dL_ledgerLoan_4 : decode cL_ledgerLoan 4 = .ok (.invokevirtual 137, 3) := by decide +kernel
theorem dL_ledgerLoan_7 : decode cL_ledgerLoan 7 = .ok (.i2l, 1) := by decide +kernel
theorem dL_ledgerLoan_8 : decode cL_ledgerLoan 8 = .ok (.lastore, 1) := by decide +kernel
theorem dL_ledgerLoan_9 : decode cL_ledgerLoan 9 = .ok (.goto 6, 3) := by decide +kernel
theorem dL_ledgerLoan_12 : decode cL_ledgerLoan 12 = .ok (.astore_n 3, 1) := by decide +kernel
theorem dL_ledgerLoan_13 : decode cL_ledgerLoan 13 = .ok (.iconst 1, 1) := by decide +kernel
theorem dL_ledgerLoan_14 : decode cL_ledgerLoan 14 = .ok (.ireturn, 1) := by decide +kernel
theorem dL_ledgerLoan_15 : decode cL_ledgerLoan 15 = .ok (.iconst 0, 1) := by decide +kernel
theorem dL_ledgerLoan_16 : decode cL_ledgerLoan 16 = .ok (.ireturn, 1) := by decide +kernel
theorem dL_totalUnits_0 : decode cL_totalUnits 0 = .ok (.aload_n 2, 1) := by decide +kernel
theorem dL_totalUnits_1 : decode cL_totalUnits 1 = .ok (.iconst 0, 1) := by decide +kernel
theorem dL_totalUnits_2 : decode cL_totalUnits 2 = .ok (.aload_n 0, 1) := by decide +kernel
theorem dL_totalUnits_3 : decode cL_totalUnits 3 = .ok (.iload_n 1, 1) := by decide +kernel
theorem dL_totalUnits_4 : decode cL_totalUnits 4 = .ok (.invokevirtual 140, 3) := by decide +kernel
theorem dL_totalUnits_7 : decode cL_totalUnits 7 = .ok (.i2l, 1) := by decide +kernel
theorem dL_totalUnits_8 : decode cL_totalUnits 8 = .ok (.lastore, 1) := by decide +kernel
theorem dL_totalUnits_9 : decode cL_totalUnits 9 = .ok (.goto 6, 3) := by decide +kernel
theorem dL_totalUnits_12 : decode cL_totalUnits 12 = .ok (.astore_n 3, 1) := by decide +kernel
theorem dL_totalUnits_13 : decode cL_totalUnits 13 = .ok (.iconst 1, 1) := by decide +kernel
theorem dL_totalUnits_14 : decode cL_totalUnits 14 = .ok (.ireturn, 1) := by decide +kernel
theorem dL_totalUnits_15 : decode cL_totalUnits 15 = .ok (.iconst 0, 1) := by decide +kernel
theorem dL_totalUnits_16 : decode cL_totalUnits 16 = .ok (.ireturn, 1) := by decide +kernel
theorem dL_meanDebt_0 : decode cL_meanDebt 0 = .ok (.aload_n 1, 1) := by decide +kernel
theorem dL_meanDebt_1 : decode cL_meanDebt 1 = .ok (.iconst 0, 1) := by decide +kernel
theorem dL_meanDebt_2 : decode cL_meanDebt 2 = .ok (.aload_n 0, 1) := by decide +kernel
theorem dL_meanDebt_3 : decode cL_meanDebt 3 = .ok (.invokevirtual 143, 3) := by decide +kernel
theorem dL_meanDebt_6 : decode cL_meanDebt 6 = .ok (.dastore, 1) := by decide +kernel
theorem dL_meanDebt_7 : decode cL_meanDebt 7 = .ok (.goto 6, 3) := by decide +kernel
theorem dL_meanDebt_10 : decode cL_meanDebt 10 = .ok (.astore_n 2, 1) := by decide +kernel
theorem dL_meanDebt_11 : decode cL_meanDebt 11 = .ok (.iconst 1, 1) := by decide +kernel
theorem dL_meanDebt_12 : decode cL_meanDebt 12 = .ok (.ireturn, 1) := by decide +kernel
theorem dL_meanDebt_13 : decode cL_meanDebt 13 = .ok (.iconst 0, 1) := by decide +kernel
theorem dL_meanDebt_14 : decode cL_meanDebt 14 = .ok (.ireturn, 1) := by decide +kernel
theorem dL_defaultShare_0 : decode cL_defaultShare 0 = .ok (.aload_n 1, 1) := by decide +kernel
theorem dL_defaultShare_1 : decode cL_defaultShare 1 = .ok (.iconst 0, 1) := by decide +kernel
theorem dL_defaultShare_2 : decode cL_defaultShare 2 = .ok (.aload_n 0, 1) := by decide +kernel
theorem dL_defaultShare_3 : decode cL_defaultShare 3 = .ok (.invokevirtual 149, 3) := by decide +kernel
theorem dL_defaultShare_6 : decode cL_defaultShare 6 = .ok (.f2d, 1) := by decide +kernel
theorem dL_defaultShare_7 : decode cL_defaultShare 7 = .ok (.dastore, 1) := by decide +kernel
theorem dL_defaultShare_8 : decode cL_defaultShare 8 = .ok (.goto 6, 3) := by decide +kernel
theorem dL_defaultShare_11 : decode cL_defaultShare 11 = .ok (.astore_n 2, 1) := by decide +kernel
theorem dL_defaultShare_12 : decode cL_defaultShare 12 = .ok (.iconst 1, 1) := by decide +kernel
theorem dL_defaultShare_13 : decode cL_defaultShare 13 = .ok (.ireturn, 1) := by decide +kernel
theorem dL_defaultShare_14 : decode cL_defaultShare 14 = .ok (.iconst 0, 1) := by decide +kernel
theorem dL_defaultShare_15 : decode cL_defaultShare 15 = .ok (.ireturn, 1) := by decide +kernel
theorem dL_formatLoan_0 : decode cL_formatLoan 0 = .ok (.aload_n 2, 1) := by decide +kernel
theorem dL_formatLoan_1 : decode cL_formatLoan 1 = .ok (.iconst 0, 1) := by decide +kernel
theorem dL_formatLoan_2 : decode cL_formatLoan 2 = .ok (.aload_n 0, 1) := by decide +kernel
theorem dL_formatLoan_3 : decode cL_formatLoan 3 = .ok (.iload_n 1, 1) := by decide +kernel
theorem dL_formatLoan_4 : decode cL_formatLoan 4 = .ok (.invokevirtual 153, 3) := by decide +kernel
theorem dL_formatLoan_7 : decode cL_formatLoan 7 = .ok (.i2l, 1) := by decide +kernel
theorem dL_formatLoan_8 : decode cL_formatLoan 8 = .ok (.lastore, 1) := by decide +kernel
theorem dL_formatLoan_9 : decode cL_formatLoan 9 = .ok (.goto 6, 3) := by decide +kernel
theorem dL_formatLoan_12 : decode cL_formatLoan 12 = .ok (.astore_n 3, 1) := by decide +kernel
theorem dL_formatLoan_13 : decode cL_formatLoan 13 = .ok (.iconst 1, 1) := by decide +kernel
theorem dL_formatLoan_14 : decode cL_formatLoan 14 = .ok (.ireturn, 1) := by decide +kernel
theorem dL_formatLoan_15 : decode cL_formatLoan 15 = .ok (.iconst 0, 1) := by decide +kernel
theorem dL_formatLoan_16 : decode cL_formatLoan 16 = .ok (.ireturn, 1) := by decide +kernel
theorem dL_lineChar_0 : decode cL_lineChar 0 = .ok (.aload_n 2, 1) := by decide +kernel
theorem dL_lineChar_1 : decode cL_lineChar 1 = .ok (.iconst 0, 1) := by decide +kernel
theorem dL_lineChar_2 : decode cL_lineChar 2 = .ok (.aload_n 0, 1) := by decide +kernel
theorem dL_lineChar_3 : decode cL_lineChar 3 = .ok (.iload_n 1, 1) := by decide +kernel
theorem dL_lineChar_4 : decode cL_lineChar 4 = .ok (.invokevirtual 156, 3) := by decide +kernel
theorem dL_lineChar_7 : decode cL_lineChar 7 = .ok (.i2l, 1) := by decide +kernel
theorem dL_lineChar_8 : decode cL_lineChar 8 = .ok (.lastore, 1) := by decide +kernel
theorem dL_lineChar_9 : decode cL_lineChar 9 = .ok (.goto 6, 3) := by decide +kernel
theorem dL_lineChar_12 : decode cL_lineChar 12 = .ok (.astore_n 3, 1) := by decide +kernel
theorem dL_lineChar_13 : decode cL_lineChar 13 = .ok (.iconst 1, 1) := by decide +kernel
theorem dL_lineChar_14 : decode cL_lineChar 14 = .ok (.ireturn, 1) := by decide +kernel
theorem dL_lineChar_15 : decode cL_lineChar 15 = .ok (.iconst 0, 1) := by decide +kernel
theorem dL_lineChar_16 : decode cL_lineChar 16 = .ok (.ireturn, 1) := by decide +kernel
theorem dL_append_0 : decode cL_append 0 = .ok (.aload_n 2, 1) := by decide +kernel
theorem dL_append_1 : decode cL_append 1 = .ok (.iconst 0, 1) := by decide +kernel
theorem dL_append_2 : decode cL_append 2 = .ok (.aload_n 0, 1) := by decide +kernel
theorem dL_append_3 : decode cL_append 3 = .ok (.iload_n 1, 1) := by decide +kernel
theorem dL_append_4 : decode cL_append 4 = .ok (.invokevirtual 160, 3) := by decide +kernel
theorem dL_append_7 : decode cL_append 7 = .ok (.i2l, 1) := by decide +kernel
theorem dL_append_8 : decode cL_append 8 = .ok (.lastore, 1) := by decide +kernel
theorem dL_append_9 : decode cL_append 9 = .ok (.goto 9, 3) := by decide +kernel
theorem dL_append_12 : decode cL_append 12 = .ok (.astore_n 3, 1) := by decide +kernel
theorem dL_append_13 : decode cL_append 13 = .ok (.iconst 1, 1) := by decide +kernel
theorem dL_append_14 : decode cL_append 14 = .ok (.ireturn, 1) := by decide +kernel
theorem dL_append_15 : decode cL_append 15 = .ok (.astore_n 3, 1) := by decide +kernel
theorem dL_append_16 : decode cL_append 16 = .ok (.iconst 2, 1) := by decide +kernel
theorem dL_append_17 : decode cL_append 17 = .ok (.ireturn, 1) := by decide +kernel
theorem dL_append_18 : decode cL_append 18 = .ok (.iconst 0, 1) := by decide +kernel
theorem dL_append_19 : decode cL_append 19 = .ok (.ireturn, 1) := by decide +kernel
theorem dL_run_0 : decode cL_run 0 = .ok (.aload_n 1, 1) := by decide +kernel
theorem dL_run_1 : decode cL_run 1 = .ok (.iconst 0, 1) := by decide +kernel
theorem dL_run_2 : decode cL_run 2 = .ok (.aload_n 0, 1) := by decide +kernel
theorem dL_run_3 : decode cL_run 3 = .ok (.invokevirtual 164, 3) := by decide +kernel
theorem dL_run_6 : decode cL_run 6 = .ok (.i2l, 1) := by decide +kernel
theorem dL_run_7 : decode cL_run 7 = .ok (.lastore, 1) := by decide +kernel
theorem dL_run_8 : decode cL_run 8 = .ok (.goto 9, 3) := by decide +kernel
theorem dL_run_11 : decode cL_run 11 = .ok (.astore_n 2, 1) := by decide +kernel
theorem dL_run_12 : decode cL_run 12 = .ok (.iconst 1, 1) := by decide +kernel
theorem dL_run_13 : decode cL_run 13 = .ok (.ireturn, 1) := by decide +kernel
theorem dL_run_14 : decode cL_run 14 = .ok (.astore_n 2, 1) := by decide +kernel
theorem dL_run_15 : decode cL_run 15 = .ok (.iconst 2, 1) := by decide +kernel
theorem dL_run_16 : decode cL_run 16 = .ok (.ireturn, 1) := by decide +kernel
theorem dL_run_17 : decode cL_run 17 = .ok (.iconst 0, 1) := by decide +kernel
theorem dL_run_18 : decode cL_run 18 = .ok (.ireturn, 1) := by decide +kernel
theorem dL_errorPosition_0 : decode cL_errorPosition 0 = .ok (.aload_n 1, 1) := by decide +kernel
theorem dL_errorPosition_1 : decode cL_errorPosition 1 = .ok (.iconst 0, 1) := by decide +kernel
theorem dL_errorPosition_2 : decode cL_errorPosition 2 = .ok (.aload_n 0, 1) := by decide +kernel
theorem dL_errorPosition_3 : decode cL_errorPosition 3 = .ok (.invokevirtual 167, 3) := by decide +kernel
theorem dL_errorPosition_6 : decode cL_errorPosition 6 = .ok (.i2l, 1) := by decide +kernel
theorem dL_errorPosition_7 : decode cL_errorPosition 7 = .ok (.lastore, 1) := by decide +kernel
theorem dL_errorPosition_8 : decode cL_errorPosition 8 = .ok (.goto 6, 3) := by decide +kernel
theorem dL_errorPosition_11 : decode cL_errorPosition 11 = .ok (.astore_n 2, 1) := by decide +kernel
theorem dL_errorPosition_12 : decode cL_errorPosition 12 = .ok (.iconst 1, 1) := by decide +kernel
theorem dL_errorPosition_13 : decode cL_errorPosition 13 = .ok (.ireturn, 1) := by decide +kernel
theorem dL_errorPosition_14 : decode cL_errorPosition 14 = .ok (.iconst 0, 1) := by decide +kernel
theorem dL_errorPosition_15 : decode cL_errorPosition 15 = .ok (.ireturn, 1) := by decide +kernel
theorem dL_failedCommand_0 : decode cL_failedCommand 0 = .ok (.aload_n 1, 1) := by decide +kernel
theorem dL_failedCommand_1 : decode cL_failedCommand 1 = .ok (.iconst 0, 1) := by decide +kernel
theorem dL_failedCommand_2 : decode cL_failedCommand 2 = .ok (.aload_n 0, 1) := by decide +kernel
theorem dL_failedCommand_3 : decode cL_failedCommand 3 = .ok (.invokevirtual 170, 3) := by decide +kernel
theorem dL_failedCommand_6 : decode cL_failedCommand 6 = .ok (.i2l, 1) := by decide +kernel
theorem dL_failedCommand_7 : decode cL_failedCommand 7 = .ok (.lastore, 1) := by decide +kernel
theorem dL_failedCommand_8 : decode cL_failedCommand 8 = .ok (.goto 6, 3) := by decide +kernel
theorem dL_failedCommand_11 : decode cL_failedCommand 11 = .ok (.astore_n 2, 1) := by decide +kernel
theorem dL_failedCommand_12 : decode cL_failedCommand 12 = .ok (.iconst 1, 1) := by decide +kernel
theorem dL_failedCommand_13 : decode cL_failedCommand 13 = .ok (.ireturn, 1) := by decide +kernel
theorem dL_failedCommand_14 : decode cL_failedCommand 14 = .ok (.iconst 0, 1) := by decide +kernel
theorem dL_failedCommand_15 : decode cL_failedCommand 15 = .ok (.ireturn, 1) := by decide +kernel
theorem dL_undo_0 : decode cL_undo 0 = .ok (.aload_n 1, 1) := by decide +kernel
theorem dL_undo_1 : decode cL_undo 1 = .ok (.iconst 0, 1) := by decide +kernel
theorem dL_undo_2 : decode cL_undo 2 = .ok (.aload_n 0, 1) := by decide +kernel
theorem dL_undo_3 : decode cL_undo 3 = .ok (.invokevirtual 173, 3) := by decide +kernel
theorem dL_undo_6 : decode cL_undo 6 = .ok (.i2l, 1) := by decide +kernel
theorem dL_undo_7 : decode cL_undo 7 = .ok (.lastore, 1) := by decide +kernel
theorem dL_undo_8 : decode cL_undo 8 = .ok (.goto 6, 3) := by decide +kernel
theorem dL_undo_11 : decode cL_undo 11 = .ok (.astore_n 2, 1) := by decide +kernel
theorem dL_undo_12 : decode cL_undo 12 = .ok (.iconst 1, 1) := by decide +kernel
theorem dL_undo_13 : decode cL_undo 13 = .ok (.ireturn, 1) := by decide +kernel
theorem dL_undo_14 : decode cL_undo 14 = .ok (.iconst 0, 1) := by decide +kernel
theorem dL_undo_15 : decode cL_undo 15 = .ok (.ireturn, 1) := by decide +kernel
theorem dL_restore_0 : decode cL_restore 0 = .ok (.aload_n 1, 1) := by decide +kernel
theorem dL_restore_1 : decode cL_restore 1 = .ok (.iconst 0, 1) := by decide +kernel
theorem dL_restore_2 : decode cL_restore 2 = .ok (.aload_n 0, 1) := by decide +kernel
theorem dL_restore_3 : decode cL_restore 3 = .ok (.invokevirtual 176, 3) := by decide +kernel
theorem dL_restore_6 : decode cL_restore 6 = .ok (.i2l, 1) := by decide +kernel
theorem dL_restore_7 : decode cL_restore 7 = .ok (.lastore, 1) := by decide +kernel
theorem dL_restore_8 : decode cL_restore 8 = .ok (.goto 6, 3) := by decide +kernel
theorem dL_restore_11 : decode cL_restore 11 = .ok (.astore_n 2, 1) := by decide +kernel
theorem dL_restore_12 : decode cL_restore 12 = .ok (.iconst 1, 1) := by decide +kernel
theorem dL_restore_13 : decode cL_restore 13 = .ok (.ireturn, 1) := by decide +kernel
theorem dL_restore_14 : decode cL_restore 14 = .ok (.iconst 0, 1) := by decide +kernel
theorem dL_restore_15 : decode cL_restore 15 = .ok (.ireturn, 1) := by decide +kernel
