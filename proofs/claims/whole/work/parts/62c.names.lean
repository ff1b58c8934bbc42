theorem gX7_as_X7_its : GoodIn wsX7_as (wsV RX7 72 RX7 yX7_its wsX7_its) := nw_gV nwl_X7_as nwe_552 nwe_553 nwe_554 nwe_534 nwl_X7_its (by decide +kernel)
theorem gX7_as_X7_isUnder : GoodIn wsX7_as (va_wsS RX7 181 yX7_isUnder wsX7_isUnder) := nw_gS nwl_X7_as nwe_675 nwe_676 nwe_534 nwl_X7_isUnder (by decide +kernel)
theorem dX7_as_0 : decode cX7_as 0 = .ok (.iload_n 1, 1) := by decide +kernel
theorem dX7_as_1 : decode cX7_as 1 = .ok (.invokestatic 178, 3) := by decide +kernel
theorem dX7_as_4 : decode cX7_as 4 = .ok (.ifCond .eq 13, 3) := by decide +kernel
theorem dX7_as_7 : decode cX7_as 7 = .ok (.iload_n 2, 1) := by decide +kernel
theorem dX7_as_8 : decode cX7_as 8 = .ok (.iconst 0, 1) := by decide +kernel
theorem dX7_as_9 : decode cX7_as 9 = .ok (.bipush 6, 2) := by decide +kernel
theorem dX7_as_11 : decode cX7_as 11 = .ok (.invokestatic 68, 3) := by decide +kernel
theorem dX7_as_14 : decode cX7_as 14 = .ok (.ifCond .ne 9, 3) := by decide +kernel
theorem dX7_as_17 : decode cX7_as 17 = .ok (.aload_n 0, 1) := by decide +kernel
theorem dX7_as_18 : decode cX7_as 18 = .ok (.iconst 1, 1) := by decide +kernel
theorem dX7_as_19 : decode cX7_as 19 = .ok (.invokevirtual 76, 3) := by decide +kernel
theorem dX7_as_22 : decode cX7_as 22 = .ok (.ireturn, 1) := by decide +kernel
theorem dX7_as_23 : decode cX7_as 23 = .ok (.aload_n 0, 1) := by decide +kernel
theorem dX7_as_24 : decode cX7_as 24 = .ok (.iload_n 1, 1) := by decide +kernel
theorem dX7_as_25 : decode cX7_as 25 = .ok (.iconst 0, 1) := by decide +kernel
theorem dX7_as_26 : decode cX7_as 26 = .ok (.invokevirtual 72, 3) := by decide +kernel
theorem dX7_as_29 : decode cX7_as 29 = .ok (.iload_n 2, 1) := by decide +kernel
theorem dX7_as_30 : decode cX7_as 30 = .ok (.invokestatic 181, 3) := by decide +kernel
theorem dX7_as_33 : decode cX7_as 33 = .ok (.ifCond .eq 12, 3) := by decide +kernel
theorem dX7_as_36 : decode cX7_as 36 = .ok (.aload_n 0, 1) := by decide +kernel
theorem dX7_as_37 : decode cX7_as 37 = .ok (.iload_n 1, 1) := by decide +kernel
theorem dX7_as_38 : decode cX7_as 38 = .ok (.iconst 1, 1) := by decide +kernel
theorem dX7_as_39 : decode cX7_as 39 = .ok (.invokevirtual 72, 3) := by decide +kernel
theorem dX7_as_42 : decode cX7_as 42 = .ok (.goto 8, 3) := by decide +kernel
theorem dX7_as_45 : decode cX7_as 45 = .ok (.aload_n 0, 1) := by decide +kernel
theorem dX7_as_46 : decode cX7_as 46 = .ok (.iconst 5, 1) := by decide +kernel
theorem dX7_as_47 : decode cX7_as 47 = .ok (.invokevirtual 76, 3) := by decide +kernel
theorem dX7_as_50 : decode cX7_as 50 = .ok (.ireturn, 1) := by decide +kernel
theorem gX7_trades_X7_its : GoodIn wsX7_trades (wsV RX7 72 RX7 yX7_its wsX7_its) := nw_gV nwl_X7_trades nwe_552 nwe_553 nwe_554 nwe_534 nwl_X7_its (by decide +kernel)
theorem gX7_trades_X7_lays1 : GoodIn wsX7_trades (wsV RX7 59 RX7 yX7_lays1 wsX7_lays1) := nw_gV nwl_X7_trades nwe_531 nwe_532 nwe_533 nwe_534 nwl_X7_lays1 (by decide +kernel)
theorem dX7_trades_0 : decode cX7_trades 0 = .ok (.aload_n 0, 1) := by decide +kernel
theorem dX7_trades_1 : decode cX7_trades 1 = .ok (.iload_n 1, 1) := by decide +kernel
theorem dX7_trades_2 : decode cX7_trades 2 = .ok (.iconst 4, 1) := by decide +kernel
theorem dX7_trades_3 : decode cX7_trades 3 = .ok (.invokevirtual 72, 3) := by decide +kernel
theorem dX7_trades_6 : decode cX7_trades 6 = .ok (.istore_n 3, 1) := by decide +kernel
theorem dX7_trades_7 : decode cX7_trades 7 = .ok (.aload_n 0, 1) := by decide +kernel
theorem dX7_trades_8 : decode cX7_trades 8 = .ok (.iload_n 1, 1) := by decide +kernel
theorem dX7_trades_9 : decode cX7_trades 9 = .ok (.iconst 4, 1) := by decide +kernel
theorem dX7_trades_10 : decode cX7_trades 10 = .ok (.aload_n 0, 1) := by decide +kernel
theorem dX7_trades_11 : decode cX7_trades 11 = .ok (.iload_n 2, 1) := by decide +kernel
theorem dX7_trades_12 : decode cX7_trades 12 = .ok (.iconst 4, 1) := by decide +kernel
theorem dX7_trades_13 : decode cX7_trades 13 = .ok (.invokevirtual 72, 3) := by decide +kernel
theorem dX7_trades_16 : decode cX7_trades 16 = .ok (.invokevirtual 59, 3) := by decide +kernel
theorem dX7_trades_19 : decode cX7_trades 19 = .ok (.aload_n 0, 1) := by decide +kernel
theorem dX7_trades_20 : decode cX7_trades 20 = .ok (.iload_n 2, 1) := by decide +kernel
theorem dX7_trades_21 : decode cX7_trades 21 = .ok (.iconst 4, 1) := by decide +kernel
theorem dX7_trades_22 : decode cX7_trades 22 = .ok (.iload_n 3, 1) := by decide +kernel
theorem dX7_trades_23 : decode cX7_trades 23 = .ok (.invokevirtual 59, 3) := by decide +kernel
theorem dX7_trades_26 : decode cX7_trades 26 = .ok (.return_, 1) := by decide +kernel
theorem gX7_trade_X7_isFarmer : GoodIn wsX7_trade (va_wsS RX7 178 yX7_isFarmer wsX7_isFarmer) := nw_gS nwl_X7_trade nwe_670 nwe_671 nwe_534 nwl_X7_isFarmer (by decide +kernel)
theorem gX7_trade_X7_error : GoodIn wsX7_trade (wsV RX7 76 RX7 yX7_error wsX7_error) := nw_gV nwl_X7_trade nwe_558 nwe_559 nwe_560 nwe_534 nwl_X7_error (by decide +kernel)
theorem gX7_trade_X7_trades : GoodIn wsX7_trade (wsV RX7 185 RX7 yX7_trades wsX7_trades) := nw_gV nwl_X7_trade nwe_678 nwe_679 nwe_680 nwe_534 nwl_X7_trades (by decide +kernel)
theorem gX7_trade_X7_its : GoodIn wsX7_trade (wsV RX7 72 RX7 yX7_its wsX7_its) := nw_gV nwl_X7_trade nwe_552 nwe_553 nwe_554 nwe_534 nwl_X7_its (by decide +kernel)
theorem dX7_trade_0 : decode cX7_trade 0 = .ok (.iload_n 1, 1) := by decide +kernel
theorem dX7_trade_1 : decode cX7_trade 1 = .ok (.invokestatic 178, 3) := by decide +kernel
theorem dX7_trade_4 : decode cX7_trade 4 = .ok (.ifCond .eq 10, 3) := by decide +kernel
theorem dX7_trade_7 : decode cX7_trade 7 = .ok (.iload_n 2, 1) := by decide +kernel
theorem dX7_trade_8 : decode cX7_trade 8 = .ok (.invokestatic 178, 3) := by decide +kernel
theorem dX7_trade_11 : decode cX7_trade 11 = .ok (.ifCond .ne 9, 3) := by decide +kernel
theorem dX7_trade_14 : decode cX7_trade 14 = .ok (.aload_n 0, 1) := by decide +kernel
theorem dX7_trade_15 : decode cX7_trade 15 = .ok (.iconst 1, 1) := by decide +kernel
theorem dX7_trade_16 : decode cX7_trade 16 = .ok (.invokevirtual 76, 3) := by decide +kernel
theorem dX7_trade_19 : decode cX7_trade 19 = .ok (.ireturn, 1) := by decide +kernel
theorem dX7_trade_20 : decode cX7_trade 20 = .ok (.aload_n 0, 1) := by decide +kernel
theorem dX7_trade_21 : decode cX7_trade 21 = .ok (.iload_n 1, 1) := by decide +kernel
theorem dX7_trade_22 : decode cX7_trade 22 = .ok (.iload_n 2, 1) := by decide +kernel
theorem dX7_trade_23 : decode cX7_trade 23 = .ok (.invokevirtual 185, 3) := by decide +kernel
theorem dX7_trade_26 : decode cX7_trade 26 = .ok (.aload_n 0, 1) := by decide +kernel
theorem dX7_trade_27 : decode cX7_trade 27 = .ok (.iload_n 1, 1) := by decide +kernel
theorem dX7_trade_28 : decode cX7_trade 28 = .ok (.iconst 4, 1) := by decide +kernel
theorem dX7_trade_29 : decode cX7_trade 29 = .ok (.invokevirtual 72, 3) := by decide +kernel
theorem dX7_trade_32 : decode cX7_trade 32 = .ok (.ireturn, 1) := by decide +kernel
theorem gX7_leash_X7_isFarmer : GoodIn wsX7_leash (va_wsS RX7 178 yX7_isFarmer wsX7_isFarmer) := nw_gS nwl_X7_leash nwe_670 nwe_671 nwe_534 nwl_X7_isFarmer (by decide +kernel)
theorem gX7_leash_X7_in : GoodIn wsX7_leash (va_wsS RX7 68 yX7_in wsX7_in) := nw_gS nwl_X7_leash nwe_546 nwe_547 nwe_534 nwl_X7_in (by decide +kernel)
theorem gX7_leash_X7_change1 : GoodIn wsX7_leash (wsV RX7 175 RX7 yX7_change1 wsX7_change1) := nw_gV nwl_X7_leash nwe_664 nwe_665 nwe_666 nwe_534 nwl_X7_change1 (by decide +kernel)
theorem gX7_leash_X7_error : GoodIn wsX7_leash (wsV RX7 76 RX7 yX7_error wsX7_error) := nw_gV nwl_X7_leash nwe_558 nwe_559 nwe_560 nwe_534 nwl_X7_error (by decide +kernel)
theorem dX7_leash_0 : decode cX7_leash 0 = .ok (.iload_n 1, 1) := by decide +kernel
theorem dX7_leash_1 : decode cX7_leash 1 = .ok (.invokestatic 178, 3) := by decide +kernel
theorem dX7_leash_4 : decode cX7_leash 4 = .ok (.ifCond .eq 40, 3) := by decide +kernel
theorem dX7_leash_7 : decode cX7_leash 7 = .ok (.iload_n 2, 1) := by decide +kernel
theorem dX7_leash_8 : decode cX7_leash 8 = .ok (.iconst 0, 1) := by decide +kernel
theorem dX7_leash_9 : decode cX7_leash 9 = .ok (.iconst 3, 1) := by decide +kernel
theorem dX7_leash_10 : decode cX7_leash 10 = .ok (.invokestatic 68, 3) := by decide +kernel
theorem dX7_leash_13 : decode cX7_leash 13 = .ok (.ifCond .eq 31, 3) := by decide +kernel
theorem dX7_leash_16 : decode cX7_leash 16 = .ok (.iload_n 3, 1) := by decide +kernel
theorem dX7_leash_17 : decode cX7_leash 17 = .ok (.iconst 0, 1) := by decide +kernel
theorem dX7_leash_18 : decode cX7_leash 18 = .ok (.iconst 4, 1) := by decide +kernel
theorem dX7_leash_19 : decode cX7_leash 19 = .ok (.invokestatic 68, 3) := by decide +kernel
theorem dX7_leash_22 : decode cX7_leash 22 = .ok (.ifCond .eq 22, 3) := by decide +kernel
theorem dX7_leash_25 : decode cX7_leash 25 = .ok (.aload_n 0, 1) := by decide +kernel
theorem dX7_leash_26 : decode cX7_leash 26 = .ok (.bipush 40, 2) := by decide +kernel
theorem dX7_leash_28 : decode cX7_leash 28 = .ok (.bipush 9, 2) := by decide +kernel
theorem dX7_leash_30 : decode cX7_leash 30 = .ok (.iload_n 1, 1) := by decide +kernel
theorem dX7_leash_31 : decode cX7_leash 31 = .ok (.imul, 1) := by decide +kernel
theorem dX7_leash_32 : decode cX7_leash 32 = .ok (.iadd, 1) := by decide +kernel
theorem dX7_leash_33 : decode cX7_leash 33 = .ok (.iconst 5, 1) := by decide +kernel
theorem dX7_leash_34 : decode cX7_leash 34 = .ok (.iadd, 1) := by decide +kernel
theorem dX7_leash_35 : decode cX7_leash 35 = .ok (.iload_n 2, 1) := by decide +kernel
theorem dX7_leash_36 : decode cX7_leash 36 = .ok (.iadd, 1) := by decide +kernel
theorem dX7_leash_37 : decode cX7_leash 37 = .ok (.iload_n 3, 1) := by decide +kernel
theorem dX7_leash_38 : decode cX7_leash 38 = .ok (.invokevirtual 175, 3) := by decide +kernel
theorem dX7_leash_41 : decode cX7_leash 41 = .ok (.goto 8, 3) := by decide +kernel
theorem dX7_leash_44 : decode cX7_leash 44 = .ok (.aload_n 0, 1) := by decide +kernel
theorem dX7_leash_45 : decode cX7_leash 45 = .ok (.iconst 1, 1) := by decide +kernel
theorem dX7_leash_46 : decode cX7_leash 46 = .ok (.invokevirtual 76, 3) := by decide +kernel
theorem dX7_leash_49 : decode cX7_leash 49 = .ok (.ireturn, 1) := by decide +kernel
theorem gX7_pig_X7_in : GoodIn wsX7_pig (va_wsS RX7 68 yX7_in wsX7_in) := nw_gS nwl_X7_pig nwe_546 nwe_547 nwe_534 nwl_X7_in (by decide +kernel)
theorem gX7_pig_X7_change1 : GoodIn wsX7_pig (wsV RX7 175 RX7 yX7_change1 wsX7_change1) := nw_gV nwl_X7_pig nwe_664 nwe_665 nwe_666 nwe_534 nwl_X7_change1 (by decide +kernel)
theorem gX7_pig_X7_error : GoodIn wsX7_pig (wsV RX7 76 RX7 yX7_error wsX7_error) := nw_gV nwl_X7_pig nwe_558 nwe_559 nwe_560 nwe_534 nwl_X7_error (by decide +kernel)
theorem dX7_pig_0 : decode cX7_pig 0 = .ok (.iload_n 1, 1) := by decide +kernel
theorem dX7_pig_1 : decode cX7_pig 1 = .ok (.iconst 0, 1) := by decide +kernel
theorem dX7_pig_2 : decode cX7_pig 2 = .ok (.iconst 1, 1) := by decide +kernel
theorem dX7_pig_3 : decode cX7_pig 3 = .ok (.invokestatic 68, 3) := by decide +kernel
theorem dX7_pig_6 : decode cX7_pig 6 = .ok (.ifCond .eq 33, 3) := by decide +kernel
theorem dX7_pig_9 : decode cX7_pig 9 = .ok (.iload_n 2, 1) := by decide +kernel
theorem dX7_pig_10 : decode cX7_pig 10 = .ok (.iconst 0, 1) := by decide +kernel
theorem dX7_pig_11 : decode cX7_pig 11 = .ok (.iload_n 1, 1) := by decide +kernel
theorem dX7_pig_12 : decode cX7_pig 12 = .ok (.ifCond .ne 8, 3) := by decide +kernel
theorem dX7_pig_15 : decode cX7_pig 15 = .ok (.bipush 15, 2) := by decide +kernel
theorem dX7_pig_17 : decode cX7_pig 17 = .ok (.goto 5, 3) := by decide +kernel
theorem dX7_pig_20 : decode cX7_pig 20 = .ok (.bipush 9, 2) := by decide +kernel
theorem dX7_pig_22 : decode cX7_pig 22 = .ok (.invokestatic 68, 3) := by decide +kernel
theorem dX7_pig_25 : decode cX7_pig 25 = .ok (.ifCond .eq 14, 3) := by decide +kernel
theorem dX7_pig_28 : decode cX7_pig 28 = .ok (.aload_n 0, 1) := by decide +kernel
theorem dX7_pig_29 : decode cX7_pig 29 = .ok (.iconst 2, 1) := by decide +kernel
theorem dX7_pig_30 : decode cX7_pig 30 = .ok (.iload_n 1, 1) := by decide +kernel
theorem dX7_pig_31 : decode cX7_pig 31 = .ok (.iadd, 1) := by decide +kernel
theorem dX7_pig_32 : decode cX7_pig 32 = .ok (.iload_n 2, 1) := by decide +kernel
theorem dX7_pig_33 : decode cX7_pig 33 = .ok (.invokevirtual 175, 3) := by decide +kernel
theorem dX7_pig_36 : decode cX7_pig 36 = .ok (.goto 8, 3) := by decide +kernel
theorem dX7_pig_39 : decode cX7_pig 39 = .ok (.aload_n 0, 1) := by decide +kernel
theorem dX7_pig_40 : decode cX7_pig 40 = .ok (.iconst 1, 1) := by decide +kernel
theorem dX7_pig_41 : decode cX7_pig 41 = .ok (.invokevirtual 76, 3) := by decide +kernel
theorem dX7_pig_44 : decode cX7_pig 44 = .ok (.ireturn, 1) := by decide +kernel
theorem gX7_whyNotDays_X7_in : GoodIn wsX7_whyNotDays (va_wsS RX7 68 yX7_in wsX7_in) := nw_gS nwl_X7_whyNotDays nwe_546 nwe_547 nwe_534 nwl_X7_in (by decide +kernel)
theorem dX7_whyNotDays_0 : decode cX7_whyNotDays 0 = .ok (.iload_n 1, 1) := by decide +kernel
theorem dX7_whyNotDays_1 : decode cX7_whyNotDays 1 = .ok (.iconst 1, 1) := by decide +kernel
theorem dX7_whyNotDays_2 : decode cX7_whyNotDays 2 = .ok (.bipush 45, 2) := by decide +kernel
theorem dX7_whyNotDays_4 : decode cX7_whyNotDays 4 = .ok (.invokestatic 68, 3) := by decide +kernel
theorem dX7_whyNotDays_7 : decode cX7_whyNotDays 7 = .ok (.ifCond .ne 7, 3) := by decide +kernel
theorem dX7_whyNotDays_10 : decode cX7_whyNotDays 10 = .ok (.iconst 1, 1) := by decide +kernel
theorem dX7_whyNotDays_11 : decode cX7_whyNotDays 11 = .ok (.goto 22, 3) := by decide +kernel
theorem dX7_whyNotDays_14 : decode cX7_whyNotDays 14 = .ok (.aload_n 0, 1) := by decide +kernel
theorem dX7_whyNotDays_15 : decode cX7_whyNotDays 15 = .ok (.getfield 7, 3) := by decide +kernel
theorem dX7_whyNotDays_18 : decode cX7_whyNotDays 18 = .ok (.iconst 0, 1) := by decide +kernel
theorem dX7_whyNotDays_19 : decode cX7_whyNotDays 19 = .ok (.iaload, 1) := by decide +kernel
theorem dX7_whyNotDays_20 : decode cX7_whyNotDays 20 = .ok (.iload_n 1, 1) := by decide +kernel
theorem dX7_whyNotDays_21 : decode cX7_whyNotDays 21 = .ok (.iadd, 1) := by decide +kernel
theorem dX7_whyNotDays_22 : decode cX7_whyNotDays 22 = .ok (.sipush 9999, 3) := by decide +kernel
theorem dX7_whyNotDays_25 : decode cX7_whyNotDays 25 = .ok (.if_icmp .le 7, 3) := by decide +kernel
theorem dX7_whyNotDays_28 : decode cX7_whyNotDays 28 = .ok (.iconst 3, 1) := by decide +kernel
theorem dX7_whyNotDays_29 : decode cX7_whyNotDays 29 = .ok (.goto 4, 3) := by decide +kernel
theorem dX7_whyNotDays_32 : decode cX7_whyNotDays 32 = .ok (.iconst 0, 1) := by decide +kernel
theorem dX7_whyNotDays_33 : decode cX7_whyNotDays 33 = .ok (.ireturn, 1) := by decide +kernel
theorem gX7_days_X7_whyNotDays : GoodIn wsX7_days (wsV RX7 188 RX7 yX7_whyNotDays wsX7_whyNotDays) := nw_gV nwl_X7_days nwe_685 nwe_686 nwe_687 nwe_534 nwl_X7_whyNotDays (by decide +kernel)
theorem gX7_days_X7_error : GoodIn wsX7_days (wsV RX7 76 RX7 yX7_error wsX7_error) := nw_gV nwl_X7_days nwe_558 nwe_559 nwe_560 nwe_534 nwl_X7_error (by decide +kernel)
theorem gX7_days_X7_go : GoodIn wsX7_days (wsV RX7 191 RX7 yX7_go wsX7_go) := nw_gV nwl_X7_days nwe_688 nwe_689 nwe_690 nwe_534 nwl_X7_go (by decide +kernel)
theorem dX7_days_0 : decode cX7_days 0 = .ok (.aload_n 0, 1) := by decide +kernel
theorem dX7_days_1 : decode cX7_days 1 = .ok (.iload_n 1, 1) := by decide +kernel
theorem dX7_days_2 : decode cX7_days 2 = .ok (.invokevirtual 188, 3) := by decide +kernel
theorem dX7_days_5 : decode cX7_days 5 = .ok (.istore_n 2, 1) := by decide +kernel
theorem dX7_days_6 : decode cX7_days 6 = .ok (.iload_n 2, 1) := by decide +kernel
theorem dX7_days_7 : decode cX7_days 7 = .ok (.ifCond .le 11, 3) := by decide +kernel
theorem dX7_days_10 : decode cX7_days 10 = .ok (.aload_n 0, 1) := by decide +kernel
theorem dX7_days_11 : decode cX7_days 11 = .ok (.iload_n 2, 1) := by decide +kernel
theorem dX7_days_12 : decode cX7_days 12 = .ok (.invokevirtual 76, 3) := by decide +kernel
theorem dX7_days_15 : decode cX7_days 15 = .ok (.goto 8, 3) := by decide +kernel
theorem dX7_days_18 : decode cX7_days 18 = .ok (.aload_n 0, 1) := by decide +kernel
theorem dX7_days_19 : decode cX7_days 19 = .ok (.iload_n 1, 1) := by decide +kernel
theorem dX7_days_20 : decode cX7_days 20 = .ok (.invokevirtual 191, 3) := by decide +kernel
theorem dX7_days_23 : decode cX7_days 23 = .ok (.ireturn, 1) := by decide +kernel
theorem dX7_draw_0 : decode cX7_draw 0 = .ok (.aload_n 0, 1) := by decide +kernel
theorem dX7_draw_1 : decode cX7_draw 1 = .ok (.getfield 7, 3) := by decide +kernel
theorem dX7_draw_4 : decode cX7_draw 4 = .ok (.bipush 6, 2) := by decide +kernel
theorem dX7_draw_6 : decode cX7_draw 6 = .ok (.aload_n 0, 1) := by decide +kernel
theorem dX7_draw_7 : decode cX7_draw 7 = .ok (.getfield 7, 3) := by decide +kernel
theorem dX7_draw_10 : decode cX7_draw 10 = .ok (.bipush 6, 2) := by decide +kernel
theorem dX7_draw_12 : decode cX7_draw 12 = .ok (.iaload, 1) := by decide +kernel
theorem dX7_draw_13 : decode cX7_draw 13 = .ok (.ldc 194, 2) := by decide +kernel
theorem dX7_draw_15 : decode cX7_draw 15 = .ok (.imul, 1) := by decide +kernel
theorem dX7_draw_16 : decode cX7_draw 16 = .ok (.sipush 12345, 3) := by decide +kernel
theorem dX7_draw_19 : decode cX7_draw 19 = .ok (.iadd, 1) := by decide +kernel
theorem dX7_draw_20 : decode cX7_draw 20 = .ok (.iastore, 1) := by decide +kernel
theorem dX7_draw_21 : decode cX7_draw 21 = .ok (.aload_n 0, 1) := by decide +kernel
theorem dX7_draw_22 : decode cX7_draw 22 = .ok (.getfield 7, 3) := by decide +kernel
theorem dX7_draw_25 : decode cX7_draw 25 = .ok (.bipush 6, 2) := by decide +kernel
theorem dX7_draw_27 : decode cX7_draw 27 = .ok (.iaload, 1) := by decide +kernel
theorem dX7_draw_28 : decode cX7_draw 28 = .ok (.bipush 8, 2) := by decide +kernel
theorem dX7_draw_30 : decode cX7_draw 30 = .ok (.iushr, 1) := by decide +kernel
theorem dX7_draw_31 : decode cX7_draw 31 = .ok (.ireturn, 1) := by decide +kernel
theorem gX7_draws_X7_whyNotDays : GoodIn wsX7_draws (wsV RX7 188 RX7 yX7_whyNotDays wsX7_whyNotDays) := nw_gV nwl_X7_draws nwe_685 nwe_686 nwe_687 nwe_534 nwl_X7_whyNotDays (by decide +kernel)
theorem gX7_draws_X7_error : GoodIn wsX7_draws (wsV RX7 76 RX7 yX7_error wsX7_error) := nw_gV nwl_X7_draws nwe_558 nwe_559 nwe_560 nwe_534 nwl_X7_error (by decide +kernel)
theorem gX7_draws_X7_draw : GoodIn wsX7_draws (wsV RX7 195 RX7 yX7_draw wsX7_draw) := nw_gV nwl_X7_draws nwe_694 nwe_695 nwe_696 nwe_534 nwl_X7_draw (by decide +kernel)
theorem gX7_draws_X7_day : GoodIn wsX7_draws (wsV RX7 169 RX7 yX7_day wsX7_day) := nw_gV nwl_X7_draws nwe_657 nwe_658 nwe_659 nwe_534 nwl_X7_day (by decide +kernel)
theorem dX7_draws_0 : decode cX7_draws 0 = .ok (.aload_n 0, 1) := by decide +kernel
theorem dX7_draws_1 : decode cX7_draws 1 = .ok (.iload_n 1, 1) := by decide +kernel
theorem dX7_draws_2 : decode cX7_draws 2 = .ok (.invokevirtual 188, 3) := by decide +kernel
theorem dX7_draws_5 : decode cX7_draws 5 = .ok (.istore_n 2, 1) := by decide +kernel
theorem dX7_draws_6 : decode cX7_draws 6 = .ok (.iload_n 2, 1) := by decide +kernel
theorem dX7_draws_7 : decode cX7_draws 7 = .ok (.ifCond .le 9, 3) := by decide +kernel
theorem dX7_draws_10 : decode cX7_draws 10 = .ok (.aload_n 0, 1) := by decide +kernel
theorem dX7_draws_11 : decode cX7_draws 11 = .ok (.iload_n 2, 1) := by decide +kernel
theorem dX7_draws_12 : decode cX7_draws 12 = .ok (.invokevirtual 76, 3) := by decide +kernel
theorem dX7_draws_15 : decode cX7_draws 15 = .ok (.ireturn, 1) := by decide +kernel
theorem dX7_draws_16 : decode cX7_draws 16 = .ok (.iconst 0, 1) := by decide +kernel
theorem dX7_draws_17 : decode cX7_draws 17 = .ok (.istore_n 3, 1) := by decide +kernel
theorem dX7_draws_18 : decode cX7_draws 18 = .ok (.iconst 0, 1) := by decide +kernel
theorem dX7_draws_19 : decode cX7_draws 19 = .ok (.istore 4, 2) := by decide +kernel
theorem dX7_draws_21 : decode cX7_draws 21 = .ok (.iload 4, 2) := by decide +kernel
theorem dX7_draws_23 : decode cX7_draws 23 = .ok (.iload_n 1, 1) := by decide +kernel
theorem dX7_draws_24 : decode cX7_draws 24 = .ok (.if_icmp .ge 29, 3) := by decide +kernel
theorem dX7_draws_27 : decode cX7_draws 27 = .ok (.aload_n 0, 1) := by decide +kernel
theorem dX7_draws_28 : decode cX7_draws 28 = .ok (.getfield 7, 3) := by decide +kernel
theorem dX7_draws_31 : decode cX7_draws 31 = .ok (.iconst 1, 1) := by decide +kernel
theorem dX7_draws_32 : decode cX7_draws 32 = .ok (.aload_n 0, 1) := by decide +kernel
theorem dX7_draws_33 : decode cX7_draws 33 = .ok (.invokevirtual 195, 3) := by decide +kernel
theorem dX7_draws_36 : decode cX7_draws 36 = .ok (.bipush 10, 2) := by decide +kernel
theorem dX7_draws_38 : decode cX7_draws 38 = .ok (.irem, 1) := by decide +kernel
theorem dX7_draws_39 : decode cX7_draws 39 = .ok (.iastore, 1) := by decide +kernel
theorem dX7_draws_40 : decode cX7_draws 40 = .ok (.iload_n 3, 1) := by decide +kernel
theorem dX7_draws_41 : decode cX7_draws 41 = .ok (.aload_n 0, 1) := by decide +kernel
theorem dX7_draws_42 : decode cX7_draws 42 = .ok (.invokevirtual 169, 3) := by decide +kernel
theorem dX7_draws_45 : decode cX7_draws 45 = .ok (.iadd, 1) := by decide +kernel
theorem dX7_draws_46 : decode cX7_draws 46 = .ok (.istore_n 3, 1) := by decide +kernel
theorem dX7_draws_47 : decode cX7_draws 47 = .ok (.iinc 4 1, 3) := by decide +kernel
theorem dX7_draws_50 : decode cX7_draws 50 = .ok (.goto (-29), 3) := by decide +kernel
theorem dX7_draws_53 : decode cX7_draws 53 = .ok (.iload_n 3, 1) := by decide +kernel
theorem dX7_draws_54 : decode cX7_draws 54 = .ok (.ireturn, 1) := by decide +kernel
theorem gX7_seed_X7_change1 : GoodIn wsX7_seed (wsV RX7 175 RX7 yX7_change1 wsX7_change1) := nw_gV nwl_X7_seed nwe_664 nwe_665 nwe_666 nwe_534 nwl_X7_change1 (by decide +kernel)
theorem dX7_seed_0 : decode cX7_seed 0 = .ok (.aload_n 0, 1) := by decide +kernel
theorem dX7_seed_1 : decode cX7_seed 1 = .ok (.bipush 6, 2) := by decide +kernel
theorem dX7_seed_3 : decode cX7_seed 3 = .ok (.iload_n 1, 1) := by decide +kernel
theorem dX7_seed_4 : decode cX7_seed 4 = .ok (.invokevirtual 175, 3) := by decide +kernel
theorem dX7_seed_7 : decode cX7_seed 7 = .ok (.ireturn, 1) := by decide +kernel
theorem gX7_then_X7_in : GoodIn wsX7_then (va_wsS RX7 68 yX7_in wsX7_in) := nw_gS nwl_X7_then nwe_546 nwe_547 nwe_534 nwl_X7_in (by decide +kernel)
theorem gX7_then_X7_isFarmer : GoodIn wsX7_then (va_wsS RX7 178 yX7_isFarmer wsX7_isFarmer) := nw_gS nwl_X7_then nwe_670 nwe_671 nwe_534 nwl_X7_isFarmer (by decide +kernel)
theorem gX7_then_X7_error : GoodIn wsX7_then (wsV RX7 76 RX7 yX7_error wsX7_error) := nw_gV nwl_X7_then nwe_558 nwe_559 nwe_560 nwe_534 nwl_X7_error (by decide +kernel)
theorem gX7_then_X7_layDown : GoodIn wsX7_then (wsV RX7 198 RX7 yX7_layDown wsX7_layDown) := nw_gV nwl_X7_then nwe_699 nwe_700 nwe_701 nwe_534 nwl_X7_layDown (by decide +kernel)
theorem gX7_then_X7_go : GoodIn wsX7_then (wsV RX7 191 RX7 yX7_go wsX7_go) := nw_gV nwl_X7_then nwe_688 nwe_689 nwe_690 nwe_534 nwl_X7_go (by decide +kernel)
theorem gX7_then_X7_its : GoodIn wsX7_then (wsV RX7 72 RX7 yX7_its wsX7_its) := nw_gV nwl_X7_then nwe_552 nwe_553 nwe_554 nwe_534 nwl_X7_its (by decide +kernel)
theorem gX7_then_X7_layBack : GoodIn wsX7_then (wsV RX7 201 RX7 yX7_layBack wsX7_layBack) := nw_gV nwl_X7_then nwe_702 nwe_703 nwe_704 nwe_534 nwl_X7_layBack (by decide +kernel)
theorem dX7_then_0 : decode cX7_then 0 = .ok (.iload_n 1, 1) := by decide +kernel
theorem dX7_then_1 : decode cX7_then 1 = .ok (.iconst 0, 1) := by decide +kernel
theorem dX7_then_2 : decode cX7_then 2 = .ok (.bipush 45, 2) := by decide +kernel
theorem dX7_then_4 : decode cX7_then 4 = .ok (.invokestatic 68, 3) := by decide +kernel
theorem dX7_then_7 : decode cX7_then 7 = .ok (.ifCond .eq 20, 3) := by decide +kernel
theorem dX7_then_10 : decode cX7_then 10 = .ok (.iload_n 2, 1) := by decide +kernel
theorem dX7_then_11 : decode cX7_then 11 = .ok (.invokestatic 178, 3) := by decide +kernel
theorem dX7_then_14 : decode cX7_then 14 = .ok (.ifCond .eq 13, 3) := by decide +kernel
theorem dX7_then_17 : decode cX7_then 17 = .ok (.iload_n 3, 1) := by decide +kernel
theorem dX7_then_18 : decode cX7_then 18 = .ok (.iconst 0, 1) := by decide +kernel
theorem dX7_then_19 : decode cX7_then 19 = .ok (.bipush 8, 2) := by decide +kernel
theorem dX7_then_21 : decode cX7_then 21 = .ok (.invokestatic 68, 3) := by decide +kernel
theorem dX7_then_24 : decode cX7_then 24 = .ok (.ifCond .ne 9, 3) := by decide +kernel
theorem dX7_then_27 : decode cX7_then 27 = .ok (.aload_n 0, 1) := by decide +kernel
theorem dX7_then_28 : decode cX7_then 28 = .ok (.iconst 1, 1) := by decide +kernel
theorem dX7_then_29 : decode cX7_then 29 = .ok (.invokevirtual 76, 3) := by decide +kernel
theorem dX7_then_32 : decode cX7_then 32 = .ok (.ireturn, 1) := by decide +kernel
theorem dX7_then_33 : decode cX7_then 33 = .ok (.aload_n 0, 1) := by decide +kernel
theorem dX7_then_34 : decode cX7_then 34 = .ok (.invokevirtual 198, 3) := by decide +kernel
theorem dX7_then_37 : decode cX7_then 37 = .ok (.aload_n 0, 1) := by decide +kernel
theorem dX7_then_38 : decode cX7_then 38 = .ok (.iload_n 1, 1) := by decide +kernel
theorem dX7_then_39 : decode cX7_then 39 = .ok (.invokevirtual 191, 3) := by decide +kernel
theorem dX7_then_42 : decode cX7_then 42 = .ok (.istore 4, 2) := by decide +kernel
theorem dX7_then_44 : decode cX7_then 44 = .ok (.aload_n 0, 1) := by decide +kernel
theorem dX7_then_45 : decode cX7_then 45 = .ok (.iload_n 2, 1) := by decide +kernel
theorem dX7_then_46 : decode cX7_then 46 = .ok (.iload_n 3, 1) := by decide +kernel
theorem dX7_then_47 : decode cX7_then 47 = .ok (.invokevirtual 72, 3) := by decide +kernel
theorem dX7_then_50 : decode cX7_then 50 = .ok (.istore 5, 2) := by decide +kernel
theorem dX7_then_52 : decode cX7_then 52 = .ok (.aload_n 0, 1) := by decide +kernel
theorem dX7_then_53 : decode cX7_then 53 = .ok (.invokevirtual 201, 3) := by decide +kernel
theorem dX7_then_56 : decode cX7_then 56 = .ok (.iload 5, 2) := by decide +kernel
theorem dX7_then_58 : decode cX7_then 58 = .ok (.ireturn, 1) := by decide +kernel
theorem dX7_map_0 : decode cX7_map 0 = .ok (.iconst 0, 1) := by decide +kernel
theorem dX7_map_1 : decode cX7_map 1 = .ok (.istore_n 1, 1) := by decide +kernel
theorem dX7_map_2 : decode cX7_map 2 = .ok (.iconst 1, 1) := by decide +kernel
theorem dX7_map_3 : decode cX7_map 3 = .ok (.istore_n 2, 1) := by decide +kernel
theorem dX7_map_4 : decode cX7_map 4 = .ok (.iload_n 2, 1) := by decide +kernel
theorem dX7_map_5 : decode cX7_map 5 = .ok (.bipush 16, 2) := by decide +kernel
theorem dX7_map_7 : decode cX7_map 7 = .ok (.if_icmp .ge 36, 3) := by decide +kernel
theorem dX7_map_10 : decode cX7_map 10 = .ok (.aload_n 0, 1) := by decide +kernel
theorem dX7_map_11 : decode cX7_map 11 = .ok (.getfield 7, 3) := by decide +kernel
theorem dX7_map_14 : decode cX7_map 14 = .ok (.bipush 24, 2) := by decide +kernel
theorem dX7_map_16 : decode cX7_map 16 = .ok (.iload_n 2, 1) := by decide +kernel
theorem dX7_map_17 : decode cX7_map 17 = .ok (.iadd, 1) := by decide +kernel
theorem dX7_map_18 : decode cX7_map 18 = .ok (.iaload, 1) := by decide +kernel
theorem dX7_map_19 : decode cX7_map 19 = .ok (.aload_n 0, 1) := by decide +kernel
theorem dX7_map_20 : decode cX7_map 20 = .ok (.getfield 7, 3) := by decide +kernel
theorem dX7_map_23 : decode cX7_map 23 = .ok (.bipush 24, 2) := by decide +kernel
theorem dX7_map_25 : decode cX7_map 25 = .ok (.iload_n 1, 1) := by decide +kernel
theorem dX7_map_26 : decode cX7_map 26 = .ok (.iadd, 1) := by decide +kernel
theorem dX7_map_27 : decode cX7_map 27 = .ok (.iaload, 1) := by decide +kernel
theorem dX7_map_28 : decode cX7_map 28 = .ok (.if_icmp .le 7, 3) := by decide +kernel
theorem dX7_map_31 : decode cX7_map 31 = .ok (.iload_n 2, 1) := by decide +kernel
theorem dX7_map_32 : decode cX7_map 32 = .ok (.goto 4, 3) := by decide +kernel
theorem dX7_map_35 : decode cX7_map 35 = .ok (.iload_n 1, 1) := by decide +kernel
theorem dX7_map_36 : decode cX7_map 36 = .ok (.istore_n 1, 1) := by decide +kernel
theorem dX7_map_37 : decode cX7_map 37 = .ok (.iinc 2 1, 3) := by decide +kernel
theorem dX7_map_40 : decode cX7_map 40 = .ok (.goto (-36), 3) := by decide +kernel
theorem dX7_map_43 : decode cX7_map 43 = .ok (.iload_n 1, 1) := by decide +kernel
theorem dX7_map_44 : decode cX7_map 44 = .ok (.ireturn, 1) := by decide +kernel
theorem gX7_ahead_X7_in : GoodIn wsX7_ahead (va_wsS RX7 68 yX7_in wsX7_in) := nw_gS nwl_X7_ahead nwe_546 nwe_547 nwe_534 nwl_X7_in (by decide +kernel)
theorem gX7_ahead_X7_error : GoodIn wsX7_ahead (wsV RX7 76 RX7 yX7_error wsX7_error) := nw_gV nwl_X7_ahead nwe_558 nwe_559 nwe_560 nwe_534 nwl_X7_error (by decide +kernel)
theorem gX7_ahead_X7_layDown : GoodIn wsX7_ahead (wsV RX7 198 RX7 yX7_layDown wsX7_layDown) := nw_gV nwl_X7_ahead nwe_699 nwe_700 nwe_701 nwe_534 nwl_X7_layDown (by decide +kernel)
theorem gX7_ahead_X7_go : GoodIn wsX7_ahead (wsV RX7 191 RX7 yX7_go wsX7_go) := nw_gV nwl_X7_ahead nwe_688 nwe_689 nwe_690 nwe_534 nwl_X7_go (by decide +kernel)
theorem gX7_ahead_X7_allUnder : GoodIn wsX7_ahead (wsV RX7 204 RX7 yX7_allUnder wsX7_allUnder) := nw_gV nwl_X7_ahead nwe_707 nwe_708 nwe_709 nwe_534 nwl_X7_allUnder (by decide +kernel)
theorem gX7_ahead_X7_map : GoodIn wsX7_ahead (wsV RX7 207 RX7 yX7_map wsX7_map) := nw_gV nwl_X7_ahead nwe_710 nwe_711 nwe_712 nwe_534 nwl_X7_map (by decide +kernel)
theorem gX7_ahead_X7_layBack : GoodIn wsX7_ahead (wsV RX7 201 RX7 yX7_layBack wsX7_layBack) := nw_gV nwl_X7_ahead nwe_702 nwe_703 nwe_704 nwe_534 nwl_X7_layBack (by decide +kernel)
theorem dX7_ahead_0 : decode cX7_ahead 0 = .ok (.iload_n 1, 1) := by decide +kernel
theorem dX7_ahead_1 : decode cX7_ahead 1 = .ok (.iconst 0, 1) := by decide +kernel
theorem dX7_ahead_2 : decode cX7_ahead 2 = .ok (.bipush 45, 2) := by decide +kernel
theorem dX7_ahead_4 : decode cX7_ahead 4 = .ok (.invokestatic 68, 3) := by decide +kernel
theorem dX7_ahead_7 : decode cX7_ahead 7 = .ok (.ifCond .eq 12, 3) := by decide +kernel
theorem dX7_ahead_10 : decode cX7_ahead 10 = .ok (.iload_n 2, 1) := by decide +kernel
theorem dX7_ahead_11 : decode cX7_ahead 11 = .ok (.iconst 0, 1) := by decide +kernel
theorem dX7_ahead_12 : decode cX7_ahead 12 = .ok (.iconst 3, 1) := by decide +kernel
theorem dX7_ahead_13 : decode cX7_ahead 13 = .ok (.invokestatic 68, 3) := by decide +kernel
theorem dX7_ahead_16 : decode cX7_ahead 16 = .ok (.ifCond .ne 9, 3) := by decide +kernel
theorem dX7_ahead_19 : decode cX7_ahead 19 = .ok (.aload_n 0, 1) := by decide +kernel
theorem dX7_ahead_20 : decode cX7_ahead 20 = .ok (.iconst 1, 1) := by decide +kernel
theorem dX7_ahead_21 : decode cX7_ahead 21 = .ok (.invokevirtual 76, 3) := by decide +kernel
theorem dX7_ahead_24 : decode cX7_ahead 24 = .ok (.ireturn, 1) := by decide +kernel
theorem dX7_ahead_25 : decode cX7_ahead 25 = .ok (.aload_n 0, 1) := by decide +kernel
theorem dX7_ahead_26 : decode cX7_ahead 26 = .ok (.invokevirtual 198, 3) := by decide +kernel
theorem dX7_ahead_29 : decode cX7_ahead 29 = .ok (.aload_n 0, 1) := by decide +kernel
theorem dX7_ahead_30 : decode cX7_ahead 30 = .ok (.iload_n 1, 1) := by decide +kernel
theorem dX7_ahead_31 : decode cX7_ahead 31 = .ok (.invokevirtual 191, 3) := by decide +kernel
theorem dX7_ahead_34 : decode cX7_ahead 34 = .ok (.istore_n 3, 1) := by decide +kernel
theorem dX7_ahead_35 : decode cX7_ahead 35 = .ok (.iload_n 2, 1) := by decide +kernel
theorem dX7_ahead_36 : decode cX7_ahead 36 = .ok (.iconst 2, 1) := by decide +kernel
theorem dX7_ahead_37 : decode cX7_ahead 37 = .ok (.if_icmp .ge 14, 3) := by decide +kernel
theorem dX7_ahead_40 : decode cX7_ahead 40 = .ok (.aload_n 0, 1) := by decide +kernel
theorem dX7_ahead_41 : decode cX7_ahead 41 = .ok (.getfield 7, 3) := by decide +kernel
theorem dX7_ahead_44 : decode cX7_ahead 44 = .ok (.iconst 2, 1) := by decide +kernel
theorem dX7_ahead_45 : decode cX7_ahead 45 = .ok (.iload_n 2, 1) := by decide +kernel
theorem dX7_ahead_46 : decode cX7_ahead 46 = .ok (.iadd, 1) := by decide +kernel
theorem dX7_ahead_47 : decode cX7_ahead 47 = .ok (.iaload, 1) := by decide +kernel
theorem dX7_ahead_48 : decode cX7_ahead 48 = .ok (.goto 19, 3) := by decide +kernel
theorem dX7_ahead_51 : decode cX7_ahead 51 = .ok (.iload_n 2, 1) := by decide +kernel
theorem dX7_ahead_52 : decode cX7_ahead 52 = .ok (.iconst 2, 1) := by decide +kernel
theorem dX7_ahead_53 : decode cX7_ahead 53 = .ok (.if_icmp .ne 10, 3) := by decide +kernel
theorem dX7_ahead_56 : decode cX7_ahead 56 = .ok (.aload_n 0, 1) := by decide +kernel
theorem dX7_ahead_57 : decode cX7_ahead 57 = .ok (.invokevirtual 204, 3) := by decide +kernel
theorem dX7_ahead_60 : decode cX7_ahead 60 = .ok (.goto 7, 3) := by decide +kernel
theorem dX7_ahead_63 : decode cX7_ahead 63 = .ok (.aload_n 0, 1) := by decide +kernel
theorem dX7_ahead_64 : decode cX7_ahead 64 = .ok (.invokevirtual 207, 3) := by decide +kernel
theorem dX7_ahead_67 : decode cX7_ahead 67 = .ok (.istore 4, 2) := by decide +kernel
theorem dX7_ahead_69 : decode cX7_ahead 69 = .ok (.aload_n 0, 1) := by decide +kernel
theorem dX7_ahead_70 : decode cX7_ahead 70 = .ok (.invokevirtual 201, 3) := by decide +kernel
theorem dX7_ahead_73 : decode cX7_ahead 73 = .ok (.iload 4, 2) := by decide +kernel
theorem dX7_ahead_75 : decode cX7_ahead 75 = .ok (.ireturn, 1) := by decide +kernel
theorem gX7_bestLeash_X7_in : GoodIn wsX7_bestLeash (va_wsS RX7 68 yX7_in wsX7_in) := nw_gS nwl_X7_bestLeash nwe_546 nwe_547 nwe_534 nwl_X7_in (by decide +kernel)
theorem gX7_bestLeash_X7_error : GoodIn wsX7_bestLeash (wsV RX7 76 RX7 yX7_error wsX7_error) := nw_gV nwl_X7_bestLeash nwe_558 nwe_559 nwe_560 nwe_534 nwl_X7_error (by decide +kernel)
theorem gX7_bestLeash_X7_whoHas : GoodIn wsX7_bestLeash (wsV RX7 154 RX7 yX7_whoHas wsX7_whoHas) := nw_gV nwl_X7_bestLeash nwe_641 nwe_642 nwe_643 nwe_534 nwl_X7_whoHas (by decide +kernel)
theorem gX7_bestLeash_X7_layDown : GoodIn wsX7_bestLeash (wsV RX7 198 RX7 yX7_layDown wsX7_layDown) := nw_gV nwl_X7_bestLeash nwe_699 nwe_700 nwe_701 nwe_534 nwl_X7_layDown (by decide +kernel)
theorem gX7_bestLeash_X7_lays1 : GoodIn wsX7_bestLeash (wsV RX7 59 RX7 yX7_lays1 wsX7_lays1) := nw_gV nwl_X7_bestLeash nwe_531 nwe_532 nwe_533 nwe_534 nwl_X7_lays1 (by decide +kernel)
theorem gX7_bestLeash_X7_digs : GoodIn wsX7_bestLeash (wsV RX7 157 RX7 yX7_digs wsX7_digs) := nw_gV nwl_X7_bestLeash nwe_644 nwe_645 nwe_646 nwe_534 nwl_X7_digs (by decide +kernel)
theorem gX7_bestLeash_X7_layBack : GoodIn wsX7_bestLeash (wsV RX7 201 RX7 yX7_layBack wsX7_layBack) := nw_gV nwl_X7_bestLeash nwe_702 nwe_703 nwe_704 nwe_534 nwl_X7_layBack (by decide +kernel)
theorem dX7_bestLeash_0 : decode cX7_bestLeash 0 = .ok (.iload_n 1, 1) := by decide +kernel
theorem dX7_bestLeash_1 : decode cX7_bestLeash 1 = .ok (.iconst 0, 1) := by decide +kernel
theorem dX7_bestLeash_2 : decode cX7_bestLeash 2 = .ok (.iconst 4, 1) := by decide +kernel
theorem dX7_bestLeash_3 : decode cX7_bestLeash 3 = .ok (.invokestatic 68, 3) := by decide +kernel
theorem dX7_bestLeash_6 : decode cX7_bestLeash 6 = .ok (.ifCond .ne 9, 3) := by decide +kernel
theorem dX7_bestLeash_9 : decode cX7_bestLeash 9 = .ok (.aload_n 0, 1) := by decide +kernel
theorem dX7_bestLeash_10 : decode cX7_bestLeash 10 = .ok (.iconst 1, 1) := by decide +kernel
theorem dX7_bestLeash_11 : decode cX7_bestLeash 11 = .ok (.invokevirtual 76, 3) := by decide +kernel
theorem dX7_bestLeash_14 : decode cX7_bestLeash 14 = .ok (.ireturn, 1) := by decide +kernel
theorem dX7_bestLeash_15 : decode cX7_bestLeash 15 = .ok (.aload_n 0, 1) := by decide +kernel
theorem dX7_bestLeash_16 : decode cX7_bestLeash 16 = .ok (.invokevirtual 154, 3) := by decide +kernel
theorem dX7_bestLeash_19 : decode cX7_bestLeash 19 = .ok (.istore_n 2, 1) := by decide +kernel
theorem dX7_bestLeash_20 : decode cX7_bestLeash 20 = .ok (.iconst (-1), 1) := by decide +kernel
theorem dX7_bestLeash_21 : decode cX7_bestLeash 21 = .ok (.istore_n 3, 1) := by decide +kernel
theorem dX7_bestLeash_22 : decode cX7_bestLeash 22 = .ok (.iconst 0, 1) := by decide +kernel
theorem dX7_bestLeash_23 : decode cX7_bestLeash 23 = .ok (.istore 4, 2) := by decide +kernel
theorem dX7_bestLeash_25 : decode cX7_bestLeash 25 = .ok (.aload_n 0, 1) := by decide +kernel
theorem dX7_bestLeash_26 : decode cX7_bestLeash 26 = .ok (.invokevirtual 198, 3) := by decide +kernel
theorem dX7_bestLeash_29 : decode cX7_bestLeash 29 = .ok (.iconst 0, 1) := by decide +kernel
theorem dX7_bestLeash_30 : decode cX7_bestLeash 30 = .ok (.istore 5, 2) := by decide +kernel
theorem dX7_bestLeash_32 : decode cX7_bestLeash 32 = .ok (.iload 5, 2) := by decide +kernel
theorem dX7_bestLeash_34 : decode cX7_bestLeash 34 = .ok (.sipush 625, 3) := by decide +kernel
theorem dX7_bestLeash_37 : decode cX7_bestLeash 37 = .ok (.if_icmp .ge 76, 3) := by decide +kernel
theorem dX7_bestLeash_40 : decode cX7_bestLeash 40 = .ok (.iload 5, 2) := by decide +kernel
theorem dX7_bestLeash_42 : decode cX7_bestLeash 42 = .ok (.istore 6, 2) := by decide +kernel
theorem dX7_bestLeash_44 : decode cX7_bestLeash 44 = .ok (.iconst 3, 1) := by decide +kernel
theorem dX7_bestLeash_45 : decode cX7_bestLeash 45 = .ok (.istore 7, 2) := by decide +kernel
theorem dX7_bestLeash_47 : decode cX7_bestLeash 47 = .ok (.iload 7, 2) := by decide +kernel
theorem dX7_bestLeash_49 : decode cX7_bestLeash 49 = .ok (.ifCond .lt 28, 3) := by decide +kernel
theorem dX7_bestLeash_52 : decode cX7_bestLeash 52 = .ok (.aload_n 0, 1) := by decide +kernel
theorem dX7_bestLeash_53 : decode cX7_bestLeash 53 = .ok (.iload_n 2, 1) := by decide +kernel
theorem dX7_bestLeash_54 : decode cX7_bestLeash 54 = .ok (.iconst 5, 1) := by decide +kernel
theorem dX7_bestLeash_55 : decode cX7_bestLeash 55 = .ok (.iload 7, 2) := by decide +kernel
theorem dX7_bestLeash_57 : decode cX7_bestLeash 57 = .ok (.iadd, 1) := by decide +kernel
theorem dX7_bestLeash_58 : decode cX7_bestLeash 58 = .ok (.iload 6, 2) := by decide +kernel
theorem dX7_bestLeash_60 : decode cX7_bestLeash 60 = .ok (.iconst 5, 1) := by decide +kernel
theorem dX7_bestLeash_61 : decode cX7_bestLeash 61 = .ok (.irem, 1) := by decide +kernel
theorem dX7_bestLeash_62 : decode cX7_bestLeash 62 = .ok (.invokevirtual 59, 3) := by decide +kernel
theorem dX7_bestLeash_65 : decode cX7_bestLeash 65 = .ok (.iload 6, 2) := by decide +kernel
theorem dX7_bestLeash_67 : decode cX7_bestLeash 67 = .ok (.iconst 5, 1) := by decide +kernel
theorem dX7_bestLeash_68 : decode cX7_bestLeash 68 = .ok (.idiv, 1) := by decide +kernel
theorem dX7_bestLeash_69 : decode cX7_bestLeash 69 = .ok (.istore 6, 2) := by decide +kernel
theorem dX7_bestLeash_71 : decode cX7_bestLeash 71 = .ok (.iinc 7 (-1), 3) := by decide +kernel
theorem dX7_bestLeash_74 : decode cX7_bestLeash 74 = .ok (.goto (-27), 3) := by decide +kernel
theorem dX7_bestLeash_77 : decode cX7_bestLeash 77 = .ok (.aload_n 0, 1) := by decide +kernel
theorem dX7_bestLeash_78 : decode cX7_bestLeash 78 = .ok (.iload_n 2, 1) := by decide +kernel
theorem dX7_bestLeash_79 : decode cX7_bestLeash 79 = .ok (.invokevirtual 157, 3) := by decide +kernel
theorem dX7_bestLeash_82 : decode cX7_bestLeash 82 = .ok (.istore 7, 2) := by decide +kernel
theorem dX7_bestLeash_84 : decode cX7_bestLeash 84 = .ok (.aload_n 0, 1) := by decide +kernel
theorem dX7_bestLeash_85 : decode cX7_bestLeash 85 = .ok (.invokevirtual 201, 3) := by decide +kernel
theorem dX7_bestLeash_88 : decode cX7_bestLeash 88 = .ok (.iload_n 3, 1) := by decide +kernel
theorem dX7_bestLeash_89 : decode cX7_bestLeash 89 = .ok (.iconst (-1), 1) := by decide +kernel
theorem dX7_bestLeash_90 : decode cX7_bestLeash 90 = .ok (.if_icmp .eq 10, 3) := by decide +kernel
theorem dX7_bestLeash_93 : decode cX7_bestLeash 93 = .ok (.iload 7, 2) := by decide +kernel
theorem dX7_bestLeash_95 : decode cX7_bestLeash 95 = .ok (.iload 4, 2) := by decide +kernel
theorem dX7_bestLeash_97 : decode cX7_bestLeash 97 = .ok (.if_icmp .le 10, 3) := by decide +kernel
theorem dX7_bestLeash_100 : decode cX7_bestLeash 100 = .ok (.iload 5, 2) := by decide +kernel
theorem dX7_bestLeash_102 : decode cX7_bestLeash 102 = .ok (.istore_n 3, 1) := by decide +kernel
theorem dX7_bestLeash_103 : decode cX7_bestLeash 103 = .ok (.iload 7, 2) := by decide +kernel
theorem dX7_bestLeash_105 : decode cX7_bestLeash 105 = .ok (.istore 4, 2) := by decide +kernel
theorem dX7_bestLeash_107 : decode cX7_bestLeash 107 = .ok (.iinc 5 1, 3) := by decide +kernel
theorem dX7_bestLeash_110 : decode cX7_bestLeash 110 = .ok (.goto (-78), 3) := by decide +kernel
theorem dX7_bestLeash_113 : decode cX7_bestLeash 113 = .ok (.iload_n 1, 1) := by decide +kernel
theorem dX7_bestLeash_114 : decode cX7_bestLeash 114 = .ok (.ifCond .ne 8, 3) := by decide +kernel
theorem dX7_bestLeash_117 : decode cX7_bestLeash 117 = .ok (.iload 4, 2) := by decide +kernel
theorem dX7_bestLeash_119 : decode cX7_bestLeash 119 = .ok (.goto 45, 3) := by decide +kernel
theorem dX7_bestLeash_122 : decode cX7_bestLeash 122 = .ok (.iload_n 1, 1) := by decide +kernel
theorem dX7_bestLeash_123 : decode cX7_bestLeash 123 = .ok (.iconst 1, 1) := by decide +kernel
theorem dX7_bestLeash_124 : decode cX7_bestLeash 124 = .ok (.if_icmp .ne 10, 3) := by decide +kernel
theorem dX7_bestLeash_127 : decode cX7_bestLeash 127 = .ok (.iload_n 3, 1) := by decide +kernel
theorem dX7_bestLeash_128 : decode cX7_bestLeash 128 = .ok (.bipush 125, 2) := by decide +kernel
theorem dX7_bestLeash_130 : decode cX7_bestLeash 130 = .ok (.idiv, 1) := by decide +kernel
theorem dX7_bestLeash_131 : decode cX7_bestLeash 131 = .ok (.goto 33, 3) := by decide +kernel
theorem dX7_bestLeash_134 : decode cX7_bestLeash 134 = .ok (.iload_n 1, 1) := by decide +kernel
theorem dX7_bestLeash_135 : decode cX7_bestLeash 135 = .ok (.iconst 2, 1) := by decide +kernel
theorem dX7_bestLeash_136 : decode cX7_bestLeash 136 = .ok (.if_icmp .ne 12, 3) := by decide +kernel
theorem dX7_bestLeash_139 : decode cX7_bestLeash 139 = .ok (.iload_n 3, 1) := by decide +kernel
theorem dX7_bestLeash_140 : decode cX7_bestLeash 140 = .ok (.bipush 25, 2) := by decide +kernel
theorem dX7_bestLeash_142 : decode cX7_bestLeash 142 = .ok (.idiv, 1) := by decide +kernel
theorem dX7_bestLeash_143 : decode cX7_bestLeash 143 = .ok (.iconst 5, 1) := by decide +kernel
theorem dX7_bestLeash_144 : decode cX7_bestLeash 144 = .ok (.irem, 1) := by decide +kernel
theorem dX7_bestLeash_145 : decode cX7_bestLeash 145 = .ok (.goto 19, 3) := by decide +kernel
theorem dX7_bestLeash_148 : decode cX7_bestLeash 148 = .ok (.iload_n 1, 1) := by decide +kernel
theorem dX7_bestLeash_149 : decode cX7_bestLeash 149 = .ok (.iconst 3, 1) := by decide +kernel
theorem dX7_bestLeash_150 : decode cX7_bestLeash 150 = .ok (.if_icmp .ne 11, 3) := by decide +kernel
theorem dX7_bestLeash_153 : decode cX7_bestLeash 153 = .ok (.iload_n 3, 1) := by decide +kernel
theorem dX7_bestLeash_154 : decode cX7_bestLeash 154 = .ok (.iconst 5, 1) := by decide +kernel
theorem dX7_bestLeash_155 : decode cX7_bestLeash 155 = .ok (.idiv, 1) := by decide +kernel
theorem dX7_bestLeash_156 : decode cX7_bestLeash 156 = .ok (.iconst 5, 1) := by decide +kernel
theorem dX7_bestLeash_157 : decode cX7_bestLeash 157 = .ok (.irem, 1) := by decide +kernel
theorem dX7_bestLeash_158 : decode cX7_bestLeash 158 = .ok (.goto 6, 3) := by decide +kernel
theorem dX7_bestLeash_161 : decode cX7_bestLeash 161 = .ok (.iload_n 3, 1) := by decide +kernel
theorem dX7_bestLeash_162 : decode cX7_bestLeash 162 = .ok (.iconst 5, 1) := by decide +kernel
theorem dX7_bestLeash_163 : decode cX7_bestLeash 163 = .ok (.irem, 1) := by decide +kernel
theorem dX7_bestLeash_164 : decode cX7_bestLeash 164 = .ok (.ireturn, 1) := by decide +kernel
theorem gX7_bestFeed_X7_in : GoodIn wsX7_bestFeed (va_wsS RX7 68 yX7_in wsX7_in) := nw_gS nwl_X7_bestFeed nwe_546 nwe_547 nwe_534 nwl_X7_in (by decide +kernel)
theorem gX7_bestFeed_X7_error : GoodIn wsX7_bestFeed (wsV RX7 76 RX7 yX7_error wsX7_error) := nw_gV nwl_X7_bestFeed nwe_558 nwe_559 nwe_560 nwe_534 nwl_X7_error (by decide +kernel)
theorem gX7_bestFeed_X7_whoHas : GoodIn wsX7_bestFeed (wsV RX7 154 RX7 yX7_whoHas wsX7_whoHas) := nw_gV nwl_X7_bestFeed nwe_641 nwe_642 nwe_643 nwe_534 nwl_X7_whoHas (by decide +kernel)
theorem gX7_bestFeed_X7_layDown : GoodIn wsX7_bestFeed (wsV RX7 198 RX7 yX7_layDown wsX7_layDown) := nw_gV nwl_X7_bestFeed nwe_699 nwe_700 nwe_701 nwe_534 nwl_X7_layDown (by decide +kernel)
theorem gX7_bestFeed_X7_day : GoodIn wsX7_bestFeed (wsV RX7 169 RX7 yX7_day wsX7_day) := nw_gV nwl_X7_bestFeed nwe_657 nwe_658 nwe_659 nwe_534 nwl_X7_day (by decide +kernel)
theorem gX7_bestFeed_X7_go : GoodIn wsX7_bestFeed (wsV RX7 191 RX7 yX7_go wsX7_go) := nw_gV nwl_X7_bestFeed nwe_688 nwe_689 nwe_690 nwe_534 nwl_X7_go (by decide +kernel)
theorem gX7_bestFeed_X7_allOf : GoodIn wsX7_bestFeed (wsV RX7 210 RX7 yX7_allOf wsX7_allOf) := nw_gV nwl_X7_bestFeed nwe_715 nwe_716 nwe_717 nwe_534 nwl_X7_allOf (by decide +kernel)
theorem gX7_bestFeed_X7_its : GoodIn wsX7_bestFeed (wsV RX7 72 RX7 yX7_its wsX7_its) := nw_gV nwl_X7_bestFeed nwe_552 nwe_553 nwe_554 nwe_534 nwl_X7_its (by decide +kernel)
theorem gX7_bestFeed_X7_layBack : GoodIn wsX7_bestFeed (wsV RX7 201 RX7 yX7_layBack wsX7_layBack) := nw_gV nwl_X7_bestFeed nwe_702 nwe_703 nwe_704 nwe_534 nwl_X7_layBack (by decide +kernel)
theorem dX7_bestFeed_0 : decode cX7_bestFeed 0 = .ok (.iload_n 1, 1) := by decide +kernel
theorem dX7_bestFeed_1 : decode cX7_bestFeed 1 = .ok (.iconst 0, 1) := by decide +kernel
theorem dX7_bestFeed_2 : decode cX7_bestFeed 2 = .ok (.iconst 2, 1) := by decide +kernel
theorem dX7_bestFeed_3 : decode cX7_bestFeed 3 = .ok (.invokestatic 68, 3) := by decide +kernel
theorem dX7_bestFeed_6 : decode cX7_bestFeed 6 = .ok (.ifCond .ne 9, 3) := by decide +kernel
theorem dX7_bestFeed_9 : decode cX7_bestFeed 9 = .ok (.aload_n 0, 1) := by decide +kernel
theorem dX7_bestFeed_10 : decode cX7_bestFeed 10 = .ok (.iconst 1, 1) := by decide +kernel
theorem dX7_bestFeed_11 : decode cX7_bestFeed 11 = .ok (.invokevirtual 76, 3) := by decide +kernel
theorem dX7_bestFeed_14 : decode cX7_bestFeed 14 = .ok (.ireturn, 1) := by decide +kernel
theorem dX7_bestFeed_15 : decode cX7_bestFeed 15 = .ok (.aload_n 0, 1) := by decide +kernel
theorem dX7_bestFeed_16 : decode cX7_bestFeed 16 = .ok (.invokevirtual 154, 3) := by decide +kernel
theorem dX7_bestFeed_19 : decode cX7_bestFeed 19 = .ok (.istore_n 2, 1) := by decide +kernel
theorem dX7_bestFeed_20 : decode cX7_bestFeed 20 = .ok (.iconst (-1), 1) := by decide +kernel
theorem dX7_bestFeed_21 : decode cX7_bestFeed 21 = .ok (.istore_n 3, 1) := by decide +kernel
theorem dX7_bestFeed_22 : decode cX7_bestFeed 22 = .ok (.iconst 0, 1) := by decide +kernel
theorem dX7_bestFeed_23 : decode cX7_bestFeed 23 = .ok (.istore 4, 2) := by decide +kernel
theorem dX7_bestFeed_25 : decode cX7_bestFeed 25 = .ok (.iconst 0, 1) := by decide +kernel
theorem dX7_bestFeed_26 : decode cX7_bestFeed 26 = .ok (.istore 5, 2) := by decide +kernel
theorem dX7_bestFeed_28 : decode cX7_bestFeed 28 = .ok (.iconst 0, 1) := by decide +kernel
theorem dX7_bestFeed_29 : decode cX7_bestFeed 29 = .ok (.istore 6, 2) := by decide +kernel
theorem dX7_bestFeed_31 : decode cX7_bestFeed 31 = .ok (.aload_n 0, 1) := by decide +kernel
theorem dX7_bestFeed_32 : decode cX7_bestFeed 32 = .ok (.invokevirtual 198, 3) := by decide +kernel
theorem dX7_bestFeed_35 : decode cX7_bestFeed 35 = .ok (.iconst 0, 1) := by decide +kernel
theorem dX7_bestFeed_36 : decode cX7_bestFeed 36 = .ok (.istore 7, 2) := by decide +kernel
theorem dX7_bestFeed_38 : decode cX7_bestFeed 38 = .ok (.iload 7, 2) := by decide +kernel
theorem dX7_bestFeed_40 : decode cX7_bestFeed 40 = .ok (.bipush 10, 2) := by decide +kernel
theorem dX7_bestFeed_42 : decode cX7_bestFeed 42 = .ok (.if_icmp .ge 100, 3) := by decide +kernel
theorem dX7_bestFeed_45 : decode cX7_bestFeed 45 = .ok (.aload_n 0, 1) := by decide +kernel
theorem dX7_bestFeed_46 : decode cX7_bestFeed 46 = .ok (.iload 7, 2) := by decide +kernel
theorem dX7_bestFeed_48 : decode cX7_bestFeed 48 = .ok (.putfield 34, 3) := by decide +kernel
theorem dX7_bestFeed_51 : decode cX7_bestFeed 51 = .ok (.aload_n 0, 1) := by decide +kernel
theorem dX7_bestFeed_52 : decode cX7_bestFeed 52 = .ok (.invokevirtual 169, 3) := by decide +kernel
theorem dX7_bestFeed_55 : decode cX7_bestFeed 55 = .ok (.istore 8, 2) := by decide +kernel
theorem dX7_bestFeed_57 : decode cX7_bestFeed 57 = .ok (.aload_n 0, 1) := by decide +kernel
theorem dX7_bestFeed_58 : decode cX7_bestFeed 58 = .ok (.iconst (-1), 1) := by decide +kernel
theorem dX7_bestFeed_59 : decode cX7_bestFeed 59 = .ok (.putfield 34, 3) := by decide +kernel
theorem dX7_bestFeed_62 : decode cX7_bestFeed 62 = .ok (.iload 8, 2) := by decide +kernel
theorem dX7_bestFeed_64 : decode cX7_bestFeed 64 = .ok (.aload_n 0, 1) := by decide +kernel
theorem dX7_bestFeed_65 : decode cX7_bestFeed 65 = .ok (.bipush 9, 2) := by decide +kernel
theorem dX7_bestFeed_67 : decode cX7_bestFeed 67 = .ok (.invokevirtual 191, 3) := by decide +kernel
theorem dX7_bestFeed_70 : decode cX7_bestFeed 70 = .ok (.iadd, 1) := by decide +kernel
theorem dX7_bestFeed_71 : decode cX7_bestFeed 71 = .ok (.istore 8, 2) := by decide +kernel
theorem dX7_bestFeed_73 : decode cX7_bestFeed 73 = .ok (.aload_n 0, 1) := by decide +kernel
theorem dX7_bestFeed_74 : decode cX7_bestFeed 74 = .ok (.iconst 2, 1) := by decide +kernel
theorem dX7_bestFeed_75 : decode cX7_bestFeed 75 = .ok (.invokevirtual 210, 3) := by decide +kernel
theorem dX7_bestFeed_78 : decode cX7_bestFeed 78 = .ok (.istore 9, 2) := by decide +kernel
theorem dX7_bestFeed_80 : decode cX7_bestFeed 80 = .ok (.iload_n 3, 1) := by decide +kernel
theorem dX7_bestFeed_81 : decode cX7_bestFeed 81 = .ok (.iconst (-1), 1) := by decide +kernel
theorem dX7_bestFeed_82 : decode cX7_bestFeed 82 = .ok (.if_icmp .eq 14, 3) := by decide +kernel
theorem dX7_bestFeed_85 : decode cX7_bestFeed 85 = .ok (.aload_n 0, 1) := by decide +kernel
theorem dX7_bestFeed_86 : decode cX7_bestFeed 86 = .ok (.iload_n 2, 1) := by decide +kernel
theorem dX7_bestFeed_87 : decode cX7_bestFeed 87 = .ok (.iconst 2, 1) := by decide +kernel
theorem dX7_bestFeed_88 : decode cX7_bestFeed 88 = .ok (.invokevirtual 72, 3) := by decide +kernel
theorem dX7_bestFeed_91 : decode cX7_bestFeed 91 = .ok (.iload 4, 2) := by decide +kernel
theorem dX7_bestFeed_93 : decode cX7_bestFeed 93 = .ok (.if_icmp .le 18, 3) := by decide +kernel
theorem dX7_bestFeed_96 : decode cX7_bestFeed 96 = .ok (.iload 7, 2) := by decide +kernel
theorem dX7_bestFeed_98 : decode cX7_bestFeed 98 = .ok (.istore_n 3, 1) := by decide +kernel
theorem dX7_bestFeed_99 : decode cX7_bestFeed 99 = .ok (.aload_n 0, 1) := by decide +kernel
theorem dX7_bestFeed_100 : decode cX7_bestFeed 100 = .ok (.iload_n 2, 1) := by decide +kernel
theorem dX7_bestFeed_101 : decode cX7_bestFeed 101 = .ok (.iconst 2, 1) := by decide +kernel
theorem dX7_bestFeed_102 : decode cX7_bestFeed 102 = .ok (.invokevirtual 72, 3) := by decide +kernel
theorem dX7_bestFeed_105 : decode cX7_bestFeed 105 = .ok (.istore 4, 2) := by decide +kernel
theorem dX7_bestFeed_107 : decode cX7_bestFeed 107 = .ok (.iload 9, 2) := by decide +kernel
theorem dX7_bestFeed_109 : decode cX7_bestFeed 109 = .ok (.istore 5, 2) := by decide +kernel
theorem dX7_bestFeed_111 : decode cX7_bestFeed 111 = .ok (.iload 7, 2) := by decide +kernel
theorem dX7_bestFeed_113 : decode cX7_bestFeed 113 = .ok (.ifCond .eq 10, 3) := by decide +kernel
theorem dX7_bestFeed_116 : decode cX7_bestFeed 116 = .ok (.iload 9, 2) := by decide +kernel
theorem dX7_bestFeed_118 : decode cX7_bestFeed 118 = .ok (.iload 6, 2) := by decide +kernel
theorem dX7_bestFeed_120 : decode cX7_bestFeed 120 = .ok (.if_icmp .le 8, 3) := by decide +kernel
theorem dX7_bestFeed_123 : decode cX7_bestFeed 123 = .ok (.iload 9, 2) := by decide +kernel
theorem dX7_bestFeed_125 : decode cX7_bestFeed 125 = .ok (.goto 5, 3) := by decide +kernel
theorem dX7_bestFeed_128 : decode cX7_bestFeed 128 = .ok (.iload 6, 2) := by decide +kernel
theorem dX7_bestFeed_130 : decode cX7_bestFeed 130 = .ok (.istore 6, 2) := by decide +kernel
theorem dX7_bestFeed_132 : decode cX7_bestFeed 132 = .ok (.aload_n 0, 1) := by decide +kernel
theorem dX7_bestFeed_133 : decode cX7_bestFeed 133 = .ok (.invokevirtual 201, 3) := by decide +kernel
theorem dX7_bestFeed_136 : decode cX7_bestFeed 136 = .ok (.iinc 7 1, 3) := by decide +kernel
theorem dX7_bestFeed_139 : decode cX7_bestFeed 139 = .ok (.goto (-101), 3) := by decide +kernel
theorem dX7_bestFeed_142 : decode cX7_bestFeed 142 = .ok (.iload_n 1, 1) := by decide +kernel
theorem dX7_bestFeed_143 : decode cX7_bestFeed 143 = .ok (.ifCond .ne 7, 3) := by decide +kernel
theorem dX7_bestFeed_146 : decode cX7_bestFeed 146 = .ok (.iload_n 3, 1) := by decide +kernel
theorem dX7_bestFeed_147 : decode cX7_bestFeed 147 = .ok (.goto 18, 3) := by decide +kernel
theorem dX7_bestFeed_150 : decode cX7_bestFeed 150 = .ok (.iload_n 1, 1) := by decide +kernel
theorem dX7_bestFeed_151 : decode cX7_bestFeed 151 = .ok (.iconst 1, 1) := by decide +kernel
theorem dX7_bestFeed_152 : decode cX7_bestFeed 152 = .ok (.if_icmp .ne 8, 3) := by decide +kernel
theorem dX7_bestFeed_155 : decode cX7_bestFeed 155 = .ok (.iload 4, 2) := by decide +kernel
theorem dX7_bestFeed_157 : decode cX7_bestFeed 157 = .ok (.goto 8, 3) := by decide +kernel
theorem dX7_bestFeed_160 : decode cX7_bestFeed 160 = .ok (.iload 6, 2) := by decide +kernel
theorem dX7_bestFeed_162 : decode cX7_bestFeed 162 = .ok (.iload 5, 2) := by decide +kernel
theorem dX7_bestFeed_164 : decode cX7_bestFeed 164 = .ok (.isub, 1) := by decide +kernel
theorem dX7_bestFeed_165 : decode cX7_bestFeed 165 = .ok (.ireturn, 1) := by decide +kernel
theorem gX7_behind_X7_layDown : GoodIn wsX7_behind (wsV RX7 198 RX7 yX7_layDown wsX7_layDown) := nw_gV nwl_X7_behind nwe_699 nwe_700 nwe_701 nwe_534 nwl_X7_layDown (by decide +kernel)
theorem gX7_behind_X7_go : GoodIn wsX7_behind (wsV RX7 191 RX7 yX7_go wsX7_go) := nw_gV nwl_X7_behind nwe_688 nwe_689 nwe_690 nwe_534 nwl_X7_go (by decide +kernel)
theorem gX7_behind_X7_its : GoodIn wsX7_behind (wsV RX7 72 RX7 yX7_its wsX7_its) := nw_gV nwl_X7_behind nwe_552 nwe_553 nwe_554 nwe_534 nwl_X7_its (by decide +kernel)
theorem gX7_behind_X7_layBack : GoodIn wsX7_behind (wsV RX7 201 RX7 yX7_layBack wsX7_layBack) := nw_gV nwl_X7_behind nwe_702 nwe_703 nwe_704 nwe_534 nwl_X7_layBack (by decide +kernel)
theorem dX7_behind_0 : decode cX7_behind 0 = .ok (.aload_n 0, 1) := by decide +kernel
theorem dX7_behind_1 : decode cX7_behind 1 = .ok (.invokevirtual 198, 3) := by decide +kernel
theorem dX7_behind_4 : decode cX7_behind 4 = .ok (.aload_n 0, 1) := by decide +kernel
theorem dX7_behind_5 : decode cX7_behind 5 = .ok (.bipush 18, 2) := by decide +kernel
theorem dX7_behind_7 : decode cX7_behind 7 = .ok (.invokevirtual 191, 3) := by decide +kernel
theorem dX7_behind_10 : decode cX7_behind 10 = .ok (.istore_n 2, 1) := by decide +kernel
theorem dX7_behind_11 : decode cX7_behind 11 = .ok (.iconst 0, 1) := by decide +kernel
theorem dX7_behind_12 : decode cX7_behind 12 = .ok (.istore_n 3, 1) := by decide +kernel
theorem dX7_behind_13 : decode cX7_behind 13 = .ok (.iload_n 3, 1) := by decide +kernel
theorem dX7_behind_14 : decode cX7_behind 14 = .ok (.bipush 9, 2) := by decide +kernel
theorem dX7_behind_16 : decode cX7_behind 16 = .ok (.if_icmp .ge 18, 3) := by decide +kernel
theorem dX7_behind_19 : decode cX7_behind 19 = .ok (.aload_n 1, 1) := by decide +kernel
theorem dX7_behind_20 : decode cX7_behind 20 = .ok (.iload_n 3, 1) := by decide +kernel
theorem dX7_behind_21 : decode cX7_behind 21 = .ok (.aload_n 0, 1) := by decide +kernel
theorem dX7_behind_22 : decode cX7_behind 22 = .ok (.iload_n 3, 1) := by decide +kernel
theorem dX7_behind_23 : decode cX7_behind 23 = .ok (.iconst 2, 1) := by decide +kernel
theorem dX7_behind_24 : decode cX7_behind 24 = .ok (.invokevirtual 72, 3) := by decide +kernel
theorem dX7_behind_27 : decode cX7_behind 27 = .ok (.iastore, 1) := by decide +kernel
theorem dX7_behind_28 : decode cX7_behind 28 = .ok (.iinc 3 1, 3) := by decide +kernel
theorem dX7_behind_31 : decode cX7_behind 31 = .ok (.goto (-18), 3) := by decide +kernel
theorem dX7_behind_34 : decode cX7_behind 34 = .ok (.aload_n 0, 1) := by decide +kernel
theorem dX7_behind_35 : decode cX7_behind 35 = .ok (.invokevirtual 201, 3) := by decide +kernel
theorem dX7_behind_38 : decode cX7_behind 38 = .ok (.return_, 1) := by decide +kernel
theorem gX7_behindTrade_X7_trades : GoodIn wsX7_behindTrade (wsV RX7 185 RX7 yX7_trades wsX7_trades) := nw_gV nwl_X7_behindTrade nwe_678 nwe_679 nwe_680 nwe_534 nwl_X7_trades (by decide +kernel)
theorem gX7_behindTrade_X7_behind : GoodIn wsX7_behindTrade (wsV RX7 213 RX7 yX7_behind wsX7_behind) := nw_gV nwl_X7_behindTrade nwe_720 nwe_721 nwe_722 nwe_534 nwl_X7_behind (by decide +kernel)
theorem dX7_behindTrade_0 : decode cX7_behindTrade 0 = .ok (.aload_n 0, 1) := by decide +kernel
theorem dX7_behindTrade_1 : decode cX7_behindTrade 1 = .ok (.iload_n 1, 1) := by decide +kernel
theorem dX7_behindTrade_2 : decode cX7_behindTrade 2 = .ok (.iload_n 2, 1) := by decide +kernel
theorem dX7_behindTrade_3 : decode cX7_behindTrade 3 = .ok (.invokevirtual 185, 3) := by decide +kernel
theorem dX7_behindTrade_6 : decode cX7_behindTrade 6 = .ok (.aload_n 0, 1) := by decide +kernel
theorem dX7_behindTrade_7 : decode cX7_behindTrade 7 = .ok (.aload_n 0, 1) := by decide +kernel
theorem dX7_behindTrade_8 : decode cX7_behindTrade 8 = .ok (.getfield 41, 3) := by decide +kernel
theorem dX7_behindTrade_11 : decode cX7_behindTrade 11 = .ok (.invokevirtual 213, 3) := by decide +kernel
theorem dX7_behindTrade_14 : decode cX7_behindTrade 14 = .ok (.aload_n 0, 1) := by decide +kernel
theorem dX7_behindTrade_15 : decode cX7_behindTrade 15 = .ok (.iload_n 1, 1) := by decide +kernel
theorem dX7_behindTrade_16 : decode cX7_behindTrade 16 = .ok (.iload_n 2, 1) := by decide +kernel
theorem dX7_behindTrade_17 : decode cX7_behindTrade 17 = .ok (.invokevirtual 185, 3) := by decide +kernel
theorem dX7_behindTrade_20 : decode cX7_behindTrade 20 = .ok (.return_, 1) := by decide +kernel
theorem gX7_gain_X7_isFarmer : GoodIn wsX7_gain (va_wsS RX7 178 yX7_isFarmer wsX7_isFarmer) := nw_gS nwl_X7_gain nwe_670 nwe_671 nwe_534 nwl_X7_isFarmer (by decide +kernel)
theorem gX7_gain_X7_error : GoodIn wsX7_gain (wsV RX7 76 RX7 yX7_error wsX7_error) := nw_gV nwl_X7_gain nwe_558 nwe_559 nwe_560 nwe_534 nwl_X7_error (by decide +kernel)
theorem gX7_gain_X7_behind : GoodIn wsX7_gain (wsV RX7 213 RX7 yX7_behind wsX7_behind) := nw_gV nwl_X7_gain nwe_720 nwe_721 nwe_722 nwe_534 nwl_X7_behind (by decide +kernel)
theorem gX7_gain_X7_behindTrade : GoodIn wsX7_gain (wsV RX7 217 RX7 yX7_behindTrade wsX7_behindTrade) := nw_gV nwl_X7_gain nwe_724 nwe_725 nwe_726 nwe_534 nwl_X7_behindTrade (by decide +kernel)
theorem dX7_gain_0 : decode cX7_gain 0 = .ok (.iload_n 1, 1) := by decide +kernel
theorem dX7_gain_1 : decode cX7_gain 1 = .ok (.invokestatic 178, 3) := by decide +kernel
theorem dX7_gain_4 : decode cX7_gain 4 = .ok (.ifCond .eq 15, 3) := by decide +kernel
theorem dX7_gain_7 : decode cX7_gain 7 = .ok (.iload_n 2, 1) := by decide +kernel
theorem dX7_gain_8 : decode cX7_gain 8 = .ok (.invokestatic 178, 3) := by decide +kernel
theorem dX7_gain_11 : decode cX7_gain 11 = .ok (.ifCond .eq 8, 3) := by decide +kernel
theorem dX7_gain_14 : decode cX7_gain 14 = .ok (.iload_n 1, 1) := by decide +kernel
theorem dX7_gain_15 : decode cX7_gain 15 = .ok (.iload_n 2, 1) := by decide +kernel
theorem dX7_gain_16 : decode cX7_gain 16 = .ok (.if_icmp .ne 9, 3) := by decide +kernel
theorem dX7_gain_19 : decode cX7_gain 19 = .ok (.aload_n 0, 1) := by decide +kernel
theorem dX7_gain_20 : decode cX7_gain 20 = .ok (.iconst 1, 1) := by decide +kernel
theorem dX7_gain_21 : decode cX7_gain 21 = .ok (.invokevirtual 76, 3) := by decide +kernel
theorem dX7_gain_24 : decode cX7_gain 24 = .ok (.ireturn, 1) := by decide +kernel
theorem dX7_gain_25 : decode cX7_gain 25 = .ok (.aload_n 0, 1) := by decide +kernel
theorem dX7_gain_26 : decode cX7_gain 26 = .ok (.aload_n 0, 1) := by decide +kernel
theorem dX7_gain_27 : decode cX7_gain 27 = .ok (.getfield 38, 3) := by decide +kernel
theorem dX7_gain_30 : decode cX7_gain 30 = .ok (.invokevirtual 213, 3) := by decide +kernel
theorem dX7_gain_33 : decode cX7_gain 33 = .ok (.aload_n 0, 1) := by decide +kernel
theorem dX7_gain_34 : decode cX7_gain 34 = .ok (.iload_n 1, 1) := by decide +kernel
theorem dX7_gain_35 : decode cX7_gain 35 = .ok (.iload_n 2, 1) := by decide +kernel
theorem dX7_gain_36 : decode cX7_gain 36 = .ok (.invokevirtual 217, 3) := by decide +kernel
theorem dX7_gain_39 : decode cX7_gain 39 = .ok (.aload_n 0, 1) := by decide +kernel
theorem dX7_gain_40 : decode cX7_gain 40 = .ok (.getfield 41, 3) := by decide +kernel
theorem dX7_gain_43 : decode cX7_gain 43 = .ok (.iload_n 1, 1) := by decide +kernel
theorem dX7_gain_44 : decode cX7_gain 44 = .ok (.iaload, 1) := by decide +kernel
theorem dX7_gain_45 : decode cX7_gain 45 = .ok (.aload_n 0, 1) := by decide +kernel
theorem dX7_gain_46 : decode cX7_gain 46 = .ok (.getfield 38, 3) := by decide +kernel
theorem dX7_gain_49 : decode cX7_gain 49 = .ok (.iload_n 1, 1) := by decide +kernel
theorem dX7_gain_50 : decode cX7_gain 50 = .ok (.iaload, 1) := by decide +kernel
theorem dX7_gain_51 : decode cX7_gain 51 = .ok (.isub, 1) := by decide +kernel
theorem dX7_gain_52 : decode cX7_gain 52 = .ok (.ireturn, 1) := by decide +kernel
theorem gX7_bestTrade_X7_behind : GoodIn wsX7_bestTrade (wsV RX7 213 RX7 yX7_behind wsX7_behind) := nw_gV nwl_X7_bestTrade nwe_720 nwe_721 nwe_722 nwe_534 nwl_X7_behind (by decide +kernel)
theorem gX7_bestTrade_X7_behindTrade : GoodIn wsX7_bestTrade (wsV RX7 217 RX7 yX7_behindTrade wsX7_behindTrade) := nw_gV nwl_X7_bestTrade nwe_724 nwe_725 nwe_726 nwe_534 nwl_X7_behindTrade (by decide +kernel)
theorem gX7_bestTrade_X7_error : GoodIn wsX7_bestTrade (wsV RX7 76 RX7 yX7_error wsX7_error) := nw_gV nwl_X7_bestTrade nwe_558 nwe_559 nwe_560 nwe_534 nwl_X7_error (by decide +kernel)
theorem dX7_bestTrade_0 : decode cX7_bestTrade 0 = .ok (.iconst (-1), 1) := by decide +kernel
theorem dX7_bestTrade_1 : decode cX7_bestTrade 1 = .ok (.istore_n 1, 1) := by decide +kernel
theorem dX7_bestTrade_2 : decode cX7_bestTrade 2 = .ok (.iconst 0, 1) := by decide +kernel
theorem dX7_bestTrade_3 : decode cX7_bestTrade 3 = .ok (.istore_n 2, 1) := by decide +kernel
theorem dX7_bestTrade_4 : decode cX7_bestTrade 4 = .ok (.aload_n 0, 1) := by decide +kernel
theorem dX7_bestTrade_5 : decode cX7_bestTrade 5 = .ok (.aload_n 0, 1) := by decide +kernel
theorem dX7_bestTrade_6 : decode cX7_bestTrade 6 = .ok (.getfield 38, 3) := by decide +kernel
theorem dX7_bestTrade_9 : decode cX7_bestTrade 9 = .ok (.invokevirtual 213, 3) := by decide +kernel
theorem dX7_bestTrade_12 : decode cX7_bestTrade 12 = .ok (.iconst 0, 1) := by decide +kernel
theorem dX7_bestTrade_13 : decode cX7_bestTrade 13 = .ok (.istore_n 3, 1) := by decide +kernel
theorem dX7_bestTrade_14 : decode cX7_bestTrade 14 = .ok (.iload_n 3, 1) := by decide +kernel
theorem dX7_bestTrade_15 : decode cX7_bestTrade 15 = .ok (.bipush 9, 2) := by decide +kernel
theorem dX7_bestTrade_17 : decode cX7_bestTrade 17 = .ok (.if_icmp .ge 99, 3) := by decide +kernel
theorem dX7_bestTrade_20 : decode cX7_bestTrade 20 = .ok (.iload_n 3, 1) := by decide +kernel
theorem dX7_bestTrade_21 : decode cX7_bestTrade 21 = .ok (.iconst 1, 1) := by decide +kernel
theorem dX7_bestTrade_22 : decode cX7_bestTrade 22 = .ok (.iadd, 1) := by decide +kernel
theorem dX7_bestTrade_23 : decode cX7_bestTrade 23 = .ok (.istore 4, 2) := by decide +kernel
theorem dX7_bestTrade_25 : decode cX7_bestTrade 25 = .ok (.iload 4, 2) := by decide +kernel
theorem dX7_bestTrade_27 : decode cX7_bestTrade 27 = .ok (.bipush 9, 2) := by decide +kernel
theorem dX7_bestTrade_29 : decode cX7_bestTrade 29 = .ok (.if_icmp .ge 81, 3) := by decide +kernel
theorem dX7_bestTrade_32 : decode cX7_bestTrade 32 = .ok (.aload_n 0, 1) := by decide +kernel
theorem dX7_bestTrade_33 : decode cX7_bestTrade 33 = .ok (.iload_n 3, 1) := by decide +kernel
theorem dX7_bestTrade_34 : decode cX7_bestTrade 34 = .ok (.iload 4, 2) := by decide +kernel
theorem dX7_bestTrade_36 : decode cX7_bestTrade 36 = .ok (.invokevirtual 217, 3) := by decide +kernel
theorem dX7_bestTrade_39 : decode cX7_bestTrade 39 = .ok (.aload_n 0, 1) := by decide +kernel
theorem dX7_bestTrade_40 : decode cX7_bestTrade 40 = .ok (.getfield 41, 3) := by decide +kernel
theorem dX7_bestTrade_43 : decode cX7_bestTrade 43 = .ok (.iload_n 3, 1) := by decide +kernel
theorem dX7_bestTrade_44 : decode cX7_bestTrade 44 = .ok (.iaload, 1) := by decide +kernel
theorem dX7_bestTrade_45 : decode cX7_bestTrade 45 = .ok (.aload_n 0, 1) := by decide +kernel
theorem dX7_bestTrade_46 : decode cX7_bestTrade 46 = .ok (.getfield 38, 3) := by decide +kernel
theorem dX7_bestTrade_49 : decode cX7_bestTrade 49 = .ok (.iload_n 3, 1) := by decide +kernel
theorem dX7_bestTrade_50 : decode cX7_bestTrade 50 = .ok (.iaload, 1) := by decide +kernel
theorem dX7_bestTrade_51 : decode cX7_bestTrade 51 = .ok (.isub, 1) := by decide +kernel
theorem dX7_bestTrade_52 : decode cX7_bestTrade 52 = .ok (.istore 5, 2) := by decide +kernel
theorem dX7_bestTrade_54 : decode cX7_bestTrade 54 = .ok (.aload_n 0, 1) := by decide +kernel
theorem dX7_bestTrade_55 : decode cX7_bestTrade 55 = .ok (.getfield 41, 3) := by decide +kernel
theorem dX7_bestTrade_58 : decode cX7_bestTrade 58 = .ok (.iload 4, 2) := by decide +kernel
theorem dX7_bestTrade_60 : decode cX7_bestTrade 60 = .ok (.iaload, 1) := by decide +kernel
theorem dX7_bestTrade_61 : decode cX7_bestTrade 61 = .ok (.aload_n 0, 1) := by decide +kernel
theorem dX7_bestTrade_62 : decode cX7_bestTrade 62 = .ok (.getfield 38, 3) := by decide +kernel
theorem dX7_bestTrade_65 : decode cX7_bestTrade 65 = .ok (.iload 4, 2) := by decide +kernel
theorem dX7_bestTrade_67 : decode cX7_bestTrade 67 = .ok (.iaload, 1) := by decide +kernel
theorem dX7_bestTrade_68 : decode cX7_bestTrade 68 = .ok (.isub, 1) := by decide +kernel
theorem dX7_bestTrade_69 : decode cX7_bestTrade 69 = .ok (.istore 6, 2) := by decide +kernel
theorem dX7_bestTrade_71 : decode cX7_bestTrade 71 = .ok (.iload 5, 2) := by decide +kernel
theorem dX7_bestTrade_73 : decode cX7_bestTrade 73 = .ok (.ifCond .le 31, 3) := by decide +kernel
theorem dX7_bestTrade_76 : decode cX7_bestTrade 76 = .ok (.iload 6, 2) := by decide +kernel
theorem dX7_bestTrade_78 : decode cX7_bestTrade 78 = .ok (.ifCond .le 26, 3) := by decide +kernel
theorem dX7_bestTrade_81 : decode cX7_bestTrade 81 = .ok (.iload 5, 2) := by decide +kernel
theorem dX7_bestTrade_83 : decode cX7_bestTrade 83 = .ok (.iload 6, 2) := by decide +kernel
theorem dX7_bestTrade_85 : decode cX7_bestTrade 85 = .ok (.iadd, 1) := by decide +kernel
theorem dX7_bestTrade_86 : decode cX7_bestTrade 86 = .ok (.iload_n 2, 1) := by decide +kernel
theorem dX7_bestTrade_87 : decode cX7_bestTrade 87 = .ok (.if_icmp .le 17, 3) := by decide +kernel
theorem dX7_bestTrade_90 : decode cX7_bestTrade 90 = .ok (.bipush 10, 2) := by decide +kernel
theorem dX7_bestTrade_92 : decode cX7_bestTrade 92 = .ok (.iload_n 3, 1) := by decide +kernel
theorem dX7_bestTrade_93 : decode cX7_bestTrade 93 = .ok (.imul, 1) := by decide +kernel
theorem dX7_bestTrade_94 : decode cX7_bestTrade 94 = .ok (.iload 4, 2) := by decide +kernel
theorem dX7_bestTrade_96 : decode cX7_bestTrade 96 = .ok (.iadd, 1) := by decide +kernel
theorem dX7_bestTrade_97 : decode cX7_bestTrade 97 = .ok (.istore_n 1, 1) := by decide +kernel
theorem dX7_bestTrade_98 : decode cX7_bestTrade 98 = .ok (.iload 5, 2) := by decide +kernel
theorem dX7_bestTrade_100 : decode cX7_bestTrade 100 = .ok (.iload 6, 2) := by decide +kernel
theorem dX7_bestTrade_102 : decode cX7_bestTrade 102 = .ok (.iadd, 1) := by decide +kernel
theorem dX7_bestTrade_103 : decode cX7_bestTrade 103 = .ok (.istore_n 2, 1) := by decide +kernel
theorem dX7_bestTrade_104 : decode cX7_bestTrade 104 = .ok (.iinc 4 1, 3) := by decide +kernel
theorem dX7_bestTrade_107 : decode cX7_bestTrade 107 = .ok (.goto (-82), 3) := by decide +kernel
theorem dX7_bestTrade_110 : decode cX7_bestTrade 110 = .ok (.iinc 3 1, 3) := by decide +kernel
theorem dX7_bestTrade_113 : decode cX7_bestTrade 113 = .ok (.goto (-99), 3) := by decide +kernel
theorem dX7_bestTrade_116 : decode cX7_bestTrade 116 = .ok (.iload_n 1, 1) := by decide +kernel
theorem dX7_bestTrade_117 : decode cX7_bestTrade 117 = .ok (.iconst (-1), 1) := by decide +kernel
theorem dX7_bestTrade_118 : decode cX7_bestTrade 118 = .ok (.if_icmp .ne 11, 3) := by decide +kernel
theorem dX7_bestTrade_121 : decode cX7_bestTrade 121 = .ok (.aload_n 0, 1) := by decide +kernel
theorem dX7_bestTrade_122 : decode cX7_bestTrade 122 = .ok (.iconst 2, 1) := by decide +kernel
theorem dX7_bestTrade_123 : decode cX7_bestTrade 123 = .ok (.invokevirtual 76, 3) := by decide +kernel
theorem dX7_bestTrade_126 : decode cX7_bestTrade 126 = .ok (.goto 4, 3) := by decide +kernel
theorem dX7_bestTrade_129 : decode cX7_bestTrade 129 = .ok (.iload_n 1, 1) := by decide +kernel
theorem dX7_bestTrade_130 : decode cX7_bestTrade 130 = .ok (.ireturn, 1) := by decide +kernel
theorem gX7_share_X7_isFarmer : GoodIn wsX7_share (va_wsS RX7 178 yX7_isFarmer wsX7_isFarmer) := nw_gS nwl_X7_share nwe_670 nwe_671 nwe_534 nwl_X7_isFarmer (by decide +kernel)
theorem gX7_share_X7_in : GoodIn wsX7_share (va_wsS RX7 68 yX7_in wsX7_in) := nw_gS nwl_X7_share nwe_546 nwe_547 nwe_534 nwl_X7_in (by decide +kernel)
theorem gX7_share_X7_error : GoodIn wsX7_share (wsV RX7 76 RX7 yX7_error wsX7_error) := nw_gV nwl_X7_share nwe_558 nwe_559 nwe_560 nwe_534 nwl_X7_error (by decide +kernel)
theorem gX7_share_X7_layDown : GoodIn wsX7_share (wsV RX7 198 RX7 yX7_layDown wsX7_layDown) := nw_gV nwl_X7_share nwe_699 nwe_700 nwe_701 nwe_534 nwl_X7_layDown (by decide +kernel)
theorem gX7_share_X7_whoHas : GoodIn wsX7_share (wsV RX7 154 RX7 yX7_whoHas wsX7_whoHas) := nw_gV nwl_X7_share nwe_641 nwe_642 nwe_643 nwe_534 nwl_X7_whoHas (by decide +kernel)
theorem gX7_share_X7_its : GoodIn wsX7_share (wsV RX7 72 RX7 yX7_its wsX7_its) := nw_gV nwl_X7_share nwe_552 nwe_553 nwe_554 nwe_534 nwl_X7_its (by decide +kernel)
theorem gX7_share_X7_day : GoodIn wsX7_share (wsV RX7 169 RX7 yX7_day wsX7_day) := nw_gV nwl_X7_share nwe_657 nwe_658 nwe_659 nwe_534 nwl_X7_day (by decide +kernel)
theorem gX7_share_X7_layBack : GoodIn wsX7_share (wsV RX7 201 RX7 yX7_layBack wsX7_layBack) := nw_gV nwl_X7_share nwe_702 nwe_703 nwe_704 nwe_534 nwl_X7_layBack (by decide +kernel)
theorem dX7_share_0 : decode cX7_share 0 = .ok (.iload_n 1, 1) := by decide +kernel
theorem dX7_share_1 : decode cX7_share 1 = .ok (.invokestatic 178, 3) := by decide +kernel
theorem dX7_share_4 : decode cX7_share 4 = .ok (.ifCond .eq 22, 3) := by decide +kernel
theorem dX7_share_7 : decode cX7_share 7 = .ok (.iload_n 2, 1) := by decide +kernel
theorem dX7_share_8 : decode cX7_share 8 = .ok (.iconst 0, 1) := by decide +kernel
theorem dX7_share_9 : decode cX7_share 9 = .ok (.iconst 2, 1) := by decide +kernel
theorem dX7_share_10 : decode cX7_share 10 = .ok (.invokestatic 68, 3) := by decide +kernel
theorem dX7_share_13 : decode cX7_share 13 = .ok (.ifCond .eq 13, 3) := by decide +kernel
theorem dX7_share_16 : decode cX7_share 16 = .ok (.iload_n 3, 1) := by decide +kernel
theorem dX7_share_17 : decode cX7_share 17 = .ok (.iconst 1, 1) := by decide +kernel
theorem dX7_share_18 : decode cX7_share 18 = .ok (.bipush 45, 2) := by decide +kernel
theorem dX7_share_20 : decode cX7_share 20 = .ok (.invokestatic 68, 3) := by decide +kernel
theorem dX7_share_23 : decode cX7_share 23 = .ok (.ifCond .ne 9, 3) := by decide +kernel
theorem dX7_share_26 : decode cX7_share 26 = .ok (.aload_n 0, 1) := by decide +kernel
theorem dX7_share_27 : decode cX7_share 27 = .ok (.iconst 1, 1) := by decide +kernel
theorem dX7_share_28 : decode cX7_share 28 = .ok (.invokevirtual 76, 3) := by decide +kernel
theorem dX7_share_31 : decode cX7_share 31 = .ok (.ireturn, 1) := by decide +kernel
theorem dX7_share_32 : decode cX7_share 32 = .ok (.aload_n 0, 1) := by decide +kernel
theorem dX7_share_33 : decode cX7_share 33 = .ok (.invokevirtual 198, 3) := by decide +kernel
theorem dX7_share_36 : decode cX7_share 36 = .ok (.iconst 0, 1) := by decide +kernel
theorem dX7_share_37 : decode cX7_share 37 = .ok (.istore 4, 2) := by decide +kernel
theorem dX7_share_39 : decode cX7_share 39 = .ok (.iconst 0, 1) := by decide +kernel
theorem dX7_share_40 : decode cX7_share 40 = .ok (.istore 5, 2) := by decide +kernel
theorem dX7_share_42 : decode cX7_share 42 = .ok (.iload 5, 2) := by decide +kernel
theorem dX7_share_44 : decode cX7_share 44 = .ok (.iload_n 3, 1) := by decide +kernel
theorem dX7_share_45 : decode cX7_share 45 = .ok (.if_icmp .ge 121, 3) := by decide +kernel
theorem dX7_share_48 : decode cX7_share 48 = .ok (.aload_n 0, 1) := by decide +kernel
theorem dX7_share_49 : decode cX7_share 49 = .ok (.invokevirtual 154, 3) := by decide +kernel
theorem dX7_share_52 : decode cX7_share 52 = .ok (.istore 6, 2) := by decide +kernel
theorem dX7_share_54 : decode cX7_share 54 = .ok (.aload_n 0, 1) := by decide +kernel
theorem dX7_share_55 : decode cX7_share 55 = .ok (.iload_n 1, 1) := by decide +kernel
theorem dX7_share_56 : decode cX7_share 56 = .ok (.iconst 2, 1) := by decide +kernel
theorem dX7_share_57 : decode cX7_share 57 = .ok (.invokevirtual 72, 3) := by decide +kernel
theorem dX7_share_60 : decode cX7_share 60 = .ok (.istore 7, 2) := by decide +kernel
theorem dX7_share_62 : decode cX7_share 62 = .ok (.aload_n 0, 1) := by decide +kernel
theorem dX7_share_63 : decode cX7_share 63 = .ok (.invokevirtual 169, 3) := by decide +kernel
theorem dX7_share_66 : decode cX7_share 66 = .ok (.istore 8, 2) := by decide +kernel
theorem dX7_share_68 : decode cX7_share 68 = .ok (.iload_n 2, 1) := by decide +kernel
theorem dX7_share_69 : decode cX7_share 69 = .ok (.ifCond .ne 20, 3) := by decide +kernel
theorem dX7_share_72 : decode cX7_share 72 = .ok (.iload 4, 2) := by decide +kernel
theorem dX7_share_74 : decode cX7_share 74 = .ok (.aload_n 0, 1) := by decide +kernel
theorem dX7_share_75 : decode cX7_share 75 = .ok (.iload_n 1, 1) := by decide +kernel
theorem dX7_share_76 : decode cX7_share 76 = .ok (.iconst 2, 1) := by decide +kernel
theorem dX7_share_77 : decode cX7_share 77 = .ok (.invokevirtual 72, 3) := by decide +kernel
theorem dX7_share_80 : decode cX7_share 80 = .ok (.iload 7, 2) := by decide +kernel
theorem dX7_share_82 : decode cX7_share 82 = .ok (.isub, 1) := by decide +kernel
theorem dX7_share_83 : decode cX7_share 83 = .ok (.iadd, 1) := by decide +kernel
theorem dX7_share_84 : decode cX7_share 84 = .ok (.istore 4, 2) := by decide +kernel
theorem dX7_share_86 : decode cX7_share 86 = .ok (.goto 74, 3) := by decide +kernel
theorem dX7_share_89 : decode cX7_share 89 = .ok (.iload_n 2, 1) := by decide +kernel
theorem dX7_share_90 : decode cX7_share 90 = .ok (.iconst 1, 1) := by decide +kernel
theorem dX7_share_91 : decode cX7_share 91 = .ok (.if_icmp .ne 23, 3) := by decide +kernel
theorem dX7_share_94 : decode cX7_share 94 = .ok (.iload 4, 2) := by decide +kernel
theorem dX7_share_96 : decode cX7_share 96 = .ok (.iload 6, 2) := by decide +kernel
theorem dX7_share_98 : decode cX7_share 98 = .ok (.iload_n 1, 1) := by decide +kernel
theorem dX7_share_99 : decode cX7_share 99 = .ok (.if_icmp .ne 8, 3) := by decide +kernel
theorem dX7_share_102 : decode cX7_share 102 = .ok (.iload 8, 2) := by decide +kernel
theorem dX7_share_104 : decode cX7_share 104 = .ok (.goto 4, 3) := by decide +kernel
theorem dX7_share_107 : decode cX7_share 107 = .ok (.iconst 0, 1) := by decide +kernel
theorem dX7_share_108 : decode cX7_share 108 = .ok (.iadd, 1) := by decide +kernel
theorem dX7_share_109 : decode cX7_share 109 = .ok (.istore 4, 2) := by decide +kernel
theorem dX7_share_111 : decode cX7_share 111 = .ok (.goto 49, 3) := by decide +kernel
theorem dX7_share_114 : decode cX7_share 114 = .ok (.iconst 0, 1) := by decide +kernel
theorem dX7_share_115 : decode cX7_share 115 = .ok (.istore 9, 2) := by decide +kernel
theorem dX7_share_117 : decode cX7_share 117 = .ok (.iload 9, 2) := by decide +kernel
theorem dX7_share_119 : decode cX7_share 119 = .ok (.bipush 16, 2) := by decide +kernel
theorem dX7_share_121 : decode cX7_share 121 = .ok (.if_icmp .ge 39, 3) := by decide +kernel
theorem dX7_share_124 : decode cX7_share 124 = .ok (.iload 4, 2) := by decide +kernel
theorem dX7_share_126 : decode cX7_share 126 = .ok (.aload_n 0, 1) := by decide +kernel
theorem dX7_share_127 : decode cX7_share 127 = .ok (.getfield 7, 3) := by decide +kernel
theorem dX7_share_130 : decode cX7_share 130 = .ok (.bipush 8, 2) := by decide +kernel
theorem dX7_share_132 : decode cX7_share 132 = .ok (.iload 9, 2) := by decide +kernel
theorem dX7_share_134 : decode cX7_share 134 = .ok (.iadd, 1) := by decide +kernel
theorem dX7_share_135 : decode cX7_share 135 = .ok (.iaload, 1) := by decide +kernel
theorem dX7_share_136 : decode cX7_share 136 = .ok (.iload_n 1, 1) := by decide +kernel
theorem dX7_share_137 : decode cX7_share 137 = .ok (.if_icmp .ne 13, 3) := by decide +kernel
theorem dX7_share_140 : decode cX7_share 140 = .ok (.aload_n 0, 1) := by decide +kernel
theorem dX7_share_141 : decode cX7_share 141 = .ok (.getfield 31, 3) := by decide +kernel
theorem dX7_share_144 : decode cX7_share 144 = .ok (.iload 9, 2) := by decide +kernel
theorem dX7_share_146 : decode cX7_share 146 = .ok (.iaload, 1) := by decide +kernel
theorem dX7_share_147 : decode cX7_share 147 = .ok (.goto 4, 3) := by decide +kernel
theorem dX7_share_150 : decode cX7_share 150 = .ok (.iconst 0, 1) := by decide +kernel
theorem dX7_share_151 : decode cX7_share 151 = .ok (.iadd, 1) := by decide +kernel
theorem dX7_share_152 : decode cX7_share 152 = .ok (.istore 4, 2) := by decide +kernel
theorem dX7_share_154 : decode cX7_share 154 = .ok (.iinc 9 1, 3) := by decide +kernel
theorem dX7_share_157 : decode cX7_share 157 = .ok (.goto (-40), 3) := by decide +kernel
theorem dX7_share_160 : decode cX7_share 160 = .ok (.iinc 5 1, 3) := by decide +kernel
theorem dX7_share_163 : decode cX7_share 163 = .ok (.goto (-121), 3) := by decide +kernel
theorem dX7_share_166 : decode cX7_share 166 = .ok (.aload_n 0, 1) := by decide +kernel
theorem dX7_share_167 : decode cX7_share 167 = .ok (.invokevirtual 201, 3) := by decide +kernel
theorem dX7_share_170 : decode cX7_share 170 = .ok (.iload 4, 2) := by decide +kernel
theorem dX7_share_172 : decode cX7_share 172 = .ok (.ireturn, 1) := by decide +kernel
theorem gX7_explains_X7_layDown : GoodIn wsX7_explains (wsV RX7 198 RX7 yX7_layDown wsX7_layDown) := nw_gV nwl_X7_explains nwe_699 nwe_700 nwe_701 nwe_534 nwl_X7_layDown (by decide +kernel)
theorem gX7_explains_X7_lays1 : GoodIn wsX7_explains (wsV RX7 59 RX7 yX7_lays1 wsX7_lays1) := nw_gV nwl_X7_explains nwe_531 nwe_532 nwe_533 nwe_534 nwl_X7_lays1 (by decide +kernel)
theorem gX7_explains_X7_go : GoodIn wsX7_explains (wsV RX7 191 RX7 yX7_go wsX7_go) := nw_gV nwl_X7_explains nwe_688 nwe_689 nwe_690 nwe_534 nwl_X7_go (by decide +kernel)
theorem gX7_explains_X7_its : GoodIn wsX7_explains (wsV RX7 72 RX7 yX7_its wsX7_its) := nw_gV nwl_X7_explains nwe_552 nwe_553 nwe_554 nwe_534 nwl_X7_its (by decide +kernel)
theorem gX7_explains_X7_layBack : GoodIn wsX7_explains (wsV RX7 201 RX7 yX7_layBack wsX7_layBack) := nw_gV nwl_X7_explains nwe_702 nwe_703 nwe_704 nwe_534 nwl_X7_layBack (by decide +kernel)
theorem dX7_explains_0 : decode cX7_explains 0 = .ok (.aload_n 0, 1) := by decide +kernel
theorem dX7_explains_1 : decode cX7_explains 1 = .ok (.invokevirtual 198, 3) := by decide +kernel
theorem dX7_explains_4 : decode cX7_explains 4 = .ok (.aload_n 0, 1) := by decide +kernel
theorem dX7_explains_5 : decode cX7_explains 5 = .ok (.iload_n 2, 1) := by decide +kernel
theorem dX7_explains_6 : decode cX7_explains 6 = .ok (.iconst 0, 1) := by decide +kernel
