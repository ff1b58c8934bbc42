theorem dX6_feed_16 : decode cX6_feed 16 = .ok (.aload_n 0, 1) := by decide +kernel
theorem dX6_feed_17 : decode cX6_feed 17 = .ok (.getfield 21, 3) := by decide +kernel
theorem dX6_feed_20 : decode cX6_feed 20 = .ok (.getfield 135, 3) := by decide +kernel
theorem dX6_feed_23 : decode cX6_feed 23 = .ok (.iload_n 3, 1) := by decide +kernel
theorem dX6_feed_24 : decode cX6_feed 24 = .ok (.iadd, 1) := by decide +kernel
theorem dX6_feed_25 : decode cX6_feed 25 = .ok (.bipush 60, 2) := by decide +kernel
theorem dX6_feed_27 : decode cX6_feed 27 = .ok (.if_icmp .le 9, 3) := by decide +kernel
theorem dX6_feed_30 : decode cX6_feed 30 = .ok (.aload_n 0, 1) := by decide +kernel
theorem dX6_feed_31 : decode cX6_feed 31 = .ok (.iconst 4, 1) := by decide +kernel
theorem dX6_feed_32 : decode cX6_feed 32 = .ok (.invokevirtual 86, 3) := by decide +kernel
theorem dX6_feed_35 : decode cX6_feed 35 = .ok (.ireturn, 1) := by decide +kernel
theorem dX6_feed_36 : decode cX6_feed 36 = .ok (.iconst 0, 1) := by decide +kernel
theorem dX6_feed_37 : decode cX6_feed 37 = .ok (.istore 4, 2) := by decide +kernel
theorem dX6_feed_39 : decode cX6_feed 39 = .ok (.iload 4, 2) := by decide +kernel
theorem dX6_feed_41 : decode cX6_feed 41 = .ok (.iload_n 3, 1) := by decide +kernel
theorem dX6_feed_42 : decode cX6_feed 42 = .ok (.if_icmp .ge 28, 3) := by decide +kernel
theorem dX6_feed_45 : decode cX6_feed 45 = .ok (.aload_n 0, 1) := by decide +kernel
theorem dX6_feed_46 : decode cX6_feed 46 = .ok (.getfield 21, 3) := by decide +kernel
theorem dX6_feed_49 : decode cX6_feed 49 = .ok (.lload_n 1, 1) := by decide +kernel
theorem dX6_feed_50 : decode cX6_feed 50 = .ok (.bipush 8, 2) := by decide +kernel
theorem dX6_feed_52 : decode cX6_feed 52 = .ok (.iload 4, 2) := by decide +kernel
theorem dX6_feed_54 : decode cX6_feed 54 = .ok (.imul, 1) := by decide +kernel
theorem dX6_feed_55 : decode cX6_feed 55 = .ok (.lushr, 1) := by decide +kernel
theorem dX6_feed_56 : decode cX6_feed 56 = .ok (.l2i, 1) := by decide +kernel
theorem dX6_feed_57 : decode cX6_feed 57 = .ok (.sipush 255, 3) := by decide +kernel
theorem dX6_feed_60 : decode cX6_feed 60 = .ok (.iand, 1) := by decide +kernel
theorem dX6_feed_61 : decode cX6_feed 61 = .ok (.invokevirtual 138, 3) := by decide +kernel
theorem dX6_feed_64 : decode cX6_feed 64 = .ok (.iinc 4 1, 3) := by decide +kernel
theorem dX6_feed_67 : decode cX6_feed 67 = .ok (.goto (-28), 3) := by decide +kernel
theorem dX6_feed_70 : decode cX6_feed 70 = .ok (.aload_n 0, 1) := by decide +kernel
theorem dX6_feed_71 : decode cX6_feed 71 = .ok (.getfield 21, 3) := by decide +kernel
theorem dX6_feed_74 : decode cX6_feed 74 = .ok (.getfield 135, 3) := by decide +kernel
theorem dX6_feed_77 : decode cX6_feed 77 = .ok (.ireturn, 1) := by decide +kernel
theorem gX6_text_X6_within : GoodIn wsX6_text (va_wsS RX6 82 yX6_within wsX6_within) := nw_gS nwl_X6_text nwe_361 nwe_362 nwe_363 nwl_X6_within (by decide +kernel)
theorem gX6_text_X6_error : GoodIn wsX6_text (wsV RX6 86 RX6 yX6_error wsX6_error) := nw_gV nwl_X6_text nwe_372 nwe_373 nwe_374 nwe_363 nwl_X6_error (by decide +kernel)
theorem gX6_text_X0_read : GoodIn wsX6_text (wsV RX6 141 RX0 yX0_read wsX0_read) := nw_gV nwl_X6_text nwe_408 nwe_409 nwe_410 nwe_114 nwl_X0_read (by decide +kernel)
theorem gX6_text_X5_textOf : GoodIn wsX6_text (wsV RX6 145 RX5 yX5_textOf wsX5_textOf) := nw_gV nwl_X6_text nwe_411 nwe_412 nwe_413 nwe_259 nwl_X5_textOf (by decide +kernel)
theorem gX6_text_X1_takeFrom : GoodIn wsX6_text (wsV RX6 155 RX1 yX1_takeFrom wsX1_takeFrom) := nw_gV nwl_X6_text nwe_414 nwe_158 nwe_159 nwe_87 nwl_X1_takeFrom (by decide +kernel)
theorem dX6_text_0 : decode cX6_text 0 = .ok (.iload_n 1, 1) := by decide +kernel
theorem dX6_text_1 : decode cX6_text 1 = .ok (.iconst 0, 1) := by decide +kernel
theorem dX6_text_2 : decode cX6_text 2 = .ok (.iconst 1, 1) := by decide +kernel
theorem dX6_text_3 : decode cX6_text 3 = .ok (.invokestatic 82, 3) := by decide +kernel
theorem dX6_text_6 : decode cX6_text 6 = .ok (.ifCond .ne 9, 3) := by decide +kernel
theorem dX6_text_9 : decode cX6_text 9 = .ok (.aload_n 0, 1) := by decide +kernel
theorem dX6_text_10 : decode cX6_text 10 = .ok (.iconst 1, 1) := by decide +kernel
theorem dX6_text_11 : decode cX6_text 11 = .ok (.invokevirtual 86, 3) := by decide +kernel
theorem dX6_text_14 : decode cX6_text 14 = .ok (.ireturn, 1) := by decide +kernel
theorem dX6_text_15 : decode cX6_text 15 = .ok (.aload_n 0, 1) := by decide +kernel
theorem dX6_text_16 : decode cX6_text 16 = .ok (.getfield 57, 3) := by decide +kernel
theorem dX6_text_19 : decode cX6_text 19 = .ok (.aload_n 0, 1) := by decide +kernel
theorem dX6_text_20 : decode cX6_text 20 = .ok (.getfield 21, 3) := by decide +kernel
theorem dX6_text_23 : decode cX6_text 23 = .ok (.iload_n 1, 1) := by decide +kernel
theorem dX6_text_24 : decode cX6_text 24 = .ok (.invokevirtual 141, 3) := by decide +kernel
theorem dX6_text_27 : decode cX6_text 27 = .ok (.istore_n 2, 1) := by decide +kernel
theorem dX6_text_28 : decode cX6_text 28 = .ok (.aload_n 0, 1) := by decide +kernel
theorem dX6_text_29 : decode cX6_text 29 = .ok (.getfield 21, 3) := by decide +kernel
theorem dX6_text_32 : decode cX6_text 32 = .ok (.iconst 0, 1) := by decide +kernel
theorem dX6_text_33 : decode cX6_text 33 = .ok (.putfield 135, 3) := by decide +kernel
theorem dX6_text_36 : decode cX6_text 36 = .ok (.iload_n 2, 1) := by decide +kernel
theorem dX6_text_37 : decode cX6_text 37 = .ok (.ifCond .lt 8, 3) := by decide +kernel
theorem dX6_text_40 : decode cX6_text 40 = .ok (.bipush (-10), 2) := by decide +kernel
theorem dX6_text_42 : decode cX6_text 42 = .ok (.iload_n 2, 1) := by decide +kernel
theorem dX6_text_43 : decode cX6_text 43 = .ok (.isub, 1) := by decide +kernel
theorem dX6_text_44 : decode cX6_text 44 = .ok (.ireturn, 1) := by decide +kernel
theorem dX6_text_45 : decode cX6_text 45 = .ok (.aload_n 0, 1) := by decide +kernel
theorem dX6_text_46 : decode cX6_text 46 = .ok (.getfield 10, 3) := by decide +kernel
theorem dX6_text_49 : decode cX6_text 49 = .ok (.iload_n 1, 1) := by decide +kernel
theorem dX6_text_50 : decode cX6_text 50 = .ok (.invokevirtual 145, 3) := by decide +kernel
theorem dX6_text_53 : decode cX6_text 53 = .ok (.getfield 149, 3) := by decide +kernel
theorem dX6_text_56 : decode cX6_text 56 = .ok (.aload_n 0, 1) := by decide +kernel
theorem dX6_text_57 : decode cX6_text 57 = .ok (.getfield 57, 3) := by decide +kernel
theorem dX6_text_60 : decode cX6_text 60 = .ok (.getfield 154, 3) := by decide +kernel
theorem dX6_text_63 : decode cX6_text 63 = .ok (.invokevirtual 155, 3) := by decide +kernel
theorem dX6_text_66 : decode cX6_text 66 = .ok (.iconst 1, 1) := by decide +kernel
theorem dX6_text_67 : decode cX6_text 67 = .ok (.ireturn, 1) := by decide +kernel
theorem gX6_untell_X6_within : GoodIn wsX6_untell (va_wsS RX6 82 yX6_within wsX6_within) := nw_gS nwl_X6_untell nwe_361 nwe_362 nwe_363 nwl_X6_within (by decide +kernel)
theorem gX6_untell_X6_error : GoodIn wsX6_untell (wsV RX6 86 RX6 yX6_error wsX6_error) := nw_gV nwl_X6_untell nwe_372 nwe_373 nwe_374 nwe_363 nwl_X6_error (by decide +kernel)
theorem gX6_untell_X5_textOf : GoodIn wsX6_untell (wsV RX6 145 RX5 yX5_textOf wsX5_textOf) := nw_gV nwl_X6_untell nwe_411 nwe_412 nwe_413 nwe_259 nwl_X5_textOf (by decide +kernel)
theorem gX6_untell_X3_isThere : GoodIn wsX6_untell (wsV RX6 159 RX3 yX3_isThere wsX3_isThere) := nw_gV nwl_X6_untell nwe_416 nwe_275 nwe_276 nwe_192 nwl_X3_isThere (by decide +kernel)
theorem dX6_untell_0 : decode cX6_untell 0 = .ok (.iload_n 1, 1) := by decide +kernel
theorem dX6_untell_1 : decode cX6_untell 1 = .ok (.iconst 0, 1) := by decide +kernel
theorem dX6_untell_2 : decode cX6_untell 2 = .ok (.iconst 1, 1) := by decide +kernel
theorem dX6_untell_3 : decode cX6_untell 3 = .ok (.invokestatic 82, 3) := by decide +kernel
theorem dX6_untell_6 : decode cX6_untell 6 = .ok (.ifCond .ne 9, 3) := by decide +kernel
theorem dX6_untell_9 : decode cX6_untell 9 = .ok (.aload_n 0, 1) := by decide +kernel
theorem dX6_untell_10 : decode cX6_untell 10 = .ok (.iconst 1, 1) := by decide +kernel
theorem dX6_untell_11 : decode cX6_untell 11 = .ok (.invokevirtual 86, 3) := by decide +kernel
theorem dX6_untell_14 : decode cX6_untell 14 = .ok (.ireturn, 1) := by decide +kernel
theorem dX6_untell_15 : decode cX6_untell 15 = .ok (.aload_n 0, 1) := by decide +kernel
theorem dX6_untell_16 : decode cX6_untell 16 = .ok (.getfield 10, 3) := by decide +kernel
theorem dX6_untell_19 : decode cX6_untell 19 = .ok (.iload_n 1, 1) := by decide +kernel
theorem dX6_untell_20 : decode cX6_untell 20 = .ok (.invokevirtual 145, 3) := by decide +kernel
theorem dX6_untell_23 : decode cX6_untell 23 = .ok (.astore_n 2, 1) := by decide +kernel
theorem dX6_untell_24 : decode cX6_untell 24 = .ok (.aload_n 2, 1) := by decide +kernel
theorem dX6_untell_25 : decode cX6_untell 25 = .ok (.invokevirtual 159, 3) := by decide +kernel
theorem dX6_untell_28 : decode cX6_untell 28 = .ok (.ifCond .eq 7, 3) := by decide +kernel
theorem dX6_untell_31 : decode cX6_untell 31 = .ok (.iconst 1, 1) := by decide +kernel
theorem dX6_untell_32 : decode cX6_untell 32 = .ok (.goto 4, 3) := by decide +kernel
theorem dX6_untell_35 : decode cX6_untell 35 = .ok (.iconst 0, 1) := by decide +kernel
theorem dX6_untell_36 : decode cX6_untell 36 = .ok (.istore_n 3, 1) := by decide +kernel
theorem dX6_untell_37 : decode cX6_untell 37 = .ok (.aload_n 2, 1) := by decide +kernel
theorem dX6_untell_38 : decode cX6_untell 38 = .ok (.getfield 149, 3) := by decide +kernel
theorem dX6_untell_41 : decode cX6_untell 41 = .ok (.iconst 0, 1) := by decide +kernel
theorem dX6_untell_42 : decode cX6_untell 42 = .ok (.putfield 135, 3) := by decide +kernel
theorem dX6_untell_45 : decode cX6_untell 45 = .ok (.iload_n 3, 1) := by decide +kernel
theorem dX6_untell_46 : decode cX6_untell 46 = .ok (.ireturn, 1) := by decide +kernel
theorem gX6_days_X6_within : GoodIn wsX6_days (va_wsS RX6 82 yX6_within wsX6_within) := nw_gS nwl_X6_days nwe_361 nwe_362 nwe_363 nwl_X6_within (by decide +kernel)
theorem gX6_days_X6_error : GoodIn wsX6_days (wsV RX6 86 RX6 yX6_error wsX6_error) := nw_gV nwl_X6_days nwe_372 nwe_373 nwe_374 nwe_363 nwl_X6_error (by decide +kernel)
theorem gX6_days_X5_goOn : GoodIn wsX6_days (wsV RX6 166 RX5 yX5_goOn wsX5_goOn) := nw_gV nwl_X6_days nwe_419 nwe_420 nwe_421 nwe_259 nwl_X5_goOn (by decide +kernel)
theorem dX6_days_0 : decode cX6_days 0 = .ok (.iload_n 1, 1) := by decide +kernel
theorem dX6_days_1 : decode cX6_days 1 = .ok (.iconst 1, 1) := by decide +kernel
theorem dX6_days_2 : decode cX6_days 2 = .ok (.bipush 45, 2) := by decide +kernel
theorem dX6_days_4 : decode cX6_days 4 = .ok (.invokestatic 82, 3) := by decide +kernel
theorem dX6_days_7 : decode cX6_days 7 = .ok (.ifCond .ne 9, 3) := by decide +kernel
theorem dX6_days_10 : decode cX6_days 10 = .ok (.aload_n 0, 1) := by decide +kernel
theorem dX6_days_11 : decode cX6_days 11 = .ok (.iconst 1, 1) := by decide +kernel
theorem dX6_days_12 : decode cX6_days 12 = .ok (.invokevirtual 86, 3) := by decide +kernel
theorem dX6_days_15 : decode cX6_days 15 = .ok (.ireturn, 1) := by decide +kernel
theorem dX6_days_16 : decode cX6_days 16 = .ok (.aload_n 0, 1) := by decide +kernel
theorem dX6_days_17 : decode cX6_days 17 = .ok (.getfield 10, 3) := by decide +kernel
theorem dX6_days_20 : decode cX6_days 20 = .ok (.getfield 163, 3) := by decide +kernel
theorem dX6_days_23 : decode cX6_days 23 = .ok (.iload_n 1, 1) := by decide +kernel
theorem dX6_days_24 : decode cX6_days 24 = .ok (.iadd, 1) := by decide +kernel
theorem dX6_days_25 : decode cX6_days 25 = .ok (.sipush 9999, 3) := by decide +kernel
theorem dX6_days_28 : decode cX6_days 28 = .ok (.if_icmp .le 9, 3) := by decide +kernel
theorem dX6_days_31 : decode cX6_days 31 = .ok (.aload_n 0, 1) := by decide +kernel
theorem dX6_days_32 : decode cX6_days 32 = .ok (.iconst 3, 1) := by decide +kernel
theorem dX6_days_33 : decode cX6_days 33 = .ok (.invokevirtual 86, 3) := by decide +kernel
theorem dX6_days_36 : decode cX6_days 36 = .ok (.ireturn, 1) := by decide +kernel
theorem dX6_days_37 : decode cX6_days 37 = .ok (.aload_n 0, 1) := by decide +kernel
theorem dX6_days_38 : decode cX6_days 38 = .ok (.getfield 10, 3) := by decide +kernel
theorem dX6_days_41 : decode cX6_days 41 = .ok (.iload_n 1, 1) := by decide +kernel
theorem dX6_days_42 : decode cX6_days 42 = .ok (.invokevirtual 166, 3) := by decide +kernel
theorem dX6_days_45 : decode cX6_days 45 = .ok (.ireturn, 1) := by decide +kernel
theorem gX6_draws_X6_within : GoodIn wsX6_draws (va_wsS RX6 82 yX6_within wsX6_within) := nw_gS nwl_X6_draws nwe_361 nwe_362 nwe_363 nwl_X6_within (by decide +kernel)
theorem gX6_draws_X6_error : GoodIn wsX6_draws (wsV RX6 86 RX6 yX6_error wsX6_error) := nw_gV nwl_X6_draws nwe_372 nwe_373 nwe_374 nwe_363 nwl_X6_error (by decide +kernel)
theorem gX6_draws_X5_drawRain : GoodIn wsX6_draws (wsV RX6 169 RX5 yX5_drawRain wsX5_drawRain) := nw_gV nwl_X6_draws nwe_423 nwe_424 nwe_425 nwe_259 nwl_X5_drawRain (by decide +kernel)
theorem gX6_draws_X5_oneDay : GoodIn wsX6_draws (wsV RX6 172 RX5 yX5_oneDay wsX5_oneDay) := nw_gV nwl_X6_draws nwe_426 nwe_323 nwe_324 nwe_259 nwl_X5_oneDay (by decide +kernel)
theorem dX6_draws_0 : decode cX6_draws 0 = .ok (.iload_n 1, 1) := by decide +kernel
theorem dX6_draws_1 : decode cX6_draws 1 = .ok (.iconst 1, 1) := by decide +kernel
theorem dX6_draws_2 : decode cX6_draws 2 = .ok (.bipush 45, 2) := by decide +kernel
theorem dX6_draws_4 : decode cX6_draws 4 = .ok (.invokestatic 82, 3) := by decide +kernel
theorem dX6_draws_7 : decode cX6_draws 7 = .ok (.ifCond .ne 9, 3) := by decide +kernel
theorem dX6_draws_10 : decode cX6_draws 10 = .ok (.aload_n 0, 1) := by decide +kernel
theorem dX6_draws_11 : decode cX6_draws 11 = .ok (.iconst 1, 1) := by decide +kernel
theorem dX6_draws_12 : decode cX6_draws 12 = .ok (.invokevirtual 86, 3) := by decide +kernel
theorem dX6_draws_15 : decode cX6_draws 15 = .ok (.ireturn, 1) := by decide +kernel
theorem dX6_draws_16 : decode cX6_draws 16 = .ok (.aload_n 0, 1) := by decide +kernel
theorem dX6_draws_17 : decode cX6_draws 17 = .ok (.getfield 10, 3) := by decide +kernel
theorem dX6_draws_20 : decode cX6_draws 20 = .ok (.getfield 163, 3) := by decide +kernel
theorem dX6_draws_23 : decode cX6_draws 23 = .ok (.iload_n 1, 1) := by decide +kernel
theorem dX6_draws_24 : decode cX6_draws 24 = .ok (.iadd, 1) := by decide +kernel
theorem dX6_draws_25 : decode cX6_draws 25 = .ok (.sipush 9999, 3) := by decide +kernel
theorem dX6_draws_28 : decode cX6_draws 28 = .ok (.if_icmp .le 9, 3) := by decide +kernel
theorem dX6_draws_31 : decode cX6_draws 31 = .ok (.aload_n 0, 1) := by decide +kernel
theorem dX6_draws_32 : decode cX6_draws 32 = .ok (.iconst 3, 1) := by decide +kernel
theorem dX6_draws_33 : decode cX6_draws 33 = .ok (.invokevirtual 86, 3) := by decide +kernel
theorem dX6_draws_36 : decode cX6_draws 36 = .ok (.ireturn, 1) := by decide +kernel
theorem dX6_draws_37 : decode cX6_draws 37 = .ok (.iconst 0, 1) := by decide +kernel
theorem dX6_draws_38 : decode cX6_draws 38 = .ok (.istore_n 2, 1) := by decide +kernel
theorem dX6_draws_39 : decode cX6_draws 39 = .ok (.iconst 0, 1) := by decide +kernel
theorem dX6_draws_40 : decode cX6_draws 40 = .ok (.istore_n 3, 1) := by decide +kernel
theorem dX6_draws_41 : decode cX6_draws 41 = .ok (.iload_n 3, 1) := by decide +kernel
theorem dX6_draws_42 : decode cX6_draws 42 = .ok (.iload_n 1, 1) := by decide +kernel
theorem dX6_draws_43 : decode cX6_draws 43 = .ok (.if_icmp .ge 27, 3) := by decide +kernel
theorem dX6_draws_46 : decode cX6_draws 46 = .ok (.aload_n 0, 1) := by decide +kernel
theorem dX6_draws_47 : decode cX6_draws 47 = .ok (.getfield 10, 3) := by decide +kernel
theorem dX6_draws_50 : decode cX6_draws 50 = .ok (.invokevirtual 169, 3) := by decide +kernel
theorem dX6_draws_53 : decode cX6_draws 53 = .ok (.iload_n 2, 1) := by decide +kernel
theorem dX6_draws_54 : decode cX6_draws 54 = .ok (.aload_n 0, 1) := by decide +kernel
theorem dX6_draws_55 : decode cX6_draws 55 = .ok (.getfield 10, 3) := by decide +kernel
theorem dX6_draws_58 : decode cX6_draws 58 = .ok (.iconst (-1), 1) := by decide +kernel
theorem dX6_draws_59 : decode cX6_draws 59 = .ok (.invokevirtual 172, 3) := by decide +kernel
theorem dX6_draws_62 : decode cX6_draws 62 = .ok (.iadd, 1) := by decide +kernel
theorem dX6_draws_63 : decode cX6_draws 63 = .ok (.istore_n 2, 1) := by decide +kernel
theorem dX6_draws_64 : decode cX6_draws 64 = .ok (.iinc 3 1, 3) := by decide +kernel
theorem dX6_draws_67 : decode cX6_draws 67 = .ok (.goto (-26), 3) := by decide +kernel
theorem dX6_draws_70 : decode cX6_draws 70 = .ok (.iload_n 2, 1) := by decide +kernel
theorem dX6_draws_71 : decode cX6_draws 71 = .ok (.ireturn, 1) := by decide +kernel
theorem dX6_seed_0 : decode cX6_seed 0 = .ok (.aload_n 0, 1) := by decide +kernel
theorem dX6_seed_1 : decode cX6_seed 1 = .ok (.getfield 10, 3) := by decide +kernel
theorem dX6_seed_4 : decode cX6_seed 4 = .ok (.getfield 175, 3) := by decide +kernel
theorem dX6_seed_7 : decode cX6_seed 7 = .ok (.istore_n 2, 1) := by decide +kernel
theorem dX6_seed_8 : decode cX6_seed 8 = .ok (.aload_n 0, 1) := by decide +kernel
theorem dX6_seed_9 : decode cX6_seed 9 = .ok (.getfield 10, 3) := by decide +kernel
theorem dX6_seed_12 : decode cX6_seed 12 = .ok (.iload_n 1, 1) := by decide +kernel
theorem dX6_seed_13 : decode cX6_seed 13 = .ok (.putfield 175, 3) := by decide +kernel
theorem dX6_seed_16 : decode cX6_seed 16 = .ok (.iload_n 2, 1) := by decide +kernel
theorem dX6_seed_17 : decode cX6_seed 17 = .ok (.ireturn, 1) := by decide +kernel
theorem gX6_then_X6_within : GoodIn wsX6_then (va_wsS RX6 82 yX6_within wsX6_within) := nw_gS nwl_X6_then nwe_361 nwe_362 nwe_363 nwl_X6_within (by decide +kernel)
theorem gX6_then_X6_isFarmer : GoodIn wsX6_then (va_wsS RX6 90 yX6_isFarmer wsX6_isFarmer) := nw_gS nwl_X6_then nwe_375 nwe_376 nwe_363 nwl_X6_isFarmer (by decide +kernel)
theorem gX6_then_X6_error : GoodIn wsX6_then (wsV RX6 86 RX6 yX6_error wsX6_error) := nw_gV nwl_X6_then nwe_372 nwe_373 nwe_374 nwe_363 nwl_X6_error (by decide +kernel)
theorem gX6_then_X5_takeFrom : GoodIn wsX6_then (wsV RX6 178 RX5 yX5_takeFrom wsX5_takeFrom) := nw_gV nwl_X6_then nwe_430 nwe_431 nwe_432 nwe_259 nwl_X5_takeFrom (by decide +kernel)
theorem gX6_then_X5_goOn : GoodIn wsX6_then (wsV RX6 166 RX5 yX5_goOn wsX5_goOn) := nw_gV nwl_X6_then nwe_419 nwe_420 nwe_421 nwe_259 nwl_X5_goOn (by decide +kernel)
theorem gX6_then_X5_ofFarmer : GoodIn wsX6_then (wsV RX6 111 RX5 yX5_ofFarmer wsX5_ofFarmer) := nw_gV nwl_X6_then nwe_384 nwe_385 nwe_386 nwe_259 nwl_X5_ofFarmer (by decide +kernel)
theorem dX6_then_0 : decode cX6_then 0 = .ok (.iload_n 1, 1) := by decide +kernel
theorem dX6_then_1 : decode cX6_then 1 = .ok (.iconst 0, 1) := by decide +kernel
theorem dX6_then_2 : decode cX6_then 2 = .ok (.bipush 45, 2) := by decide +kernel
theorem dX6_then_4 : decode cX6_then 4 = .ok (.invokestatic 82, 3) := by decide +kernel
theorem dX6_then_7 : decode cX6_then 7 = .ok (.ifCond .eq 20, 3) := by decide +kernel
theorem dX6_then_10 : decode cX6_then 10 = .ok (.iload_n 2, 1) := by decide +kernel
theorem dX6_then_11 : decode cX6_then 11 = .ok (.invokestatic 90, 3) := by decide +kernel
theorem dX6_then_14 : decode cX6_then 14 = .ok (.ifCond .eq 13, 3) := by decide +kernel
theorem dX6_then_17 : decode cX6_then 17 = .ok (.iload_n 3, 1) := by decide +kernel
theorem dX6_then_18 : decode cX6_then 18 = .ok (.iconst 0, 1) := by decide +kernel
theorem dX6_then_19 : decode cX6_then 19 = .ok (.bipush 8, 2) := by decide +kernel
theorem dX6_then_21 : decode cX6_then 21 = .ok (.invokestatic 82, 3) := by decide +kernel
theorem dX6_then_24 : decode cX6_then 24 = .ok (.ifCond .ne 9, 3) := by decide +kernel
theorem dX6_then_27 : decode cX6_then 27 = .ok (.aload_n 0, 1) := by decide +kernel
theorem dX6_then_28 : decode cX6_then 28 = .ok (.iconst 1, 1) := by decide +kernel
theorem dX6_then_29 : decode cX6_then 29 = .ok (.invokevirtual 86, 3) := by decide +kernel
theorem dX6_then_32 : decode cX6_then 32 = .ok (.ireturn, 1) := by decide +kernel
theorem dX6_then_33 : decode cX6_then 33 = .ok (.aload_n 0, 1) := by decide +kernel
theorem dX6_then_34 : decode cX6_then 34 = .ok (.getfield 41, 3) := by decide +kernel
theorem dX6_then_37 : decode cX6_then 37 = .ok (.aload_n 0, 1) := by decide +kernel
theorem dX6_then_38 : decode cX6_then 38 = .ok (.getfield 10, 3) := by decide +kernel
theorem dX6_then_41 : decode cX6_then 41 = .ok (.invokevirtual 178, 3) := by decide +kernel
theorem dX6_then_44 : decode cX6_then 44 = .ok (.aload_n 0, 1) := by decide +kernel
theorem dX6_then_45 : decode cX6_then 45 = .ok (.getfield 41, 3) := by decide +kernel
theorem dX6_then_48 : decode cX6_then 48 = .ok (.iload_n 1, 1) := by decide +kernel
theorem dX6_then_49 : decode cX6_then 49 = .ok (.invokevirtual 166, 3) := by decide +kernel
theorem dX6_then_52 : decode cX6_then 52 = .ok (.pop, 1) := by decide +kernel
theorem dX6_then_53 : decode cX6_then 53 = .ok (.aload_n 0, 1) := by decide +kernel
theorem dX6_then_54 : decode cX6_then 54 = .ok (.getfield 41, 3) := by decide +kernel
theorem dX6_then_57 : decode cX6_then 57 = .ok (.iload_n 2, 1) := by decide +kernel
theorem dX6_then_58 : decode cX6_then 58 = .ok (.iload_n 3, 1) := by decide +kernel
theorem dX6_then_59 : decode cX6_then 59 = .ok (.invokevirtual 111, 3) := by decide +kernel
theorem dX6_then_62 : decode cX6_then 62 = .ok (.ireturn, 1) := by decide +kernel
theorem gX6_ahead_X6_within : GoodIn wsX6_ahead (va_wsS RX6 82 yX6_within wsX6_within) := nw_gS nwl_X6_ahead nwe_361 nwe_362 nwe_363 nwl_X6_within (by decide +kernel)
theorem gX6_ahead_X6_error : GoodIn wsX6_ahead (wsV RX6 86 RX6 yX6_error wsX6_error) := nw_gV nwl_X6_ahead nwe_372 nwe_373 nwe_374 nwe_363 nwl_X6_error (by decide +kernel)
theorem gX6_ahead_X5_takeFrom : GoodIn wsX6_ahead (wsV RX6 178 RX5 yX5_takeFrom wsX5_takeFrom) := nw_gV nwl_X6_ahead nwe_430 nwe_431 nwe_432 nwe_259 nwl_X5_takeFrom (by decide +kernel)
theorem gX6_ahead_X5_goOn : GoodIn wsX6_ahead (wsV RX6 166 RX5 yX5_goOn wsX5_goOn) := nw_gV nwl_X6_ahead nwe_419 nwe_420 nwe_421 nwe_259 nwl_X5_goOn (by decide +kernel)
theorem gX6_ahead_X6_sum : GoodIn wsX6_ahead (va_wsS RX6 181 yX6_sum wsX6_sum) := nw_gS nwl_X6_ahead nwe_435 nwe_436 nwe_363 nwl_X6_sum (by decide +kernel)
theorem gX6_ahead_X5_richestOak : GoodIn wsX6_ahead (wsV RX6 185 RX5 yX5_richestOak wsX5_richestOak) := nw_gV nwl_X6_ahead nwe_437 nwe_438 nwe_439 nwe_259 nwl_X5_richestOak (by decide +kernel)
theorem dX6_ahead_0 : decode cX6_ahead 0 = .ok (.iload_n 1, 1) := by decide +kernel
theorem dX6_ahead_1 : decode cX6_ahead 1 = .ok (.iconst 0, 1) := by decide +kernel
theorem dX6_ahead_2 : decode cX6_ahead 2 = .ok (.bipush 45, 2) := by decide +kernel
theorem dX6_ahead_4 : decode cX6_ahead 4 = .ok (.invokestatic 82, 3) := by decide +kernel
theorem dX6_ahead_7 : decode cX6_ahead 7 = .ok (.ifCond .eq 12, 3) := by decide +kernel
theorem dX6_ahead_10 : decode cX6_ahead 10 = .ok (.iload_n 2, 1) := by decide +kernel
theorem dX6_ahead_11 : decode cX6_ahead 11 = .ok (.iconst 0, 1) := by decide +kernel
theorem dX6_ahead_12 : decode cX6_ahead 12 = .ok (.iconst 3, 1) := by decide +kernel
theorem dX6_ahead_13 : decode cX6_ahead 13 = .ok (.invokestatic 82, 3) := by decide +kernel
theorem dX6_ahead_16 : decode cX6_ahead 16 = .ok (.ifCond .ne 9, 3) := by decide +kernel
theorem dX6_ahead_19 : decode cX6_ahead 19 = .ok (.aload_n 0, 1) := by decide +kernel
theorem dX6_ahead_20 : decode cX6_ahead 20 = .ok (.iconst 1, 1) := by decide +kernel
theorem dX6_ahead_21 : decode cX6_ahead 21 = .ok (.invokevirtual 86, 3) := by decide +kernel
theorem dX6_ahead_24 : decode cX6_ahead 24 = .ok (.ireturn, 1) := by decide +kernel
theorem dX6_ahead_25 : decode cX6_ahead 25 = .ok (.aload_n 0, 1) := by decide +kernel
theorem dX6_ahead_26 : decode cX6_ahead 26 = .ok (.getfield 41, 3) := by decide +kernel
theorem dX6_ahead_29 : decode cX6_ahead 29 = .ok (.aload_n 0, 1) := by decide +kernel
theorem dX6_ahead_30 : decode cX6_ahead 30 = .ok (.getfield 10, 3) := by decide +kernel
theorem dX6_ahead_33 : decode cX6_ahead 33 = .ok (.invokevirtual 178, 3) := by decide +kernel
theorem dX6_ahead_36 : decode cX6_ahead 36 = .ok (.aload_n 0, 1) := by decide +kernel
theorem dX6_ahead_37 : decode cX6_ahead 37 = .ok (.getfield 41, 3) := by decide +kernel
theorem dX6_ahead_40 : decode cX6_ahead 40 = .ok (.iload_n 1, 1) := by decide +kernel
theorem dX6_ahead_41 : decode cX6_ahead 41 = .ok (.invokevirtual 166, 3) := by decide +kernel
theorem dX6_ahead_44 : decode cX6_ahead 44 = .ok (.pop, 1) := by decide +kernel
theorem dX6_ahead_45 : decode cX6_ahead 45 = .ok (.iload_n 2, 1) := by decide +kernel
theorem dX6_ahead_46 : decode cX6_ahead 46 = .ok (.tableswitch 53 0 2 #[26, 34, 42], 26) := by decide +kernel
theorem dX6_ahead_72 : decode cX6_ahead 72 = .ok (.aload_n 0, 1) := by decide +kernel
theorem dX6_ahead_73 : decode cX6_ahead 73 = .ok (.getfield 41, 3) := by decide +kernel
theorem dX6_ahead_76 : decode cX6_ahead 76 = .ok (.getfield 129, 3) := by decide +kernel
theorem dX6_ahead_79 : decode cX6_ahead 79 = .ok (.ireturn, 1) := by decide +kernel
theorem dX6_ahead_80 : decode cX6_ahead 80 = .ok (.aload_n 0, 1) := by decide +kernel
theorem dX6_ahead_81 : decode cX6_ahead 81 = .ok (.getfield 41, 3) := by decide +kernel
theorem dX6_ahead_84 : decode cX6_ahead 84 = .ok (.getfield 132, 3) := by decide +kernel
theorem dX6_ahead_87 : decode cX6_ahead 87 = .ok (.ireturn, 1) := by decide +kernel
theorem dX6_ahead_88 : decode cX6_ahead 88 = .ok (.aload_n 0, 1) := by decide +kernel
theorem dX6_ahead_89 : decode cX6_ahead 89 = .ok (.getfield 41, 3) := by decide +kernel
theorem dX6_ahead_92 : decode cX6_ahead 92 = .ok (.getfield 96, 3) := by decide +kernel
theorem dX6_ahead_95 : decode cX6_ahead 95 = .ok (.invokestatic 181, 3) := by decide +kernel
theorem dX6_ahead_98 : decode cX6_ahead 98 = .ok (.ireturn, 1) := by decide +kernel
theorem dX6_ahead_99 : decode cX6_ahead 99 = .ok (.aload_n 0, 1) := by decide +kernel
theorem dX6_ahead_100 : decode cX6_ahead 100 = .ok (.getfield 41, 3) := by decide +kernel
theorem dX6_ahead_103 : decode cX6_ahead 103 = .ok (.invokevirtual 185, 3) := by decide +kernel
theorem dX6_ahead_106 : decode cX6_ahead 106 = .ok (.ireturn, 1) := by decide +kernel
theorem gX6_bestLeash_X6_within : GoodIn wsX6_bestLeash (va_wsS RX6 82 yX6_within wsX6_within) := nw_gS nwl_X6_bestLeash nwe_361 nwe_362 nwe_363 nwl_X6_within (by decide +kernel)
theorem gX6_bestLeash_X6_error : GoodIn wsX6_bestLeash (wsV RX6 86 RX6 yX6_error wsX6_error) := nw_gV nwl_X6_bestLeash nwe_372 nwe_373 nwe_374 nwe_363 nwl_X6_error (by decide +kernel)
theorem gX6_bestLeash_X6_seekLeash : GoodIn wsX6_bestLeash (wsV RX6 189 RX6 yX6_seekLeash wsX6_seekLeash) := nw_gV nwl_X6_bestLeash nwe_448 nwe_449 nwe_450 nwe_363 nwl_X6_seekLeash (by decide +kernel)
theorem dX6_bestLeash_0 : decode cX6_bestLeash 0 = .ok (.iload_n 1, 1) := by decide +kernel
theorem dX6_bestLeash_1 : decode cX6_bestLeash 1 = .ok (.iconst 0, 1) := by decide +kernel
theorem dX6_bestLeash_2 : decode cX6_bestLeash 2 = .ok (.iconst 4, 1) := by decide +kernel
theorem dX6_bestLeash_3 : decode cX6_bestLeash 3 = .ok (.invokestatic 82, 3) := by decide +kernel
theorem dX6_bestLeash_6 : decode cX6_bestLeash 6 = .ok (.ifCond .ne 9, 3) := by decide +kernel
theorem dX6_bestLeash_9 : decode cX6_bestLeash 9 = .ok (.aload_n 0, 1) := by decide +kernel
theorem dX6_bestLeash_10 : decode cX6_bestLeash 10 = .ok (.iconst 1, 1) := by decide +kernel
theorem dX6_bestLeash_11 : decode cX6_bestLeash 11 = .ok (.invokevirtual 86, 3) := by decide +kernel
theorem dX6_bestLeash_14 : decode cX6_bestLeash 14 = .ok (.ireturn, 1) := by decide +kernel
theorem dX6_bestLeash_15 : decode cX6_bestLeash 15 = .ok (.aload_n 0, 1) := by decide +kernel
theorem dX6_bestLeash_16 : decode cX6_bestLeash 16 = .ok (.invokevirtual 189, 3) := by decide +kernel
theorem dX6_bestLeash_19 : decode cX6_bestLeash 19 = .ok (.aload_n 0, 1) := by decide +kernel
theorem dX6_bestLeash_20 : decode cX6_bestLeash 20 = .ok (.getfield 47, 3) := by decide +kernel
theorem dX6_bestLeash_23 : decode cX6_bestLeash 23 = .ok (.iload_n 1, 1) := by decide +kernel
theorem dX6_bestLeash_24 : decode cX6_bestLeash 24 = .ok (.iaload, 1) := by decide +kernel
theorem dX6_bestLeash_25 : decode cX6_bestLeash 25 = .ok (.ireturn, 1) := by decide +kernel
theorem gX6_bestFeed_X6_within : GoodIn wsX6_bestFeed (va_wsS RX6 82 yX6_within wsX6_within) := nw_gS nwl_X6_bestFeed nwe_361 nwe_362 nwe_363 nwl_X6_within (by decide +kernel)
theorem gX6_bestFeed_X6_error : GoodIn wsX6_bestFeed (wsV RX6 86 RX6 yX6_error wsX6_error) := nw_gV nwl_X6_bestFeed nwe_372 nwe_373 nwe_374 nwe_363 nwl_X6_error (by decide +kernel)
theorem gX6_bestFeed_X5_whoHasIt : GoodIn wsX6_bestFeed (wsV RX6 192 RX5 yX5_whoHasIt wsX5_whoHasIt) := nw_gV nwl_X6_bestFeed nwe_444 nwe_307 nwe_308 nwe_259 nwl_X5_whoHasIt (by decide +kernel)
theorem gX6_bestFeed_X5_takeFrom : GoodIn wsX6_bestFeed (wsV RX6 178 RX5 yX5_takeFrom wsX5_takeFrom) := nw_gV nwl_X6_bestFeed nwe_430 nwe_431 nwe_432 nwe_259 nwl_X5_takeFrom (by decide +kernel)
theorem gX6_bestFeed_X5_oneDay : GoodIn wsX6_bestFeed (wsV RX6 172 RX5 yX5_oneDay wsX5_oneDay) := nw_gV nwl_X6_bestFeed nwe_426 nwe_323 nwe_324 nwe_259 nwl_X5_oneDay (by decide +kernel)
theorem gX6_bestFeed_X5_goOn : GoodIn wsX6_bestFeed (wsV RX6 166 RX5 yX5_goOn wsX5_goOn) := nw_gV nwl_X6_bestFeed nwe_419 nwe_420 nwe_421 nwe_259 nwl_X5_goOn (by decide +kernel)
theorem gX6_bestFeed_X6_sum : GoodIn wsX6_bestFeed (va_wsS RX6 181 yX6_sum wsX6_sum) := nw_gS nwl_X6_bestFeed nwe_435 nwe_436 nwe_363 nwl_X6_sum (by decide +kernel)
theorem dX6_bestFeed_0 : decode cX6_bestFeed 0 = .ok (.iload_n 1, 1) := by decide +kernel
theorem dX6_bestFeed_1 : decode cX6_bestFeed 1 = .ok (.iconst 0, 1) := by decide +kernel
theorem dX6_bestFeed_2 : decode cX6_bestFeed 2 = .ok (.iconst 2, 1) := by decide +kernel
theorem dX6_bestFeed_3 : decode cX6_bestFeed 3 = .ok (.invokestatic 82, 3) := by decide +kernel
theorem dX6_bestFeed_6 : decode cX6_bestFeed 6 = .ok (.ifCond .ne 9, 3) := by decide +kernel
theorem dX6_bestFeed_9 : decode cX6_bestFeed 9 = .ok (.aload_n 0, 1) := by decide +kernel
theorem dX6_bestFeed_10 : decode cX6_bestFeed 10 = .ok (.iconst 1, 1) := by decide +kernel
theorem dX6_bestFeed_11 : decode cX6_bestFeed 11 = .ok (.invokevirtual 86, 3) := by decide +kernel
theorem dX6_bestFeed_14 : decode cX6_bestFeed 14 = .ok (.ireturn, 1) := by decide +kernel
theorem dX6_bestFeed_15 : decode cX6_bestFeed 15 = .ok (.aload_n 0, 1) := by decide +kernel
theorem dX6_bestFeed_16 : decode cX6_bestFeed 16 = .ok (.getfield 10, 3) := by decide +kernel
theorem dX6_bestFeed_19 : decode cX6_bestFeed 19 = .ok (.invokevirtual 192, 3) := by decide +kernel
theorem dX6_bestFeed_22 : decode cX6_bestFeed 22 = .ok (.istore_n 2, 1) := by decide +kernel
theorem dX6_bestFeed_23 : decode cX6_bestFeed 23 = .ok (.iconst 0, 1) := by decide +kernel
theorem dX6_bestFeed_24 : decode cX6_bestFeed 24 = .ok (.istore_n 3, 1) := by decide +kernel
theorem dX6_bestFeed_25 : decode cX6_bestFeed 25 = .ok (.iconst (-1), 1) := by decide +kernel
theorem dX6_bestFeed_26 : decode cX6_bestFeed 26 = .ok (.istore 4, 2) := by decide +kernel
theorem dX6_bestFeed_28 : decode cX6_bestFeed 28 = .ok (.iconst 0, 1) := by decide +kernel
theorem dX6_bestFeed_29 : decode cX6_bestFeed 29 = .ok (.istore 5, 2) := by decide +kernel
theorem dX6_bestFeed_31 : decode cX6_bestFeed 31 = .ok (.iconst 0, 1) := by decide +kernel
theorem dX6_bestFeed_32 : decode cX6_bestFeed 32 = .ok (.istore 6, 2) := by decide +kernel
theorem dX6_bestFeed_34 : decode cX6_bestFeed 34 = .ok (.iconst 0, 1) := by decide +kernel
theorem dX6_bestFeed_35 : decode cX6_bestFeed 35 = .ok (.istore 7, 2) := by decide +kernel
theorem dX6_bestFeed_37 : decode cX6_bestFeed 37 = .ok (.iload 7, 2) := by decide +kernel
theorem dX6_bestFeed_39 : decode cX6_bestFeed 39 = .ok (.bipush 9, 2) := by decide +kernel
theorem dX6_bestFeed_41 : decode cX6_bestFeed 41 = .ok (.if_icmp .gt 93, 3) := by decide +kernel
theorem dX6_bestFeed_44 : decode cX6_bestFeed 44 = .ok (.aload_n 0, 1) := by decide +kernel
theorem dX6_bestFeed_45 : decode cX6_bestFeed 45 = .ok (.getfield 41, 3) := by decide +kernel
theorem dX6_bestFeed_48 : decode cX6_bestFeed 48 = .ok (.aload_n 0, 1) := by decide +kernel
theorem dX6_bestFeed_49 : decode cX6_bestFeed 49 = .ok (.getfield 10, 3) := by decide +kernel
theorem dX6_bestFeed_52 : decode cX6_bestFeed 52 = .ok (.invokevirtual 178, 3) := by decide +kernel
theorem dX6_bestFeed_55 : decode cX6_bestFeed 55 = .ok (.aload_n 0, 1) := by decide +kernel
theorem dX6_bestFeed_56 : decode cX6_bestFeed 56 = .ok (.getfield 41, 3) := by decide +kernel
theorem dX6_bestFeed_59 : decode cX6_bestFeed 59 = .ok (.iload 7, 2) := by decide +kernel
theorem dX6_bestFeed_61 : decode cX6_bestFeed 61 = .ok (.invokevirtual 172, 3) := by decide +kernel
theorem dX6_bestFeed_64 : decode cX6_bestFeed 64 = .ok (.pop, 1) := by decide +kernel
theorem dX6_bestFeed_65 : decode cX6_bestFeed 65 = .ok (.aload_n 0, 1) := by decide +kernel
theorem dX6_bestFeed_66 : decode cX6_bestFeed 66 = .ok (.getfield 41, 3) := by decide +kernel
theorem dX6_bestFeed_69 : decode cX6_bestFeed 69 = .ok (.bipush 9, 2) := by decide +kernel
theorem dX6_bestFeed_71 : decode cX6_bestFeed 71 = .ok (.invokevirtual 166, 3) := by decide +kernel
theorem dX6_bestFeed_74 : decode cX6_bestFeed 74 = .ok (.pop, 1) := by decide +kernel
theorem dX6_bestFeed_75 : decode cX6_bestFeed 75 = .ok (.aload_n 0, 1) := by decide +kernel
theorem dX6_bestFeed_76 : decode cX6_bestFeed 76 = .ok (.getfield 41, 3) := by decide +kernel
theorem dX6_bestFeed_79 : decode cX6_bestFeed 79 = .ok (.getfield 195, 3) := by decide +kernel
theorem dX6_bestFeed_82 : decode cX6_bestFeed 82 = .ok (.invokestatic 181, 3) := by decide +kernel
theorem dX6_bestFeed_85 : decode cX6_bestFeed 85 = .ok (.istore 8, 2) := by decide +kernel
theorem dX6_bestFeed_87 : decode cX6_bestFeed 87 = .ok (.iload 6, 2) := by decide +kernel
theorem dX6_bestFeed_89 : decode cX6_bestFeed 89 = .ok (.iload 8, 2) := by decide +kernel
theorem dX6_bestFeed_91 : decode cX6_bestFeed 91 = .ok (.invokestatic 198, 3) := by decide +kernel
theorem dX6_bestFeed_94 : decode cX6_bestFeed 94 = .ok (.istore 6, 2) := by decide +kernel
theorem dX6_bestFeed_96 : decode cX6_bestFeed 96 = .ok (.aload_n 0, 1) := by decide +kernel
theorem dX6_bestFeed_97 : decode cX6_bestFeed 97 = .ok (.getfield 41, 3) := by decide +kernel
theorem dX6_bestFeed_100 : decode cX6_bestFeed 100 = .ok (.getfield 195, 3) := by decide +kernel
theorem dX6_bestFeed_103 : decode cX6_bestFeed 103 = .ok (.iload_n 2, 1) := by decide +kernel
theorem dX6_bestFeed_104 : decode cX6_bestFeed 104 = .ok (.iaload, 1) := by decide +kernel
theorem dX6_bestFeed_105 : decode cX6_bestFeed 105 = .ok (.iload 4, 2) := by decide +kernel
theorem dX6_bestFeed_107 : decode cX6_bestFeed 107 = .ok (.if_icmp .le 21, 3) := by decide +kernel
theorem dX6_bestFeed_110 : decode cX6_bestFeed 110 = .ok (.iload 7, 2) := by decide +kernel
theorem dX6_bestFeed_112 : decode cX6_bestFeed 112 = .ok (.istore_n 3, 1) := by decide +kernel
theorem dX6_bestFeed_113 : decode cX6_bestFeed 113 = .ok (.aload_n 0, 1) := by decide +kernel
theorem dX6_bestFeed_114 : decode cX6_bestFeed 114 = .ok (.getfield 41, 3) := by decide +kernel
theorem dX6_bestFeed_117 : decode cX6_bestFeed 117 = .ok (.getfield 195, 3) := by decide +kernel
theorem dX6_bestFeed_120 : decode cX6_bestFeed 120 = .ok (.iload_n 2, 1) := by decide +kernel
theorem dX6_bestFeed_121 : decode cX6_bestFeed 121 = .ok (.iaload, 1) := by decide +kernel
theorem dX6_bestFeed_122 : decode cX6_bestFeed 122 = .ok (.istore 4, 2) := by decide +kernel
theorem dX6_bestFeed_124 : decode cX6_bestFeed 124 = .ok (.iload 8, 2) := by decide +kernel
theorem dX6_bestFeed_126 : decode cX6_bestFeed 126 = .ok (.istore 5, 2) := by decide +kernel
theorem dX6_bestFeed_128 : decode cX6_bestFeed 128 = .ok (.iinc 7 1, 3) := by decide +kernel
theorem dX6_bestFeed_131 : decode cX6_bestFeed 131 = .ok (.goto (-94), 3) := by decide +kernel
theorem dX6_bestFeed_134 : decode cX6_bestFeed 134 = .ok (.iload_n 1, 1) := by decide +kernel
theorem dX6_bestFeed_135 : decode cX6_bestFeed 135 = .ok (.ifCond .ne 5, 3) := by decide +kernel
theorem dX6_bestFeed_138 : decode cX6_bestFeed 138 = .ok (.iload_n 3, 1) := by decide +kernel
theorem dX6_bestFeed_139 : decode cX6_bestFeed 139 = .ok (.ireturn, 1) := by decide +kernel
theorem dX6_bestFeed_140 : decode cX6_bestFeed 140 = .ok (.iload_n 1, 1) := by decide +kernel
theorem dX6_bestFeed_141 : decode cX6_bestFeed 141 = .ok (.iconst 1, 1) := by decide +kernel
theorem dX6_bestFeed_142 : decode cX6_bestFeed 142 = .ok (.if_icmp .ne 8, 3) := by decide +kernel
theorem dX6_bestFeed_145 : decode cX6_bestFeed 145 = .ok (.iload 4, 2) := by decide +kernel
theorem dX6_bestFeed_147 : decode cX6_bestFeed 147 = .ok (.goto 8, 3) := by decide +kernel
theorem dX6_bestFeed_150 : decode cX6_bestFeed 150 = .ok (.iload 6, 2) := by decide +kernel
theorem dX6_bestFeed_152 : decode cX6_bestFeed 152 = .ok (.iload 5, 2) := by decide +kernel
theorem dX6_bestFeed_154 : decode cX6_bestFeed 154 = .ok (.isub, 1) := by decide +kernel
theorem dX6_bestFeed_155 : decode cX6_bestFeed 155 = .ok (.ireturn, 1) := by decide +kernel
theorem gX6_gain_X6_isFarmer : GoodIn wsX6_gain (va_wsS RX6 90 yX6_isFarmer wsX6_isFarmer) := nw_gS nwl_X6_gain nwe_375 nwe_376 nwe_363 nwl_X6_isFarmer (by decide +kernel)
theorem gX6_gain_X6_error : GoodIn wsX6_gain (wsV RX6 86 RX6 yX6_error wsX6_error) := nw_gV nwl_X6_gain nwe_372 nwe_373 nwe_374 nwe_363 nwl_X6_error (by decide +kernel)
theorem gX6_gain_X5_takeFrom : GoodIn wsX6_gain (wsV RX6 178 RX5 yX5_takeFrom wsX5_takeFrom) := nw_gV nwl_X6_gain nwe_430 nwe_431 nwe_432 nwe_259 nwl_X5_takeFrom (by decide +kernel)
theorem gX6_gain_X5_goOn : GoodIn wsX6_gain (wsV RX6 166 RX5 yX5_goOn wsX5_goOn) := nw_gV nwl_X6_gain nwe_419 nwe_420 nwe_421 nwe_259 nwl_X5_goOn (by decide +kernel)
theorem gX6_gain_X5_changeTurns : GoodIn wsX6_gain (wsV RX6 119 RX5 yX5_changeTurns wsX5_changeTurns) := nw_gV nwl_X6_gain nwe_395 nwe_396 nwe_397 nwe_259 nwl_X5_changeTurns (by decide +kernel)
theorem dX6_gain_0 : decode cX6_gain 0 = .ok (.iload_n 1, 1) := by decide +kernel
theorem dX6_gain_1 : decode cX6_gain 1 = .ok (.invokestatic 90, 3) := by decide +kernel
theorem dX6_gain_4 : decode cX6_gain 4 = .ok (.ifCond .eq 15, 3) := by decide +kernel
theorem dX6_gain_7 : decode cX6_gain 7 = .ok (.iload_n 2, 1) := by decide +kernel
theorem dX6_gain_8 : decode cX6_gain 8 = .ok (.invokestatic 90, 3) := by decide +kernel
theorem dX6_gain_11 : decode cX6_gain 11 = .ok (.ifCond .eq 8, 3) := by decide +kernel
theorem dX6_gain_14 : decode cX6_gain 14 = .ok (.iload_n 1, 1) := by decide +kernel
theorem dX6_gain_15 : decode cX6_gain 15 = .ok (.iload_n 2, 1) := by decide +kernel
theorem dX6_gain_16 : decode cX6_gain 16 = .ok (.if_icmp .ne 9, 3) := by decide +kernel
theorem dX6_gain_19 : decode cX6_gain 19 = .ok (.aload_n 0, 1) := by decide +kernel
theorem dX6_gain_20 : decode cX6_gain 20 = .ok (.iconst 1, 1) := by decide +kernel
theorem dX6_gain_21 : decode cX6_gain 21 = .ok (.invokevirtual 86, 3) := by decide +kernel
theorem dX6_gain_24 : decode cX6_gain 24 = .ok (.ireturn, 1) := by decide +kernel
theorem dX6_gain_25 : decode cX6_gain 25 = .ok (.aload_n 0, 1) := by decide +kernel
theorem dX6_gain_26 : decode cX6_gain 26 = .ok (.getfield 41, 3) := by decide +kernel
theorem dX6_gain_29 : decode cX6_gain 29 = .ok (.aload_n 0, 1) := by decide +kernel
theorem dX6_gain_30 : decode cX6_gain 30 = .ok (.getfield 10, 3) := by decide +kernel
theorem dX6_gain_33 : decode cX6_gain 33 = .ok (.invokevirtual 178, 3) := by decide +kernel
theorem dX6_gain_36 : decode cX6_gain 36 = .ok (.aload_n 0, 1) := by decide +kernel
theorem dX6_gain_37 : decode cX6_gain 37 = .ok (.getfield 41, 3) := by decide +kernel
theorem dX6_gain_40 : decode cX6_gain 40 = .ok (.bipush 18, 2) := by decide +kernel
theorem dX6_gain_42 : decode cX6_gain 42 = .ok (.invokevirtual 166, 3) := by decide +kernel
theorem dX6_gain_45 : decode cX6_gain 45 = .ok (.pop, 1) := by decide +kernel
theorem dX6_gain_46 : decode cX6_gain 46 = .ok (.aload_n 0, 1) := by decide +kernel
theorem dX6_gain_47 : decode cX6_gain 47 = .ok (.getfield 44, 3) := by decide +kernel
theorem dX6_gain_50 : decode cX6_gain 50 = .ok (.aload_n 0, 1) := by decide +kernel
theorem dX6_gain_51 : decode cX6_gain 51 = .ok (.getfield 10, 3) := by decide +kernel
theorem dX6_gain_54 : decode cX6_gain 54 = .ok (.invokevirtual 178, 3) := by decide +kernel
theorem dX6_gain_57 : decode cX6_gain 57 = .ok (.aload_n 0, 1) := by decide +kernel
theorem dX6_gain_58 : decode cX6_gain 58 = .ok (.getfield 44, 3) := by decide +kernel
theorem dX6_gain_61 : decode cX6_gain 61 = .ok (.iload_n 1, 1) := by decide +kernel
theorem dX6_gain_62 : decode cX6_gain 62 = .ok (.iload_n 2, 1) := by decide +kernel
theorem dX6_gain_63 : decode cX6_gain 63 = .ok (.invokevirtual 119, 3) := by decide +kernel
theorem dX6_gain_66 : decode cX6_gain 66 = .ok (.aload_n 0, 1) := by decide +kernel
theorem dX6_gain_67 : decode cX6_gain 67 = .ok (.getfield 44, 3) := by decide +kernel
theorem dX6_gain_70 : decode cX6_gain 70 = .ok (.bipush 18, 2) := by decide +kernel
theorem dX6_gain_72 : decode cX6_gain 72 = .ok (.invokevirtual 166, 3) := by decide +kernel
theorem dX6_gain_75 : decode cX6_gain 75 = .ok (.pop, 1) := by decide +kernel
theorem dX6_gain_76 : decode cX6_gain 76 = .ok (.aload_n 0, 1) := by decide +kernel
theorem dX6_gain_77 : decode cX6_gain 77 = .ok (.getfield 44, 3) := by decide +kernel
theorem dX6_gain_80 : decode cX6_gain 80 = .ok (.getfield 195, 3) := by decide +kernel
theorem dX6_gain_83 : decode cX6_gain 83 = .ok (.iload_n 1, 1) := by decide +kernel
theorem dX6_gain_84 : decode cX6_gain 84 = .ok (.iaload, 1) := by decide +kernel
theorem dX6_gain_85 : decode cX6_gain 85 = .ok (.aload_n 0, 1) := by decide +kernel
theorem dX6_gain_86 : decode cX6_gain 86 = .ok (.getfield 41, 3) := by decide +kernel
theorem dX6_gain_89 : decode cX6_gain 89 = .ok (.getfield 195, 3) := by decide +kernel
theorem dX6_gain_92 : decode cX6_gain 92 = .ok (.iload_n 1, 1) := by decide +kernel
theorem dX6_gain_93 : decode cX6_gain 93 = .ok (.iaload, 1) := by decide +kernel
theorem dX6_gain_94 : decode cX6_gain 94 = .ok (.isub, 1) := by decide +kernel
theorem dX6_gain_95 : decode cX6_gain 95 = .ok (.ireturn, 1) := by decide +kernel
theorem gX6_bestTrade_X5_takeFrom : GoodIn wsX6_bestTrade (wsV RX6 178 RX5 yX5_takeFrom wsX5_takeFrom) := nw_gV nwl_X6_bestTrade nwe_430 nwe_431 nwe_432 nwe_259 nwl_X5_takeFrom (by decide +kernel)
theorem gX6_bestTrade_X5_goOn : GoodIn wsX6_bestTrade (wsV RX6 166 RX5 yX5_goOn wsX5_goOn) := nw_gV nwl_X6_bestTrade nwe_419 nwe_420 nwe_421 nwe_259 nwl_X5_goOn (by decide +kernel)
theorem gX6_bestTrade_X5_changeTurns : GoodIn wsX6_bestTrade (wsV RX6 119 RX5 yX5_changeTurns wsX5_changeTurns) := nw_gV nwl_X6_bestTrade nwe_395 nwe_396 nwe_397 nwe_259 nwl_X5_changeTurns (by decide +kernel)
theorem gX6_bestTrade_X6_error : GoodIn wsX6_bestTrade (wsV RX6 86 RX6 yX6_error wsX6_error) := nw_gV nwl_X6_bestTrade nwe_372 nwe_373 nwe_374 nwe_363 nwl_X6_error (by decide +kernel)
theorem dX6_bestTrade_0 : decode cX6_bestTrade 0 = .ok (.aload_n 0, 1) := by decide +kernel
theorem dX6_bestTrade_1 : decode cX6_bestTrade 1 = .ok (.getfield 41, 3) := by decide +kernel
theorem dX6_bestTrade_4 : decode cX6_bestTrade 4 = .ok (.aload_n 0, 1) := by decide +kernel
theorem dX6_bestTrade_5 : decode cX6_bestTrade 5 = .ok (.getfield 10, 3) := by decide +kernel
theorem dX6_bestTrade_8 : decode cX6_bestTrade 8 = .ok (.invokevirtual 178, 3) := by decide +kernel
theorem dX6_bestTrade_11 : decode cX6_bestTrade 11 = .ok (.aload_n 0, 1) := by decide +kernel
theorem dX6_bestTrade_12 : decode cX6_bestTrade 12 = .ok (.getfield 41, 3) := by decide +kernel
theorem dX6_bestTrade_15 : decode cX6_bestTrade 15 = .ok (.bipush 18, 2) := by decide +kernel
theorem dX6_bestTrade_17 : decode cX6_bestTrade 17 = .ok (.invokevirtual 166, 3) := by decide +kernel
theorem dX6_bestTrade_20 : decode cX6_bestTrade 20 = .ok (.pop, 1) := by decide +kernel
theorem dX6_bestTrade_21 : decode cX6_bestTrade 21 = .ok (.iconst (-1), 1) := by decide +kernel
theorem dX6_bestTrade_22 : decode cX6_bestTrade 22 = .ok (.istore_n 1, 1) := by decide +kernel
theorem dX6_bestTrade_23 : decode cX6_bestTrade 23 = .ok (.iconst 0, 1) := by decide +kernel
theorem dX6_bestTrade_24 : decode cX6_bestTrade 24 = .ok (.istore_n 2, 1) := by decide +kernel
theorem dX6_bestTrade_25 : decode cX6_bestTrade 25 = .ok (.iconst 0, 1) := by decide +kernel
theorem dX6_bestTrade_26 : decode cX6_bestTrade 26 = .ok (.istore_n 3, 1) := by decide +kernel
theorem dX6_bestTrade_27 : decode cX6_bestTrade 27 = .ok (.iload_n 3, 1) := by decide +kernel
theorem dX6_bestTrade_28 : decode cX6_bestTrade 28 = .ok (.bipush 9, 2) := by decide +kernel
theorem dX6_bestTrade_30 : decode cX6_bestTrade 30 = .ok (.if_icmp .ge 135, 3) := by decide +kernel
theorem dX6_bestTrade_33 : decode cX6_bestTrade 33 = .ok (.iload_n 3, 1) := by decide +kernel
theorem dX6_bestTrade_34 : decode cX6_bestTrade 34 = .ok (.iconst 1, 1) := by decide +kernel
theorem dX6_bestTrade_35 : decode cX6_bestTrade 35 = .ok (.iadd, 1) := by decide +kernel
theorem dX6_bestTrade_36 : decode cX6_bestTrade 36 = .ok (.istore 4, 2) := by decide +kernel
theorem dX6_bestTrade_38 : decode cX6_bestTrade 38 = .ok (.iload 4, 2) := by decide +kernel
theorem dX6_bestTrade_40 : decode cX6_bestTrade 40 = .ok (.bipush 9, 2) := by decide +kernel
theorem dX6_bestTrade_42 : decode cX6_bestTrade 42 = .ok (.if_icmp .ge 117, 3) := by decide +kernel
theorem dX6_bestTrade_45 : decode cX6_bestTrade 45 = .ok (.aload_n 0, 1) := by decide +kernel
theorem dX6_bestTrade_46 : decode cX6_bestTrade 46 = .ok (.getfield 44, 3) := by decide +kernel
theorem dX6_bestTrade_49 : decode cX6_bestTrade 49 = .ok (.aload_n 0, 1) := by decide +kernel
theorem dX6_bestTrade_50 : decode cX6_bestTrade 50 = .ok (.getfield 10, 3) := by decide +kernel
theorem dX6_bestTrade_53 : decode cX6_bestTrade 53 = .ok (.invokevirtual 178, 3) := by decide +kernel
theorem dX6_bestTrade_56 : decode cX6_bestTrade 56 = .ok (.aload_n 0, 1) := by decide +kernel
theorem dX6_bestTrade_57 : decode cX6_bestTrade 57 = .ok (.getfield 44, 3) := by decide +kernel
theorem dX6_bestTrade_60 : decode cX6_bestTrade 60 = .ok (.iload_n 3, 1) := by decide +kernel
theorem dX6_bestTrade_61 : decode cX6_bestTrade 61 = .ok (.iload 4, 2) := by decide +kernel
theorem dX6_bestTrade_63 : decode cX6_bestTrade 63 = .ok (.invokevirtual 119, 3) := by decide +kernel
theorem dX6_bestTrade_66 : decode cX6_bestTrade 66 = .ok (.aload_n 0, 1) := by decide +kernel
theorem dX6_bestTrade_67 : decode cX6_bestTrade 67 = .ok (.getfield 44, 3) := by decide +kernel
theorem dX6_bestTrade_70 : decode cX6_bestTrade 70 = .ok (.bipush 18, 2) := by decide +kernel
theorem dX6_bestTrade_72 : decode cX6_bestTrade 72 = .ok (.invokevirtual 166, 3) := by decide +kernel
theorem dX6_bestTrade_75 : decode cX6_bestTrade 75 = .ok (.pop, 1) := by decide +kernel
theorem dX6_bestTrade_76 : decode cX6_bestTrade 76 = .ok (.aload_n 0, 1) := by decide +kernel
theorem dX6_bestTrade_77 : decode cX6_bestTrade 77 = .ok (.getfield 44, 3) := by decide +kernel
theorem dX6_bestTrade_80 : decode cX6_bestTrade 80 = .ok (.getfield 195, 3) := by decide +kernel
theorem dX6_bestTrade_83 : decode cX6_bestTrade 83 = .ok (.iload_n 3, 1) := by decide +kernel
theorem dX6_bestTrade_84 : decode cX6_bestTrade 84 = .ok (.iaload, 1) := by decide +kernel
theorem dX6_bestTrade_85 : decode cX6_bestTrade 85 = .ok (.aload_n 0, 1) := by decide +kernel
theorem dX6_bestTrade_86 : decode cX6_bestTrade 86 = .ok (.getfield 41, 3) := by decide +kernel
theorem dX6_bestTrade_89 : decode cX6_bestTrade 89 = .ok (.getfield 195, 3) := by decide +kernel
theorem dX6_bestTrade_92 : decode cX6_bestTrade 92 = .ok (.iload_n 3, 1) := by decide +kernel
theorem dX6_bestTrade_93 : decode cX6_bestTrade 93 = .ok (.iaload, 1) := by decide +kernel
theorem dX6_bestTrade_94 : decode cX6_bestTrade 94 = .ok (.isub, 1) := by decide +kernel
theorem dX6_bestTrade_95 : decode cX6_bestTrade 95 = .ok (.istore 5, 2) := by decide +kernel
theorem dX6_bestTrade_97 : decode cX6_bestTrade 97 = .ok (.aload_n 0, 1) := by decide +kernel
theorem dX6_bestTrade_98 : decode cX6_bestTrade 98 = .ok (.getfield 44, 3) := by decide +kernel
theorem dX6_bestTrade_101 : decode cX6_bestTrade 101 = .ok (.getfield 195, 3) := by decide +kernel
theorem dX6_bestTrade_104 : decode cX6_bestTrade 104 = .ok (.iload 4, 2) := by decide +kernel
theorem dX6_bestTrade_106 : decode cX6_bestTrade 106 = .ok (.iaload, 1) := by decide +kernel
theorem dX6_bestTrade_107 : decode cX6_bestTrade 107 = .ok (.aload_n 0, 1) := by decide +kernel
theorem dX6_bestTrade_108 : decode cX6_bestTrade 108 = .ok (.getfield 41, 3) := by decide +kernel
theorem dX6_bestTrade_111 : decode cX6_bestTrade 111 = .ok (.getfield 195, 3) := by decide +kernel
theorem dX6_bestTrade_114 : decode cX6_bestTrade 114 = .ok (.iload 4, 2) := by decide +kernel
theorem dX6_bestTrade_116 : decode cX6_bestTrade 116 = .ok (.iaload, 1) := by decide +kernel
theorem dX6_bestTrade_117 : decode cX6_bestTrade 117 = .ok (.isub, 1) := by decide +kernel
theorem dX6_bestTrade_118 : decode cX6_bestTrade 118 = .ok (.istore 6, 2) := by decide +kernel
theorem dX6_bestTrade_120 : decode cX6_bestTrade 120 = .ok (.iload 5, 2) := by decide +kernel
theorem dX6_bestTrade_122 : decode cX6_bestTrade 122 = .ok (.ifCond .le 31, 3) := by decide +kernel
theorem dX6_bestTrade_125 : decode cX6_bestTrade 125 = .ok (.iload 6, 2) := by decide +kernel
theorem dX6_bestTrade_127 : decode cX6_bestTrade 127 = .ok (.ifCond .le 26, 3) := by decide +kernel
theorem dX6_bestTrade_130 : decode cX6_bestTrade 130 = .ok (.iload 5, 2) := by decide +kernel
theorem dX6_bestTrade_132 : decode cX6_bestTrade 132 = .ok (.iload 6, 2) := by decide +kernel
theorem dX6_bestTrade_134 : decode cX6_bestTrade 134 = .ok (.iadd, 1) := by decide +kernel
theorem dX6_bestTrade_135 : decode cX6_bestTrade 135 = .ok (.iload_n 2, 1) := by decide +kernel
theorem dX6_bestTrade_136 : decode cX6_bestTrade 136 = .ok (.if_icmp .le 17, 3) := by decide +kernel
theorem dX6_bestTrade_139 : decode cX6_bestTrade 139 = .ok (.iload 5, 2) := by decide +kernel
theorem dX6_bestTrade_141 : decode cX6_bestTrade 141 = .ok (.iload 6, 2) := by decide +kernel
theorem dX6_bestTrade_143 : decode cX6_bestTrade 143 = .ok (.iadd, 1) := by decide +kernel
theorem dX6_bestTrade_144 : decode cX6_bestTrade 144 = .ok (.istore_n 2, 1) := by decide +kernel
theorem dX6_bestTrade_145 : decode cX6_bestTrade 145 = .ok (.bipush 10, 2) := by decide +kernel
theorem dX6_bestTrade_147 : decode cX6_bestTrade 147 = .ok (.iload_n 3, 1) := by decide +kernel
theorem dX6_bestTrade_148 : decode cX6_bestTrade 148 = .ok (.imul, 1) := by decide +kernel
theorem dX6_bestTrade_149 : decode cX6_bestTrade 149 = .ok (.iload 4, 2) := by decide +kernel
theorem dX6_bestTrade_151 : decode cX6_bestTrade 151 = .ok (.iadd, 1) := by decide +kernel
theorem dX6_bestTrade_152 : decode cX6_bestTrade 152 = .ok (.istore_n 1, 1) := by decide +kernel
theorem dX6_bestTrade_153 : decode cX6_bestTrade 153 = .ok (.iinc 4 1, 3) := by decide +kernel
theorem dX6_bestTrade_156 : decode cX6_bestTrade 156 = .ok (.goto (-118), 3) := by decide +kernel
theorem dX6_bestTrade_159 : decode cX6_bestTrade 159 = .ok (.iinc 3 1, 3) := by decide +kernel
theorem dX6_bestTrade_162 : decode cX6_bestTrade 162 = .ok (.goto (-135), 3) := by decide +kernel
theorem dX6_bestTrade_165 : decode cX6_bestTrade 165 = .ok (.iload_n 1, 1) := by decide +kernel
theorem dX6_bestTrade_166 : decode cX6_bestTrade 166 = .ok (.ifCond .ge 11, 3) := by decide +kernel
theorem dX6_bestTrade_169 : decode cX6_bestTrade 169 = .ok (.aload_n 0, 1) := by decide +kernel
theorem dX6_bestTrade_170 : decode cX6_bestTrade 170 = .ok (.iconst 2, 1) := by decide +kernel
theorem dX6_bestTrade_171 : decode cX6_bestTrade 171 = .ok (.invokevirtual 86, 3) := by decide +kernel
theorem dX6_bestTrade_174 : decode cX6_bestTrade 174 = .ok (.goto 4, 3) := by decide +kernel
theorem dX6_bestTrade_177 : decode cX6_bestTrade 177 = .ok (.iload_n 1, 1) := by decide +kernel
theorem dX6_bestTrade_178 : decode cX6_bestTrade 178 = .ok (.ireturn, 1) := by decide +kernel
theorem gX6_share_X6_isFarmer : GoodIn wsX6_share (va_wsS RX6 90 yX6_isFarmer wsX6_isFarmer) := nw_gS nwl_X6_share nwe_375 nwe_376 nwe_363 nwl_X6_isFarmer (by decide +kernel)
theorem gX6_share_X6_within : GoodIn wsX6_share (va_wsS RX6 82 yX6_within wsX6_within) := nw_gS nwl_X6_share nwe_361 nwe_362 nwe_363 nwl_X6_within (by decide +kernel)
theorem gX6_share_X6_error : GoodIn wsX6_share (wsV RX6 86 RX6 yX6_error wsX6_error) := nw_gV nwl_X6_share nwe_372 nwe_373 nwe_374 nwe_363 nwl_X6_error (by decide +kernel)
theorem gX6_share_X5_takeFrom : GoodIn wsX6_share (wsV RX6 178 RX5 yX5_takeFrom wsX5_takeFrom) := nw_gV nwl_X6_share nwe_430 nwe_431 nwe_432 nwe_259 nwl_X5_takeFrom (by decide +kernel)
theorem gX6_share_X5_whoHasIt : GoodIn wsX6_share (wsV RX6 192 RX5 yX5_whoHasIt wsX5_whoHasIt) := nw_gV nwl_X6_share nwe_444 nwe_307 nwe_308 nwe_259 nwl_X5_whoHasIt (by decide +kernel)
theorem gX6_share_X5_oneDay : GoodIn wsX6_share (wsV RX6 172 RX5 yX5_oneDay wsX5_oneDay) := nw_gV nwl_X6_share nwe_426 nwe_323 nwe_324 nwe_259 nwl_X5_oneDay (by decide +kernel)
theorem gX6_share_X5_dugFor : GoodIn wsX6_share (wsV RX6 203 RX5 yX5_dugFor wsX5_dugFor) := nw_gV nwl_X6_share nwe_457 nwe_458 nwe_459 nwe_259 nwl_X5_dugFor (by decide +kernel)
theorem dX6_share_0 : decode cX6_share 0 = .ok (.iload_n 1, 1) := by decide +kernel
theorem dX6_share_1 : decode cX6_share 1 = .ok (.invokestatic 90, 3) := by decide +kernel
theorem dX6_share_4 : decode cX6_share 4 = .ok (.ifCond .eq 22, 3) := by decide +kernel
theorem dX6_share_7 : decode cX6_share 7 = .ok (.iload_n 2, 1) := by decide +kernel
theorem dX6_share_8 : decode cX6_share 8 = .ok (.iconst 0, 1) := by decide +kernel
theorem dX6_share_9 : decode cX6_share 9 = .ok (.iconst 2, 1) := by decide +kernel
theorem dX6_share_10 : decode cX6_share 10 = .ok (.invokestatic 82, 3) := by decide +kernel
theorem dX6_share_13 : decode cX6_share 13 = .ok (.ifCond .eq 13, 3) := by decide +kernel
theorem dX6_share_16 : decode cX6_share 16 = .ok (.iload_n 3, 1) := by decide +kernel
theorem dX6_share_17 : decode cX6_share 17 = .ok (.iconst 1, 1) := by decide +kernel
theorem dX6_share_18 : decode cX6_share 18 = .ok (.bipush 45, 2) := by decide +kernel
theorem dX6_share_20 : decode cX6_share 20 = .ok (.invokestatic 82, 3) := by decide +kernel
theorem dX6_share_23 : decode cX6_share 23 = .ok (.ifCond .ne 9, 3) := by decide +kernel
theorem dX6_share_26 : decode cX6_share 26 = .ok (.aload_n 0, 1) := by decide +kernel
theorem dX6_share_27 : decode cX6_share 27 = .ok (.iconst 1, 1) := by decide +kernel
theorem dX6_share_28 : decode cX6_share 28 = .ok (.invokevirtual 86, 3) := by decide +kernel
theorem dX6_share_31 : decode cX6_share 31 = .ok (.ireturn, 1) := by decide +kernel
theorem dX6_share_32 : decode cX6_share 32 = .ok (.aload_n 0, 1) := by decide +kernel
theorem dX6_share_33 : decode cX6_share 33 = .ok (.getfield 41, 3) := by decide +kernel
theorem dX6_share_36 : decode cX6_share 36 = .ok (.aload_n 0, 1) := by decide +kernel
theorem dX6_share_37 : decode cX6_share 37 = .ok (.getfield 10, 3) := by decide +kernel
theorem dX6_share_40 : decode cX6_share 40 = .ok (.invokevirtual 178, 3) := by decide +kernel
theorem dX6_share_43 : decode cX6_share 43 = .ok (.iconst 0, 1) := by decide +kernel
theorem dX6_share_44 : decode cX6_share 44 = .ok (.istore 4, 2) := by decide +kernel
theorem dX6_share_46 : decode cX6_share 46 = .ok (.iconst 0, 1) := by decide +kernel
theorem dX6_share_47 : decode cX6_share 47 = .ok (.istore 5, 2) := by decide +kernel
theorem dX6_share_49 : decode cX6_share 49 = .ok (.iconst 0, 1) := by decide +kernel
theorem dX6_share_50 : decode cX6_share 50 = .ok (.istore 6, 2) := by decide +kernel
theorem dX6_share_52 : decode cX6_share 52 = .ok (.iload 6, 2) := by decide +kernel
theorem dX6_share_54 : decode cX6_share 54 = .ok (.iload_n 3, 1) := by decide +kernel
theorem dX6_share_55 : decode cX6_share 55 = .ok (.if_icmp .ge 58, 3) := by decide +kernel
theorem dX6_share_58 : decode cX6_share 58 = .ok (.aload_n 0, 1) := by decide +kernel
theorem dX6_share_59 : decode cX6_share 59 = .ok (.getfield 41, 3) := by decide +kernel
theorem dX6_share_62 : decode cX6_share 62 = .ok (.invokevirtual 192, 3) := by decide +kernel
theorem dX6_share_65 : decode cX6_share 65 = .ok (.istore 7, 2) := by decide +kernel
theorem dX6_share_67 : decode cX6_share 67 = .ok (.aload_n 0, 1) := by decide +kernel
theorem dX6_share_68 : decode cX6_share 68 = .ok (.getfield 41, 3) := by decide +kernel
theorem dX6_share_71 : decode cX6_share 71 = .ok (.iconst (-1), 1) := by decide +kernel
theorem dX6_share_72 : decode cX6_share 72 = .ok (.invokevirtual 172, 3) := by decide +kernel
theorem dX6_share_75 : decode cX6_share 75 = .ok (.istore 8, 2) := by decide +kernel
theorem dX6_share_77 : decode cX6_share 77 = .ok (.iload 4, 2) := by decide +kernel
theorem dX6_share_79 : decode cX6_share 79 = .ok (.iload 7, 2) := by decide +kernel
theorem dX6_share_81 : decode cX6_share 81 = .ok (.iload_n 1, 1) := by decide +kernel
theorem dX6_share_82 : decode cX6_share 82 = .ok (.if_icmp .ne 8, 3) := by decide +kernel
theorem dX6_share_85 : decode cX6_share 85 = .ok (.iload 8, 2) := by decide +kernel
theorem dX6_share_87 : decode cX6_share 87 = .ok (.goto 4, 3) := by decide +kernel
theorem dX6_share_90 : decode cX6_share 90 = .ok (.iconst 0, 1) := by decide +kernel
theorem dX6_share_91 : decode cX6_share 91 = .ok (.iadd, 1) := by decide +kernel
theorem dX6_share_92 : decode cX6_share 92 = .ok (.istore 4, 2) := by decide +kernel
theorem dX6_share_94 : decode cX6_share 94 = .ok (.iload 5, 2) := by decide +kernel
theorem dX6_share_96 : decode cX6_share 96 = .ok (.aload_n 0, 1) := by decide +kernel
theorem dX6_share_97 : decode cX6_share 97 = .ok (.getfield 41, 3) := by decide +kernel
theorem dX6_share_100 : decode cX6_share 100 = .ok (.iload_n 1, 1) := by decide +kernel
theorem dX6_share_101 : decode cX6_share 101 = .ok (.invokevirtual 203, 3) := by decide +kernel
theorem dX6_share_104 : decode cX6_share 104 = .ok (.iadd, 1) := by decide +kernel
theorem dX6_share_105 : decode cX6_share 105 = .ok (.istore 5, 2) := by decide +kernel
theorem dX6_share_107 : decode cX6_share 107 = .ok (.iinc 6 1, 3) := by decide +kernel
theorem dX6_share_110 : decode cX6_share 110 = .ok (.goto (-58), 3) := by decide +kernel
theorem dX6_share_113 : decode cX6_share 113 = .ok (.iload_n 2, 1) := by decide +kernel
theorem dX6_share_114 : decode cX6_share 114 = .ok (.ifCond .ne 23, 3) := by decide +kernel
theorem dX6_share_117 : decode cX6_share 117 = .ok (.aload_n 0, 1) := by decide +kernel
theorem dX6_share_118 : decode cX6_share 118 = .ok (.getfield 41, 3) := by decide +kernel
theorem dX6_share_121 : decode cX6_share 121 = .ok (.getfield 195, 3) := by decide +kernel
theorem dX6_share_124 : decode cX6_share 124 = .ok (.iload_n 1, 1) := by decide +kernel
theorem dX6_share_125 : decode cX6_share 125 = .ok (.iaload, 1) := by decide +kernel
theorem dX6_share_126 : decode cX6_share 126 = .ok (.aload_n 0, 1) := by decide +kernel
theorem dX6_share_127 : decode cX6_share 127 = .ok (.getfield 10, 3) := by decide +kernel
theorem dX6_share_130 : decode cX6_share 130 = .ok (.getfield 195, 3) := by decide +kernel
theorem dX6_share_133 : decode cX6_share 133 = .ok (.iload_n 1, 1) := by decide +kernel
theorem dX6_share_134 : decode cX6_share 134 = .ok (.iaload, 1) := by decide +kernel
theorem dX6_share_135 : decode cX6_share 135 = .ok (.isub, 1) := by decide +kernel
theorem dX6_share_136 : decode cX6_share 136 = .ok (.ireturn, 1) := by decide +kernel
theorem dX6_share_137 : decode cX6_share 137 = .ok (.iload_n 2, 1) := by decide +kernel
theorem dX6_share_138 : decode cX6_share 138 = .ok (.iconst 1, 1) := by decide +kernel
theorem dX6_share_139 : decode cX6_share 139 = .ok (.if_icmp .ne 8, 3) := by decide +kernel
theorem dX6_share_142 : decode cX6_share 142 = .ok (.iload 4, 2) := by decide +kernel
theorem dX6_share_144 : decode cX6_share 144 = .ok (.goto 5, 3) := by decide +kernel
theorem dX6_share_147 : decode cX6_share 147 = .ok (.iload 5, 2) := by decide +kernel
theorem dX6_share_149 : decode cX6_share 149 = .ok (.ireturn, 1) := by decide +kernel
theorem gX6_whoHid_X6_isSheet : GoodIn wsX6_whoHid (va_wsS RX6 206 yX6_isSheet wsX6_isSheet) := nw_gS nwl_X6_whoHid nwe_468 nwe_469 nwe_363 nwl_X6_isSheet (by decide +kernel)
theorem gX6_whoHid_X6_within : GoodIn wsX6_whoHid (va_wsS RX6 82 yX6_within wsX6_within) := nw_gS nwl_X6_whoHid nwe_361 nwe_362 nwe_363 nwl_X6_within (by decide +kernel)
theorem gX6_whoHid_X6_error : GoodIn wsX6_whoHid (wsV RX6 86 RX6 yX6_error wsX6_error) := nw_gV nwl_X6_whoHid nwe_372 nwe_373 nwe_374 nwe_363 nwl_X6_error (by decide +kernel)
theorem gX6_whoHid_X2_isMissing : GoodIn wsX6_whoHid (wsV RX6 209 RX2 yX2_isMissing wsX2_isMissing) := nw_gV nwl_X6_whoHid nwe_470 nwe_471 nwe_472 nwe_351 nwl_X2_isMissing (by decide +kernel)
theorem gX6_whoHid_X6_leastMark : GoodIn wsX6_whoHid (wsV RX6 213 RX6 yX6_leastMark wsX6_leastMark) := nw_gV nwl_X6_whoHid nwe_473 nwe_474 nwe_475 nwe_363 nwl_X6_leastMark (by decide +kernel)
theorem dX6_whoHid_0 : decode cX6_whoHid 0 = .ok (.iload_n 1, 1) := by decide +kernel
theorem dX6_whoHid_1 : decode cX6_whoHid 1 = .ok (.invokestatic 206, 3) := by decide +kernel
theorem dX6_whoHid_4 : decode cX6_whoHid 4 = .ok (.ifCond .eq 22, 3) := by decide +kernel
theorem dX6_whoHid_7 : decode cX6_whoHid 7 = .ok (.iload_n 2, 1) := by decide +kernel
theorem dX6_whoHid_8 : decode cX6_whoHid 8 = .ok (.iconst 1, 1) := by decide +kernel
theorem dX6_whoHid_9 : decode cX6_whoHid 9 = .ok (.bipush 18, 2) := by decide +kernel
theorem dX6_whoHid_11 : decode cX6_whoHid 11 = .ok (.invokestatic 82, 3) := by decide +kernel
theorem dX6_whoHid_14 : decode cX6_whoHid 14 = .ok (.ifCond .eq 12, 3) := by decide +kernel
theorem dX6_whoHid_17 : decode cX6_whoHid 17 = .ok (.iload_n 3, 1) := by decide +kernel
theorem dX6_whoHid_18 : decode cX6_whoHid 18 = .ok (.iconst 0, 1) := by decide +kernel
theorem dX6_whoHid_19 : decode cX6_whoHid 19 = .ok (.iconst 2, 1) := by decide +kernel
theorem dX6_whoHid_20 : decode cX6_whoHid 20 = .ok (.invokestatic 82, 3) := by decide +kernel
theorem dX6_whoHid_23 : decode cX6_whoHid 23 = .ok (.ifCond .ne 9, 3) := by decide +kernel
theorem dX6_whoHid_26 : decode cX6_whoHid 26 = .ok (.aload_n 0, 1) := by decide +kernel
theorem dX6_whoHid_27 : decode cX6_whoHid 27 = .ok (.iconst 1, 1) := by decide +kernel
theorem dX6_whoHid_28 : decode cX6_whoHid 28 = .ok (.invokevirtual 86, 3) := by decide +kernel
theorem dX6_whoHid_31 : decode cX6_whoHid 31 = .ok (.ireturn, 1) := by decide +kernel
theorem dX6_whoHid_32 : decode cX6_whoHid 32 = .ok (.aload_n 0, 1) := by decide +kernel
theorem dX6_whoHid_33 : decode cX6_whoHid 33 = .ok (.getfield 70, 3) := by decide +kernel
theorem dX6_whoHid_36 : decode cX6_whoHid 36 = .ok (.iload_n 1, 1) := by decide +kernel
theorem dX6_whoHid_37 : decode cX6_whoHid 37 = .ok (.aaload, 1) := by decide +kernel
theorem dX6_whoHid_38 : decode cX6_whoHid 38 = .ok (.astore 4, 2) := by decide +kernel
theorem dX6_whoHid_40 : decode cX6_whoHid 40 = .ok (.aload 4, 2) := by decide +kernel
theorem dX6_whoHid_42 : decode cX6_whoHid 42 = .ok (.invokevirtual 209, 3) := by decide +kernel
theorem dX6_whoHid_45 : decode cX6_whoHid 45 = .ok (.ifCond .ne 13, 3) := by decide +kernel
theorem dX6_whoHid_48 : decode cX6_whoHid 48 = .ok (.aload 4, 2) := by decide +kernel
theorem dX6_whoHid_50 : decode cX6_whoHid 50 = .ok (.getfield 212, 3) := by decide +kernel
theorem dX6_whoHid_53 : decode cX6_whoHid 53 = .ok (.bipush 9, 2) := by decide +kernel
theorem dX6_whoHid_55 : decode cX6_whoHid 55 = .ok (.if_icmp .ge 9, 3) := by decide +kernel
theorem dX6_whoHid_58 : decode cX6_whoHid 58 = .ok (.aload_n 0, 1) := by decide +kernel
theorem dX6_whoHid_59 : decode cX6_whoHid 59 = .ok (.iconst 2, 1) := by decide +kernel
theorem dX6_whoHid_60 : decode cX6_whoHid 60 = .ok (.invokevirtual 86, 3) := by decide +kernel
theorem dX6_whoHid_63 : decode cX6_whoHid 63 = .ok (.ireturn, 1) := by decide +kernel
theorem dX6_whoHid_64 : decode cX6_whoHid 64 = .ok (.iconst 0, 1) := by decide +kernel
theorem dX6_whoHid_65 : decode cX6_whoHid 65 = .ok (.istore 5, 2) := by decide +kernel
theorem dX6_whoHid_67 : decode cX6_whoHid 67 = .ok (.iconst (-1), 1) := by decide +kernel
theorem dX6_whoHid_68 : decode cX6_whoHid 68 = .ok (.istore 6, 2) := by decide +kernel
theorem dX6_whoHid_70 : decode cX6_whoHid 70 = .ok (.iconst (-1), 1) := by decide +kernel
theorem dX6_whoHid_71 : decode cX6_whoHid 71 = .ok (.istore 7, 2) := by decide +kernel
theorem dX6_whoHid_73 : decode cX6_whoHid 73 = .ok (.iconst 0, 1) := by decide +kernel
theorem dX6_whoHid_74 : decode cX6_whoHid 74 = .ok (.istore 8, 2) := by decide +kernel
theorem dX6_whoHid_76 : decode cX6_whoHid 76 = .ok (.iload 8, 2) := by decide +kernel
theorem dX6_whoHid_78 : decode cX6_whoHid 78 = .ok (.bipush 9, 2) := by decide +kernel
theorem dX6_whoHid_80 : decode cX6_whoHid 80 = .ok (.if_icmp .ge 47, 3) := by decide +kernel
theorem dX6_whoHid_83 : decode cX6_whoHid 83 = .ok (.aload_n 0, 1) := by decide +kernel
theorem dX6_whoHid_84 : decode cX6_whoHid 84 = .ok (.iload 8, 2) := by decide +kernel
theorem dX6_whoHid_86 : decode cX6_whoHid 86 = .ok (.aload 4, 2) := by decide +kernel
theorem dX6_whoHid_88 : decode cX6_whoHid 88 = .ok (.iload_n 2, 1) := by decide +kernel
theorem dX6_whoHid_89 : decode cX6_whoHid 89 = .ok (.invokevirtual 213, 3) := by decide +kernel
theorem dX6_whoHid_92 : decode cX6_whoHid 92 = .ok (.istore 9, 2) := by decide +kernel
theorem dX6_whoHid_94 : decode cX6_whoHid 94 = .ok (.iload 9, 2) := by decide +kernel
theorem dX6_whoHid_96 : decode cX6_whoHid 96 = .ok (.ifCond .lt 25, 3) := by decide +kernel
theorem dX6_whoHid_99 : decode cX6_whoHid 99 = .ok (.iload 5, 2) := by decide +kernel
theorem dX6_whoHid_101 : decode cX6_whoHid 101 = .ok (.iconst 1, 1) := by decide +kernel
theorem dX6_whoHid_102 : decode cX6_whoHid 102 = .ok (.iload 8, 2) := by decide +kernel
theorem dX6_whoHid_104 : decode cX6_whoHid 104 = .ok (.ishl, 1) := by decide +kernel
theorem dX6_whoHid_105 : decode cX6_whoHid 105 = .ok (.ior, 1) := by decide +kernel
theorem dX6_whoHid_106 : decode cX6_whoHid 106 = .ok (.istore 5, 2) := by decide +kernel
theorem dX6_whoHid_108 : decode cX6_whoHid 108 = .ok (.iload 6, 2) := by decide +kernel
theorem dX6_whoHid_110 : decode cX6_whoHid 110 = .ok (.ifCond .ge 11, 3) := by decide +kernel
theorem dX6_whoHid_113 : decode cX6_whoHid 113 = .ok (.iload 8, 2) := by decide +kernel
theorem dX6_whoHid_115 : decode cX6_whoHid 115 = .ok (.istore 6, 2) := by decide +kernel
theorem dX6_whoHid_117 : decode cX6_whoHid 117 = .ok (.iload 9, 2) := by decide +kernel
theorem dX6_whoHid_119 : decode cX6_whoHid 119 = .ok (.istore 7, 2) := by decide +kernel
theorem dX6_whoHid_121 : decode cX6_whoHid 121 = .ok (.iinc 8 1, 3) := by decide +kernel
theorem dX6_whoHid_124 : decode cX6_whoHid 124 = .ok (.goto (-48), 3) := by decide +kernel
theorem dX6_whoHid_127 : decode cX6_whoHid 127 = .ok (.iload_n 3, 1) := by decide +kernel
theorem dX6_whoHid_128 : decode cX6_whoHid 128 = .ok (.ifCond .ne 6, 3) := by decide +kernel
theorem dX6_whoHid_131 : decode cX6_whoHid 131 = .ok (.iload 5, 2) := by decide +kernel
theorem dX6_whoHid_133 : decode cX6_whoHid 133 = .ok (.ireturn, 1) := by decide +kernel
theorem dX6_whoHid_134 : decode cX6_whoHid 134 = .ok (.iload 6, 2) := by decide +kernel
theorem dX6_whoHid_136 : decode cX6_whoHid 136 = .ok (.ifCond .ge 9, 3) := by decide +kernel
theorem dX6_whoHid_139 : decode cX6_whoHid 139 = .ok (.aload_n 0, 1) := by decide +kernel
theorem dX6_whoHid_140 : decode cX6_whoHid 140 = .ok (.iconst 2, 1) := by decide +kernel
theorem dX6_whoHid_141 : decode cX6_whoHid 141 = .ok (.invokevirtual 86, 3) := by decide +kernel
theorem dX6_whoHid_144 : decode cX6_whoHid 144 = .ok (.ireturn, 1) := by decide +kernel
theorem dX6_whoHid_145 : decode cX6_whoHid 145 = .ok (.iload_n 3, 1) := by decide +kernel
theorem dX6_whoHid_146 : decode cX6_whoHid 146 = .ok (.iconst 1, 1) := by decide +kernel
theorem dX6_whoHid_147 : decode cX6_whoHid 147 = .ok (.if_icmp .ne 8, 3) := by decide +kernel
theorem dX6_whoHid_150 : decode cX6_whoHid 150 = .ok (.iload 6, 2) := by decide +kernel
theorem dX6_whoHid_152 : decode cX6_whoHid 152 = .ok (.goto 5, 3) := by decide +kernel
theorem dX6_whoHid_155 : decode cX6_whoHid 155 = .ok (.iload 7, 2) := by decide +kernel
theorem dX6_whoHid_157 : decode cX6_whoHid 157 = .ok (.ireturn, 1) := by decide +kernel
theorem gX6_voice_X6_isFarmer : GoodIn wsX6_voice (va_wsS RX6 90 yX6_isFarmer wsX6_isFarmer) := nw_gS nwl_X6_voice nwe_375 nwe_376 nwe_363 nwl_X6_isFarmer (by decide +kernel)
theorem gX6_voice_X6_within : GoodIn wsX6_voice (va_wsS RX6 82 yX6_within wsX6_within) := nw_gS nwl_X6_voice nwe_361 nwe_362 nwe_363 nwl_X6_within (by decide +kernel)
theorem gX6_voice_X6_error : GoodIn wsX6_voice (wsV RX6 86 RX6 yX6_error wsX6_error) := nw_gV nwl_X6_voice nwe_372 nwe_373 nwe_374 nwe_363 nwl_X6_error (by decide +kernel)
theorem gX6_voice_X4_answer : GoodIn wsX6_voice (wsV RX6 217 RX4 yX4_answer wsX4_answer) := nw_gV nwl_X6_voice nwe_478 nwe_479 nwe_480 nwe_208 nwl_X4_answer (by decide +kernel)
theorem dX6_voice_0 : decode cX6_voice 0 = .ok (.iload_n 1, 1) := by decide +kernel
theorem dX6_voice_1 : decode cX6_voice 1 = .ok (.invokestatic 90, 3) := by decide +kernel
theorem dX6_voice_4 : decode cX6_voice 4 = .ok (.ifCond .eq 12, 3) := by decide +kernel
theorem dX6_voice_7 : decode cX6_voice 7 = .ok (.iload_n 2, 1) := by decide +kernel
theorem dX6_voice_8 : decode cX6_voice 8 = .ok (.iconst 0, 1) := by decide +kernel
theorem dX6_voice_9 : decode cX6_voice 9 = .ok (.iconst 3, 1) := by decide +kernel
theorem dX6_voice_10 : decode cX6_voice 10 = .ok (.invokestatic 82, 3) := by decide +kernel
theorem dX6_voice_13 : decode cX6_voice 13 = .ok (.ifCond .ne 9, 3) := by decide +kernel
theorem dX6_voice_16 : decode cX6_voice 16 = .ok (.aload_n 0, 1) := by decide +kernel
theorem dX6_voice_17 : decode cX6_voice 17 = .ok (.iconst 1, 1) := by decide +kernel
theorem dX6_voice_18 : decode cX6_voice 18 = .ok (.invokevirtual 86, 3) := by decide +kernel
theorem dX6_voice_21 : decode cX6_voice 21 = .ok (.ireturn, 1) := by decide +kernel
theorem dX6_voice_22 : decode cX6_voice 22 = .ok (.aload_n 0, 1) := by decide +kernel
theorem dX6_voice_23 : decode cX6_voice 23 = .ok (.getfield 64, 3) := by decide +kernel
theorem dX6_voice_26 : decode cX6_voice 26 = .ok (.iload_n 1, 1) := by decide +kernel
theorem dX6_voice_27 : decode cX6_voice 27 = .ok (.aload_n 0, 1) := by decide +kernel
theorem dX6_voice_28 : decode cX6_voice 28 = .ok (.getfield 10, 3) := by decide +kernel
theorem dX6_voice_31 : decode cX6_voice 31 = .ok (.getfield 105, 3) := by decide +kernel
theorem dX6_voice_34 : decode cX6_voice 34 = .ok (.iload_n 1, 1) := by decide +kernel
theorem dX6_voice_35 : decode cX6_voice 35 = .ok (.iaload, 1) := by decide +kernel
theorem dX6_voice_36 : decode cX6_voice 36 = .ok (.aload_n 0, 1) := by decide +kernel
theorem dX6_voice_37 : decode cX6_voice 37 = .ok (.getfield 10, 3) := by decide +kernel
theorem dX6_voice_40 : decode cX6_voice 40 = .ok (.getfield 108, 3) := by decide +kernel
theorem dX6_voice_43 : decode cX6_voice 43 = .ok (.iload_n 1, 1) := by decide +kernel
theorem dX6_voice_44 : decode cX6_voice 44 = .ok (.iaload, 1) := by decide +kernel
theorem dX6_voice_45 : decode cX6_voice 45 = .ok (.iload_n 2, 1) := by decide +kernel
theorem dX6_voice_46 : decode cX6_voice 46 = .ok (.iload_n 3, 1) := by decide +kernel
theorem dX6_voice_47 : decode cX6_voice 47 = .ok (.invokevirtual 217, 3) := by decide +kernel
theorem dX6_voice_50 : decode cX6_voice 50 = .ok (.istore 4, 2) := by decide +kernel
theorem dX6_voice_52 : decode cX6_voice 52 = .ok (.aload_n 0, 1) := by decide +kernel
theorem dX6_voice_53 : decode cX6_voice 53 = .ok (.getfield 64, 3) := by decide +kernel
theorem dX6_voice_56 : decode cX6_voice 56 = .ok (.getfield 221, 3) := by decide +kernel
theorem dX6_voice_59 : decode cX6_voice 59 = .ok (.ifCond .eq 12, 3) := by decide +kernel
theorem dX6_voice_62 : decode cX6_voice 62 = .ok (.aload_n 0, 1) := by decide +kernel
theorem dX6_voice_63 : decode cX6_voice 63 = .ok (.bipush 6, 2) := by decide +kernel
theorem dX6_voice_65 : decode cX6_voice 65 = .ok (.invokevirtual 86, 3) := by decide +kernel
theorem dX6_voice_68 : decode cX6_voice 68 = .ok (.goto 5, 3) := by decide +kernel
theorem dX6_voice_71 : decode cX6_voice 71 = .ok (.iload 4, 2) := by decide +kernel
theorem dX6_voice_73 : decode cX6_voice 73 = .ok (.ireturn, 1) := by decide +kernel
theorem gX6_body_X6_within : GoodIn wsX6_body (va_wsS RX6 82 yX6_within wsX6_within) := nw_gS nwl_X6_body nwe_361 nwe_362 nwe_363 nwl_X6_within (by decide +kernel)
theorem gX6_body_X6_error : GoodIn wsX6_body (wsV RX6 86 RX6 yX6_error wsX6_error) := nw_gV nwl_X6_body nwe_372 nwe_373 nwe_374 nwe_363 nwl_X6_error (by decide +kernel)
theorem gX6_body_X1_at : GoodIn wsX6_body (wsV RX6 228 RX1 yX1_at wsX1_at) := nw_gV nwl_X6_body nwe_484 nwe_106 nwe_107 nwe_87 nwl_X1_at (by decide +kernel)
theorem dX6_body_0 : decode cX6_body 0 = .ok (.iload_n 1, 1) := by decide +kernel
theorem dX6_body_1 : decode cX6_body 1 = .ok (.iconst 0, 1) := by decide +kernel
theorem dX6_body_2 : decode cX6_body 2 = .ok (.aload_n 0, 1) := by decide +kernel
theorem dX6_body_3 : decode cX6_body 3 = .ok (.getfield 64, 3) := by decide +kernel
theorem dX6_body_6 : decode cX6_body 6 = .ok (.getfield 225, 3) := by decide +kernel
theorem dX6_body_9 : decode cX6_body 9 = .ok (.getfield 135, 3) := by decide +kernel
theorem dX6_body_12 : decode cX6_body 12 = .ok (.iconst 1, 1) := by decide +kernel
theorem dX6_body_13 : decode cX6_body 13 = .ok (.isub, 1) := by decide +kernel
theorem dX6_body_14 : decode cX6_body 14 = .ok (.invokestatic 82, 3) := by decide +kernel
theorem dX6_body_17 : decode cX6_body 17 = .ok (.ifCond .ne 9, 3) := by decide +kernel
theorem dX6_body_20 : decode cX6_body 20 = .ok (.aload_n 0, 1) := by decide +kernel
theorem dX6_body_21 : decode cX6_body 21 = .ok (.iconst 2, 1) := by decide +kernel
theorem dX6_body_22 : decode cX6_body 22 = .ok (.invokevirtual 86, 3) := by decide +kernel
theorem dX6_body_25 : decode cX6_body 25 = .ok (.ireturn, 1) := by decide +kernel
theorem dX6_body_26 : decode cX6_body 26 = .ok (.aload_n 0, 1) := by decide +kernel
theorem dX6_body_27 : decode cX6_body 27 = .ok (.getfield 64, 3) := by decide +kernel
theorem dX6_body_30 : decode cX6_body 30 = .ok (.getfield 225, 3) := by decide +kernel
theorem dX6_body_33 : decode cX6_body 33 = .ok (.iload_n 1, 1) := by decide +kernel
theorem dX6_body_34 : decode cX6_body 34 = .ok (.invokevirtual 228, 3) := by decide +kernel
theorem dX6_body_37 : decode cX6_body 37 = .ok (.ireturn, 1) := by decide +kernel
theorem gX6_sheet_X6_isSheet : GoodIn wsX6_sheet (va_wsS RX6 206 yX6_isSheet wsX6_isSheet) := nw_gS nwl_X6_sheet nwe_468 nwe_469 nwe_363 nwl_X6_isSheet (by decide +kernel)
theorem gX6_sheet_X6_error : GoodIn wsX6_sheet (wsV RX6 86 RX6 yX6_error wsX6_error) := nw_gV nwl_X6_sheet nwe_372 nwe_373 nwe_374 nwe_363 nwl_X6_error (by decide +kernel)
theorem gX6_sheet_X2_becomes : GoodIn wsX6_sheet (wsV RX6 231 RX2 yX2_becomes wsX2_becomes) := nw_gV nwl_X6_sheet nwe_485 nwe_486 nwe_487 nwe_351 nwl_X2_becomes (by decide +kernel)
theorem dX6_sheet_0 : decode cX6_sheet 0 = .ok (.iload_n 1, 1) := by decide +kernel
theorem dX6_sheet_1 : decode cX6_sheet 1 = .ok (.invokestatic 206, 3) := by decide +kernel
theorem dX6_sheet_4 : decode cX6_sheet 4 = .ok (.ifCond .eq 25, 3) := by decide +kernel
theorem dX6_sheet_7 : decode cX6_sheet 7 = .ok (.iload_n 2, 1) := by decide +kernel
theorem dX6_sheet_8 : decode cX6_sheet 8 = .ok (.ifCond .eq 27, 3) := by decide +kernel
theorem dX6_sheet_11 : decode cX6_sheet 11 = .ok (.iload_n 2, 1) := by decide +kernel
theorem dX6_sheet_12 : decode cX6_sheet 12 = .ok (.bipush 8, 2) := by decide +kernel
theorem dX6_sheet_14 : decode cX6_sheet 14 = .ok (.if_icmp .eq 21, 3) := by decide +kernel
theorem dX6_sheet_17 : decode cX6_sheet 17 = .ok (.iload_n 2, 1) := by decide +kernel
theorem dX6_sheet_18 : decode cX6_sheet 18 = .ok (.bipush 16, 2) := by decide +kernel
theorem dX6_sheet_20 : decode cX6_sheet 20 = .ok (.if_icmp .eq 15, 3) := by decide +kernel
theorem dX6_sheet_23 : decode cX6_sheet 23 = .ok (.iload_n 2, 1) := by decide +kernel
theorem dX6_sheet_24 : decode cX6_sheet 24 = .ok (.bipush 32, 2) := by decide +kernel
theorem dX6_sheet_26 : decode cX6_sheet 26 = .ok (.if_icmp .eq 9, 3) := by decide +kernel
theorem dX6_sheet_29 : decode cX6_sheet 29 = .ok (.aload_n 0, 1) := by decide +kernel
theorem dX6_sheet_30 : decode cX6_sheet 30 = .ok (.iconst 1, 1) := by decide +kernel
theorem dX6_sheet_31 : decode cX6_sheet 31 = .ok (.invokevirtual 86, 3) := by decide +kernel
theorem dX6_sheet_34 : decode cX6_sheet 34 = .ok (.ireturn, 1) := by decide +kernel
theorem dX6_sheet_35 : decode cX6_sheet 35 = .ok (.iload_n 2, 1) := by decide +kernel
theorem dX6_sheet_36 : decode cX6_sheet 36 = .ok (.ifCond .eq 13, 3) := by decide +kernel
theorem dX6_sheet_39 : decode cX6_sheet 39 = .ok (.iload_n 3, 1) := by decide +kernel
theorem dX6_sheet_40 : decode cX6_sheet 40 = .ok (.ifCond .ge 9, 3) := by decide +kernel
theorem dX6_sheet_43 : decode cX6_sheet 43 = .ok (.aload_n 0, 1) := by decide +kernel
theorem dX6_sheet_44 : decode cX6_sheet 44 = .ok (.iconst 3, 1) := by decide +kernel
theorem dX6_sheet_45 : decode cX6_sheet 45 = .ok (.invokevirtual 86, 3) := by decide +kernel
theorem dX6_sheet_48 : decode cX6_sheet 48 = .ok (.ireturn, 1) := by decide +kernel
theorem dX6_sheet_49 : decode cX6_sheet 49 = .ok (.iload_n 2, 1) := by decide +kernel
theorem dX6_sheet_50 : decode cX6_sheet 50 = .ok (.ifCond .eq 15, 3) := by decide +kernel
theorem dX6_sheet_53 : decode cX6_sheet 53 = .ok (.iload_n 3, 1) := by decide +kernel
theorem dX6_sheet_54 : decode cX6_sheet 54 = .ok (.bipush 24, 2) := by decide +kernel
theorem dX6_sheet_56 : decode cX6_sheet 56 = .ok (.if_icmp .le 9, 3) := by decide +kernel
theorem dX6_sheet_59 : decode cX6_sheet 59 = .ok (.aload_n 0, 1) := by decide +kernel
theorem dX6_sheet_60 : decode cX6_sheet 60 = .ok (.iconst 1, 1) := by decide +kernel
theorem dX6_sheet_61 : decode cX6_sheet 61 = .ok (.invokevirtual 86, 3) := by decide +kernel
theorem dX6_sheet_64 : decode cX6_sheet 64 = .ok (.ireturn, 1) := by decide +kernel
theorem dX6_sheet_65 : decode cX6_sheet 65 = .ok (.aload_n 0, 1) := by decide +kernel
theorem dX6_sheet_66 : decode cX6_sheet 66 = .ok (.getfield 70, 3) := by decide +kernel
theorem dX6_sheet_69 : decode cX6_sheet 69 = .ok (.iload_n 1, 1) := by decide +kernel
theorem dX6_sheet_70 : decode cX6_sheet 70 = .ok (.aaload, 1) := by decide +kernel
theorem dX6_sheet_71 : decode cX6_sheet 71 = .ok (.iload_n 2, 1) := by decide +kernel
theorem dX6_sheet_72 : decode cX6_sheet 72 = .ok (.iload_n 3, 1) := by decide +kernel
theorem dX6_sheet_73 : decode cX6_sheet 73 = .ok (.invokevirtual 231, 3) := by decide +kernel
theorem dX6_sheet_76 : decode cX6_sheet 76 = .ok (.iconst 1, 1) := by decide +kernel
theorem dX6_sheet_77 : decode cX6_sheet 77 = .ok (.ireturn, 1) := by decide +kernel
theorem gX6_put_X6_isSheet : GoodIn wsX6_put (va_wsS RX6 206 yX6_isSheet wsX6_isSheet) := nw_gS nwl_X6_put nwe_468 nwe_469 nwe_363 nwl_X6_isSheet (by decide +kernel)
theorem gX6_put_X6_error : GoodIn wsX6_put (wsV RX6 86 RX6 yX6_error wsX6_error) := nw_gV nwl_X6_put nwe_372 nwe_373 nwe_374 nwe_363 nwl_X6_error (by decide +kernel)
