theorem gX6_put_X2_isMissing : GoodIn wsX6_put (wsV RX6 209 RX2 yX2_isMissing wsX2_isMissing) := nw_gV nwl_X6_put nwe_470 nwe_471 nwe_472 nwe_351 nwl_X2_isMissing (by decide +kernel)
theorem gX6_put_X6_within : GoodIn wsX6_put (va_wsS RX6 82 yX6_within wsX6_within) := nw_gS nwl_X6_put nwe_361 nwe_362 nwe_363 nwl_X6_within (by decide +kernel)
theorem gX6_put_X2_hold : GoodIn wsX6_put (wsV RX6 234 RX2 yX2_hold wsX2_hold) := nw_gV nwl_X6_put nwe_489 nwe_490 nwe_491 nwe_351 nwl_X2_hold (by decide +kernel)
theorem dX6_put_0 : decode cX6_put 0 = .ok (.iload_n 1, 1) := by decide +kernel
theorem dX6_put_1 : decode cX6_put 1 = .ok (.invokestatic 206, 3) := by decide +kernel
theorem dX6_put_4 : decode cX6_put 4 = .ok (.ifCond .ne 9, 3) := by decide +kernel
theorem dX6_put_7 : decode cX6_put 7 = .ok (.aload_n 0, 1) := by decide +kernel
theorem dX6_put_8 : decode cX6_put 8 = .ok (.iconst 1, 1) := by decide +kernel
theorem dX6_put_9 : decode cX6_put 9 = .ok (.invokevirtual 86, 3) := by decide +kernel
theorem dX6_put_12 : decode cX6_put 12 = .ok (.ireturn, 1) := by decide +kernel
theorem dX6_put_13 : decode cX6_put 13 = .ok (.aload_n 0, 1) := by decide +kernel
theorem dX6_put_14 : decode cX6_put 14 = .ok (.getfield 70, 3) := by decide +kernel
theorem dX6_put_17 : decode cX6_put 17 = .ok (.iload_n 1, 1) := by decide +kernel
theorem dX6_put_18 : decode cX6_put 18 = .ok (.aaload, 1) := by decide +kernel
theorem dX6_put_19 : decode cX6_put 19 = .ok (.astore 4, 2) := by decide +kernel
theorem dX6_put_21 : decode cX6_put 21 = .ok (.aload 4, 2) := by decide +kernel
theorem dX6_put_23 : decode cX6_put 23 = .ok (.invokevirtual 209, 3) := by decide +kernel
theorem dX6_put_26 : decode cX6_put 26 = .ok (.ifCond .eq 9, 3) := by decide +kernel
theorem dX6_put_29 : decode cX6_put 29 = .ok (.aload_n 0, 1) := by decide +kernel
theorem dX6_put_30 : decode cX6_put 30 = .ok (.iconst 2, 1) := by decide +kernel
theorem dX6_put_31 : decode cX6_put 31 = .ok (.invokevirtual 86, 3) := by decide +kernel
theorem dX6_put_34 : decode cX6_put 34 = .ok (.ireturn, 1) := by decide +kernel
theorem dX6_put_35 : decode cX6_put 35 = .ok (.iload_n 2, 1) := by decide +kernel
theorem dX6_put_36 : decode cX6_put 36 = .ok (.iconst 0, 1) := by decide +kernel
theorem dX6_put_37 : decode cX6_put 37 = .ok (.aload 4, 2) := by decide +kernel
theorem dX6_put_39 : decode cX6_put 39 = .ok (.getfield 212, 3) := by decide +kernel
theorem dX6_put_42 : decode cX6_put 42 = .ok (.iconst 1, 1) := by decide +kernel
theorem dX6_put_43 : decode cX6_put 43 = .ok (.isub, 1) := by decide +kernel
theorem dX6_put_44 : decode cX6_put 44 = .ok (.invokestatic 82, 3) := by decide +kernel
theorem dX6_put_47 : decode cX6_put 47 = .ok (.ifCond .ne 9, 3) := by decide +kernel
theorem dX6_put_50 : decode cX6_put 50 = .ok (.aload_n 0, 1) := by decide +kernel
theorem dX6_put_51 : decode cX6_put 51 = .ok (.iconst 1, 1) := by decide +kernel
theorem dX6_put_52 : decode cX6_put 52 = .ok (.invokevirtual 86, 3) := by decide +kernel
theorem dX6_put_55 : decode cX6_put 55 = .ok (.ireturn, 1) := by decide +kernel
theorem dX6_put_56 : decode cX6_put 56 = .ok (.aload 4, 2) := by decide +kernel
theorem dX6_put_58 : decode cX6_put 58 = .ok (.iload_n 2, 1) := by decide +kernel
theorem dX6_put_59 : decode cX6_put 59 = .ok (.iload_n 3, 1) := by decide +kernel
theorem dX6_put_60 : decode cX6_put 60 = .ok (.invokevirtual 234, 3) := by decide +kernel
theorem dX6_put_63 : decode cX6_put 63 = .ok (.iconst 1, 1) := by decide +kernel
theorem dX6_put_64 : decode cX6_put 64 = .ok (.ireturn, 1) := by decide +kernel
theorem gX6_move_X6_isSheet : GoodIn wsX6_move (va_wsS RX6 206 yX6_isSheet wsX6_isSheet) := nw_gS nwl_X6_move nwe_468 nwe_469 nwe_363 nwl_X6_isSheet (by decide +kernel)
theorem gX6_move_X6_error : GoodIn wsX6_move (wsV RX6 86 RX6 yX6_error wsX6_error) := nw_gV nwl_X6_move nwe_372 nwe_373 nwe_374 nwe_363 nwl_X6_error (by decide +kernel)
theorem gX6_move_X2_isMissing : GoodIn wsX6_move (wsV RX6 209 RX2 yX2_isMissing wsX2_isMissing) := nw_gV nwl_X6_move nwe_470 nwe_471 nwe_472 nwe_351 nwl_X2_isMissing (by decide +kernel)
theorem gX6_move_X2_holdsPart : GoodIn wsX6_move (wsV RX6 240 RX2 yX2_holdsPart wsX2_holdsPart) := nw_gV nwl_X6_move nwe_495 nwe_496 nwe_497 nwe_351 nwl_X2_holdsPart (by decide +kernel)
theorem dX6_move_0 : decode cX6_move 0 = .ok (.iload_n 1, 1) := by decide +kernel
theorem dX6_move_1 : decode cX6_move 1 = .ok (.invokestatic 206, 3) := by decide +kernel
theorem dX6_move_4 : decode cX6_move 4 = .ok (.ifCond .eq 10, 3) := by decide +kernel
theorem dX6_move_7 : decode cX6_move 7 = .ok (.iload_n 3, 1) := by decide +kernel
theorem dX6_move_8 : decode cX6_move 8 = .ok (.invokestatic 206, 3) := by decide +kernel
theorem dX6_move_11 : decode cX6_move 11 = .ok (.ifCond .ne 9, 3) := by decide +kernel
theorem dX6_move_14 : decode cX6_move 14 = .ok (.aload_n 0, 1) := by decide +kernel
theorem dX6_move_15 : decode cX6_move 15 = .ok (.iconst 1, 1) := by decide +kernel
theorem dX6_move_16 : decode cX6_move 16 = .ok (.invokevirtual 86, 3) := by decide +kernel
theorem dX6_move_19 : decode cX6_move 19 = .ok (.ireturn, 1) := by decide +kernel
theorem dX6_move_20 : decode cX6_move 20 = .ok (.aload_n 0, 1) := by decide +kernel
theorem dX6_move_21 : decode cX6_move 21 = .ok (.getfield 70, 3) := by decide +kernel
theorem dX6_move_24 : decode cX6_move 24 = .ok (.iload_n 1, 1) := by decide +kernel
theorem dX6_move_25 : decode cX6_move 25 = .ok (.aaload, 1) := by decide +kernel
theorem dX6_move_26 : decode cX6_move 26 = .ok (.astore 6, 2) := by decide +kernel
theorem dX6_move_28 : decode cX6_move 28 = .ok (.aload_n 0, 1) := by decide +kernel
theorem dX6_move_29 : decode cX6_move 29 = .ok (.getfield 70, 3) := by decide +kernel
theorem dX6_move_32 : decode cX6_move 32 = .ok (.iload_n 3, 1) := by decide +kernel
theorem dX6_move_33 : decode cX6_move 33 = .ok (.aaload, 1) := by decide +kernel
theorem dX6_move_34 : decode cX6_move 34 = .ok (.astore 7, 2) := by decide +kernel
theorem dX6_move_36 : decode cX6_move 36 = .ok (.aload 6, 2) := by decide +kernel
theorem dX6_move_38 : decode cX6_move 38 = .ok (.invokevirtual 209, 3) := by decide +kernel
theorem dX6_move_41 : decode cX6_move 41 = .ok (.ifCond .ne 11, 3) := by decide +kernel
theorem dX6_move_44 : decode cX6_move 44 = .ok (.aload 7, 2) := by decide +kernel
theorem dX6_move_46 : decode cX6_move 46 = .ok (.invokevirtual 209, 3) := by decide +kernel
theorem dX6_move_49 : decode cX6_move 49 = .ok (.ifCond .eq 9, 3) := by decide +kernel
theorem dX6_move_52 : decode cX6_move 52 = .ok (.aload_n 0, 1) := by decide +kernel
theorem dX6_move_53 : decode cX6_move 53 = .ok (.iconst 2, 1) := by decide +kernel
theorem dX6_move_54 : decode cX6_move 54 = .ok (.invokevirtual 86, 3) := by decide +kernel
theorem dX6_move_57 : decode cX6_move 57 = .ok (.ireturn, 1) := by decide +kernel
theorem dX6_move_58 : decode cX6_move 58 = .ok (.aload 6, 2) := by decide +kernel
theorem dX6_move_60 : decode cX6_move 60 = .ok (.getfield 237, 3) := by decide +kernel
theorem dX6_move_63 : decode cX6_move 63 = .ok (.aload 7, 2) := by decide +kernel
theorem dX6_move_65 : decode cX6_move 65 = .ok (.getfield 237, 3) := by decide +kernel
theorem dX6_move_68 : decode cX6_move 68 = .ok (.if_icmp .eq 9, 3) := by decide +kernel
theorem dX6_move_71 : decode cX6_move 71 = .ok (.aload_n 0, 1) := by decide +kernel
theorem dX6_move_72 : decode cX6_move 72 = .ok (.iconst 5, 1) := by decide +kernel
theorem dX6_move_73 : decode cX6_move 73 = .ok (.invokevirtual 86, 3) := by decide +kernel
theorem dX6_move_76 : decode cX6_move 76 = .ok (.ireturn, 1) := by decide +kernel
theorem dX6_move_77 : decode cX6_move 77 = .ok (.aload 6, 2) := by decide +kernel
theorem dX6_move_79 : decode cX6_move 79 = .ok (.iload_n 2, 1) := by decide +kernel
theorem dX6_move_80 : decode cX6_move 80 = .ok (.iload 5, 2) := by decide +kernel
theorem dX6_move_82 : decode cX6_move 82 = .ok (.invokevirtual 240, 3) := by decide +kernel
theorem dX6_move_85 : decode cX6_move 85 = .ok (.ifCond .eq 15, 3) := by decide +kernel
theorem dX6_move_88 : decode cX6_move 88 = .ok (.aload 7, 2) := by decide +kernel
theorem dX6_move_90 : decode cX6_move 90 = .ok (.iload 4, 2) := by decide +kernel
theorem dX6_move_92 : decode cX6_move 92 = .ok (.iload 5, 2) := by decide +kernel
theorem dX6_move_94 : decode cX6_move 94 = .ok (.invokevirtual 240, 3) := by decide +kernel
theorem dX6_move_97 : decode cX6_move 97 = .ok (.ifCond .ne 9, 3) := by decide +kernel
theorem dX6_move_100 : decode cX6_move 100 = .ok (.aload_n 0, 1) := by decide +kernel
theorem dX6_move_101 : decode cX6_move 101 = .ok (.iconst 1, 1) := by decide +kernel
theorem dX6_move_102 : decode cX6_move 102 = .ok (.invokevirtual 86, 3) := by decide +kernel
theorem dX6_move_105 : decode cX6_move 105 = .ok (.ireturn, 1) := by decide +kernel
theorem dX6_move_106 : decode cX6_move 106 = .ok (.aload 6, 2) := by decide +kernel
theorem dX6_move_108 : decode cX6_move 108 = .ok (.getfield 243, 3) := by decide +kernel
theorem dX6_move_111 : decode cX6_move 111 = .ok (.iload_n 2, 1) := by decide +kernel
theorem dX6_move_112 : decode cX6_move 112 = .ok (.aload 7, 2) := by decide +kernel
theorem dX6_move_114 : decode cX6_move 114 = .ok (.getfield 243, 3) := by decide +kernel
theorem dX6_move_117 : decode cX6_move 117 = .ok (.iload 4, 2) := by decide +kernel
theorem dX6_move_119 : decode cX6_move 119 = .ok (.iload 5, 2) := by decide +kernel
theorem dX6_move_121 : decode cX6_move 121 = .ok (.invokestatic 246, 3) := by decide +kernel
theorem dX6_move_124 : decode cX6_move 124 = .ok (.iload 5, 2) := by decide +kernel
theorem dX6_move_126 : decode cX6_move 126 = .ok (.ireturn, 1) := by decide +kernel
theorem gX6_unders_X6_isSheet : GoodIn wsX6_unders (va_wsS RX6 206 yX6_isSheet wsX6_isSheet) := nw_gS nwl_X6_unders nwe_468 nwe_469 nwe_363 nwl_X6_isSheet (by decide +kernel)
theorem gX6_unders_X6_error : GoodIn wsX6_unders (wsV RX6 86 RX6 yX6_error wsX6_error) := nw_gV nwl_X6_unders nwe_372 nwe_373 nwe_374 nwe_363 nwl_X6_error (by decide +kernel)
theorem gX6_unders_X2_isMissing : GoodIn wsX6_unders (wsV RX6 209 RX2 yX2_isMissing wsX2_isMissing) := nw_gV nwl_X6_unders nwe_470 nwe_471 nwe_472 nwe_351 nwl_X2_isMissing (by decide +kernel)
theorem gX6_unders_X2_at : GoodIn wsX6_unders (wsV RX6 255 RX2 yX2_at wsX2_at) := nw_gV nwl_X6_unders nwe_500 nwe_501 nwe_502 nwe_351 nwl_X2_at (by decide +kernel)
theorem gX6_unders_X6_within : GoodIn wsX6_unders (va_wsS RX6 82 yX6_within wsX6_within) := nw_gS nwl_X6_unders nwe_361 nwe_362 nwe_363 nwl_X6_within (by decide +kernel)
theorem dX6_unders_0 : decode cX6_unders 0 = .ok (.iload_n 1, 1) := by decide +kernel
theorem dX6_unders_1 : decode cX6_unders 1 = .ok (.invokestatic 206, 3) := by decide +kernel
theorem dX6_unders_4 : decode cX6_unders 4 = .ok (.ifCond .ne 9, 3) := by decide +kernel
theorem dX6_unders_7 : decode cX6_unders 7 = .ok (.aload_n 0, 1) := by decide +kernel
theorem dX6_unders_8 : decode cX6_unders 8 = .ok (.iconst 1, 1) := by decide +kernel
theorem dX6_unders_9 : decode cX6_unders 9 = .ok (.invokevirtual 86, 3) := by decide +kernel
theorem dX6_unders_12 : decode cX6_unders 12 = .ok (.ireturn, 1) := by decide +kernel
theorem dX6_unders_13 : decode cX6_unders 13 = .ok (.aload_n 0, 1) := by decide +kernel
theorem dX6_unders_14 : decode cX6_unders 14 = .ok (.getfield 70, 3) := by decide +kernel
theorem dX6_unders_17 : decode cX6_unders 17 = .ok (.iload_n 1, 1) := by decide +kernel
theorem dX6_unders_18 : decode cX6_unders 18 = .ok (.aaload, 1) := by decide +kernel
theorem dX6_unders_19 : decode cX6_unders 19 = .ok (.astore_n 2, 1) := by decide +kernel
theorem dX6_unders_20 : decode cX6_unders 20 = .ok (.aload_n 2, 1) := by decide +kernel
theorem dX6_unders_21 : decode cX6_unders 21 = .ok (.invokevirtual 209, 3) := by decide +kernel
theorem dX6_unders_24 : decode cX6_unders 24 = .ok (.ifCond .eq 9, 3) := by decide +kernel
theorem dX6_unders_27 : decode cX6_unders 27 = .ok (.aload_n 0, 1) := by decide +kernel
theorem dX6_unders_28 : decode cX6_unders 28 = .ok (.iconst 2, 1) := by decide +kernel
theorem dX6_unders_29 : decode cX6_unders 29 = .ok (.invokevirtual 86, 3) := by decide +kernel
theorem dX6_unders_32 : decode cX6_unders 32 = .ok (.ireturn, 1) := by decide +kernel
theorem dX6_unders_33 : decode cX6_unders 33 = .ok (.iconst 0, 1) := by decide +kernel
theorem dX6_unders_34 : decode cX6_unders 34 = .ok (.istore_n 3, 1) := by decide +kernel
theorem dX6_unders_35 : decode cX6_unders 35 = .ok (.aload_n 2, 1) := by decide +kernel
theorem dX6_unders_36 : decode cX6_unders 36 = .ok (.getfield 212, 3) := by decide +kernel
theorem dX6_unders_39 : decode cX6_unders 39 = .ok (.bipush 16, 2) := by decide +kernel
theorem dX6_unders_41 : decode cX6_unders 41 = .ok (.invokestatic 252, 3) := by decide +kernel
theorem dX6_unders_44 : decode cX6_unders 44 = .ok (.istore 4, 2) := by decide +kernel
theorem dX6_unders_46 : decode cX6_unders 46 = .ok (.iload_n 3, 1) := by decide +kernel
theorem dX6_unders_47 : decode cX6_unders 47 = .ok (.iload 4, 2) := by decide +kernel
theorem dX6_unders_49 : decode cX6_unders 49 = .ok (.if_icmp .ge 38, 3) := by decide +kernel
theorem dX6_unders_52 : decode cX6_unders 52 = .ok (.aload_n 2, 1) := by decide +kernel
theorem dX6_unders_53 : decode cX6_unders 53 = .ok (.iload_n 3, 1) := by decide +kernel
theorem dX6_unders_54 : decode cX6_unders 54 = .ok (.invokevirtual 255, 3) := by decide +kernel
theorem dX6_unders_57 : decode cX6_unders 57 = .ok (.iconst 0, 1) := by decide +kernel
theorem dX6_unders_58 : decode cX6_unders 58 = .ok (.sipush 999, 3) := by decide +kernel
theorem dX6_unders_61 : decode cX6_unders 61 = .ok (.invokestatic 82, 3) := by decide +kernel
theorem dX6_unders_64 : decode cX6_unders 64 = .ok (.ifCond .eq 23, 3) := by decide +kernel
theorem dX6_unders_67 : decode cX6_unders 67 = .ok (.aload_n 0, 1) := by decide +kernel
theorem dX6_unders_68 : decode cX6_unders 68 = .ok (.getfield 10, 3) := by decide +kernel
theorem dX6_unders_71 : decode cX6_unders 71 = .ok (.getfield 96, 3) := by decide +kernel
theorem dX6_unders_74 : decode cX6_unders 74 = .ok (.iload_n 3, 1) := by decide +kernel
theorem dX6_unders_75 : decode cX6_unders 75 = .ok (.aload_n 2, 1) := by decide +kernel
theorem dX6_unders_76 : decode cX6_unders 76 = .ok (.iload_n 3, 1) := by decide +kernel
theorem dX6_unders_77 : decode cX6_unders 77 = .ok (.invokevirtual 255, 3) := by decide +kernel
theorem dX6_unders_80 : decode cX6_unders 80 = .ok (.iastore, 1) := by decide +kernel
theorem dX6_unders_81 : decode cX6_unders 81 = .ok (.iinc 3 1, 3) := by decide +kernel
theorem dX6_unders_84 : decode cX6_unders 84 = .ok (.goto (-38), 3) := by decide +kernel
theorem dX6_unders_87 : decode cX6_unders 87 = .ok (.iload_n 3, 1) := by decide +kernel
theorem dX6_unders_88 : decode cX6_unders 88 = .ok (.ireturn, 1) := by decide +kernel
theorem gX6_judge_X6_isSheet : GoodIn wsX6_judge (va_wsS RX6 206 yX6_isSheet wsX6_isSheet) := nw_gS nwl_X6_judge nwe_468 nwe_469 nwe_363 nwl_X6_isSheet (by decide +kernel)
theorem gX6_judge_X6_error : GoodIn wsX6_judge (wsV RX6 86 RX6 yX6_error wsX6_error) := nw_gV nwl_X6_judge nwe_372 nwe_373 nwe_374 nwe_363 nwl_X6_error (by decide +kernel)
theorem gX6_judge_X2_isMissing : GoodIn wsX6_judge (wsV RX6 209 RX2 yX2_isMissing wsX2_isMissing) := nw_gV nwl_X6_judge nwe_470 nwe_471 nwe_472 nwe_351 nwl_X2_isMissing (by decide +kernel)
theorem gX6_judge_X5_takeFrom : GoodIn wsX6_judge (wsV RX6 178 RX5 yX5_takeFrom wsX5_takeFrom) := nw_gV nwl_X6_judge nwe_430 nwe_431 nwe_432 nwe_259 nwl_X5_takeFrom (by decide +kernel)
theorem gX6_judge_X2_at : GoodIn wsX6_judge (wsV RX6 255 RX2 yX2_at wsX2_at) := nw_gV nwl_X6_judge nwe_500 nwe_501 nwe_502 nwe_351 nwl_X2_at (by decide +kernel)
theorem gX6_judge_X5_oneDay : GoodIn wsX6_judge (wsV RX6 172 RX5 yX5_oneDay wsX5_oneDay) := nw_gV nwl_X6_judge nwe_426 nwe_323 nwe_324 nwe_259 nwl_X5_oneDay (by decide +kernel)
theorem dX6_judge_0 : decode cX6_judge 0 = .ok (.iload_n 1, 1) := by decide +kernel
theorem dX6_judge_1 : decode cX6_judge 1 = .ok (.invokestatic 206, 3) := by decide +kernel
theorem dX6_judge_4 : decode cX6_judge 4 = .ok (.ifCond .ne 9, 3) := by decide +kernel
theorem dX6_judge_7 : decode cX6_judge 7 = .ok (.aload_n 0, 1) := by decide +kernel
theorem dX6_judge_8 : decode cX6_judge 8 = .ok (.iconst 1, 1) := by decide +kernel
theorem dX6_judge_9 : decode cX6_judge 9 = .ok (.invokevirtual 86, 3) := by decide +kernel
theorem dX6_judge_12 : decode cX6_judge 12 = .ok (.ireturn, 1) := by decide +kernel
theorem dX6_judge_13 : decode cX6_judge 13 = .ok (.aload_n 0, 1) := by decide +kernel
theorem dX6_judge_14 : decode cX6_judge 14 = .ok (.getfield 70, 3) := by decide +kernel
theorem dX6_judge_17 : decode cX6_judge 17 = .ok (.iload_n 1, 1) := by decide +kernel
theorem dX6_judge_18 : decode cX6_judge 18 = .ok (.aaload, 1) := by decide +kernel
theorem dX6_judge_19 : decode cX6_judge 19 = .ok (.astore_n 2, 1) := by decide +kernel
theorem dX6_judge_20 : decode cX6_judge 20 = .ok (.aload_n 2, 1) := by decide +kernel
theorem dX6_judge_21 : decode cX6_judge 21 = .ok (.invokevirtual 209, 3) := by decide +kernel
theorem dX6_judge_24 : decode cX6_judge 24 = .ok (.ifCond .eq 9, 3) := by decide +kernel
theorem dX6_judge_27 : decode cX6_judge 27 = .ok (.aload_n 0, 1) := by decide +kernel
theorem dX6_judge_28 : decode cX6_judge 28 = .ok (.iconst 2, 1) := by decide +kernel
theorem dX6_judge_29 : decode cX6_judge 29 = .ok (.invokevirtual 86, 3) := by decide +kernel
theorem dX6_judge_32 : decode cX6_judge 32 = .ok (.ireturn, 1) := by decide +kernel
theorem dX6_judge_33 : decode cX6_judge 33 = .ok (.aload_n 0, 1) := by decide +kernel
theorem dX6_judge_34 : decode cX6_judge 34 = .ok (.getfield 41, 3) := by decide +kernel
theorem dX6_judge_37 : decode cX6_judge 37 = .ok (.aload_n 0, 1) := by decide +kernel
theorem dX6_judge_38 : decode cX6_judge 38 = .ok (.getfield 10, 3) := by decide +kernel
theorem dX6_judge_41 : decode cX6_judge 41 = .ok (.invokevirtual 178, 3) := by decide +kernel
theorem dX6_judge_44 : decode cX6_judge 44 = .ok (.iconst 0, 1) := by decide +kernel
theorem dX6_judge_45 : decode cX6_judge 45 = .ok (.istore_n 3, 1) := by decide +kernel
theorem dX6_judge_46 : decode cX6_judge 46 = .ok (.iload_n 3, 1) := by decide +kernel
theorem dX6_judge_47 : decode cX6_judge 47 = .ok (.aload_n 2, 1) := by decide +kernel
theorem dX6_judge_48 : decode cX6_judge 48 = .ok (.getfield 212, 3) := by decide +kernel
theorem dX6_judge_51 : decode cX6_judge 51 = .ok (.if_icmp .ge 35, 3) := by decide +kernel
theorem dX6_judge_54 : decode cX6_judge 54 = .ok (.aload_n 2, 1) := by decide +kernel
theorem dX6_judge_55 : decode cX6_judge 55 = .ok (.iload_n 3, 1) := by decide +kernel
theorem dX6_judge_56 : decode cX6_judge 56 = .ok (.invokevirtual 255, 3) := by decide +kernel
theorem dX6_judge_59 : decode cX6_judge 59 = .ok (.aload_n 0, 1) := by decide +kernel
theorem dX6_judge_60 : decode cX6_judge 60 = .ok (.getfield 41, 3) := by decide +kernel
theorem dX6_judge_63 : decode cX6_judge 63 = .ok (.getfield 129, 3) := by decide +kernel
theorem dX6_judge_66 : decode cX6_judge 66 = .ok (.if_icmp .eq 5, 3) := by decide +kernel
theorem dX6_judge_69 : decode cX6_judge 69 = .ok (.iload_n 3, 1) := by decide +kernel
theorem dX6_judge_70 : decode cX6_judge 70 = .ok (.ireturn, 1) := by decide +kernel
theorem dX6_judge_71 : decode cX6_judge 71 = .ok (.aload_n 0, 1) := by decide +kernel
theorem dX6_judge_72 : decode cX6_judge 72 = .ok (.getfield 41, 3) := by decide +kernel
theorem dX6_judge_75 : decode cX6_judge 75 = .ok (.iconst (-1), 1) := by decide +kernel
theorem dX6_judge_76 : decode cX6_judge 76 = .ok (.invokevirtual 172, 3) := by decide +kernel
theorem dX6_judge_79 : decode cX6_judge 79 = .ok (.pop, 1) := by decide +kernel
theorem dX6_judge_80 : decode cX6_judge 80 = .ok (.iinc 3 1, 3) := by decide +kernel
theorem dX6_judge_83 : decode cX6_judge 83 = .ok (.goto (-37), 3) := by decide +kernel
theorem dX6_judge_86 : decode cX6_judge 86 = .ok (.aload_n 2, 1) := by decide +kernel
theorem dX6_judge_87 : decode cX6_judge 87 = .ok (.getfield 212, 3) := by decide +kernel
theorem dX6_judge_90 : decode cX6_judge 90 = .ok (.ireturn, 1) := by decide +kernel
theorem gX6_image_X5_takeFrom : GoodIn wsX6_image (wsV RX6 178 RX5 yX5_takeFrom wsX5_takeFrom) := nw_gV nwl_X6_image nwe_430 nwe_431 nwe_432 nwe_259 nwl_X5_takeFrom (by decide +kernel)
theorem gX6_image_X1_takeFrom : GoodIn wsX6_image (wsV RX6 155 RX1 yX1_takeFrom wsX1_takeFrom) := nw_gV nwl_X6_image nwe_414 nwe_158 nwe_159 nwe_87 nwl_X1_takeFrom (by decide +kernel)
theorem dX6_image_0 : decode cX6_image 0 = .ok (.aload_n 0, 1) := by decide +kernel
theorem dX6_image_1 : decode cX6_image 1 = .ok (.getfield 28, 3) := by decide +kernel
theorem dX6_image_4 : decode cX6_image 4 = .ok (.aload_n 0, 1) := by decide +kernel
theorem dX6_image_5 : decode cX6_image 5 = .ok (.getfield 10, 3) := by decide +kernel
theorem dX6_image_8 : decode cX6_image 8 = .ok (.invokevirtual 178, 3) := by decide +kernel
theorem dX6_image_11 : decode cX6_image 11 = .ok (.aload_n 0, 1) := by decide +kernel
theorem dX6_image_12 : decode cX6_image 12 = .ok (.getfield 31, 3) := by decide +kernel
theorem dX6_image_15 : decode cX6_image 15 = .ok (.aload_n 0, 1) := by decide +kernel
theorem dX6_image_16 : decode cX6_image 16 = .ok (.getfield 21, 3) := by decide +kernel
theorem dX6_image_19 : decode cX6_image 19 = .ok (.invokevirtual 155, 3) := by decide +kernel
theorem dX6_image_22 : decode cX6_image 22 = .ok (.aload_n 0, 1) := by decide +kernel
theorem dX6_image_23 : decode cX6_image 23 = .ok (.getfield 34, 3) := by decide +kernel
theorem dX6_image_26 : decode cX6_image 26 = .ok (.aload_n 0, 1) := by decide +kernel
theorem dX6_image_27 : decode cX6_image 27 = .ok (.getfield 25, 3) := by decide +kernel
theorem dX6_image_30 : decode cX6_image 30 = .ok (.invokevirtual 155, 3) := by decide +kernel
theorem dX6_image_33 : decode cX6_image 33 = .ok (.aload_n 0, 1) := by decide +kernel
theorem dX6_image_34 : decode cX6_image 34 = .ok (.dup, 1) := by decide +kernel
theorem dX6_image_35 : decode cX6_image 35 = .ok (.getfield 37, 3) := by decide +kernel
theorem dX6_image_38 : decode cX6_image 38 = .ok (.iconst 1, 1) := by decide +kernel
theorem dX6_image_39 : decode cX6_image 39 = .ok (.iadd, 1) := by decide +kernel
theorem dX6_image_40 : decode cX6_image 40 = .ok (.putfield 37, 3) := by decide +kernel
theorem dX6_image_43 : decode cX6_image 43 = .ok (.aload_n 0, 1) := by decide +kernel
theorem dX6_image_44 : decode cX6_image 44 = .ok (.getfield 37, 3) := by decide +kernel
theorem dX6_image_47 : decode cX6_image 47 = .ok (.ireturn, 1) := by decide +kernel
theorem gX6_restore_X6_error : GoodIn wsX6_restore (wsV RX6 86 RX6 yX6_error wsX6_error) := nw_gV nwl_X6_restore nwe_372 nwe_373 nwe_374 nwe_363 nwl_X6_error (by decide +kernel)
theorem gX6_restore_X5_takeFrom : GoodIn wsX6_restore (wsV RX6 178 RX5 yX5_takeFrom wsX5_takeFrom) := nw_gV nwl_X6_restore nwe_430 nwe_431 nwe_432 nwe_259 nwl_X5_takeFrom (by decide +kernel)
theorem gX6_restore_X1_takeFrom : GoodIn wsX6_restore (wsV RX6 155 RX1 yX1_takeFrom wsX1_takeFrom) := nw_gV nwl_X6_restore nwe_414 nwe_158 nwe_159 nwe_87 nwl_X1_takeFrom (by decide +kernel)
theorem dX6_restore_0 : decode cX6_restore 0 = .ok (.aload_n 0, 1) := by decide +kernel
theorem dX6_restore_1 : decode cX6_restore 1 = .ok (.getfield 37, 3) := by decide +kernel
theorem dX6_restore_4 : decode cX6_restore 4 = .ok (.ifCond .ne 9, 3) := by decide +kernel
theorem dX6_restore_7 : decode cX6_restore 7 = .ok (.aload_n 0, 1) := by decide +kernel
theorem dX6_restore_8 : decode cX6_restore 8 = .ok (.iconst 2, 1) := by decide +kernel
theorem dX6_restore_9 : decode cX6_restore 9 = .ok (.invokevirtual 86, 3) := by decide +kernel
theorem dX6_restore_12 : decode cX6_restore 12 = .ok (.ireturn, 1) := by decide +kernel
theorem dX6_restore_13 : decode cX6_restore 13 = .ok (.aload_n 0, 1) := by decide +kernel
theorem dX6_restore_14 : decode cX6_restore 14 = .ok (.getfield 10, 3) := by decide +kernel
theorem dX6_restore_17 : decode cX6_restore 17 = .ok (.aload_n 0, 1) := by decide +kernel
theorem dX6_restore_18 : decode cX6_restore 18 = .ok (.getfield 28, 3) := by decide +kernel
theorem dX6_restore_21 : decode cX6_restore 21 = .ok (.invokevirtual 178, 3) := by decide +kernel
theorem dX6_restore_24 : decode cX6_restore 24 = .ok (.aload_n 0, 1) := by decide +kernel
theorem dX6_restore_25 : decode cX6_restore 25 = .ok (.getfield 21, 3) := by decide +kernel
theorem dX6_restore_28 : decode cX6_restore 28 = .ok (.aload_n 0, 1) := by decide +kernel
theorem dX6_restore_29 : decode cX6_restore 29 = .ok (.getfield 31, 3) := by decide +kernel
theorem dX6_restore_32 : decode cX6_restore 32 = .ok (.invokevirtual 155, 3) := by decide +kernel
theorem dX6_restore_35 : decode cX6_restore 35 = .ok (.aload_n 0, 1) := by decide +kernel
theorem dX6_restore_36 : decode cX6_restore 36 = .ok (.getfield 25, 3) := by decide +kernel
theorem dX6_restore_39 : decode cX6_restore 39 = .ok (.aload_n 0, 1) := by decide +kernel
theorem dX6_restore_40 : decode cX6_restore 40 = .ok (.getfield 34, 3) := by decide +kernel
theorem dX6_restore_43 : decode cX6_restore 43 = .ok (.invokevirtual 155, 3) := by decide +kernel
theorem dX6_restore_46 : decode cX6_restore 46 = .ok (.aload_n 0, 1) := by decide +kernel
theorem dX6_restore_47 : decode cX6_restore 47 = .ok (.getfield 10, 3) := by decide +kernel
theorem dX6_restore_50 : decode cX6_restore 50 = .ok (.getfield 163, 3) := by decide +kernel
theorem dX6_restore_53 : decode cX6_restore 53 = .ok (.ireturn, 1) := by decide +kernel
theorem gX6_tell_X6_error : GoodIn wsX6_tell (wsV RX6 86 RX6 yX6_error wsX6_error) := nw_gV nwl_X6_tell nwe_372 nwe_373 nwe_374 nwe_363 nwl_X6_error (by decide +kernel)
theorem gX6_tell_X1_append : GoodIn wsX6_tell (wsV RX6 138 RX1 yX1_append wsX1_append) := nw_gV nwl_X6_tell nwe_405 nwe_116 nwe_117 nwe_87 nwl_X1_append (by decide +kernel)
theorem dX6_tell_0 : decode cX6_tell 0 = .ok (.aload_n 0, 1) := by decide +kernel
theorem dX6_tell_1 : decode cX6_tell 1 = .ok (.getfield 25, 3) := by decide +kernel
theorem dX6_tell_4 : decode cX6_tell 4 = .ok (.getfield 135, 3) := by decide +kernel
theorem dX6_tell_7 : decode cX6_tell 7 = .ok (.bipush 24, 2) := by decide +kernel
theorem dX6_tell_9 : decode cX6_tell 9 = .ok (.if_icmp .lt 9, 3) := by decide +kernel
theorem dX6_tell_12 : decode cX6_tell 12 = .ok (.aload_n 0, 1) := by decide +kernel
theorem dX6_tell_13 : decode cX6_tell 13 = .ok (.iconst 4, 1) := by decide +kernel
theorem dX6_tell_14 : decode cX6_tell 14 = .ok (.invokevirtual 86, 3) := by decide +kernel
theorem dX6_tell_17 : decode cX6_tell 17 = .ok (.ireturn, 1) := by decide +kernel
theorem dX6_tell_18 : decode cX6_tell 18 = .ok (.aload_n 0, 1) := by decide +kernel
theorem dX6_tell_19 : decode cX6_tell 19 = .ok (.getfield 25, 3) := by decide +kernel
theorem dX6_tell_22 : decode cX6_tell 22 = .ok (.iload_n 1, 1) := by decide +kernel
theorem dX6_tell_23 : decode cX6_tell 23 = .ok (.invokevirtual 138, 3) := by decide +kernel
theorem dX6_tell_26 : decode cX6_tell 26 = .ok (.aload_n 0, 1) := by decide +kernel
theorem dX6_tell_27 : decode cX6_tell 27 = .ok (.getfield 25, 3) := by decide +kernel
theorem dX6_tell_30 : decode cX6_tell 30 = .ok (.getfield 135, 3) := by decide +kernel
theorem dX6_tell_33 : decode cX6_tell 33 = .ok (.ireturn, 1) := by decide +kernel
theorem gX6_check_X5_takeFrom : GoodIn wsX6_check (wsV RX6 178 RX5 yX5_takeFrom wsX5_takeFrom) := nw_gV nwl_X6_check nwe_430 nwe_431 nwe_432 nwe_259 nwl_X5_takeFrom (by decide +kernel)
theorem gX6_check_X5_oneDay : GoodIn wsX6_check (wsV RX6 172 RX5 yX5_oneDay wsX5_oneDay) := nw_gV nwl_X6_check nwe_426 nwe_323 nwe_324 nwe_259 nwl_X5_oneDay (by decide +kernel)
theorem dX6_check_0 : decode cX6_check 0 = .ok (.aload_n 0, 1) := by decide +kernel
theorem dX6_check_1 : decode cX6_check 1 = .ok (.getfield 25, 3) := by decide +kernel
theorem dX6_check_4 : decode cX6_check 4 = .ok (.getfield 135, 3) := by decide +kernel
theorem dX6_check_7 : decode cX6_check 7 = .ok (.istore_n 1, 1) := by decide +kernel
theorem dX6_check_8 : decode cX6_check 8 = .ok (.aload_n 0, 1) := by decide +kernel
theorem dX6_check_9 : decode cX6_check 9 = .ok (.getfield 25, 3) := by decide +kernel
theorem dX6_check_12 : decode cX6_check 12 = .ok (.iconst 0, 1) := by decide +kernel
theorem dX6_check_13 : decode cX6_check 13 = .ok (.putfield 135, 3) := by decide +kernel
theorem dX6_check_16 : decode cX6_check 16 = .ok (.aload_n 0, 1) := by decide +kernel
theorem dX6_check_17 : decode cX6_check 17 = .ok (.getfield 41, 3) := by decide +kernel
theorem dX6_check_20 : decode cX6_check 20 = .ok (.aload_n 0, 1) := by decide +kernel
theorem dX6_check_21 : decode cX6_check 21 = .ok (.getfield 10, 3) := by decide +kernel
theorem dX6_check_24 : decode cX6_check 24 = .ok (.invokevirtual 178, 3) := by decide +kernel
theorem dX6_check_27 : decode cX6_check 27 = .ok (.iconst 0, 1) := by decide +kernel
theorem dX6_check_28 : decode cX6_check 28 = .ok (.istore_n 2, 1) := by decide +kernel
theorem dX6_check_29 : decode cX6_check 29 = .ok (.iload_n 2, 1) := by decide +kernel
theorem dX6_check_30 : decode cX6_check 30 = .ok (.iload_n 1, 1) := by decide +kernel
theorem dX6_check_31 : decode cX6_check 31 = .ok (.if_icmp .ge 33, 3) := by decide +kernel
theorem dX6_check_34 : decode cX6_check 34 = .ok (.aload_n 0, 1) := by decide +kernel
theorem dX6_check_35 : decode cX6_check 35 = .ok (.getfield 25, 3) := by decide +kernel
theorem dX6_check_38 : decode cX6_check 38 = .ok (.getfield 256, 3) := by decide +kernel
theorem dX6_check_41 : decode cX6_check 41 = .ok (.iload_n 2, 1) := by decide +kernel
theorem dX6_check_42 : decode cX6_check 42 = .ok (.iaload, 1) := by decide +kernel
theorem dX6_check_43 : decode cX6_check 43 = .ok (.aload_n 0, 1) := by decide +kernel
theorem dX6_check_44 : decode cX6_check 44 = .ok (.getfield 41, 3) := by decide +kernel
theorem dX6_check_47 : decode cX6_check 47 = .ok (.iconst (-1), 1) := by decide +kernel
theorem dX6_check_48 : decode cX6_check 48 = .ok (.invokevirtual 172, 3) := by decide +kernel
theorem dX6_check_51 : decode cX6_check 51 = .ok (.if_icmp .eq 7, 3) := by decide +kernel
theorem dX6_check_54 : decode cX6_check 54 = .ok (.iconst 1, 1) := by decide +kernel
theorem dX6_check_55 : decode cX6_check 55 = .ok (.iload_n 2, 1) := by decide +kernel
theorem dX6_check_56 : decode cX6_check 56 = .ok (.iadd, 1) := by decide +kernel
theorem dX6_check_57 : decode cX6_check 57 = .ok (.ireturn, 1) := by decide +kernel
theorem dX6_check_58 : decode cX6_check 58 = .ok (.iinc 2 1, 3) := by decide +kernel
theorem dX6_check_61 : decode cX6_check 61 = .ok (.goto (-32), 3) := by decide +kernel
theorem dX6_check_64 : decode cX6_check 64 = .ok (.iconst 0, 1) := by decide +kernel
theorem dX6_check_65 : decode cX6_check 65 = .ok (.ireturn, 1) := by decide +kernel
theorem gX6_count_X5_whoHasIt : GoodIn wsX6_count (wsV RX6 192 RX5 yX5_whoHasIt wsX5_whoHasIt) := nw_gV nwl_X6_count nwe_444 nwe_307 nwe_308 nwe_259 nwl_X5_whoHasIt (by decide +kernel)
theorem gX6_count_X6_sum : GoodIn wsX6_count (va_wsS RX6 181 yX6_sum wsX6_sum) := nw_gS nwl_X6_count nwe_435 nwe_436 nwe_363 nwl_X6_sum (by decide +kernel)
theorem gX6_count_X6_error : GoodIn wsX6_count (wsV RX6 86 RX6 yX6_error wsX6_error) := nw_gV nwl_X6_count nwe_372 nwe_373 nwe_374 nwe_363 nwl_X6_error (by decide +kernel)
theorem dX6_count_0 : decode cX6_count 0 = .ok (.iload_n 1, 1) := by decide +kernel
theorem dX6_count_1 : decode cX6_count 1 = .ok (.tableswitch 171 0 11 #[63, 71, 79, 87, 95, 103, 114, 125, 136, 144, 152, 163], 63) := by decide +kernel
theorem dX6_count_64 : decode cX6_count 64 = .ok (.aload_n 0, 1) := by decide +kernel
theorem dX6_count_65 : decode cX6_count 65 = .ok (.getfield 10, 3) := by decide +kernel
theorem dX6_count_68 : decode cX6_count 68 = .ok (.getfield 163, 3) := by decide +kernel
theorem dX6_count_71 : decode cX6_count 71 = .ok (.ireturn, 1) := by decide +kernel
theorem dX6_count_72 : decode cX6_count 72 = .ok (.aload_n 0, 1) := by decide +kernel
theorem dX6_count_73 : decode cX6_count 73 = .ok (.getfield 10, 3) := by decide +kernel
theorem dX6_count_76 : decode cX6_count 76 = .ok (.invokevirtual 192, 3) := by decide +kernel
theorem dX6_count_79 : decode cX6_count 79 = .ok (.ireturn, 1) := by decide +kernel
theorem dX6_count_80 : decode cX6_count 80 = .ok (.aload_n 0, 1) := by decide +kernel
theorem dX6_count_81 : decode cX6_count 81 = .ok (.getfield 10, 3) := by decide +kernel
theorem dX6_count_84 : decode cX6_count 84 = .ok (.getfield 129, 3) := by decide +kernel
theorem dX6_count_87 : decode cX6_count 87 = .ok (.ireturn, 1) := by decide +kernel
theorem dX6_count_88 : decode cX6_count 88 = .ok (.aload_n 0, 1) := by decide +kernel
theorem dX6_count_89 : decode cX6_count 89 = .ok (.getfield 10, 3) := by decide +kernel
theorem dX6_count_92 : decode cX6_count 92 = .ok (.getfield 132, 3) := by decide +kernel
theorem dX6_count_95 : decode cX6_count 95 = .ok (.ireturn, 1) := by decide +kernel
theorem dX6_count_96 : decode cX6_count 96 = .ok (.aload_n 0, 1) := by decide +kernel
theorem dX6_count_97 : decode cX6_count 97 = .ok (.getfield 10, 3) := by decide +kernel
theorem dX6_count_100 : decode cX6_count 100 = .ok (.getfield 102, 3) := by decide +kernel
theorem dX6_count_103 : decode cX6_count 103 = .ok (.ireturn, 1) := by decide +kernel
theorem dX6_count_104 : decode cX6_count 104 = .ok (.aload_n 0, 1) := by decide +kernel
theorem dX6_count_105 : decode cX6_count 105 = .ok (.getfield 10, 3) := by decide +kernel
theorem dX6_count_108 : decode cX6_count 108 = .ok (.getfield 96, 3) := by decide +kernel
theorem dX6_count_111 : decode cX6_count 111 = .ok (.invokestatic 181, 3) := by decide +kernel
theorem dX6_count_114 : decode cX6_count 114 = .ok (.ireturn, 1) := by decide +kernel
theorem dX6_count_115 : decode cX6_count 115 = .ok (.aload_n 0, 1) := by decide +kernel
theorem dX6_count_116 : decode cX6_count 116 = .ok (.getfield 10, 3) := by decide +kernel
theorem dX6_count_119 : decode cX6_count 119 = .ok (.getfield 195, 3) := by decide +kernel
theorem dX6_count_122 : decode cX6_count 122 = .ok (.invokestatic 181, 3) := by decide +kernel
theorem dX6_count_125 : decode cX6_count 125 = .ok (.ireturn, 1) := by decide +kernel
theorem dX6_count_126 : decode cX6_count 126 = .ok (.aload_n 0, 1) := by decide +kernel
theorem dX6_count_127 : decode cX6_count 127 = .ok (.getfield 10, 3) := by decide +kernel
theorem dX6_count_130 : decode cX6_count 130 = .ok (.getfield 257, 3) := by decide +kernel
theorem dX6_count_133 : decode cX6_count 133 = .ok (.invokestatic 181, 3) := by decide +kernel
theorem dX6_count_136 : decode cX6_count 136 = .ok (.ireturn, 1) := by decide +kernel
theorem dX6_count_137 : decode cX6_count 137 = .ok (.aload_n 0, 1) := by decide +kernel
theorem dX6_count_138 : decode cX6_count 138 = .ok (.getfield 21, 3) := by decide +kernel
theorem dX6_count_141 : decode cX6_count 141 = .ok (.getfield 135, 3) := by decide +kernel
theorem dX6_count_144 : decode cX6_count 144 = .ok (.ireturn, 1) := by decide +kernel
theorem dX6_count_145 : decode cX6_count 145 = .ok (.aload_n 0, 1) := by decide +kernel
theorem dX6_count_146 : decode cX6_count 146 = .ok (.getfield 25, 3) := by decide +kernel
theorem dX6_count_149 : decode cX6_count 149 = .ok (.getfield 135, 3) := by decide +kernel
theorem dX6_count_152 : decode cX6_count 152 = .ok (.ireturn, 1) := by decide +kernel
theorem dX6_count_153 : decode cX6_count 153 = .ok (.aload_n 0, 1) := by decide +kernel
theorem dX6_count_154 : decode cX6_count 154 = .ok (.getfield 64, 3) := by decide +kernel
theorem dX6_count_157 : decode cX6_count 157 = .ok (.getfield 225, 3) := by decide +kernel
theorem dX6_count_160 : decode cX6_count 160 = .ok (.getfield 135, 3) := by decide +kernel
theorem dX6_count_163 : decode cX6_count 163 = .ok (.ireturn, 1) := by decide +kernel
theorem dX6_count_164 : decode cX6_count 164 = .ok (.aload_n 0, 1) := by decide +kernel
theorem dX6_count_165 : decode cX6_count 165 = .ok (.getfield 10, 3) := by decide +kernel
theorem dX6_count_168 : decode cX6_count 168 = .ok (.getfield 175, 3) := by decide +kernel
theorem dX6_count_171 : decode cX6_count 171 = .ok (.ireturn, 1) := by decide +kernel
theorem dX6_count_172 : decode cX6_count 172 = .ok (.aload_n 0, 1) := by decide +kernel
theorem dX6_count_173 : decode cX6_count 173 = .ok (.iconst 1, 1) := by decide +kernel
theorem dX6_count_174 : decode cX6_count 174 = .ok (.invokevirtual 86, 3) := by decide +kernel
theorem dX6_count_177 : decode cX6_count 177 = .ok (.ireturn, 1) := by decide +kernel
theorem gX6_told_X6_within : GoodIn wsX6_told (va_wsS RX6 82 yX6_within wsX6_within) := nw_gS nwl_X6_told nwe_361 nwe_362 nwe_363 nwl_X6_within (by decide +kernel)
theorem gX6_told_X6_error : GoodIn wsX6_told (wsV RX6 86 RX6 yX6_error wsX6_error) := nw_gV nwl_X6_told nwe_372 nwe_373 nwe_374 nwe_363 nwl_X6_error (by decide +kernel)
theorem dX6_told_0 : decode cX6_told 0 = .ok (.iload_n 1, 1) := by decide +kernel
theorem dX6_told_1 : decode cX6_told 1 = .ok (.iconst 1, 1) := by decide +kernel
theorem dX6_told_2 : decode cX6_told 2 = .ok (.bipush 6, 2) := by decide +kernel
theorem dX6_told_4 : decode cX6_told 4 = .ok (.invokestatic 82, 3) := by decide +kernel
theorem dX6_told_7 : decode cX6_told 7 = .ok (.ifCond .ne 9, 3) := by decide +kernel
theorem dX6_told_10 : decode cX6_told 10 = .ok (.aload_n 0, 1) := by decide +kernel
theorem dX6_told_11 : decode cX6_told 11 = .ok (.iconst 1, 1) := by decide +kernel
theorem dX6_told_12 : decode cX6_told 12 = .ok (.invokevirtual 86, 3) := by decide +kernel
theorem dX6_told_15 : decode cX6_told 15 = .ok (.ireturn, 1) := by decide +kernel
theorem dX6_told_16 : decode cX6_told 16 = .ok (.aload_n 0, 1) := by decide +kernel
theorem dX6_told_17 : decode cX6_told 17 = .ok (.getfield 74, 3) := by decide +kernel
theorem dX6_told_20 : decode cX6_told 20 = .ok (.iload_n 1, 1) := by decide +kernel
theorem dX6_told_21 : decode cX6_told 21 = .ok (.iaload, 1) := by decide +kernel
theorem dX6_told_22 : decode cX6_told 22 = .ok (.ireturn, 1) := by decide +kernel
theorem dX6_error_0 : decode cX6_error 0 = .ok (.aload_n 0, 1) := by decide +kernel
theorem dX6_error_1 : decode cX6_error 1 = .ok (.getfield 74, 3) := by decide +kernel
theorem dX6_error_4 : decode cX6_error 4 = .ok (.iload_n 1, 1) := by decide +kernel
theorem dX6_error_5 : decode cX6_error 5 = .ok (.dup2, 1) := by decide +kernel
theorem dX6_error_6 : decode cX6_error 6 = .ok (.iaload, 1) := by decide +kernel
theorem dX6_error_7 : decode cX6_error 7 = .ok (.iconst 1, 1) := by decide +kernel
theorem dX6_error_8 : decode cX6_error 8 = .ok (.iadd, 1) := by decide +kernel
theorem dX6_error_9 : decode cX6_error 9 = .ok (.iastore, 1) := by decide +kernel
theorem dX6_error_10 : decode cX6_error 10 = .ok (.ldc_w 260, 3) := by decide +kernel
theorem dX6_error_13 : decode cX6_error 13 = .ok (.iload_n 1, 1) := by decide +kernel
theorem dX6_error_14 : decode cX6_error 14 = .ok (.isub, 1) := by decide +kernel
theorem dX6_error_15 : decode cX6_error 15 = .ok (.ireturn, 1) := by decide +kernel
theorem gX6_seekLeash_X5_takeFrom : GoodIn wsX6_seekLeash (wsV RX6 178 RX5 yX5_takeFrom wsX5_takeFrom) := nw_gV nwl_X6_seekLeash nwe_430 nwe_431 nwe_432 nwe_259 nwl_X5_takeFrom (by decide +kernel)
theorem gX6_seekLeash_X5_morning : GoodIn wsX6_seekLeash (wsV RX6 261 RX5 yX5_morning wsX5_morning) := nw_gV nwl_X6_seekLeash nwe_443 nwe_310 nwe_311 nwe_259 nwl_X5_morning (by decide +kernel)
theorem gX6_seekLeash_X5_whoHasIt : GoodIn wsX6_seekLeash (wsV RX6 192 RX5 yX5_whoHasIt wsX5_whoHasIt) := nw_gV nwl_X6_seekLeash nwe_444 nwe_307 nwe_308 nwe_259 nwl_X5_whoHasIt (by decide +kernel)
theorem gX6_seekLeash_X5_takeWoodFrom : GoodIn wsX6_seekLeash (wsV RX6 264 RX5 yX5_takeWoodFrom wsX5_takeWoodFrom) := nw_gV nwl_X6_seekLeash nwe_445 nwe_257 nwe_258 nwe_259 nwl_X5_takeWoodFrom (by decide +kernel)
theorem gX6_seekLeash_X5_hours : GoodIn wsX6_seekLeash (wsV RX6 270 RX5 yX5_hours wsX5_hours) := nw_gV nwl_X6_seekLeash nwe_446 nwe_313 nwe_314 nwe_259 nwl_X5_hours (by decide +kernel)
theorem dX6_seekLeash_0 : decode cX6_seekLeash 0 = .ok (.aload_n 0, 1) := by decide +kernel
theorem dX6_seekLeash_1 : decode cX6_seekLeash 1 = .ok (.getfield 41, 3) := by decide +kernel
theorem dX6_seekLeash_4 : decode cX6_seekLeash 4 = .ok (.aload_n 0, 1) := by decide +kernel
theorem dX6_seekLeash_5 : decode cX6_seekLeash 5 = .ok (.getfield 10, 3) := by decide +kernel
theorem dX6_seekLeash_8 : decode cX6_seekLeash 8 = .ok (.invokevirtual 178, 3) := by decide +kernel
theorem dX6_seekLeash_11 : decode cX6_seekLeash 11 = .ok (.aload_n 0, 1) := by decide +kernel
theorem dX6_seekLeash_12 : decode cX6_seekLeash 12 = .ok (.getfield 41, 3) := by decide +kernel
theorem dX6_seekLeash_15 : decode cX6_seekLeash 15 = .ok (.invokevirtual 261, 3) := by decide +kernel
theorem dX6_seekLeash_18 : decode cX6_seekLeash 18 = .ok (.aload_n 0, 1) := by decide +kernel
theorem dX6_seekLeash_19 : decode cX6_seekLeash 19 = .ok (.getfield 44, 3) := by decide +kernel
theorem dX6_seekLeash_22 : decode cX6_seekLeash 22 = .ok (.aload_n 0, 1) := by decide +kernel
theorem dX6_seekLeash_23 : decode cX6_seekLeash 23 = .ok (.getfield 41, 3) := by decide +kernel
theorem dX6_seekLeash_26 : decode cX6_seekLeash 26 = .ok (.invokevirtual 178, 3) := by decide +kernel
theorem dX6_seekLeash_29 : decode cX6_seekLeash 29 = .ok (.aload_n 0, 1) := by decide +kernel
theorem dX6_seekLeash_30 : decode cX6_seekLeash 30 = .ok (.getfield 41, 3) := by decide +kernel
theorem dX6_seekLeash_33 : decode cX6_seekLeash 33 = .ok (.invokevirtual 192, 3) := by decide +kernel
theorem dX6_seekLeash_36 : decode cX6_seekLeash 36 = .ok (.istore_n 1, 1) := by decide +kernel
theorem dX6_seekLeash_37 : decode cX6_seekLeash 37 = .ok (.aload_n 0, 1) := by decide +kernel
theorem dX6_seekLeash_38 : decode cX6_seekLeash 38 = .ok (.getfield 47, 3) := by decide +kernel
theorem dX6_seekLeash_41 : decode cX6_seekLeash 41 = .ok (.iconst 0, 1) := by decide +kernel
theorem dX6_seekLeash_42 : decode cX6_seekLeash 42 = .ok (.iconst (-1), 1) := by decide +kernel
theorem dX6_seekLeash_43 : decode cX6_seekLeash 43 = .ok (.iastore, 1) := by decide +kernel
theorem dX6_seekLeash_44 : decode cX6_seekLeash 44 = .ok (.iconst 0, 1) := by decide +kernel
theorem dX6_seekLeash_45 : decode cX6_seekLeash 45 = .ok (.istore_n 2, 1) := by decide +kernel
theorem dX6_seekLeash_46 : decode cX6_seekLeash 46 = .ok (.iload_n 2, 1) := by decide +kernel
theorem dX6_seekLeash_47 : decode cX6_seekLeash 47 = .ok (.sipush 625, 3) := by decide +kernel
theorem dX6_seekLeash_50 : decode cX6_seekLeash 50 = .ok (.if_icmp .ge 100, 3) := by decide +kernel
theorem dX6_seekLeash_53 : decode cX6_seekLeash 53 = .ok (.aload_n 0, 1) := by decide +kernel
theorem dX6_seekLeash_54 : decode cX6_seekLeash 54 = .ok (.getfield 44, 3) := by decide +kernel
theorem dX6_seekLeash_57 : decode cX6_seekLeash 57 = .ok (.aload_n 0, 1) := by decide +kernel
theorem dX6_seekLeash_58 : decode cX6_seekLeash 58 = .ok (.getfield 41, 3) := by decide +kernel
theorem dX6_seekLeash_61 : decode cX6_seekLeash 61 = .ok (.invokevirtual 264, 3) := by decide +kernel
theorem dX6_seekLeash_64 : decode cX6_seekLeash 64 = .ok (.iconst 0, 1) := by decide +kernel
theorem dX6_seekLeash_65 : decode cX6_seekLeash 65 = .ok (.istore_n 3, 1) := by decide +kernel
theorem dX6_seekLeash_66 : decode cX6_seekLeash 66 = .ok (.iload_n 3, 1) := by decide +kernel
theorem dX6_seekLeash_67 : decode cX6_seekLeash 67 = .ok (.iconst 4, 1) := by decide +kernel
theorem dX6_seekLeash_68 : decode cX6_seekLeash 68 = .ok (.if_icmp .ge 31, 3) := by decide +kernel
theorem dX6_seekLeash_71 : decode cX6_seekLeash 71 = .ok (.aload_n 0, 1) := by decide +kernel
theorem dX6_seekLeash_72 : decode cX6_seekLeash 72 = .ok (.getfield 44, 3) := by decide +kernel
theorem dX6_seekLeash_75 : decode cX6_seekLeash 75 = .ok (.getfield 126, 3) := by decide +kernel
theorem dX6_seekLeash_78 : decode cX6_seekLeash 78 = .ok (.iconst 4, 1) := by decide +kernel
theorem dX6_seekLeash_79 : decode cX6_seekLeash 79 = .ok (.iload_n 1, 1) := by decide +kernel
theorem dX6_seekLeash_80 : decode cX6_seekLeash 80 = .ok (.imul, 1) := by decide +kernel
theorem dX6_seekLeash_81 : decode cX6_seekLeash 81 = .ok (.iload_n 3, 1) := by decide +kernel
theorem dX6_seekLeash_82 : decode cX6_seekLeash 82 = .ok (.iadd, 1) := by decide +kernel
theorem dX6_seekLeash_83 : decode cX6_seekLeash 83 = .ok (.iload_n 2, 1) := by decide +kernel
theorem dX6_seekLeash_84 : decode cX6_seekLeash 84 = .ok (.getstatic 267, 3) := by decide +kernel
theorem dX6_seekLeash_87 : decode cX6_seekLeash 87 = .ok (.iload_n 3, 1) := by decide +kernel
theorem dX6_seekLeash_88 : decode cX6_seekLeash 88 = .ok (.iaload, 1) := by decide +kernel
theorem dX6_seekLeash_89 : decode cX6_seekLeash 89 = .ok (.idiv, 1) := by decide +kernel
theorem dX6_seekLeash_90 : decode cX6_seekLeash 90 = .ok (.iconst 5, 1) := by decide +kernel
theorem dX6_seekLeash_91 : decode cX6_seekLeash 91 = .ok (.irem, 1) := by decide +kernel
theorem dX6_seekLeash_92 : decode cX6_seekLeash 92 = .ok (.iastore, 1) := by decide +kernel
theorem dX6_seekLeash_93 : decode cX6_seekLeash 93 = .ok (.iinc 3 1, 3) := by decide +kernel
theorem dX6_seekLeash_96 : decode cX6_seekLeash 96 = .ok (.goto (-30), 3) := by decide +kernel
theorem dX6_seekLeash_99 : decode cX6_seekLeash 99 = .ok (.aload_n 0, 1) := by decide +kernel
theorem dX6_seekLeash_100 : decode cX6_seekLeash 100 = .ok (.getfield 44, 3) := by decide +kernel
theorem dX6_seekLeash_103 : decode cX6_seekLeash 103 = .ok (.iload_n 1, 1) := by decide +kernel
theorem dX6_seekLeash_104 : decode cX6_seekLeash 104 = .ok (.invokevirtual 270, 3) := by decide +kernel
theorem dX6_seekLeash_107 : decode cX6_seekLeash 107 = .ok (.istore_n 3, 1) := by decide +kernel
theorem dX6_seekLeash_108 : decode cX6_seekLeash 108 = .ok (.iload_n 3, 1) := by decide +kernel
theorem dX6_seekLeash_109 : decode cX6_seekLeash 109 = .ok (.aload_n 0, 1) := by decide +kernel
theorem dX6_seekLeash_110 : decode cX6_seekLeash 110 = .ok (.getfield 47, 3) := by decide +kernel
theorem dX6_seekLeash_113 : decode cX6_seekLeash 113 = .ok (.iconst 0, 1) := by decide +kernel
theorem dX6_seekLeash_114 : decode cX6_seekLeash 114 = .ok (.iaload, 1) := by decide +kernel
theorem dX6_seekLeash_115 : decode cX6_seekLeash 115 = .ok (.if_icmp .le 29, 3) := by decide +kernel
theorem dX6_seekLeash_118 : decode cX6_seekLeash 118 = .ok (.aload_n 0, 1) := by decide +kernel
theorem dX6_seekLeash_119 : decode cX6_seekLeash 119 = .ok (.getfield 47, 3) := by decide +kernel
theorem dX6_seekLeash_122 : decode cX6_seekLeash 122 = .ok (.iconst 0, 1) := by decide +kernel
theorem dX6_seekLeash_123 : decode cX6_seekLeash 123 = .ok (.iload_n 3, 1) := by decide +kernel
theorem dX6_seekLeash_124 : decode cX6_seekLeash 124 = .ok (.iastore, 1) := by decide +kernel
theorem dX6_seekLeash_125 : decode cX6_seekLeash 125 = .ok (.aload_n 0, 1) := by decide +kernel
theorem dX6_seekLeash_126 : decode cX6_seekLeash 126 = .ok (.getfield 44, 3) := by decide +kernel
theorem dX6_seekLeash_129 : decode cX6_seekLeash 129 = .ok (.getfield 126, 3) := by decide +kernel
theorem dX6_seekLeash_132 : decode cX6_seekLeash 132 = .ok (.iconst 4, 1) := by decide +kernel
theorem dX6_seekLeash_133 : decode cX6_seekLeash 133 = .ok (.iload_n 1, 1) := by decide +kernel
theorem dX6_seekLeash_134 : decode cX6_seekLeash 134 = .ok (.imul, 1) := by decide +kernel
theorem dX6_seekLeash_135 : decode cX6_seekLeash 135 = .ok (.aload_n 0, 1) := by decide +kernel
theorem dX6_seekLeash_136 : decode cX6_seekLeash 136 = .ok (.getfield 47, 3) := by decide +kernel
theorem dX6_seekLeash_139 : decode cX6_seekLeash 139 = .ok (.iconst 1, 1) := by decide +kernel
theorem dX6_seekLeash_140 : decode cX6_seekLeash 140 = .ok (.iconst 4, 1) := by decide +kernel
theorem dX6_seekLeash_141 : decode cX6_seekLeash 141 = .ok (.invokestatic 246, 3) := by decide +kernel
theorem dX6_seekLeash_144 : decode cX6_seekLeash 144 = .ok (.iinc 2 1, 3) := by decide +kernel
theorem dX6_seekLeash_147 : decode cX6_seekLeash 147 = .ok (.goto (-101), 3) := by decide +kernel
theorem dX6_seekLeash_150 : decode cX6_seekLeash 150 = .ok (.return_, 1) := by decide +kernel
theorem gX6_leastMark_X5_takeFrom : GoodIn wsX6_leastMark (wsV RX6 178 RX5 yX5_takeFrom wsX5_takeFrom) := nw_gV nwl_X6_leastMark nwe_430 nwe_431 nwe_432 nwe_259 nwl_X5_takeFrom (by decide +kernel)
theorem gX6_leastMark_X5_oneDay : GoodIn wsX6_leastMark (wsV RX6 172 RX5 yX5_oneDay wsX5_oneDay) := nw_gV nwl_X6_leastMark nwe_426 nwe_323 nwe_324 nwe_259 nwl_X5_oneDay (by decide +kernel)
theorem gX6_leastMark_X5_whoHasIt : GoodIn wsX6_leastMark (wsV RX6 192 RX5 yX5_whoHasIt wsX5_whoHasIt) := nw_gV nwl_X6_leastMark nwe_444 nwe_307 nwe_308 nwe_259 nwl_X5_whoHasIt (by decide +kernel)
theorem gX6_leastMark_X5_partOut : GoodIn wsX6_leastMark (wsV RX6 273 RX5 yX5_partOut wsX5_partOut) := nw_gV nwl_X6_leastMark nwe_462 nwe_316 nwe_317 nwe_259 nwl_X5_partOut (by decide +kernel)
theorem gX6_leastMark_X2_startsWith : GoodIn wsX6_leastMark (wsV RX6 276 RX2 yX2_startsWith wsX2_startsWith) := nw_gV nwl_X6_leastMark nwe_463 nwe_464 nwe_465 nwe_351 nwl_X2_startsWith (by decide +kernel)
theorem dX6_leastMark_0 : decode cX6_leastMark 0 = .ok (.aload_n 0, 1) := by decide +kernel
theorem dX6_leastMark_1 : decode cX6_leastMark 1 = .ok (.getfield 41, 3) := by decide +kernel
theorem dX6_leastMark_4 : decode cX6_leastMark 4 = .ok (.aload_n 0, 1) := by decide +kernel
theorem dX6_leastMark_5 : decode cX6_leastMark 5 = .ok (.getfield 10, 3) := by decide +kernel
theorem dX6_leastMark_8 : decode cX6_leastMark 8 = .ok (.invokevirtual 178, 3) := by decide +kernel
theorem dX6_leastMark_11 : decode cX6_leastMark 11 = .ok (.aload_n 0, 1) := by decide +kernel
theorem dX6_leastMark_12 : decode cX6_leastMark 12 = .ok (.getfield 41, 3) := by decide +kernel
theorem dX6_leastMark_15 : decode cX6_leastMark 15 = .ok (.getfield 105, 3) := by decide +kernel
theorem dX6_leastMark_18 : decode cX6_leastMark 18 = .ok (.iload_n 1, 1) := by decide +kernel
theorem dX6_leastMark_19 : decode cX6_leastMark 19 = .ok (.iconst 3, 1) := by decide +kernel
theorem dX6_leastMark_20 : decode cX6_leastMark 20 = .ok (.iastore, 1) := by decide +kernel
theorem dX6_leastMark_21 : decode cX6_leastMark 21 = .ok (.iconst 0, 1) := by decide +kernel
theorem dX6_leastMark_22 : decode cX6_leastMark 22 = .ok (.istore 4, 2) := by decide +kernel
theorem dX6_leastMark_24 : decode cX6_leastMark 24 = .ok (.iload 4, 2) := by decide +kernel
theorem dX6_leastMark_26 : decode cX6_leastMark 26 = .ok (.iload_n 3, 1) := by decide +kernel
theorem dX6_leastMark_27 : decode cX6_leastMark 27 = .ok (.if_icmp .ge 24, 3) := by decide +kernel
theorem dX6_leastMark_30 : decode cX6_leastMark 30 = .ok (.aload_n 0, 1) := by decide +kernel
theorem dX6_leastMark_31 : decode cX6_leastMark 31 = .ok (.getfield 51, 3) := by decide +kernel
theorem dX6_leastMark_34 : decode cX6_leastMark 34 = .ok (.iload 4, 2) := by decide +kernel
theorem dX6_leastMark_36 : decode cX6_leastMark 36 = .ok (.aload_n 0, 1) := by decide +kernel
theorem dX6_leastMark_37 : decode cX6_leastMark 37 = .ok (.getfield 41, 3) := by decide +kernel
theorem dX6_leastMark_40 : decode cX6_leastMark 40 = .ok (.iconst (-1), 1) := by decide +kernel
theorem dX6_leastMark_41 : decode cX6_leastMark 41 = .ok (.invokevirtual 172, 3) := by decide +kernel
theorem dX6_leastMark_44 : decode cX6_leastMark 44 = .ok (.iastore, 1) := by decide +kernel
theorem dX6_leastMark_45 : decode cX6_leastMark 45 = .ok (.iinc 4 1, 3) := by decide +kernel
theorem dX6_leastMark_48 : decode cX6_leastMark 48 = .ok (.goto (-24), 3) := by decide +kernel
theorem dX6_leastMark_51 : decode cX6_leastMark 51 = .ok (.iconst 0, 1) := by decide +kernel
theorem dX6_leastMark_52 : decode cX6_leastMark 52 = .ok (.istore 4, 2) := by decide +kernel
theorem dX6_leastMark_54 : decode cX6_leastMark 54 = .ok (.iload 4, 2) := by decide +kernel
theorem dX6_leastMark_56 : decode cX6_leastMark 56 = .ok (.bipush 9, 2) := by decide +kernel
theorem dX6_leastMark_58 : decode cX6_leastMark 58 = .ok (.if_icmp .gt 107, 3) := by decide +kernel
theorem dX6_leastMark_61 : decode cX6_leastMark 61 = .ok (.aload_n 0, 1) := by decide +kernel
theorem dX6_leastMark_62 : decode cX6_leastMark 62 = .ok (.getfield 44, 3) := by decide +kernel
theorem dX6_leastMark_65 : decode cX6_leastMark 65 = .ok (.aload_n 0, 1) := by decide +kernel
theorem dX6_leastMark_66 : decode cX6_leastMark 66 = .ok (.getfield 10, 3) := by decide +kernel
theorem dX6_leastMark_69 : decode cX6_leastMark 69 = .ok (.invokevirtual 178, 3) := by decide +kernel
theorem dX6_leastMark_72 : decode cX6_leastMark 72 = .ok (.aload_n 0, 1) := by decide +kernel
theorem dX6_leastMark_73 : decode cX6_leastMark 73 = .ok (.getfield 44, 3) := by decide +kernel
theorem dX6_leastMark_76 : decode cX6_leastMark 76 = .ok (.getfield 105, 3) := by decide +kernel
theorem dX6_leastMark_79 : decode cX6_leastMark 79 = .ok (.iload_n 1, 1) := by decide +kernel
theorem dX6_leastMark_80 : decode cX6_leastMark 80 = .ok (.iconst 3, 1) := by decide +kernel
theorem dX6_leastMark_81 : decode cX6_leastMark 81 = .ok (.iastore, 1) := by decide +kernel
theorem dX6_leastMark_82 : decode cX6_leastMark 82 = .ok (.aload_n 0, 1) := by decide +kernel
theorem dX6_leastMark_83 : decode cX6_leastMark 83 = .ok (.getfield 44, 3) := by decide +kernel
theorem dX6_leastMark_86 : decode cX6_leastMark 86 = .ok (.getfield 108, 3) := by decide +kernel
theorem dX6_leastMark_89 : decode cX6_leastMark 89 = .ok (.iload_n 1, 1) := by decide +kernel
theorem dX6_leastMark_90 : decode cX6_leastMark 90 = .ok (.iload 4, 2) := by decide +kernel
theorem dX6_leastMark_92 : decode cX6_leastMark 92 = .ok (.iastore, 1) := by decide +kernel
theorem dX6_leastMark_93 : decode cX6_leastMark 93 = .ok (.iconst 0, 1) := by decide +kernel
theorem dX6_leastMark_94 : decode cX6_leastMark 94 = .ok (.istore 5, 2) := by decide +kernel
theorem dX6_leastMark_96 : decode cX6_leastMark 96 = .ok (.iload 5, 2) := by decide +kernel
theorem dX6_leastMark_98 : decode cX6_leastMark 98 = .ok (.iload_n 3, 1) := by decide +kernel
theorem dX6_leastMark_99 : decode cX6_leastMark 99 = .ok (.if_icmp .ge 43, 3) := by decide +kernel
theorem dX6_leastMark_102 : decode cX6_leastMark 102 = .ok (.aload_n 0, 1) := by decide +kernel
theorem dX6_leastMark_103 : decode cX6_leastMark 103 = .ok (.getfield 44, 3) := by decide +kernel
theorem dX6_leastMark_106 : decode cX6_leastMark 106 = .ok (.aload_n 0, 1) := by decide +kernel
theorem dX6_leastMark_107 : decode cX6_leastMark 107 = .ok (.getfield 44, 3) := by decide +kernel
theorem dX6_leastMark_110 : decode cX6_leastMark 110 = .ok (.invokevirtual 192, 3) := by decide +kernel
theorem dX6_leastMark_113 : decode cX6_leastMark 113 = .ok (.aload_n 0, 1) := by decide +kernel
theorem dX6_leastMark_114 : decode cX6_leastMark 114 = .ok (.getfield 51, 3) := by decide +kernel
theorem dX6_leastMark_117 : decode cX6_leastMark 117 = .ok (.iload 5, 2) := by decide +kernel
theorem dX6_leastMark_119 : decode cX6_leastMark 119 = .ok (.iaload, 1) := by decide +kernel
theorem dX6_leastMark_120 : decode cX6_leastMark 120 = .ok (.invokevirtual 273, 3) := by decide +kernel
theorem dX6_leastMark_123 : decode cX6_leastMark 123 = .ok (.aload_n 0, 1) := by decide +kernel
theorem dX6_leastMark_124 : decode cX6_leastMark 124 = .ok (.getfield 44, 3) := by decide +kernel
theorem dX6_leastMark_127 : decode cX6_leastMark 127 = .ok (.dup, 1) := by decide +kernel
theorem dX6_leastMark_128 : decode cX6_leastMark 128 = .ok (.getfield 163, 3) := by decide +kernel
theorem dX6_leastMark_131 : decode cX6_leastMark 131 = .ok (.iconst 1, 1) := by decide +kernel
theorem dX6_leastMark_132 : decode cX6_leastMark 132 = .ok (.iadd, 1) := by decide +kernel
theorem dX6_leastMark_133 : decode cX6_leastMark 133 = .ok (.putfield 163, 3) := by decide +kernel
theorem dX6_leastMark_136 : decode cX6_leastMark 136 = .ok (.iinc 5 1, 3) := by decide +kernel
theorem dX6_leastMark_139 : decode cX6_leastMark 139 = .ok (.goto (-43), 3) := by decide +kernel
theorem dX6_leastMark_142 : decode cX6_leastMark 142 = .ok (.aload_n 2, 1) := by decide +kernel
theorem dX6_leastMark_143 : decode cX6_leastMark 143 = .ok (.aload_n 0, 1) := by decide +kernel
theorem dX6_leastMark_144 : decode cX6_leastMark 144 = .ok (.getfield 44, 3) := by decide +kernel
theorem dX6_leastMark_147 : decode cX6_leastMark 147 = .ok (.getfield 195, 3) := by decide +kernel
theorem dX6_leastMark_150 : decode cX6_leastMark 150 = .ok (.invokevirtual 276, 3) := by decide +kernel
theorem dX6_leastMark_153 : decode cX6_leastMark 153 = .ok (.ifCond .eq 6, 3) := by decide +kernel
theorem dX6_leastMark_156 : decode cX6_leastMark 156 = .ok (.iload 4, 2) := by decide +kernel
theorem dX6_leastMark_158 : decode cX6_leastMark 158 = .ok (.ireturn, 1) := by decide +kernel
theorem dX6_leastMark_159 : decode cX6_leastMark 159 = .ok (.iinc 4 1, 3) := by decide +kernel
theorem dX6_leastMark_162 : decode cX6_leastMark 162 = .ok (.goto (-108), 3) := by decide +kernel
theorem dX6_leastMark_165 : decode cX6_leastMark 165 = .ok (.iconst (-1), 1) := by decide +kernel
theorem dX6_leastMark_166 : decode cX6_leastMark 166 = .ok (.ireturn, 1) := by decide +kernel
theorem dX6_within_0 : decode cX6_within 0 = .ok (.iload_n 0, 1) := by decide +kernel
theorem dX6_within_1 : decode cX6_within 1 = .ok (.iload_n 1, 1) := by decide +kernel
theorem dX6_within_2 : decode cX6_within 2 = .ok (.if_icmp .lt 12, 3) := by decide +kernel
theorem dX6_within_5 : decode cX6_within 5 = .ok (.iload_n 0, 1) := by decide +kernel
theorem dX6_within_6 : decode cX6_within 6 = .ok (.iload_n 2, 1) := by decide +kernel
theorem dX6_within_7 : decode cX6_within 7 = .ok (.if_icmp .gt 7, 3) := by decide +kernel
theorem dX6_within_10 : decode cX6_within 10 = .ok (.iconst 1, 1) := by decide +kernel
theorem dX6_within_11 : decode cX6_within 11 = .ok (.goto 4, 3) := by decide +kernel
theorem dX6_within_14 : decode cX6_within 14 = .ok (.iconst 0, 1) := by decide +kernel
theorem dX6_within_15 : decode cX6_within 15 = .ok (.ireturn, 1) := by decide +kernel
theorem gX6_isOak_X6_within : GoodIn wsX6_isOak (va_wsS RX6 82 yX6_within wsX6_within) := nw_gS nwl_X6_isOak nwe_361 nwe_362 nwe_363 nwl_X6_within (by decide +kernel)
theorem dX6_isOak_0 : decode cX6_isOak 0 = .ok (.iload_n 0, 1) := by decide +kernel
theorem dX6_isOak_1 : decode cX6_isOak 1 = .ok (.iconst 0, 1) := by decide +kernel
theorem dX6_isOak_2 : decode cX6_isOak 2 = .ok (.bipush 15, 2) := by decide +kernel
theorem dX6_isOak_4 : decode cX6_isOak 4 = .ok (.invokestatic 82, 3) := by decide +kernel
theorem dX6_isOak_7 : decode cX6_isOak 7 = .ok (.ireturn, 1) := by decide +kernel
theorem gX6_isFarmer_X6_within : GoodIn wsX6_isFarmer (va_wsS RX6 82 yX6_within wsX6_within) := nw_gS nwl_X6_isFarmer nwe_361 nwe_362 nwe_363 nwl_X6_within (by decide +kernel)
theorem dX6_isFarmer_0 : decode cX6_isFarmer 0 = .ok (.iload_n 0, 1) := by decide +kernel
theorem dX6_isFarmer_1 : decode cX6_isFarmer 1 = .ok (.iconst 0, 1) := by decide +kernel
theorem dX6_isFarmer_2 : decode cX6_isFarmer 2 = .ok (.bipush 8, 2) := by decide +kernel
theorem dX6_isFarmer_4 : decode cX6_isFarmer 4 = .ok (.invokestatic 82, 3) := by decide +kernel
theorem dX6_isFarmer_7 : decode cX6_isFarmer 7 = .ok (.ireturn, 1) := by decide +kernel
theorem gX6_isSheet_X6_within : GoodIn wsX6_isSheet (va_wsS RX6 82 yX6_within wsX6_within) := nw_gS nwl_X6_isSheet nwe_361 nwe_362 nwe_363 nwl_X6_within (by decide +kernel)
theorem dX6_isSheet_0 : decode cX6_isSheet 0 = .ok (.iload_n 0, 1) := by decide +kernel
theorem dX6_isSheet_1 : decode cX6_isSheet 1 = .ok (.iconst 0, 1) := by decide +kernel
theorem dX6_isSheet_2 : decode cX6_isSheet 2 = .ok (.iconst 3, 1) := by decide +kernel
theorem dX6_isSheet_3 : decode cX6_isSheet 3 = .ok (.invokestatic 82, 3) := by decide +kernel
theorem dX6_isSheet_6 : decode cX6_isSheet 6 = .ok (.ireturn, 1) := by decide +kernel
theorem dX6_isOfKind_0 : decode cX6_isOfKind 0 = .ok (.iload_n 0, 1) := by decide +kernel
theorem dX6_isOfKind_1 : decode cX6_isOfKind 1 = .ok (.istore_n 2, 1) := by decide +kernel
theorem dX6_isOfKind_2 : decode cX6_isOfKind 2 = .ok (.iconst 0, 1) := by decide +kernel
theorem dX6_isOfKind_3 : decode cX6_isOfKind 3 = .ok (.istore_n 3, 1) := by decide +kernel
theorem dX6_isOfKind_4 : decode cX6_isOfKind 4 = .ok (.iload_n 3, 1) := by decide +kernel
theorem dX6_isOfKind_5 : decode cX6_isOfKind 5 = .ok (.bipush 7, 2) := by decide +kernel
theorem dX6_isOfKind_7 : decode cX6_isOfKind 7 = .ok (.if_icmp .ge 26, 3) := by decide +kernel
theorem dX6_isOfKind_10 : decode cX6_isOfKind 10 = .ok (.iload_n 2, 1) := by decide +kernel
theorem dX6_isOfKind_11 : decode cX6_isOfKind 11 = .ok (.ifCond .lt 22, 3) := by decide +kernel
theorem dX6_isOfKind_14 : decode cX6_isOfKind 14 = .ok (.iload_n 2, 1) := by decide +kernel
theorem dX6_isOfKind_15 : decode cX6_isOfKind 15 = .ok (.iload_n 1, 1) := by decide +kernel
theorem dX6_isOfKind_16 : decode cX6_isOfKind 16 = .ok (.if_icmp .ne 5, 3) := by decide +kernel
theorem dX6_isOfKind_19 : decode cX6_isOfKind 19 = .ok (.iconst 1, 1) := by decide +kernel
theorem dX6_isOfKind_20 : decode cX6_isOfKind 20 = .ok (.ireturn, 1) := by decide +kernel
theorem dX6_isOfKind_21 : decode cX6_isOfKind 21 = .ok (.getstatic 280, 3) := by decide +kernel
theorem dX6_isOfKind_24 : decode cX6_isOfKind 24 = .ok (.iload_n 2, 1) := by decide +kernel
theorem dX6_isOfKind_25 : decode cX6_isOfKind 25 = .ok (.iaload, 1) := by decide +kernel
theorem dX6_isOfKind_26 : decode cX6_isOfKind 26 = .ok (.istore_n 2, 1) := by decide +kernel
theorem dX6_isOfKind_27 : decode cX6_isOfKind 27 = .ok (.iinc 3 1, 3) := by decide +kernel
theorem dX6_isOfKind_30 : decode cX6_isOfKind 30 = .ok (.goto (-26), 3) := by decide +kernel
theorem dX6_isOfKind_33 : decode cX6_isOfKind 33 = .ok (.iconst 0, 1) := by decide +kernel
theorem dX6_isOfKind_34 : decode cX6_isOfKind 34 = .ok (.ireturn, 1) := by decide +kernel
theorem dX6_sum_0 : decode cX6_sum 0 = .ok (.iconst 0, 1) := by decide +kernel
theorem dX6_sum_1 : decode cX6_sum 1 = .ok (.istore_n 1, 1) := by decide +kernel
theorem dX6_sum_2 : decode cX6_sum 2 = .ok (.aload_n 0, 1) := by decide +kernel
theorem dX6_sum_3 : decode cX6_sum 3 = .ok (.astore_n 2, 1) := by decide +kernel
theorem dX6_sum_4 : decode cX6_sum 4 = .ok (.aload_n 2, 1) := by decide +kernel
theorem dX6_sum_5 : decode cX6_sum 5 = .ok (.arraylength, 1) := by decide +kernel
theorem dX6_sum_6 : decode cX6_sum 6 = .ok (.istore_n 3, 1) := by decide +kernel
theorem dX6_sum_7 : decode cX6_sum 7 = .ok (.iconst 0, 1) := by decide +kernel
theorem dX6_sum_8 : decode cX6_sum 8 = .ok (.istore 4, 2) := by decide +kernel
theorem dX6_sum_10 : decode cX6_sum 10 = .ok (.iload 4, 2) := by decide +kernel
theorem dX6_sum_12 : decode cX6_sum 12 = .ok (.iload_n 3, 1) := by decide +kernel
theorem dX6_sum_13 : decode cX6_sum 13 = .ok (.if_icmp .ge 20, 3) := by decide +kernel
theorem dX6_sum_16 : decode cX6_sum 16 = .ok (.aload_n 2, 1) := by decide +kernel
theorem dX6_sum_17 : decode cX6_sum 17 = .ok (.iload 4, 2) := by decide +kernel
theorem dX6_sum_19 : decode cX6_sum 19 = .ok (.iaload, 1) := by decide +kernel
theorem dX6_sum_20 : decode cX6_sum 20 = .ok (.istore 5, 2) := by decide +kernel
theorem dX6_sum_22 : decode cX6_sum 22 = .ok (.iload_n 1, 1) := by decide +kernel
theorem dX6_sum_23 : decode cX6_sum 23 = .ok (.iload 5, 2) := by decide +kernel
theorem dX6_sum_25 : decode cX6_sum 25 = .ok (.iadd, 1) := by decide +kernel
theorem dX6_sum_26 : decode cX6_sum 26 = .ok (.istore_n 1, 1) := by decide +kernel
theorem dX6_sum_27 : decode cX6_sum 27 = .ok (.iinc 4 1, 3) := by decide +kernel
theorem dX6_sum_30 : decode cX6_sum 30 = .ok (.goto (-20), 3) := by decide +kernel
theorem dX6_sum_33 : decode cX6_sum 33 = .ok (.iload_n 1, 1) := by decide +kernel
theorem dX6_sum_34 : decode cX6_sum 34 = .ok (.ireturn, 1) := by decide +kernel
