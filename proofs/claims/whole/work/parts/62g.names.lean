theorem dX5_oneDay_0 : decode cX5_oneDay 0 = .ok (.aload_n 0, 1) := by decide +kernel
theorem dX5_oneDay_1 : decode cX5_oneDay 1 = .ok (.invokevirtual 102, 3) := by decide +kernel
theorem dX5_oneDay_4 : decode cX5_oneDay 4 = .ok (.istore_n 2, 1) := by decide +kernel
theorem dX5_oneDay_5 : decode cX5_oneDay 5 = .ok (.aload_n 0, 1) := by decide +kernel
theorem dX5_oneDay_6 : decode cX5_oneDay 6 = .ok (.invokevirtual 106, 3) := by decide +kernel
theorem dX5_oneDay_9 : decode cX5_oneDay 9 = .ok (.aload_n 0, 1) := by decide +kernel
theorem dX5_oneDay_10 : decode cX5_oneDay 10 = .ok (.iload_n 2, 1) := by decide +kernel
theorem dX5_oneDay_11 : decode cX5_oneDay 11 = .ok (.invokevirtual 109, 3) := by decide +kernel
theorem dX5_oneDay_14 : decode cX5_oneDay 14 = .ok (.istore_n 3, 1) := by decide +kernel
theorem dX5_oneDay_15 : decode cX5_oneDay 15 = .ok (.aload_n 0, 1) := by decide +kernel
theorem dX5_oneDay_16 : decode cX5_oneDay 16 = .ok (.iload_n 2, 1) := by decide +kernel
theorem dX5_oneDay_17 : decode cX5_oneDay 17 = .ok (.iload_n 3, 1) := by decide +kernel
theorem dX5_oneDay_18 : decode cX5_oneDay 18 = .ok (.invokevirtual 112, 3) := by decide +kernel
theorem dX5_oneDay_21 : decode cX5_oneDay 21 = .ok (.aload_n 0, 1) := by decide +kernel
theorem dX5_oneDay_22 : decode cX5_oneDay 22 = .ok (.bipush 9, 2) := by decide +kernel
theorem dX5_oneDay_24 : decode cX5_oneDay 24 = .ok (.iload_n 1, 1) := by decide +kernel
theorem dX5_oneDay_25 : decode cX5_oneDay 25 = .ok (.iconst (-1), 1) := by decide +kernel
theorem dX5_oneDay_26 : decode cX5_oneDay 26 = .ok (.if_icmp .ne 12, 3) := by decide +kernel
theorem dX5_oneDay_29 : decode cX5_oneDay 29 = .ok (.aload_n 0, 1) := by decide +kernel
theorem dX5_oneDay_30 : decode cX5_oneDay 30 = .ok (.iload_n 2, 1) := by decide +kernel
theorem dX5_oneDay_31 : decode cX5_oneDay 31 = .ok (.iload_n 3, 1) := by decide +kernel
theorem dX5_oneDay_32 : decode cX5_oneDay 32 = .ok (.invokevirtual 116, 3) := by decide +kernel
theorem dX5_oneDay_35 : decode cX5_oneDay 35 = .ok (.goto 4, 3) := by decide +kernel
theorem dX5_oneDay_38 : decode cX5_oneDay 38 = .ok (.iload_n 1, 1) := by decide +kernel
theorem dX5_oneDay_39 : decode cX5_oneDay 39 = .ok (.isub, 1) := by decide +kernel
theorem dX5_oneDay_40 : decode cX5_oneDay 40 = .ok (.putfield 53, 3) := by decide +kernel
theorem dX5_oneDay_43 : decode cX5_oneDay 43 = .ok (.aload_n 0, 1) := by decide +kernel
theorem dX5_oneDay_44 : decode cX5_oneDay 44 = .ok (.dup, 1) := by decide +kernel
theorem dX5_oneDay_45 : decode cX5_oneDay 45 = .ok (.getfield 56, 3) := by decide +kernel
theorem dX5_oneDay_48 : decode cX5_oneDay 48 = .ok (.iconst 1, 1) := by decide +kernel
theorem dX5_oneDay_49 : decode cX5_oneDay 49 = .ok (.iadd, 1) := by decide +kernel
theorem dX5_oneDay_50 : decode cX5_oneDay 50 = .ok (.putfield 56, 3) := by decide +kernel
theorem dX5_oneDay_53 : decode cX5_oneDay 53 = .ok (.iload_n 3, 1) := by decide +kernel
theorem dX5_oneDay_54 : decode cX5_oneDay 54 = .ok (.ireturn, 1) := by decide +kernel
theorem gX5_morning_X5_smellOf : GoodIn wsX5_morning (wsV RX5 125 RX5 yX5_smellOf wsX5_smellOf) := nw_gV nwl_X5_morning nwe_281 nwe_282 nwe_283 nwe_259 nwl_X5_smellOf (by decide +kernel)
theorem dX5_morning_0 : decode cX5_morning 0 = .ok (.iconst 0, 1) := by decide +kernel
theorem dX5_morning_1 : decode cX5_morning 1 = .ok (.istore_n 1, 1) := by decide +kernel
theorem dX5_morning_2 : decode cX5_morning 2 = .ok (.iload_n 1, 1) := by decide +kernel
theorem dX5_morning_3 : decode cX5_morning 3 = .ok (.bipush 16, 2) := by decide +kernel
theorem dX5_morning_5 : decode cX5_morning 5 = .ok (.if_icmp .ge 43, 3) := by decide +kernel
theorem dX5_morning_8 : decode cX5_morning 8 = .ok (.aload_n 0, 1) := by decide +kernel
theorem dX5_morning_9 : decode cX5_morning 9 = .ok (.getfield 15, 3) := by decide +kernel
theorem dX5_morning_12 : decode cX5_morning 12 = .ok (.iload_n 1, 1) := by decide +kernel
theorem dX5_morning_13 : decode cX5_morning 13 = .ok (.sipush 999, 3) := by decide +kernel
theorem dX5_morning_16 : decode cX5_morning 16 = .ok (.aload_n 0, 1) := by decide +kernel
theorem dX5_morning_17 : decode cX5_morning 17 = .ok (.getfield 15, 3) := by decide +kernel
theorem dX5_morning_20 : decode cX5_morning 20 = .ok (.iload_n 1, 1) := by decide +kernel
theorem dX5_morning_21 : decode cX5_morning 21 = .ok (.iaload, 1) := by decide +kernel
theorem dX5_morning_22 : decode cX5_morning 22 = .ok (.aload_n 0, 1) := by decide +kernel
theorem dX5_morning_23 : decode cX5_morning 23 = .ok (.getfield 46, 3) := by decide +kernel
theorem dX5_morning_26 : decode cX5_morning 26 = .ok (.iadd, 1) := by decide +kernel
theorem dX5_morning_27 : decode cX5_morning 27 = .ok (.invokestatic 120, 3) := by decide +kernel
theorem dX5_morning_30 : decode cX5_morning 30 = .ok (.iastore, 1) := by decide +kernel
theorem dX5_morning_31 : decode cX5_morning 31 = .ok (.aload_n 0, 1) := by decide +kernel
theorem dX5_morning_32 : decode cX5_morning 32 = .ok (.getfield 62, 3) := by decide +kernel
theorem dX5_morning_35 : decode cX5_morning 35 = .ok (.iload_n 1, 1) := by decide +kernel
theorem dX5_morning_36 : decode cX5_morning 36 = .ok (.aload_n 0, 1) := by decide +kernel
theorem dX5_morning_37 : decode cX5_morning 37 = .ok (.iload_n 1, 1) := by decide +kernel
theorem dX5_morning_38 : decode cX5_morning 38 = .ok (.invokevirtual 125, 3) := by decide +kernel
theorem dX5_morning_41 : decode cX5_morning 41 = .ok (.iastore, 1) := by decide +kernel
theorem dX5_morning_42 : decode cX5_morning 42 = .ok (.iinc 1 1, 3) := by decide +kernel
theorem dX5_morning_45 : decode cX5_morning 45 = .ok (.goto (-43), 3) := by decide +kernel
theorem dX5_morning_48 : decode cX5_morning 48 = .ok (.return_, 1) := by decide +kernel
theorem gX5_hours_J7_fill_53178 : GoodIn wsX5_hours (va_wsS RX5 68 yJ7_fill_53178 wsJ7_fill_53178) := nw_gS nwl_X5_hours nwe_250 nwe_172 nwe_173 nwl_J7_fill_53178 (by decide +kernel)
theorem gX5_hours_X5_beside : GoodIn wsX5_hours (va_wsS RX5 128 yX5_beside wsX5_beside) := nw_gS nwl_X5_hours nwe_290 nwe_291 nwe_259 nwl_X5_beside (by decide +kernel)
theorem gX5_hours_X5_bestSmell : GoodIn wsX5_hours (wsV RX5 131 RX5 yX5_bestSmell wsX5_bestSmell) := nw_gV nwl_X5_hours nwe_292 nwe_293 nwe_294 nwe_259 nwl_X5_bestSmell (by decide +kernel)
theorem gX5_hours_X5_smellOf : GoodIn wsX5_hours (wsV RX5 125 RX5 yX5_smellOf wsX5_smellOf) := nw_gV nwl_X5_hours nwe_281 nwe_282 nwe_283 nwe_259 nwl_X5_smellOf (by decide +kernel)
theorem dX5_hours_0 : decode cX5_hours 0 = .ok (.aload_n 0, 1) := by decide +kernel
theorem dX5_hours_1 : decode cX5_hours 1 = .ok (.getfield 65, 3) := by decide +kernel
theorem dX5_hours_4 : decode cX5_hours 4 = .ok (.iconst 0, 1) := by decide +kernel
theorem dX5_hours_5 : decode cX5_hours 5 = .ok (.invokestatic 68, 3) := by decide +kernel
theorem dX5_hours_8 : decode cX5_hours 8 = .ok (.iconst 0, 1) := by decide +kernel
theorem dX5_hours_9 : decode cX5_hours 9 = .ok (.istore_n 2, 1) := by decide +kernel
theorem dX5_hours_10 : decode cX5_hours 10 = .ok (.iconst 0, 1) := by decide +kernel
theorem dX5_hours_11 : decode cX5_hours 11 = .ok (.istore_n 3, 1) := by decide +kernel
theorem dX5_hours_12 : decode cX5_hours 12 = .ok (.iload_n 3, 1) := by decide +kernel
theorem dX5_hours_13 : decode cX5_hours 13 = .ok (.aload_n 0, 1) := by decide +kernel
theorem dX5_hours_14 : decode cX5_hours 14 = .ok (.getfield 53, 3) := by decide +kernel
theorem dX5_hours_17 : decode cX5_hours 17 = .ok (.if_icmp .ge 125, 3) := by decide +kernel
theorem dX5_hours_20 : decode cX5_hours 20 = .ok (.iload_n 3, 1) := by decide +kernel
theorem dX5_hours_21 : decode cX5_hours 21 = .ok (.iconst 4, 1) := by decide +kernel
theorem dX5_hours_22 : decode cX5_hours 22 = .ok (.if_icmp .ge 23, 3) := by decide +kernel
theorem dX5_hours_25 : decode cX5_hours 25 = .ok (.aload_n 0, 1) := by decide +kernel
theorem dX5_hours_26 : decode cX5_hours 26 = .ok (.getfield 50, 3) := by decide +kernel
theorem dX5_hours_29 : decode cX5_hours 29 = .ok (.aload_n 0, 1) := by decide +kernel
theorem dX5_hours_30 : decode cX5_hours 30 = .ok (.getfield 33, 3) := by decide +kernel
theorem dX5_hours_33 : decode cX5_hours 33 = .ok (.iconst 4, 1) := by decide +kernel
theorem dX5_hours_34 : decode cX5_hours 34 = .ok (.iload_n 1, 1) := by decide +kernel
theorem dX5_hours_35 : decode cX5_hours 35 = .ok (.imul, 1) := by decide +kernel
theorem dX5_hours_36 : decode cX5_hours 36 = .ok (.iload_n 3, 1) := by decide +kernel
theorem dX5_hours_37 : decode cX5_hours 37 = .ok (.iadd, 1) := by decide +kernel
theorem dX5_hours_38 : decode cX5_hours 38 = .ok (.iaload, 1) := by decide +kernel
theorem dX5_hours_39 : decode cX5_hours 39 = .ok (.invokestatic 128, 3) := by decide +kernel
theorem dX5_hours_42 : decode cX5_hours 42 = .ok (.goto 4, 3) := by decide +kernel
theorem dX5_hours_45 : decode cX5_hours 45 = .ok (.iconst (-1), 1) := by decide +kernel
theorem dX5_hours_46 : decode cX5_hours 46 = .ok (.istore 4, 2) := by decide +kernel
theorem dX5_hours_48 : decode cX5_hours 48 = .ok (.aload_n 0, 1) := by decide +kernel
theorem dX5_hours_49 : decode cX5_hours 49 = .ok (.iload 4, 2) := by decide +kernel
theorem dX5_hours_51 : decode cX5_hours 51 = .ok (.ifCond .lt 8, 3) := by decide +kernel
theorem dX5_hours_54 : decode cX5_hours 54 = .ok (.iload 4, 2) := by decide +kernel
theorem dX5_hours_56 : decode cX5_hours 56 = .ok (.goto 7, 3) := by decide +kernel
theorem dX5_hours_59 : decode cX5_hours 59 = .ok (.aload_n 0, 1) := by decide +kernel
theorem dX5_hours_60 : decode cX5_hours 60 = .ok (.invokevirtual 131, 3) := by decide +kernel
theorem dX5_hours_63 : decode cX5_hours 63 = .ok (.putfield 50, 3) := by decide +kernel
theorem dX5_hours_66 : decode cX5_hours 66 = .ok (.iconst 2, 1) := by decide +kernel
theorem dX5_hours_67 : decode cX5_hours 67 = .ok (.aload_n 0, 1) := by decide +kernel
theorem dX5_hours_68 : decode cX5_hours 68 = .ok (.getfield 53, 3) := by decide +kernel
theorem dX5_hours_71 : decode cX5_hours 71 = .ok (.iadd, 1) := by decide +kernel
theorem dX5_hours_72 : decode cX5_hours 72 = .ok (.aload_n 0, 1) := by decide +kernel
theorem dX5_hours_73 : decode cX5_hours 73 = .ok (.getfield 15, 3) := by decide +kernel
theorem dX5_hours_76 : decode cX5_hours 76 = .ok (.aload_n 0, 1) := by decide +kernel
theorem dX5_hours_77 : decode cX5_hours 77 = .ok (.getfield 50, 3) := by decide +kernel
theorem dX5_hours_80 : decode cX5_hours 80 = .ok (.iaload, 1) := by decide +kernel
theorem dX5_hours_81 : decode cX5_hours 81 = .ok (.invokestatic 120, 3) := by decide +kernel
theorem dX5_hours_84 : decode cX5_hours 84 = .ok (.istore 5, 2) := by decide +kernel
theorem dX5_hours_86 : decode cX5_hours 86 = .ok (.aload_n 0, 1) := by decide +kernel
theorem dX5_hours_87 : decode cX5_hours 87 = .ok (.getfield 15, 3) := by decide +kernel
theorem dX5_hours_90 : decode cX5_hours 90 = .ok (.aload_n 0, 1) := by decide +kernel
theorem dX5_hours_91 : decode cX5_hours 91 = .ok (.getfield 50, 3) := by decide +kernel
theorem dX5_hours_94 : decode cX5_hours 94 = .ok (.dup2, 1) := by decide +kernel
theorem dX5_hours_95 : decode cX5_hours 95 = .ok (.iaload, 1) := by decide +kernel
theorem dX5_hours_96 : decode cX5_hours 96 = .ok (.iload 5, 2) := by decide +kernel
theorem dX5_hours_98 : decode cX5_hours 98 = .ok (.isub, 1) := by decide +kernel
theorem dX5_hours_99 : decode cX5_hours 99 = .ok (.iastore, 1) := by decide +kernel
theorem dX5_hours_100 : decode cX5_hours 100 = .ok (.aload_n 0, 1) := by decide +kernel
theorem dX5_hours_101 : decode cX5_hours 101 = .ok (.getfield 65, 3) := by decide +kernel
theorem dX5_hours_104 : decode cX5_hours 104 = .ok (.aload_n 0, 1) := by decide +kernel
theorem dX5_hours_105 : decode cX5_hours 105 = .ok (.getfield 50, 3) := by decide +kernel
theorem dX5_hours_108 : decode cX5_hours 108 = .ok (.dup2, 1) := by decide +kernel
theorem dX5_hours_109 : decode cX5_hours 109 = .ok (.iaload, 1) := by decide +kernel
theorem dX5_hours_110 : decode cX5_hours 110 = .ok (.iload 5, 2) := by decide +kernel
theorem dX5_hours_112 : decode cX5_hours 112 = .ok (.iadd, 1) := by decide +kernel
theorem dX5_hours_113 : decode cX5_hours 113 = .ok (.iastore, 1) := by decide +kernel
theorem dX5_hours_114 : decode cX5_hours 114 = .ok (.iload_n 2, 1) := by decide +kernel
theorem dX5_hours_115 : decode cX5_hours 115 = .ok (.iload 5, 2) := by decide +kernel
theorem dX5_hours_117 : decode cX5_hours 117 = .ok (.iadd, 1) := by decide +kernel
theorem dX5_hours_118 : decode cX5_hours 118 = .ok (.istore_n 2, 1) := by decide +kernel
theorem dX5_hours_119 : decode cX5_hours 119 = .ok (.aload_n 0, 1) := by decide +kernel
theorem dX5_hours_120 : decode cX5_hours 120 = .ok (.getfield 62, 3) := by decide +kernel
theorem dX5_hours_123 : decode cX5_hours 123 = .ok (.aload_n 0, 1) := by decide +kernel
theorem dX5_hours_124 : decode cX5_hours 124 = .ok (.getfield 50, 3) := by decide +kernel
theorem dX5_hours_127 : decode cX5_hours 127 = .ok (.aload_n 0, 1) := by decide +kernel
theorem dX5_hours_128 : decode cX5_hours 128 = .ok (.aload_n 0, 1) := by decide +kernel
theorem dX5_hours_129 : decode cX5_hours 129 = .ok (.getfield 50, 3) := by decide +kernel
theorem dX5_hours_132 : decode cX5_hours 132 = .ok (.invokevirtual 125, 3) := by decide +kernel
theorem dX5_hours_135 : decode cX5_hours 135 = .ok (.iastore, 1) := by decide +kernel
theorem dX5_hours_136 : decode cX5_hours 136 = .ok (.iinc 3 1, 3) := by decide +kernel
theorem dX5_hours_139 : decode cX5_hours 139 = .ok (.goto (-127), 3) := by decide +kernel
theorem dX5_hours_142 : decode cX5_hours 142 = .ok (.iload_n 2, 1) := by decide +kernel
theorem dX5_hours_143 : decode cX5_hours 143 = .ok (.ireturn, 1) := by decide +kernel
theorem gX5_smellOf_X3_isThere : GoodIn wsX5_smellOf (wsV RX5 134 RX3 yX3_isThere wsX3_isThere) := nw_gV nwl_X5_smellOf nwe_274 nwe_275 nwe_276 nwe_192 nwl_X3_isThere (by decide +kernel)
theorem gX5_smellOf_X3_value : GoodIn wsX5_smellOf (wsV RX5 138 RX3 yX3_value wsX3_value) := nw_gV nwl_X5_smellOf nwe_277 nwe_278 nwe_279 nwe_192 nwl_X3_value (by decide +kernel)
theorem dX5_smellOf_0 : decode cX5_smellOf 0 = .ok (.aload_n 0, 1) := by decide +kernel
theorem dX5_smellOf_1 : decode cX5_smellOf 1 = .ok (.getfield 43, 3) := by decide +kernel
theorem dX5_smellOf_4 : decode cX5_smellOf 4 = .ok (.invokevirtual 134, 3) := by decide +kernel
theorem dX5_smellOf_7 : decode cX5_smellOf 7 = .ok (.ifCond .eq 24, 3) := by decide +kernel
theorem dX5_smellOf_10 : decode cX5_smellOf 10 = .ok (.aload_n 0, 1) := by decide +kernel
theorem dX5_smellOf_11 : decode cX5_smellOf 11 = .ok (.getfield 43, 3) := by decide +kernel
theorem dX5_smellOf_14 : decode cX5_smellOf 14 = .ok (.aload_n 0, 1) := by decide +kernel
theorem dX5_smellOf_15 : decode cX5_smellOf 15 = .ok (.getfield 15, 3) := by decide +kernel
theorem dX5_smellOf_18 : decode cX5_smellOf 18 = .ok (.iload_n 1, 1) := by decide +kernel
theorem dX5_smellOf_19 : decode cX5_smellOf 19 = .ok (.iaload, 1) := by decide +kernel
theorem dX5_smellOf_20 : decode cX5_smellOf 20 = .ok (.iload_n 1, 1) := by decide +kernel
theorem dX5_smellOf_21 : decode cX5_smellOf 21 = .ok (.aload_n 0, 1) := by decide +kernel
theorem dX5_smellOf_22 : decode cX5_smellOf 22 = .ok (.getfield 53, 3) := by decide +kernel
theorem dX5_smellOf_25 : decode cX5_smellOf 25 = .ok (.invokevirtual 138, 3) := by decide +kernel
theorem dX5_smellOf_28 : decode cX5_smellOf 28 = .ok (.goto 9, 3) := by decide +kernel
theorem dX5_smellOf_31 : decode cX5_smellOf 31 = .ok (.aload_n 0, 1) := by decide +kernel
theorem dX5_smellOf_32 : decode cX5_smellOf 32 = .ok (.getfield 15, 3) := by decide +kernel
theorem dX5_smellOf_35 : decode cX5_smellOf 35 = .ok (.iload_n 1, 1) := by decide +kernel
theorem dX5_smellOf_36 : decode cX5_smellOf 36 = .ok (.iaload, 1) := by decide +kernel
theorem dX5_smellOf_37 : decode cX5_smellOf 37 = .ok (.ireturn, 1) := by decide +kernel
theorem dX5_bestSmell_0 : decode cX5_bestSmell 0 = .ok (.iconst (-1), 1) := by decide +kernel
theorem dX5_bestSmell_1 : decode cX5_bestSmell 1 = .ok (.istore_n 1, 1) := by decide +kernel
theorem dX5_bestSmell_2 : decode cX5_bestSmell 2 = .ok (.iconst 0, 1) := by decide +kernel
theorem dX5_bestSmell_3 : decode cX5_bestSmell 3 = .ok (.istore_n 2, 1) := by decide +kernel
theorem dX5_bestSmell_4 : decode cX5_bestSmell 4 = .ok (.iload_n 2, 1) := by decide +kernel
theorem dX5_bestSmell_5 : decode cX5_bestSmell 5 = .ok (.bipush 16, 2) := by decide +kernel
theorem dX5_bestSmell_7 : decode cX5_bestSmell 7 = .ok (.if_icmp .ge 67, 3) := by decide +kernel
theorem dX5_bestSmell_10 : decode cX5_bestSmell 10 = .ok (.iload_n 2, 1) := by decide +kernel
theorem dX5_bestSmell_11 : decode cX5_bestSmell 11 = .ok (.iconst 4, 1) := by decide +kernel
theorem dX5_bestSmell_12 : decode cX5_bestSmell 12 = .ok (.idiv, 1) := by decide +kernel
theorem dX5_bestSmell_13 : decode cX5_bestSmell 13 = .ok (.aload_n 0, 1) := by decide +kernel
theorem dX5_bestSmell_14 : decode cX5_bestSmell 14 = .ok (.getfield 50, 3) := by decide +kernel
theorem dX5_bestSmell_17 : decode cX5_bestSmell 17 = .ok (.iconst 4, 1) := by decide +kernel
theorem dX5_bestSmell_18 : decode cX5_bestSmell 18 = .ok (.idiv, 1) := by decide +kernel
theorem dX5_bestSmell_19 : decode cX5_bestSmell 19 = .ok (.isub, 1) := by decide +kernel
theorem dX5_bestSmell_20 : decode cX5_bestSmell 20 = .ok (.invokestatic 142, 3) := by decide +kernel
theorem dX5_bestSmell_23 : decode cX5_bestSmell 23 = .ok (.istore_n 3, 1) := by decide +kernel
theorem dX5_bestSmell_24 : decode cX5_bestSmell 24 = .ok (.iload_n 2, 1) := by decide +kernel
theorem dX5_bestSmell_25 : decode cX5_bestSmell 25 = .ok (.iconst 4, 1) := by decide +kernel
theorem dX5_bestSmell_26 : decode cX5_bestSmell 26 = .ok (.irem, 1) := by decide +kernel
theorem dX5_bestSmell_27 : decode cX5_bestSmell 27 = .ok (.aload_n 0, 1) := by decide +kernel
theorem dX5_bestSmell_28 : decode cX5_bestSmell 28 = .ok (.getfield 50, 3) := by decide +kernel
theorem dX5_bestSmell_31 : decode cX5_bestSmell 31 = .ok (.iconst 4, 1) := by decide +kernel
theorem dX5_bestSmell_32 : decode cX5_bestSmell 32 = .ok (.irem, 1) := by decide +kernel
theorem dX5_bestSmell_33 : decode cX5_bestSmell 33 = .ok (.isub, 1) := by decide +kernel
theorem dX5_bestSmell_34 : decode cX5_bestSmell 34 = .ok (.invokestatic 142, 3) := by decide +kernel
theorem dX5_bestSmell_37 : decode cX5_bestSmell 37 = .ok (.istore 4, 2) := by decide +kernel
theorem dX5_bestSmell_39 : decode cX5_bestSmell 39 = .ok (.iload_n 3, 1) := by decide +kernel
theorem dX5_bestSmell_40 : decode cX5_bestSmell 40 = .ok (.iload 4, 2) := by decide +kernel
theorem dX5_bestSmell_42 : decode cX5_bestSmell 42 = .ok (.iadd, 1) := by decide +kernel
theorem dX5_bestSmell_43 : decode cX5_bestSmell 43 = .ok (.iconst 1, 1) := by decide +kernel
theorem dX5_bestSmell_44 : decode cX5_bestSmell 44 = .ok (.if_icmp .gt 24, 3) := by decide +kernel
theorem dX5_bestSmell_47 : decode cX5_bestSmell 47 = .ok (.iload_n 1, 1) := by decide +kernel
theorem dX5_bestSmell_48 : decode cX5_bestSmell 48 = .ok (.ifCond .lt 18, 3) := by decide +kernel
theorem dX5_bestSmell_51 : decode cX5_bestSmell 51 = .ok (.aload_n 0, 1) := by decide +kernel
theorem dX5_bestSmell_52 : decode cX5_bestSmell 52 = .ok (.getfield 62, 3) := by decide +kernel
theorem dX5_bestSmell_55 : decode cX5_bestSmell 55 = .ok (.iload_n 2, 1) := by decide +kernel
theorem dX5_bestSmell_56 : decode cX5_bestSmell 56 = .ok (.iaload, 1) := by decide +kernel
theorem dX5_bestSmell_57 : decode cX5_bestSmell 57 = .ok (.aload_n 0, 1) := by decide +kernel
theorem dX5_bestSmell_58 : decode cX5_bestSmell 58 = .ok (.getfield 62, 3) := by decide +kernel
theorem dX5_bestSmell_61 : decode cX5_bestSmell 61 = .ok (.iload_n 1, 1) := by decide +kernel
theorem dX5_bestSmell_62 : decode cX5_bestSmell 62 = .ok (.iaload, 1) := by decide +kernel
theorem dX5_bestSmell_63 : decode cX5_bestSmell 63 = .ok (.if_icmp .le 5, 3) := by decide +kernel
theorem dX5_bestSmell_66 : decode cX5_bestSmell 66 = .ok (.iload_n 2, 1) := by decide +kernel
theorem dX5_bestSmell_67 : decode cX5_bestSmell 67 = .ok (.istore_n 1, 1) := by decide +kernel
theorem dX5_bestSmell_68 : decode cX5_bestSmell 68 = .ok (.iinc 2 1, 3) := by decide +kernel
theorem dX5_bestSmell_71 : decode cX5_bestSmell 71 = .ok (.goto (-67), 3) := by decide +kernel
theorem dX5_bestSmell_74 : decode cX5_bestSmell 74 = .ok (.iload_n 1, 1) := by decide +kernel
theorem dX5_bestSmell_75 : decode cX5_bestSmell 75 = .ok (.ifCond .ge 10, 3) := by decide +kernel
theorem dX5_bestSmell_78 : decode cX5_bestSmell 78 = .ok (.aload_n 0, 1) := by decide +kernel
theorem dX5_bestSmell_79 : decode cX5_bestSmell 79 = .ok (.getfield 50, 3) := by decide +kernel
theorem dX5_bestSmell_82 : decode cX5_bestSmell 82 = .ok (.goto 4, 3) := by decide +kernel
theorem dX5_bestSmell_85 : decode cX5_bestSmell 85 = .ok (.iload_n 1, 1) := by decide +kernel
theorem dX5_bestSmell_86 : decode cX5_bestSmell 86 = .ok (.ireturn, 1) := by decide +kernel
theorem gX5_partOut_X5_toPurse : GoodIn wsX5_partOut (wsV RX5 145 RX5 yX5_toPurse wsX5_toPurse) := nw_gV nwl_X5_partOut nwe_299 nwe_300 nwe_301 nwe_259 nwl_X5_toPurse (by decide +kernel)
theorem dX5_partOut_0 : decode cX5_partOut 0 = .ok (.aload_n 0, 1) := by decide +kernel
theorem dX5_partOut_1 : decode cX5_partOut 1 = .ok (.getfield 18, 3) := by decide +kernel
theorem dX5_partOut_4 : decode cX5_partOut 4 = .ok (.iload_n 1, 1) := by decide +kernel
theorem dX5_partOut_5 : decode cX5_partOut 5 = .ok (.iaload, 1) := by decide +kernel
theorem dX5_partOut_6 : decode cX5_partOut 6 = .ok (.iconst 3, 1) := by decide +kernel
theorem dX5_partOut_7 : decode cX5_partOut 7 = .ok (.if_icmp .ne 17, 3) := by decide +kernel
theorem dX5_partOut_10 : decode cX5_partOut 10 = .ok (.iload_n 2, 1) := by decide +kernel
theorem dX5_partOut_11 : decode cX5_partOut 11 = .ok (.aload_n 0, 1) := by decide +kernel
theorem dX5_partOut_12 : decode cX5_partOut 12 = .ok (.getfield 21, 3) := by decide +kernel
theorem dX5_partOut_15 : decode cX5_partOut 15 = .ok (.iload_n 1, 1) := by decide +kernel
theorem dX5_partOut_16 : decode cX5_partOut 16 = .ok (.iaload, 1) := by decide +kernel
theorem dX5_partOut_17 : decode cX5_partOut 17 = .ok (.imul, 1) := by decide +kernel
theorem dX5_partOut_18 : decode cX5_partOut 18 = .ok (.bipush 9, 2) := by decide +kernel
theorem dX5_partOut_20 : decode cX5_partOut 20 = .ok (.idiv, 1) := by decide +kernel
theorem dX5_partOut_21 : decode cX5_partOut 21 = .ok (.goto 4, 3) := by decide +kernel
theorem dX5_partOut_24 : decode cX5_partOut 24 = .ok (.iconst 0, 1) := by decide +kernel
theorem dX5_partOut_25 : decode cX5_partOut 25 = .ok (.istore_n 3, 1) := by decide +kernel
theorem dX5_partOut_26 : decode cX5_partOut 26 = .ok (.iload_n 2, 1) := by decide +kernel
theorem dX5_partOut_27 : decode cX5_partOut 27 = .ok (.iload_n 3, 1) := by decide +kernel
theorem dX5_partOut_28 : decode cX5_partOut 28 = .ok (.isub, 1) := by decide +kernel
theorem dX5_partOut_29 : decode cX5_partOut 29 = .ok (.istore 4, 2) := by decide +kernel
theorem dX5_partOut_31 : decode cX5_partOut 31 = .ok (.iload 4, 2) := by decide +kernel
theorem dX5_partOut_33 : decode cX5_partOut 33 = .ok (.bipush 9, 2) := by decide +kernel
theorem dX5_partOut_35 : decode cX5_partOut 35 = .ok (.idiv, 1) := by decide +kernel
theorem dX5_partOut_36 : decode cX5_partOut 36 = .ok (.istore 5, 2) := by decide +kernel
theorem dX5_partOut_38 : decode cX5_partOut 38 = .ok (.iconst 0, 1) := by decide +kernel
theorem dX5_partOut_39 : decode cX5_partOut 39 = .ok (.istore 6, 2) := by decide +kernel
theorem dX5_partOut_41 : decode cX5_partOut 41 = .ok (.iload 6, 2) := by decide +kernel
theorem dX5_partOut_43 : decode cX5_partOut 43 = .ok (.bipush 9, 2) := by decide +kernel
theorem dX5_partOut_45 : decode cX5_partOut 45 = .ok (.if_icmp .ge 17, 3) := by decide +kernel
theorem dX5_partOut_48 : decode cX5_partOut 48 = .ok (.aload_n 0, 1) := by decide +kernel
theorem dX5_partOut_49 : decode cX5_partOut 49 = .ok (.iload 6, 2) := by decide +kernel
theorem dX5_partOut_51 : decode cX5_partOut 51 = .ok (.iload 5, 2) := by decide +kernel
theorem dX5_partOut_53 : decode cX5_partOut 53 = .ok (.invokevirtual 145, 3) := by decide +kernel
theorem dX5_partOut_56 : decode cX5_partOut 56 = .ok (.iinc 6 1, 3) := by decide +kernel
theorem dX5_partOut_59 : decode cX5_partOut 59 = .ok (.goto (-18), 3) := by decide +kernel
theorem dX5_partOut_62 : decode cX5_partOut 62 = .ok (.aload_n 0, 1) := by decide +kernel
theorem dX5_partOut_63 : decode cX5_partOut 63 = .ok (.iload_n 1, 1) := by decide +kernel
theorem dX5_partOut_64 : decode cX5_partOut 64 = .ok (.iload_n 3, 1) := by decide +kernel
theorem dX5_partOut_65 : decode cX5_partOut 65 = .ok (.iload 4, 2) := by decide +kernel
theorem dX5_partOut_67 : decode cX5_partOut 67 = .ok (.bipush 9, 2) := by decide +kernel
theorem dX5_partOut_69 : decode cX5_partOut 69 = .ok (.irem, 1) := by decide +kernel
theorem dX5_partOut_70 : decode cX5_partOut 70 = .ok (.iadd, 1) := by decide +kernel
theorem dX5_partOut_71 : decode cX5_partOut 71 = .ok (.invokevirtual 145, 3) := by decide +kernel
theorem dX5_partOut_74 : decode cX5_partOut 74 = .ok (.aload_n 0, 1) := by decide +kernel
theorem dX5_partOut_75 : decode cX5_partOut 75 = .ok (.getfield 27, 3) := by decide +kernel
theorem dX5_partOut_78 : decode cX5_partOut 78 = .ok (.iload_n 1, 1) := by decide +kernel
theorem dX5_partOut_79 : decode cX5_partOut 79 = .ok (.ldc 148, 2) := by decide +kernel
theorem dX5_partOut_81 : decode cX5_partOut 81 = .ok (.aload_n 0, 1) := by decide +kernel
theorem dX5_partOut_82 : decode cX5_partOut 82 = .ok (.getfield 27, 3) := by decide +kernel
theorem dX5_partOut_85 : decode cX5_partOut 85 = .ok (.iload_n 1, 1) := by decide +kernel
theorem dX5_partOut_86 : decode cX5_partOut 86 = .ok (.iaload, 1) := by decide +kernel
theorem dX5_partOut_87 : decode cX5_partOut 87 = .ok (.iload_n 3, 1) := by decide +kernel
theorem dX5_partOut_88 : decode cX5_partOut 88 = .ok (.iadd, 1) := by decide +kernel
theorem dX5_partOut_89 : decode cX5_partOut 89 = .ok (.invokestatic 120, 3) := by decide +kernel
theorem dX5_partOut_92 : decode cX5_partOut 92 = .ok (.iastore, 1) := by decide +kernel
theorem dX5_partOut_93 : decode cX5_partOut 93 = .ok (.return_, 1) := by decide +kernel
theorem dX5_toPurse_0 : decode cX5_toPurse 0 = .ok (.aload_n 0, 1) := by decide +kernel
theorem dX5_toPurse_1 : decode cX5_toPurse 1 = .ok (.getfield 24, 3) := by decide +kernel
theorem dX5_toPurse_4 : decode cX5_toPurse 4 = .ok (.iload_n 1, 1) := by decide +kernel
theorem dX5_toPurse_5 : decode cX5_toPurse 5 = .ok (.ldc 148, 2) := by decide +kernel
theorem dX5_toPurse_7 : decode cX5_toPurse 7 = .ok (.aload_n 0, 1) := by decide +kernel
theorem dX5_toPurse_8 : decode cX5_toPurse 8 = .ok (.getfield 24, 3) := by decide +kernel
theorem dX5_toPurse_11 : decode cX5_toPurse 11 = .ok (.iload_n 1, 1) := by decide +kernel
theorem dX5_toPurse_12 : decode cX5_toPurse 12 = .ok (.iaload, 1) := by decide +kernel
theorem dX5_toPurse_13 : decode cX5_toPurse 13 = .ok (.iload_n 2, 1) := by decide +kernel
theorem dX5_toPurse_14 : decode cX5_toPurse 14 = .ok (.iadd, 1) := by decide +kernel
theorem dX5_toPurse_15 : decode cX5_toPurse 15 = .ok (.invokestatic 120, 3) := by decide +kernel
theorem dX5_toPurse_18 : decode cX5_toPurse 18 = .ok (.iastore, 1) := by decide +kernel
theorem dX5_toPurse_19 : decode cX5_toPurse 19 = .ok (.return_, 1) := by decide +kernel
theorem gX5_feedsOf_X5_held : GoodIn wsX5_feedsOf (va_wsS RX5 149 yX5_held wsX5_held) := nw_gS nwl_X5_feedsOf nwe_303 nwe_304 nwe_259 nwl_X5_held (by decide +kernel)
theorem gX5_feedsOf_X3_isThere : GoodIn wsX5_feedsOf (wsV RX5 134 RX3 yX3_isThere wsX3_isThere) := nw_gV nwl_X5_feedsOf nwe_274 nwe_275 nwe_276 nwe_192 nwl_X3_isThere (by decide +kernel)
theorem gX5_feedsOf_X3_value : GoodIn wsX5_feedsOf (wsV RX5 138 RX3 yX3_value wsX3_value) := nw_gV nwl_X5_feedsOf nwe_277 nwe_278 nwe_279 nwe_192 nwl_X3_value (by decide +kernel)
theorem dX5_feedsOf_0 : decode cX5_feedsOf 0 = .ok (.aload_n 0, 1) := by decide +kernel
theorem dX5_feedsOf_1 : decode cX5_feedsOf 1 = .ok (.getfield 21, 3) := by decide +kernel
theorem dX5_feedsOf_4 : decode cX5_feedsOf 4 = .ok (.iload_n 1, 1) := by decide +kernel
theorem dX5_feedsOf_5 : decode cX5_feedsOf 5 = .ok (.iaload, 1) := by decide +kernel
theorem dX5_feedsOf_6 : decode cX5_feedsOf 6 = .ok (.istore_n 3, 1) := by decide +kernel
theorem dX5_feedsOf_7 : decode cX5_feedsOf 7 = .ok (.aload_n 0, 1) := by decide +kernel
theorem dX5_feedsOf_8 : decode cX5_feedsOf 8 = .ok (.getfield 18, 3) := by decide +kernel
theorem dX5_feedsOf_11 : decode cX5_feedsOf 11 = .ok (.iload_n 1, 1) := by decide +kernel
theorem dX5_feedsOf_12 : decode cX5_feedsOf 12 = .ok (.iaload, 1) := by decide +kernel
theorem dX5_feedsOf_13 : decode cX5_feedsOf 13 = .ok (.tableswitch 110 1 6 #[39, 48, 110, 57, 68, 79], 39) := by decide +kernel
theorem dX5_feedsOf_52 : decode cX5_feedsOf 52 = .ok (.iconst 4, 1) := by decide +kernel
theorem dX5_feedsOf_53 : decode cX5_feedsOf 53 = .ok (.iload_n 3, 1) := by decide +kernel
theorem dX5_feedsOf_54 : decode cX5_feedsOf 54 = .ok (.iconst 2, 1) := by decide +kernel
theorem dX5_feedsOf_55 : decode cX5_feedsOf 55 = .ok (.idiv, 1) := by decide +kernel
theorem dX5_feedsOf_56 : decode cX5_feedsOf 56 = .ok (.isub, 1) := by decide +kernel
theorem dX5_feedsOf_57 : decode cX5_feedsOf 57 = .ok (.invokestatic 149, 3) := by decide +kernel
theorem dX5_feedsOf_60 : decode cX5_feedsOf 60 = .ok (.ireturn, 1) := by decide +kernel
theorem dX5_feedsOf_61 : decode cX5_feedsOf 61 = .ok (.iconst 4, 1) := by decide +kernel
theorem dX5_feedsOf_62 : decode cX5_feedsOf 62 = .ok (.iload_n 3, 1) := by decide +kernel
theorem dX5_feedsOf_63 : decode cX5_feedsOf 63 = .ok (.iconst 2, 1) := by decide +kernel
theorem dX5_feedsOf_64 : decode cX5_feedsOf 64 = .ok (.idiv, 1) := by decide +kernel
theorem dX5_feedsOf_65 : decode cX5_feedsOf 65 = .ok (.iadd, 1) := by decide +kernel
theorem dX5_feedsOf_66 : decode cX5_feedsOf 66 = .ok (.invokestatic 149, 3) := by decide +kernel
theorem dX5_feedsOf_69 : decode cX5_feedsOf 69 = .ok (.ireturn, 1) := by decide +kernel
theorem dX5_feedsOf_70 : decode cX5_feedsOf 70 = .ok (.iconst 4, 1) := by decide +kernel
theorem dX5_feedsOf_71 : decode cX5_feedsOf 71 = .ok (.iload_n 3, 1) := by decide +kernel
theorem dX5_feedsOf_72 : decode cX5_feedsOf 72 = .ok (.iconst 2, 1) := by decide +kernel
theorem dX5_feedsOf_73 : decode cX5_feedsOf 73 = .ok (.idiv, 1) := by decide +kernel
theorem dX5_feedsOf_74 : decode cX5_feedsOf 74 = .ok (.isub, 1) := by decide +kernel
theorem dX5_feedsOf_75 : decode cX5_feedsOf 75 = .ok (.iconst 2, 1) := by decide +kernel
theorem dX5_feedsOf_76 : decode cX5_feedsOf 76 = .ok (.isub, 1) := by decide +kernel
theorem dX5_feedsOf_77 : decode cX5_feedsOf 77 = .ok (.invokestatic 149, 3) := by decide +kernel
theorem dX5_feedsOf_80 : decode cX5_feedsOf 80 = .ok (.ireturn, 1) := by decide +kernel
theorem dX5_feedsOf_81 : decode cX5_feedsOf 81 = .ok (.iconst 2, 1) := by decide +kernel
theorem dX5_feedsOf_82 : decode cX5_feedsOf 82 = .ok (.iconst 4, 1) := by decide +kernel
theorem dX5_feedsOf_83 : decode cX5_feedsOf 83 = .ok (.iload_n 3, 1) := by decide +kernel
theorem dX5_feedsOf_84 : decode cX5_feedsOf 84 = .ok (.iconst 2, 1) := by decide +kernel
theorem dX5_feedsOf_85 : decode cX5_feedsOf 85 = .ok (.idiv, 1) := by decide +kernel
theorem dX5_feedsOf_86 : decode cX5_feedsOf 86 = .ok (.iadd, 1) := by decide +kernel
theorem dX5_feedsOf_87 : decode cX5_feedsOf 87 = .ok (.imul, 1) := by decide +kernel
theorem dX5_feedsOf_88 : decode cX5_feedsOf 88 = .ok (.invokestatic 149, 3) := by decide +kernel
theorem dX5_feedsOf_91 : decode cX5_feedsOf 91 = .ok (.ireturn, 1) := by decide +kernel
theorem dX5_feedsOf_92 : decode cX5_feedsOf 92 = .ok (.aload_n 0, 1) := by decide +kernel
theorem dX5_feedsOf_93 : decode cX5_feedsOf 93 = .ok (.getfield 39, 3) := by decide +kernel
theorem dX5_feedsOf_96 : decode cX5_feedsOf 96 = .ok (.invokevirtual 134, 3) := by decide +kernel
theorem dX5_feedsOf_99 : decode cX5_feedsOf 99 = .ok (.ifCond .eq 22, 3) := by decide +kernel
theorem dX5_feedsOf_102 : decode cX5_feedsOf 102 = .ok (.aload_n 0, 1) := by decide +kernel
theorem dX5_feedsOf_103 : decode cX5_feedsOf 103 = .ok (.getfield 39, 3) := by decide +kernel
theorem dX5_feedsOf_106 : decode cX5_feedsOf 106 = .ok (.iload_n 2, 1) := by decide +kernel
theorem dX5_feedsOf_107 : decode cX5_feedsOf 107 = .ok (.aload_n 0, 1) := by decide +kernel
theorem dX5_feedsOf_108 : decode cX5_feedsOf 108 = .ok (.getfield 53, 3) := by decide +kernel
theorem dX5_feedsOf_111 : decode cX5_feedsOf 111 = .ok (.iload_n 3, 1) := by decide +kernel
theorem dX5_feedsOf_112 : decode cX5_feedsOf 112 = .ok (.invokevirtual 138, 3) := by decide +kernel
theorem dX5_feedsOf_115 : decode cX5_feedsOf 115 = .ok (.invokestatic 149, 3) := by decide +kernel
theorem dX5_feedsOf_118 : decode cX5_feedsOf 118 = .ok (.goto 4, 3) := by decide +kernel
theorem dX5_feedsOf_121 : decode cX5_feedsOf 121 = .ok (.iconst 4, 1) := by decide +kernel
theorem dX5_feedsOf_122 : decode cX5_feedsOf 122 = .ok (.ireturn, 1) := by decide +kernel
theorem dX5_feedsOf_123 : decode cX5_feedsOf 123 = .ok (.iconst 4, 1) := by decide +kernel
theorem dX5_feedsOf_124 : decode cX5_feedsOf 124 = .ok (.ireturn, 1) := by decide +kernel
theorem dX5_held_0 : decode cX5_held 0 = .ok (.iconst 0, 1) := by decide +kernel
theorem dX5_held_1 : decode cX5_held 1 = .ok (.bipush 9, 2) := by decide +kernel
theorem dX5_held_3 : decode cX5_held 3 = .ok (.iload_n 0, 1) := by decide +kernel
theorem dX5_held_4 : decode cX5_held 4 = .ok (.invokestatic 120, 3) := by decide +kernel
theorem dX5_held_7 : decode cX5_held 7 = .ok (.invokestatic 152, 3) := by decide +kernel
theorem dX5_held_10 : decode cX5_held 10 = .ok (.ireturn, 1) := by decide +kernel
theorem dX5_within4_0 : decode cX5_within4 0 = .ok (.iconst 0, 1) := by decide +kernel
theorem dX5_within4_1 : decode cX5_within4 1 = .ok (.iconst 3, 1) := by decide +kernel
theorem dX5_within4_2 : decode cX5_within4 2 = .ok (.iload_n 0, 1) := by decide +kernel
theorem dX5_within4_3 : decode cX5_within4 3 = .ok (.invokestatic 120, 3) := by decide +kernel
theorem dX5_within4_6 : decode cX5_within4 6 = .ok (.invokestatic 152, 3) := by decide +kernel
theorem dX5_within4_9 : decode cX5_within4 9 = .ok (.ireturn, 1) := by decide +kernel
theorem dX5_beside_0 : decode cX5_beside 0 = .ok (.iload_n 1, 1) := by decide +kernel
theorem dX5_beside_1 : decode cX5_beside 1 = .ok (.tableswitch 87 0 3 #[31, 44, 59, 73], 31) := by decide +kernel
theorem dX5_beside_32 : decode cX5_beside 32 = .ok (.iload_n 0, 1) := by decide +kernel
theorem dX5_beside_33 : decode cX5_beside 33 = .ok (.iconst 4, 1) := by decide +kernel
theorem dX5_beside_34 : decode cX5_beside 34 = .ok (.if_icmp .lt 9, 3) := by decide +kernel
theorem dX5_beside_37 : decode cX5_beside 37 = .ok (.iload_n 0, 1) := by decide +kernel
theorem dX5_beside_38 : decode cX5_beside 38 = .ok (.iconst 4, 1) := by decide +kernel
theorem dX5_beside_39 : decode cX5_beside 39 = .ok (.isub, 1) := by decide +kernel
theorem dX5_beside_40 : decode cX5_beside 40 = .ok (.goto 4, 3) := by decide +kernel
theorem dX5_beside_43 : decode cX5_beside 43 = .ok (.iconst (-1), 1) := by decide +kernel
theorem dX5_beside_44 : decode cX5_beside 44 = .ok (.ireturn, 1) := by decide +kernel
theorem dX5_beside_45 : decode cX5_beside 45 = .ok (.iload_n 0, 1) := by decide +kernel
theorem dX5_beside_46 : decode cX5_beside 46 = .ok (.iconst 4, 1) := by decide +kernel
theorem dX5_beside_47 : decode cX5_beside 47 = .ok (.irem, 1) := by decide +kernel
theorem dX5_beside_48 : decode cX5_beside 48 = .ok (.iconst 3, 1) := by decide +kernel
theorem dX5_beside_49 : decode cX5_beside 49 = .ok (.if_icmp .ge 9, 3) := by decide +kernel
theorem dX5_beside_52 : decode cX5_beside 52 = .ok (.iload_n 0, 1) := by decide +kernel
theorem dX5_beside_53 : decode cX5_beside 53 = .ok (.iconst 1, 1) := by decide +kernel
theorem dX5_beside_54 : decode cX5_beside 54 = .ok (.iadd, 1) := by decide +kernel
theorem dX5_beside_55 : decode cX5_beside 55 = .ok (.goto 4, 3) := by decide +kernel
theorem dX5_beside_58 : decode cX5_beside 58 = .ok (.iconst (-1), 1) := by decide +kernel
theorem dX5_beside_59 : decode cX5_beside 59 = .ok (.ireturn, 1) := by decide +kernel
theorem dX5_beside_60 : decode cX5_beside 60 = .ok (.iload_n 0, 1) := by decide +kernel
theorem dX5_beside_61 : decode cX5_beside 61 = .ok (.bipush 12, 2) := by decide +kernel
theorem dX5_beside_63 : decode cX5_beside 63 = .ok (.if_icmp .ge 9, 3) := by decide +kernel
theorem dX5_beside_66 : decode cX5_beside 66 = .ok (.iload_n 0, 1) := by decide +kernel
theorem dX5_beside_67 : decode cX5_beside 67 = .ok (.iconst 4, 1) := by decide +kernel
theorem dX5_beside_68 : decode cX5_beside 68 = .ok (.iadd, 1) := by decide +kernel
theorem dX5_beside_69 : decode cX5_beside 69 = .ok (.goto 4, 3) := by decide +kernel
theorem dX5_beside_72 : decode cX5_beside 72 = .ok (.iconst (-1), 1) := by decide +kernel
theorem dX5_beside_73 : decode cX5_beside 73 = .ok (.ireturn, 1) := by decide +kernel
theorem dX5_beside_74 : decode cX5_beside 74 = .ok (.iload_n 0, 1) := by decide +kernel
theorem dX5_beside_75 : decode cX5_beside 75 = .ok (.iconst 4, 1) := by decide +kernel
theorem dX5_beside_76 : decode cX5_beside 76 = .ok (.irem, 1) := by decide +kernel
theorem dX5_beside_77 : decode cX5_beside 77 = .ok (.ifCond .le 9, 3) := by decide +kernel
theorem dX5_beside_80 : decode cX5_beside 80 = .ok (.iload_n 0, 1) := by decide +kernel
theorem dX5_beside_81 : decode cX5_beside 81 = .ok (.iconst 1, 1) := by decide +kernel
theorem dX5_beside_82 : decode cX5_beside 82 = .ok (.isub, 1) := by decide +kernel
theorem dX5_beside_83 : decode cX5_beside 83 = .ok (.goto 4, 3) := by decide +kernel
theorem dX5_beside_86 : decode cX5_beside 86 = .ok (.iconst (-1), 1) := by decide +kernel
theorem dX5_beside_87 : decode cX5_beside 87 = .ok (.ireturn, 1) := by decide +kernel
theorem dX5_beside_88 : decode cX5_beside 88 = .ok (.iconst (-1), 1) := by decide +kernel
theorem dX5_beside_89 : decode cX5_beside 89 = .ok (.ireturn, 1) := by decide +kernel
theorem gX6_init_X5_init : GoodIn wsX6_init (wsX5_init) := nw_gi nwl_X6_init nwl_X5_init (by decide +kernel)
theorem gX6_init_X1_init : GoodIn wsX6_init (wsX1_init) := nw_gi nwl_X6_init nwl_X1_init (by decide +kernel)
theorem gX6_init_X0_init_n56 : GoodIn wsX6_init (wsX0_init) := nw_gi nwl_X6_init nwl_X0_init (by decide +kernel)
theorem gX6_init_X4_init_n63 : GoodIn wsX6_init (wsX4_init) := nw_gi nwl_X6_init nwl_X4_init (by decide +kernel)
theorem gX6_init_X2_init_n77 : GoodIn wsX6_init (wsX2_init) := nw_gi nwl_X6_init nwl_X2_init (by decide +kernel)
theorem dX6_init_0 : decode cX6_init 0 = .ok (.aload_n 0, 1) := by decide +kernel
theorem dX6_init_1 : decode cX6_init 1 = .ok (.invokespecial 1, 3) := by decide +kernel
theorem dX6_init_4 : decode cX6_init 4 = .ok (.aload_n 0, 1) := by decide +kernel
theorem dX6_init_5 : decode cX6_init 5 = .ok (.new 7, 3) := by decide +kernel
theorem dX6_init_8 : decode cX6_init 8 = .ok (.dup, 1) := by decide +kernel
theorem dX6_init_9 : decode cX6_init 9 = .ok (.invokespecial 9, 3) := by decide +kernel
theorem dX6_init_12 : decode cX6_init 12 = .ok (.putfield 10, 3) := by decide +kernel
theorem dX6_init_15 : decode cX6_init 15 = .ok (.aload_n 0, 1) := by decide +kernel
theorem dX6_init_16 : decode cX6_init 16 = .ok (.new 16, 3) := by decide +kernel
theorem dX6_init_19 : decode cX6_init 19 = .ok (.dup, 1) := by decide +kernel
theorem dX6_init_20 : decode cX6_init 20 = .ok (.bipush 60, 2) := by decide +kernel
theorem dX6_init_22 : decode cX6_init 22 = .ok (.invokespecial 18, 3) := by decide +kernel
theorem dX6_init_25 : decode cX6_init 25 = .ok (.putfield 21, 3) := by decide +kernel
theorem dX6_init_28 : decode cX6_init 28 = .ok (.aload_n 0, 1) := by decide +kernel
theorem dX6_init_29 : decode cX6_init 29 = .ok (.new 16, 3) := by decide +kernel
theorem dX6_init_32 : decode cX6_init 32 = .ok (.dup, 1) := by decide +kernel
theorem dX6_init_33 : decode cX6_init 33 = .ok (.bipush 24, 2) := by decide +kernel
theorem dX6_init_35 : decode cX6_init 35 = .ok (.invokespecial 18, 3) := by decide +kernel
theorem dX6_init_38 : decode cX6_init 38 = .ok (.putfield 25, 3) := by decide +kernel
theorem dX6_init_41 : decode cX6_init 41 = .ok (.aload_n 0, 1) := by decide +kernel
theorem dX6_init_42 : decode cX6_init 42 = .ok (.new 7, 3) := by decide +kernel
theorem dX6_init_45 : decode cX6_init 45 = .ok (.dup, 1) := by decide +kernel
theorem dX6_init_46 : decode cX6_init 46 = .ok (.invokespecial 9, 3) := by decide +kernel
theorem dX6_init_49 : decode cX6_init 49 = .ok (.putfield 28, 3) := by decide +kernel
theorem dX6_init_52 : decode cX6_init 52 = .ok (.aload_n 0, 1) := by decide +kernel
theorem dX6_init_53 : decode cX6_init 53 = .ok (.new 16, 3) := by decide +kernel
theorem dX6_init_56 : decode cX6_init 56 = .ok (.dup, 1) := by decide +kernel
theorem dX6_init_57 : decode cX6_init 57 = .ok (.bipush 60, 2) := by decide +kernel
theorem dX6_init_59 : decode cX6_init 59 = .ok (.invokespecial 18, 3) := by decide +kernel
theorem dX6_init_62 : decode cX6_init 62 = .ok (.putfield 31, 3) := by decide +kernel
theorem dX6_init_65 : decode cX6_init 65 = .ok (.aload_n 0, 1) := by decide +kernel
theorem dX6_init_66 : decode cX6_init 66 = .ok (.new 16, 3) := by decide +kernel
theorem dX6_init_69 : decode cX6_init 69 = .ok (.dup, 1) := by decide +kernel
theorem dX6_init_70 : decode cX6_init 70 = .ok (.bipush 24, 2) := by decide +kernel
theorem dX6_init_72 : decode cX6_init 72 = .ok (.invokespecial 18, 3) := by decide +kernel
theorem dX6_init_75 : decode cX6_init 75 = .ok (.putfield 34, 3) := by decide +kernel
theorem dX6_init_78 : decode cX6_init 78 = .ok (.aload_n 0, 1) := by decide +kernel
theorem dX6_init_79 : decode cX6_init 79 = .ok (.iconst 0, 1) := by decide +kernel
theorem dX6_init_80 : decode cX6_init 80 = .ok (.putfield 37, 3) := by decide +kernel
theorem dX6_init_83 : decode cX6_init 83 = .ok (.aload_n 0, 1) := by decide +kernel
theorem dX6_init_84 : decode cX6_init 84 = .ok (.new 7, 3) := by decide +kernel
theorem dX6_init_87 : decode cX6_init 87 = .ok (.dup, 1) := by decide +kernel
theorem dX6_init_88 : decode cX6_init 88 = .ok (.invokespecial 9, 3) := by decide +kernel
theorem dX6_init_91 : decode cX6_init 91 = .ok (.putfield 41, 3) := by decide +kernel
theorem dX6_init_94 : decode cX6_init 94 = .ok (.aload_n 0, 1) := by decide +kernel
theorem dX6_init_95 : decode cX6_init 95 = .ok (.new 7, 3) := by decide +kernel
theorem dX6_init_98 : decode cX6_init 98 = .ok (.dup, 1) := by decide +kernel
theorem dX6_init_99 : decode cX6_init 99 = .ok (.invokespecial 9, 3) := by decide +kernel
theorem dX6_init_102 : decode cX6_init 102 = .ok (.putfield 44, 3) := by decide +kernel
theorem dX6_init_105 : decode cX6_init 105 = .ok (.aload_n 0, 1) := by decide +kernel
theorem dX6_init_106 : decode cX6_init 106 = .ok (.iconst 5, 1) := by decide +kernel
theorem dX6_init_107 : decode cX6_init 107 = .ok (.newarray .int, 2) := by decide +kernel
theorem dX6_init_109 : decode cX6_init 109 = .ok (.putfield 47, 3) := by decide +kernel
theorem dX6_init_112 : decode cX6_init 112 = .ok (.aload_n 0, 1) := by decide +kernel
theorem dX6_init_113 : decode cX6_init 113 = .ok (.bipush 18, 2) := by decide +kernel
theorem dX6_init_115 : decode cX6_init 115 = .ok (.newarray .int, 2) := by decide +kernel
theorem dX6_init_117 : decode cX6_init 117 = .ok (.putfield 51, 3) := by decide +kernel
theorem dX6_init_120 : decode cX6_init 120 = .ok (.aload_n 0, 1) := by decide +kernel
theorem dX6_init_121 : decode cX6_init 121 = .ok (.new 54, 3) := by decide +kernel
theorem dX6_init_124 : decode cX6_init 124 = .ok (.dup, 1) := by decide +kernel
theorem dX6_init_125 : decode cX6_init 125 = .ok (.invokespecial 56, 3) := by decide +kernel
theorem dX6_init_128 : decode cX6_init 128 = .ok (.putfield 57, 3) := by decide +kernel
theorem dX6_init_131 : decode cX6_init 131 = .ok (.aload_n 0, 1) := by decide +kernel
theorem dX6_init_132 : decode cX6_init 132 = .ok (.new 61, 3) := by decide +kernel
theorem dX6_init_135 : decode cX6_init 135 = .ok (.dup, 1) := by decide +kernel
theorem dX6_init_136 : decode cX6_init 136 = .ok (.invokespecial 63, 3) := by decide +kernel
theorem dX6_init_139 : decode cX6_init 139 = .ok (.putfield 64, 3) := by decide +kernel
theorem dX6_init_142 : decode cX6_init 142 = .ok (.aload_n 0, 1) := by decide +kernel
theorem dX6_init_143 : decode cX6_init 143 = .ok (.iconst 4, 1) := by decide +kernel
theorem dX6_init_144 : decode cX6_init 144 = .ok (.anewarray 68, 3) := by decide +kernel
theorem dX6_init_147 : decode cX6_init 147 = .ok (.putfield 70, 3) := by decide +kernel
theorem dX6_init_150 : decode cX6_init 150 = .ok (.aload_n 0, 1) := by decide +kernel
theorem dX6_init_151 : decode cX6_init 151 = .ok (.bipush 7, 2) := by decide +kernel
theorem dX6_init_153 : decode cX6_init 153 = .ok (.newarray .int, 2) := by decide +kernel
theorem dX6_init_155 : decode cX6_init 155 = .ok (.putfield 74, 3) := by decide +kernel
theorem dX6_init_158 : decode cX6_init 158 = .ok (.iconst 0, 1) := by decide +kernel
theorem dX6_init_159 : decode cX6_init 159 = .ok (.istore_n 1, 1) := by decide +kernel
theorem dX6_init_160 : decode cX6_init 160 = .ok (.iload_n 1, 1) := by decide +kernel
theorem dX6_init_161 : decode cX6_init 161 = .ok (.iconst 4, 1) := by decide +kernel
theorem dX6_init_162 : decode cX6_init 162 = .ok (.if_icmp .ge 22, 3) := by decide +kernel
theorem dX6_init_165 : decode cX6_init 165 = .ok (.aload_n 0, 1) := by decide +kernel
theorem dX6_init_166 : decode cX6_init 166 = .ok (.getfield 70, 3) := by decide +kernel
theorem dX6_init_169 : decode cX6_init 169 = .ok (.iload_n 1, 1) := by decide +kernel
theorem dX6_init_170 : decode cX6_init 170 = .ok (.new 68, 3) := by decide +kernel
theorem dX6_init_173 : decode cX6_init 173 = .ok (.dup, 1) := by decide +kernel
theorem dX6_init_174 : decode cX6_init 174 = .ok (.invokespecial 77, 3) := by decide +kernel
theorem dX6_init_177 : decode cX6_init 177 = .ok (.aastore, 1) := by decide +kernel
theorem dX6_init_178 : decode cX6_init 178 = .ok (.iinc 1 1, 3) := by decide +kernel
theorem dX6_init_181 : decode cX6_init 181 = .ok (.goto (-21), 3) := by decide +kernel
theorem dX6_init_184 : decode cX6_init 184 = .ok (.return_, 1) := by decide +kernel
theorem gX6_oak_X6_isOak : GoodIn wsX6_oak (va_wsS RX6 78 yX6_isOak wsX6_isOak) := nw_gS nwl_X6_oak nwe_370 nwe_371 nwe_363 nwl_X6_isOak (by decide +kernel)
theorem gX6_oak_X6_within : GoodIn wsX6_oak (va_wsS RX6 82 yX6_within wsX6_within) := nw_gS nwl_X6_oak nwe_361 nwe_362 nwe_363 nwl_X6_within (by decide +kernel)
theorem gX6_oak_X6_error : GoodIn wsX6_oak (wsV RX6 86 RX6 yX6_error wsX6_error) := nw_gV nwl_X6_oak nwe_372 nwe_373 nwe_374 nwe_363 nwl_X6_error (by decide +kernel)
theorem gX6_oak_X6_isFarmer : GoodIn wsX6_oak (va_wsS RX6 90 yX6_isFarmer wsX6_isFarmer) := nw_gS nwl_X6_oak nwe_375 nwe_376 nwe_363 nwl_X6_isFarmer (by decide +kernel)
theorem dX6_oak_0 : decode cX6_oak 0 = .ok (.iload_n 1, 1) := by decide +kernel
theorem dX6_oak_1 : decode cX6_oak 1 = .ok (.invokestatic 78, 3) := by decide +kernel
theorem dX6_oak_4 : decode cX6_oak 4 = .ok (.ifCond .eq 12, 3) := by decide +kernel
theorem dX6_oak_7 : decode cX6_oak 7 = .ok (.iload_n 2, 1) := by decide +kernel
theorem dX6_oak_8 : decode cX6_oak 8 = .ok (.iconst 0, 1) := by decide +kernel
theorem dX6_oak_9 : decode cX6_oak 9 = .ok (.iconst 1, 1) := by decide +kernel
theorem dX6_oak_10 : decode cX6_oak 10 = .ok (.invokestatic 82, 3) := by decide +kernel
theorem dX6_oak_13 : decode cX6_oak 13 = .ok (.ifCond .ne 9, 3) := by decide +kernel
theorem dX6_oak_16 : decode cX6_oak 16 = .ok (.aload_n 0, 1) := by decide +kernel
theorem dX6_oak_17 : decode cX6_oak 17 = .ok (.iconst 1, 1) := by decide +kernel
theorem dX6_oak_18 : decode cX6_oak 18 = .ok (.invokevirtual 86, 3) := by decide +kernel
theorem dX6_oak_21 : decode cX6_oak 21 = .ok (.ireturn, 1) := by decide +kernel
theorem dX6_oak_22 : decode cX6_oak 22 = .ok (.iload_n 2, 1) := by decide +kernel
theorem dX6_oak_23 : decode cX6_oak 23 = .ok (.ifCond .ne 40, 3) := by decide +kernel
theorem dX6_oak_26 : decode cX6_oak 26 = .ok (.iload_n 3, 1) := by decide +kernel
theorem dX6_oak_27 : decode cX6_oak 27 = .ok (.invokestatic 90, 3) := by decide +kernel
theorem dX6_oak_30 : decode cX6_oak 30 = .ok (.ifCond .ne 9, 3) := by decide +kernel
theorem dX6_oak_33 : decode cX6_oak 33 = .ok (.aload_n 0, 1) := by decide +kernel
theorem dX6_oak_34 : decode cX6_oak 34 = .ok (.iconst 1, 1) := by decide +kernel
theorem dX6_oak_35 : decode cX6_oak 35 = .ok (.invokevirtual 86, 3) := by decide +kernel
theorem dX6_oak_38 : decode cX6_oak 38 = .ok (.ireturn, 1) := by decide +kernel
theorem dX6_oak_39 : decode cX6_oak 39 = .ok (.aload_n 0, 1) := by decide +kernel
theorem dX6_oak_40 : decode cX6_oak 40 = .ok (.getfield 10, 3) := by decide +kernel
theorem dX6_oak_43 : decode cX6_oak 43 = .ok (.getfield 93, 3) := by decide +kernel
theorem dX6_oak_46 : decode cX6_oak 46 = .ok (.iload_n 1, 1) := by decide +kernel
theorem dX6_oak_47 : decode cX6_oak 47 = .ok (.iaload, 1) := by decide +kernel
theorem dX6_oak_48 : decode cX6_oak 48 = .ok (.istore 4, 2) := by decide +kernel
theorem dX6_oak_50 : decode cX6_oak 50 = .ok (.aload_n 0, 1) := by decide +kernel
theorem dX6_oak_51 : decode cX6_oak 51 = .ok (.getfield 10, 3) := by decide +kernel
theorem dX6_oak_54 : decode cX6_oak 54 = .ok (.getfield 93, 3) := by decide +kernel
theorem dX6_oak_57 : decode cX6_oak 57 = .ok (.iload_n 1, 1) := by decide +kernel
theorem dX6_oak_58 : decode cX6_oak 58 = .ok (.iload_n 3, 1) := by decide +kernel
theorem dX6_oak_59 : decode cX6_oak 59 = .ok (.iastore, 1) := by decide +kernel
theorem dX6_oak_60 : decode cX6_oak 60 = .ok (.iload 4, 2) := by decide +kernel
theorem dX6_oak_62 : decode cX6_oak 62 = .ok (.ireturn, 1) := by decide +kernel
theorem dX6_oak_63 : decode cX6_oak 63 = .ok (.iload_n 3, 1) := by decide +kernel
theorem dX6_oak_64 : decode cX6_oak 64 = .ok (.iconst 0, 1) := by decide +kernel
theorem dX6_oak_65 : decode cX6_oak 65 = .ok (.sipush 999, 3) := by decide +kernel
theorem dX6_oak_68 : decode cX6_oak 68 = .ok (.invokestatic 82, 3) := by decide +kernel
theorem dX6_oak_71 : decode cX6_oak 71 = .ok (.ifCond .ne 9, 3) := by decide +kernel
theorem dX6_oak_74 : decode cX6_oak 74 = .ok (.aload_n 0, 1) := by decide +kernel
theorem dX6_oak_75 : decode cX6_oak 75 = .ok (.iconst 1, 1) := by decide +kernel
theorem dX6_oak_76 : decode cX6_oak 76 = .ok (.invokevirtual 86, 3) := by decide +kernel
theorem dX6_oak_79 : decode cX6_oak 79 = .ok (.ireturn, 1) := by decide +kernel
theorem dX6_oak_80 : decode cX6_oak 80 = .ok (.aload_n 0, 1) := by decide +kernel
theorem dX6_oak_81 : decode cX6_oak 81 = .ok (.getfield 10, 3) := by decide +kernel
theorem dX6_oak_84 : decode cX6_oak 84 = .ok (.getfield 96, 3) := by decide +kernel
theorem dX6_oak_87 : decode cX6_oak 87 = .ok (.iload_n 1, 1) := by decide +kernel
theorem dX6_oak_88 : decode cX6_oak 88 = .ok (.iaload, 1) := by decide +kernel
theorem dX6_oak_89 : decode cX6_oak 89 = .ok (.istore 4, 2) := by decide +kernel
theorem dX6_oak_91 : decode cX6_oak 91 = .ok (.aload_n 0, 1) := by decide +kernel
theorem dX6_oak_92 : decode cX6_oak 92 = .ok (.getfield 10, 3) := by decide +kernel
theorem dX6_oak_95 : decode cX6_oak 95 = .ok (.getfield 96, 3) := by decide +kernel
theorem dX6_oak_98 : decode cX6_oak 98 = .ok (.iload_n 1, 1) := by decide +kernel
theorem dX6_oak_99 : decode cX6_oak 99 = .ok (.iload_n 3, 1) := by decide +kernel
theorem dX6_oak_100 : decode cX6_oak 100 = .ok (.iastore, 1) := by decide +kernel
theorem dX6_oak_101 : decode cX6_oak 101 = .ok (.iload 4, 2) := by decide +kernel
theorem dX6_oak_103 : decode cX6_oak 103 = .ok (.ireturn, 1) := by decide +kernel
theorem gX6_oakIs_X6_isOak : GoodIn wsX6_oakIs (va_wsS RX6 78 yX6_isOak wsX6_isOak) := nw_gS nwl_X6_oakIs nwe_370 nwe_371 nwe_363 nwl_X6_isOak (by decide +kernel)
theorem gX6_oakIs_X6_within : GoodIn wsX6_oakIs (va_wsS RX6 82 yX6_within wsX6_within) := nw_gS nwl_X6_oakIs nwe_361 nwe_362 nwe_363 nwl_X6_within (by decide +kernel)
theorem gX6_oakIs_X6_error : GoodIn wsX6_oakIs (wsV RX6 86 RX6 yX6_error wsX6_error) := nw_gV nwl_X6_oakIs nwe_372 nwe_373 nwe_374 nwe_363 nwl_X6_error (by decide +kernel)
theorem gX6_oakIs_X5_smellOf : GoodIn wsX6_oakIs (wsV RX6 99 RX5 yX5_smellOf wsX5_smellOf) := nw_gV nwl_X6_oakIs nwe_377 nwe_282 nwe_283 nwe_259 nwl_X5_smellOf (by decide +kernel)
theorem dX6_oakIs_0 : decode cX6_oakIs 0 = .ok (.iload_n 1, 1) := by decide +kernel
theorem dX6_oakIs_1 : decode cX6_oakIs 1 = .ok (.invokestatic 78, 3) := by decide +kernel
theorem dX6_oakIs_4 : decode cX6_oakIs 4 = .ok (.ifCond .eq 12, 3) := by decide +kernel
theorem dX6_oakIs_7 : decode cX6_oakIs 7 = .ok (.iload_n 2, 1) := by decide +kernel
theorem dX6_oakIs_8 : decode cX6_oakIs 8 = .ok (.iconst 0, 1) := by decide +kernel
theorem dX6_oakIs_9 : decode cX6_oakIs 9 = .ok (.iconst 2, 1) := by decide +kernel
theorem dX6_oakIs_10 : decode cX6_oakIs 10 = .ok (.invokestatic 82, 3) := by decide +kernel
theorem dX6_oakIs_13 : decode cX6_oakIs 13 = .ok (.ifCond .ne 9, 3) := by decide +kernel
theorem dX6_oakIs_16 : decode cX6_oakIs 16 = .ok (.aload_n 0, 1) := by decide +kernel
theorem dX6_oakIs_17 : decode cX6_oakIs 17 = .ok (.iconst 1, 1) := by decide +kernel
theorem dX6_oakIs_18 : decode cX6_oakIs 18 = .ok (.invokevirtual 86, 3) := by decide +kernel
theorem dX6_oakIs_21 : decode cX6_oakIs 21 = .ok (.ireturn, 1) := by decide +kernel
theorem dX6_oakIs_22 : decode cX6_oakIs 22 = .ok (.iload_n 2, 1) := by decide +kernel
theorem dX6_oakIs_23 : decode cX6_oakIs 23 = .ok (.ifCond .ne 13, 3) := by decide +kernel
theorem dX6_oakIs_26 : decode cX6_oakIs 26 = .ok (.aload_n 0, 1) := by decide +kernel
theorem dX6_oakIs_27 : decode cX6_oakIs 27 = .ok (.getfield 10, 3) := by decide +kernel
theorem dX6_oakIs_30 : decode cX6_oakIs 30 = .ok (.getfield 93, 3) := by decide +kernel
theorem dX6_oakIs_33 : decode cX6_oakIs 33 = .ok (.iload_n 1, 1) := by decide +kernel
theorem dX6_oakIs_34 : decode cX6_oakIs 34 = .ok (.iaload, 1) := by decide +kernel
theorem dX6_oakIs_35 : decode cX6_oakIs 35 = .ok (.ireturn, 1) := by decide +kernel
theorem dX6_oakIs_36 : decode cX6_oakIs 36 = .ok (.iload_n 2, 1) := by decide +kernel
theorem dX6_oakIs_37 : decode cX6_oakIs 37 = .ok (.iconst 1, 1) := by decide +kernel
theorem dX6_oakIs_38 : decode cX6_oakIs 38 = .ok (.if_icmp .ne 15, 3) := by decide +kernel
theorem dX6_oakIs_41 : decode cX6_oakIs 41 = .ok (.aload_n 0, 1) := by decide +kernel
theorem dX6_oakIs_42 : decode cX6_oakIs 42 = .ok (.getfield 10, 3) := by decide +kernel
theorem dX6_oakIs_45 : decode cX6_oakIs 45 = .ok (.getfield 96, 3) := by decide +kernel
theorem dX6_oakIs_48 : decode cX6_oakIs 48 = .ok (.iload_n 1, 1) := by decide +kernel
theorem dX6_oakIs_49 : decode cX6_oakIs 49 = .ok (.iaload, 1) := by decide +kernel
theorem dX6_oakIs_50 : decode cX6_oakIs 50 = .ok (.goto 11, 3) := by decide +kernel
theorem dX6_oakIs_53 : decode cX6_oakIs 53 = .ok (.aload_n 0, 1) := by decide +kernel
theorem dX6_oakIs_54 : decode cX6_oakIs 54 = .ok (.getfield 10, 3) := by decide +kernel
theorem dX6_oakIs_57 : decode cX6_oakIs 57 = .ok (.iload_n 1, 1) := by decide +kernel
theorem dX6_oakIs_58 : decode cX6_oakIs 58 = .ok (.invokevirtual 99, 3) := by decide +kernel
theorem dX6_oakIs_61 : decode cX6_oakIs 61 = .ok (.ireturn, 1) := by decide +kernel
theorem gX6_rain_X6_within : GoodIn wsX6_rain (va_wsS RX6 82 yX6_within wsX6_within) := nw_gS nwl_X6_rain nwe_361 nwe_362 nwe_363 nwl_X6_within (by decide +kernel)
theorem gX6_rain_X6_error : GoodIn wsX6_rain (wsV RX6 86 RX6 yX6_error wsX6_error) := nw_gV nwl_X6_rain nwe_372 nwe_373 nwe_374 nwe_363 nwl_X6_error (by decide +kernel)
theorem dX6_rain_0 : decode cX6_rain 0 = .ok (.iload_n 1, 1) := by decide +kernel
theorem dX6_rain_1 : decode cX6_rain 1 = .ok (.iconst 0, 1) := by decide +kernel
theorem dX6_rain_2 : decode cX6_rain 2 = .ok (.bipush 9, 2) := by decide +kernel
theorem dX6_rain_4 : decode cX6_rain 4 = .ok (.invokestatic 82, 3) := by decide +kernel
theorem dX6_rain_7 : decode cX6_rain 7 = .ok (.ifCond .ne 9, 3) := by decide +kernel
theorem dX6_rain_10 : decode cX6_rain 10 = .ok (.aload_n 0, 1) := by decide +kernel
theorem dX6_rain_11 : decode cX6_rain 11 = .ok (.iconst 1, 1) := by decide +kernel
theorem dX6_rain_12 : decode cX6_rain 12 = .ok (.invokevirtual 86, 3) := by decide +kernel
theorem dX6_rain_15 : decode cX6_rain 15 = .ok (.ireturn, 1) := by decide +kernel
theorem dX6_rain_16 : decode cX6_rain 16 = .ok (.aload_n 0, 1) := by decide +kernel
theorem dX6_rain_17 : decode cX6_rain 17 = .ok (.getfield 10, 3) := by decide +kernel
theorem dX6_rain_20 : decode cX6_rain 20 = .ok (.getfield 102, 3) := by decide +kernel
theorem dX6_rain_23 : decode cX6_rain 23 = .ok (.istore_n 2, 1) := by decide +kernel
theorem dX6_rain_24 : decode cX6_rain 24 = .ok (.aload_n 0, 1) := by decide +kernel
theorem dX6_rain_25 : decode cX6_rain 25 = .ok (.getfield 10, 3) := by decide +kernel
theorem dX6_rain_28 : decode cX6_rain 28 = .ok (.iload_n 1, 1) := by decide +kernel
theorem dX6_rain_29 : decode cX6_rain 29 = .ok (.putfield 102, 3) := by decide +kernel
theorem dX6_rain_32 : decode cX6_rain 32 = .ok (.iload_n 2, 1) := by decide +kernel
theorem dX6_rain_33 : decode cX6_rain 33 = .ok (.ireturn, 1) := by decide +kernel
theorem gX6_farmer_X6_isFarmer : GoodIn wsX6_farmer (va_wsS RX6 90 yX6_isFarmer wsX6_isFarmer) := nw_gS nwl_X6_farmer nwe_375 nwe_376 nwe_363 nwl_X6_isFarmer (by decide +kernel)
theorem gX6_farmer_X6_within : GoodIn wsX6_farmer (va_wsS RX6 82 yX6_within wsX6_within) := nw_gS nwl_X6_farmer nwe_361 nwe_362 nwe_363 nwl_X6_within (by decide +kernel)
theorem gX6_farmer_X6_error : GoodIn wsX6_farmer (wsV RX6 86 RX6 yX6_error wsX6_error) := nw_gV nwl_X6_farmer nwe_372 nwe_373 nwe_374 nwe_363 nwl_X6_error (by decide +kernel)
theorem dX6_farmer_0 : decode cX6_farmer 0 = .ok (.iload_n 1, 1) := by decide +kernel
theorem dX6_farmer_1 : decode cX6_farmer 1 = .ok (.invokestatic 90, 3) := by decide +kernel
theorem dX6_farmer_4 : decode cX6_farmer 4 = .ok (.ifCond .eq 13, 3) := by decide +kernel
theorem dX6_farmer_7 : decode cX6_farmer 7 = .ok (.iload_n 2, 1) := by decide +kernel
theorem dX6_farmer_8 : decode cX6_farmer 8 = .ok (.iconst 0, 1) := by decide +kernel
theorem dX6_farmer_9 : decode cX6_farmer 9 = .ok (.bipush 69, 2) := by decide +kernel
theorem dX6_farmer_11 : decode cX6_farmer 11 = .ok (.invokestatic 82, 3) := by decide +kernel
theorem dX6_farmer_14 : decode cX6_farmer 14 = .ok (.ifCond .ne 9, 3) := by decide +kernel
theorem dX6_farmer_17 : decode cX6_farmer 17 = .ok (.aload_n 0, 1) := by decide +kernel
theorem dX6_farmer_18 : decode cX6_farmer 18 = .ok (.iconst 1, 1) := by decide +kernel
theorem dX6_farmer_19 : decode cX6_farmer 19 = .ok (.invokevirtual 86, 3) := by decide +kernel
theorem dX6_farmer_22 : decode cX6_farmer 22 = .ok (.ireturn, 1) := by decide +kernel
theorem dX6_farmer_23 : decode cX6_farmer 23 = .ok (.bipush 10, 2) := by decide +kernel
theorem dX6_farmer_25 : decode cX6_farmer 25 = .ok (.aload_n 0, 1) := by decide +kernel
theorem dX6_farmer_26 : decode cX6_farmer 26 = .ok (.getfield 10, 3) := by decide +kernel
theorem dX6_farmer_29 : decode cX6_farmer 29 = .ok (.getfield 105, 3) := by decide +kernel
theorem dX6_farmer_32 : decode cX6_farmer 32 = .ok (.iload_n 1, 1) := by decide +kernel
theorem dX6_farmer_33 : decode cX6_farmer 33 = .ok (.iaload, 1) := by decide +kernel
theorem dX6_farmer_34 : decode cX6_farmer 34 = .ok (.imul, 1) := by decide +kernel
theorem dX6_farmer_35 : decode cX6_farmer 35 = .ok (.aload_n 0, 1) := by decide +kernel
theorem dX6_farmer_36 : decode cX6_farmer 36 = .ok (.getfield 10, 3) := by decide +kernel
theorem dX6_farmer_39 : decode cX6_farmer 39 = .ok (.getfield 108, 3) := by decide +kernel
theorem dX6_farmer_42 : decode cX6_farmer 42 = .ok (.iload_n 1, 1) := by decide +kernel
theorem dX6_farmer_43 : decode cX6_farmer 43 = .ok (.iaload, 1) := by decide +kernel
theorem dX6_farmer_44 : decode cX6_farmer 44 = .ok (.iadd, 1) := by decide +kernel
theorem dX6_farmer_45 : decode cX6_farmer 45 = .ok (.istore_n 3, 1) := by decide +kernel
theorem dX6_farmer_46 : decode cX6_farmer 46 = .ok (.aload_n 0, 1) := by decide +kernel
theorem dX6_farmer_47 : decode cX6_farmer 47 = .ok (.getfield 10, 3) := by decide +kernel
theorem dX6_farmer_50 : decode cX6_farmer 50 = .ok (.getfield 105, 3) := by decide +kernel
theorem dX6_farmer_53 : decode cX6_farmer 53 = .ok (.iload_n 1, 1) := by decide +kernel
theorem dX6_farmer_54 : decode cX6_farmer 54 = .ok (.iload_n 2, 1) := by decide +kernel
theorem dX6_farmer_55 : decode cX6_farmer 55 = .ok (.bipush 10, 2) := by decide +kernel
theorem dX6_farmer_57 : decode cX6_farmer 57 = .ok (.idiv, 1) := by decide +kernel
theorem dX6_farmer_58 : decode cX6_farmer 58 = .ok (.iastore, 1) := by decide +kernel
theorem dX6_farmer_59 : decode cX6_farmer 59 = .ok (.aload_n 0, 1) := by decide +kernel
theorem dX6_farmer_60 : decode cX6_farmer 60 = .ok (.getfield 10, 3) := by decide +kernel
theorem dX6_farmer_63 : decode cX6_farmer 63 = .ok (.getfield 108, 3) := by decide +kernel
theorem dX6_farmer_66 : decode cX6_farmer 66 = .ok (.iload_n 1, 1) := by decide +kernel
theorem dX6_farmer_67 : decode cX6_farmer 67 = .ok (.iload_n 2, 1) := by decide +kernel
theorem dX6_farmer_68 : decode cX6_farmer 68 = .ok (.bipush 10, 2) := by decide +kernel
theorem dX6_farmer_70 : decode cX6_farmer 70 = .ok (.irem, 1) := by decide +kernel
theorem dX6_farmer_71 : decode cX6_farmer 71 = .ok (.iastore, 1) := by decide +kernel
theorem dX6_farmer_72 : decode cX6_farmer 72 = .ok (.iload_n 3, 1) := by decide +kernel
theorem dX6_farmer_73 : decode cX6_farmer 73 = .ok (.ireturn, 1) := by decide +kernel
theorem gX6_farmerIs_X6_isFarmer : GoodIn wsX6_farmerIs (va_wsS RX6 90 yX6_isFarmer wsX6_isFarmer) := nw_gS nwl_X6_farmerIs nwe_375 nwe_376 nwe_363 nwl_X6_isFarmer (by decide +kernel)
theorem gX6_farmerIs_X6_within : GoodIn wsX6_farmerIs (va_wsS RX6 82 yX6_within wsX6_within) := nw_gS nwl_X6_farmerIs nwe_361 nwe_362 nwe_363 nwl_X6_within (by decide +kernel)
theorem gX6_farmerIs_X6_error : GoodIn wsX6_farmerIs (wsV RX6 86 RX6 yX6_error wsX6_error) := nw_gV nwl_X6_farmerIs nwe_372 nwe_373 nwe_374 nwe_363 nwl_X6_error (by decide +kernel)
theorem gX6_farmerIs_X5_ofFarmer : GoodIn wsX6_farmerIs (wsV RX6 111 RX5 yX5_ofFarmer wsX5_ofFarmer) := nw_gV nwl_X6_farmerIs nwe_384 nwe_385 nwe_386 nwe_259 nwl_X5_ofFarmer (by decide +kernel)
theorem dX6_farmerIs_0 : decode cX6_farmerIs 0 = .ok (.iload_n 1, 1) := by decide +kernel
theorem dX6_farmerIs_1 : decode cX6_farmerIs 1 = .ok (.invokestatic 90, 3) := by decide +kernel
theorem dX6_farmerIs_4 : decode cX6_farmerIs 4 = .ok (.ifCond .eq 13, 3) := by decide +kernel
theorem dX6_farmerIs_7 : decode cX6_farmerIs 7 = .ok (.iload_n 2, 1) := by decide +kernel
theorem dX6_farmerIs_8 : decode cX6_farmerIs 8 = .ok (.iconst 0, 1) := by decide +kernel
theorem dX6_farmerIs_9 : decode cX6_farmerIs 9 = .ok (.bipush 8, 2) := by decide +kernel
theorem dX6_farmerIs_11 : decode cX6_farmerIs 11 = .ok (.invokestatic 82, 3) := by decide +kernel
theorem dX6_farmerIs_14 : decode cX6_farmerIs 14 = .ok (.ifCond .ne 9, 3) := by decide +kernel
theorem dX6_farmerIs_17 : decode cX6_farmerIs 17 = .ok (.aload_n 0, 1) := by decide +kernel
theorem dX6_farmerIs_18 : decode cX6_farmerIs 18 = .ok (.iconst 1, 1) := by decide +kernel
theorem dX6_farmerIs_19 : decode cX6_farmerIs 19 = .ok (.invokevirtual 86, 3) := by decide +kernel
theorem dX6_farmerIs_22 : decode cX6_farmerIs 22 = .ok (.ireturn, 1) := by decide +kernel
theorem dX6_farmerIs_23 : decode cX6_farmerIs 23 = .ok (.aload_n 0, 1) := by decide +kernel
theorem dX6_farmerIs_24 : decode cX6_farmerIs 24 = .ok (.getfield 10, 3) := by decide +kernel
theorem dX6_farmerIs_27 : decode cX6_farmerIs 27 = .ok (.iload_n 1, 1) := by decide +kernel
theorem dX6_farmerIs_28 : decode cX6_farmerIs 28 = .ok (.iload_n 2, 1) := by decide +kernel
theorem dX6_farmerIs_29 : decode cX6_farmerIs 29 = .ok (.invokevirtual 111, 3) := by decide +kernel
theorem dX6_farmerIs_32 : decode cX6_farmerIs 32 = .ok (.ireturn, 1) := by decide +kernel
theorem gX6_as_X6_isFarmer : GoodIn wsX6_as (va_wsS RX6 90 yX6_isFarmer wsX6_isFarmer) := nw_gS nwl_X6_as nwe_375 nwe_376 nwe_363 nwl_X6_isFarmer (by decide +kernel)
theorem gX6_as_X6_within : GoodIn wsX6_as (va_wsS RX6 82 yX6_within wsX6_within) := nw_gS nwl_X6_as nwe_361 nwe_362 nwe_363 nwl_X6_within (by decide +kernel)
theorem gX6_as_X6_error : GoodIn wsX6_as (wsV RX6 86 RX6 yX6_error wsX6_error) := nw_gV nwl_X6_as nwe_372 nwe_373 nwe_374 nwe_363 nwl_X6_error (by decide +kernel)
theorem gX6_as_X6_isOfKind : GoodIn wsX6_as (va_wsS RX6 115 yX6_isOfKind wsX6_isOfKind) := nw_gS nwl_X6_as nwe_391 nwe_392 nwe_363 nwl_X6_isOfKind (by decide +kernel)
theorem dX6_as_0 : decode cX6_as 0 = .ok (.iload_n 1, 1) := by decide +kernel
theorem dX6_as_1 : decode cX6_as 1 = .ok (.invokestatic 90, 3) := by decide +kernel
theorem dX6_as_4 : decode cX6_as 4 = .ok (.ifCond .eq 13, 3) := by decide +kernel
theorem dX6_as_7 : decode cX6_as 7 = .ok (.iload_n 2, 1) := by decide +kernel
theorem dX6_as_8 : decode cX6_as 8 = .ok (.iconst 0, 1) := by decide +kernel
theorem dX6_as_9 : decode cX6_as 9 = .ok (.bipush 6, 2) := by decide +kernel
theorem dX6_as_11 : decode cX6_as 11 = .ok (.invokestatic 82, 3) := by decide +kernel
theorem dX6_as_14 : decode cX6_as 14 = .ok (.ifCond .ne 9, 3) := by decide +kernel
theorem dX6_as_17 : decode cX6_as 17 = .ok (.aload_n 0, 1) := by decide +kernel
theorem dX6_as_18 : decode cX6_as 18 = .ok (.iconst 1, 1) := by decide +kernel
theorem dX6_as_19 : decode cX6_as 19 = .ok (.invokevirtual 86, 3) := by decide +kernel
theorem dX6_as_22 : decode cX6_as 22 = .ok (.ireturn, 1) := by decide +kernel
theorem dX6_as_23 : decode cX6_as 23 = .ok (.aload_n 0, 1) := by decide +kernel
theorem dX6_as_24 : decode cX6_as 24 = .ok (.getfield 10, 3) := by decide +kernel
theorem dX6_as_27 : decode cX6_as 27 = .ok (.getfield 105, 3) := by decide +kernel
theorem dX6_as_30 : decode cX6_as 30 = .ok (.iload_n 1, 1) := by decide +kernel
theorem dX6_as_31 : decode cX6_as 31 = .ok (.iaload, 1) := by decide +kernel
theorem dX6_as_32 : decode cX6_as 32 = .ok (.iload_n 2, 1) := by decide +kernel
theorem dX6_as_33 : decode cX6_as 33 = .ok (.invokestatic 115, 3) := by decide +kernel
theorem dX6_as_36 : decode cX6_as 36 = .ok (.ifCond .ne 9, 3) := by decide +kernel
theorem dX6_as_39 : decode cX6_as 39 = .ok (.aload_n 0, 1) := by decide +kernel
theorem dX6_as_40 : decode cX6_as 40 = .ok (.iconst 5, 1) := by decide +kernel
theorem dX6_as_41 : decode cX6_as 41 = .ok (.invokevirtual 86, 3) := by decide +kernel
theorem dX6_as_44 : decode cX6_as 44 = .ok (.ireturn, 1) := by decide +kernel
theorem dX6_as_45 : decode cX6_as 45 = .ok (.aload_n 0, 1) := by decide +kernel
theorem dX6_as_46 : decode cX6_as 46 = .ok (.getfield 10, 3) := by decide +kernel
theorem dX6_as_49 : decode cX6_as 49 = .ok (.getfield 108, 3) := by decide +kernel
theorem dX6_as_52 : decode cX6_as 52 = .ok (.iload_n 1, 1) := by decide +kernel
theorem dX6_as_53 : decode cX6_as 53 = .ok (.iaload, 1) := by decide +kernel
theorem dX6_as_54 : decode cX6_as 54 = .ok (.ireturn, 1) := by decide +kernel
theorem gX6_trade_X6_isFarmer : GoodIn wsX6_trade (va_wsS RX6 90 yX6_isFarmer wsX6_isFarmer) := nw_gS nwl_X6_trade nwe_375 nwe_376 nwe_363 nwl_X6_isFarmer (by decide +kernel)
theorem gX6_trade_X6_error : GoodIn wsX6_trade (wsV RX6 86 RX6 yX6_error wsX6_error) := nw_gV nwl_X6_trade nwe_372 nwe_373 nwe_374 nwe_363 nwl_X6_error (by decide +kernel)
theorem gX6_trade_X5_changeTurns : GoodIn wsX6_trade (wsV RX6 119 RX5 yX5_changeTurns wsX5_changeTurns) := nw_gV nwl_X6_trade nwe_395 nwe_396 nwe_397 nwe_259 nwl_X5_changeTurns (by decide +kernel)
theorem dX6_trade_0 : decode cX6_trade 0 = .ok (.iload_n 1, 1) := by decide +kernel
theorem dX6_trade_1 : decode cX6_trade 1 = .ok (.invokestatic 90, 3) := by decide +kernel
theorem dX6_trade_4 : decode cX6_trade 4 = .ok (.ifCond .eq 10, 3) := by decide +kernel
theorem dX6_trade_7 : decode cX6_trade 7 = .ok (.iload_n 2, 1) := by decide +kernel
theorem dX6_trade_8 : decode cX6_trade 8 = .ok (.invokestatic 90, 3) := by decide +kernel
theorem dX6_trade_11 : decode cX6_trade 11 = .ok (.ifCond .ne 9, 3) := by decide +kernel
theorem dX6_trade_14 : decode cX6_trade 14 = .ok (.aload_n 0, 1) := by decide +kernel
theorem dX6_trade_15 : decode cX6_trade 15 = .ok (.iconst 1, 1) := by decide +kernel
theorem dX6_trade_16 : decode cX6_trade 16 = .ok (.invokevirtual 86, 3) := by decide +kernel
theorem dX6_trade_19 : decode cX6_trade 19 = .ok (.ireturn, 1) := by decide +kernel
theorem dX6_trade_20 : decode cX6_trade 20 = .ok (.aload_n 0, 1) := by decide +kernel
theorem dX6_trade_21 : decode cX6_trade 21 = .ok (.getfield 10, 3) := by decide +kernel
theorem dX6_trade_24 : decode cX6_trade 24 = .ok (.iload_n 1, 1) := by decide +kernel
theorem dX6_trade_25 : decode cX6_trade 25 = .ok (.iload_n 2, 1) := by decide +kernel
theorem dX6_trade_26 : decode cX6_trade 26 = .ok (.invokevirtual 119, 3) := by decide +kernel
theorem dX6_trade_29 : decode cX6_trade 29 = .ok (.aload_n 0, 1) := by decide +kernel
theorem dX6_trade_30 : decode cX6_trade 30 = .ok (.getfield 10, 3) := by decide +kernel
theorem dX6_trade_33 : decode cX6_trade 33 = .ok (.getfield 123, 3) := by decide +kernel
theorem dX6_trade_36 : decode cX6_trade 36 = .ok (.iload_n 1, 1) := by decide +kernel
theorem dX6_trade_37 : decode cX6_trade 37 = .ok (.iaload, 1) := by decide +kernel
theorem dX6_trade_38 : decode cX6_trade 38 = .ok (.ireturn, 1) := by decide +kernel
theorem gX6_leash_X6_isFarmer : GoodIn wsX6_leash (va_wsS RX6 90 yX6_isFarmer wsX6_isFarmer) := nw_gS nwl_X6_leash nwe_375 nwe_376 nwe_363 nwl_X6_isFarmer (by decide +kernel)
theorem gX6_leash_X6_within : GoodIn wsX6_leash (va_wsS RX6 82 yX6_within wsX6_within) := nw_gS nwl_X6_leash nwe_361 nwe_362 nwe_363 nwl_X6_within (by decide +kernel)
theorem gX6_leash_X6_error : GoodIn wsX6_leash (wsV RX6 86 RX6 yX6_error wsX6_error) := nw_gV nwl_X6_leash nwe_372 nwe_373 nwe_374 nwe_363 nwl_X6_error (by decide +kernel)
theorem dX6_leash_0 : decode cX6_leash 0 = .ok (.iload_n 1, 1) := by decide +kernel
theorem dX6_leash_1 : decode cX6_leash 1 = .ok (.invokestatic 90, 3) := by decide +kernel
theorem dX6_leash_4 : decode cX6_leash 4 = .ok (.ifCond .eq 21, 3) := by decide +kernel
theorem dX6_leash_7 : decode cX6_leash 7 = .ok (.iload_n 2, 1) := by decide +kernel
theorem dX6_leash_8 : decode cX6_leash 8 = .ok (.iconst 0, 1) := by decide +kernel
theorem dX6_leash_9 : decode cX6_leash 9 = .ok (.iconst 3, 1) := by decide +kernel
theorem dX6_leash_10 : decode cX6_leash 10 = .ok (.invokestatic 82, 3) := by decide +kernel
theorem dX6_leash_13 : decode cX6_leash 13 = .ok (.ifCond .eq 12, 3) := by decide +kernel
theorem dX6_leash_16 : decode cX6_leash 16 = .ok (.iload_n 3, 1) := by decide +kernel
theorem dX6_leash_17 : decode cX6_leash 17 = .ok (.iconst 0, 1) := by decide +kernel
theorem dX6_leash_18 : decode cX6_leash 18 = .ok (.iconst 4, 1) := by decide +kernel
theorem dX6_leash_19 : decode cX6_leash 19 = .ok (.invokestatic 82, 3) := by decide +kernel
theorem dX6_leash_22 : decode cX6_leash 22 = .ok (.ifCond .ne 9, 3) := by decide +kernel
theorem dX6_leash_25 : decode cX6_leash 25 = .ok (.aload_n 0, 1) := by decide +kernel
theorem dX6_leash_26 : decode cX6_leash 26 = .ok (.iconst 1, 1) := by decide +kernel
theorem dX6_leash_27 : decode cX6_leash 27 = .ok (.invokevirtual 86, 3) := by decide +kernel
theorem dX6_leash_30 : decode cX6_leash 30 = .ok (.ireturn, 1) := by decide +kernel
theorem dX6_leash_31 : decode cX6_leash 31 = .ok (.aload_n 0, 1) := by decide +kernel
theorem dX6_leash_32 : decode cX6_leash 32 = .ok (.getfield 10, 3) := by decide +kernel
theorem dX6_leash_35 : decode cX6_leash 35 = .ok (.getfield 126, 3) := by decide +kernel
theorem dX6_leash_38 : decode cX6_leash 38 = .ok (.iconst 4, 1) := by decide +kernel
theorem dX6_leash_39 : decode cX6_leash 39 = .ok (.iload_n 1, 1) := by decide +kernel
theorem dX6_leash_40 : decode cX6_leash 40 = .ok (.imul, 1) := by decide +kernel
theorem dX6_leash_41 : decode cX6_leash 41 = .ok (.iload_n 2, 1) := by decide +kernel
theorem dX6_leash_42 : decode cX6_leash 42 = .ok (.iadd, 1) := by decide +kernel
theorem dX6_leash_43 : decode cX6_leash 43 = .ok (.iaload, 1) := by decide +kernel
theorem dX6_leash_44 : decode cX6_leash 44 = .ok (.istore 4, 2) := by decide +kernel
theorem dX6_leash_46 : decode cX6_leash 46 = .ok (.aload_n 0, 1) := by decide +kernel
theorem dX6_leash_47 : decode cX6_leash 47 = .ok (.getfield 10, 3) := by decide +kernel
theorem dX6_leash_50 : decode cX6_leash 50 = .ok (.getfield 126, 3) := by decide +kernel
theorem dX6_leash_53 : decode cX6_leash 53 = .ok (.iconst 4, 1) := by decide +kernel
theorem dX6_leash_54 : decode cX6_leash 54 = .ok (.iload_n 1, 1) := by decide +kernel
theorem dX6_leash_55 : decode cX6_leash 55 = .ok (.imul, 1) := by decide +kernel
theorem dX6_leash_56 : decode cX6_leash 56 = .ok (.iload_n 2, 1) := by decide +kernel
theorem dX6_leash_57 : decode cX6_leash 57 = .ok (.iadd, 1) := by decide +kernel
theorem dX6_leash_58 : decode cX6_leash 58 = .ok (.iload_n 3, 1) := by decide +kernel
theorem dX6_leash_59 : decode cX6_leash 59 = .ok (.iastore, 1) := by decide +kernel
theorem dX6_leash_60 : decode cX6_leash 60 = .ok (.iload 4, 2) := by decide +kernel
theorem dX6_leash_62 : decode cX6_leash 62 = .ok (.ireturn, 1) := by decide +kernel
theorem gX6_pig_X6_isOak : GoodIn wsX6_pig (va_wsS RX6 78 yX6_isOak wsX6_isOak) := nw_gS nwl_X6_pig nwe_370 nwe_371 nwe_363 nwl_X6_isOak (by decide +kernel)
theorem gX6_pig_X6_within : GoodIn wsX6_pig (va_wsS RX6 82 yX6_within wsX6_within) := nw_gS nwl_X6_pig nwe_361 nwe_362 nwe_363 nwl_X6_within (by decide +kernel)
theorem gX6_pig_X6_error : GoodIn wsX6_pig (wsV RX6 86 RX6 yX6_error wsX6_error) := nw_gV nwl_X6_pig nwe_372 nwe_373 nwe_374 nwe_363 nwl_X6_error (by decide +kernel)
theorem dX6_pig_0 : decode cX6_pig 0 = .ok (.iload_n 1, 1) := by decide +kernel
theorem dX6_pig_1 : decode cX6_pig 1 = .ok (.ifCond .ne 28, 3) := by decide +kernel
theorem dX6_pig_4 : decode cX6_pig 4 = .ok (.iload_n 2, 1) := by decide +kernel
theorem dX6_pig_5 : decode cX6_pig 5 = .ok (.invokestatic 78, 3) := by decide +kernel
theorem dX6_pig_8 : decode cX6_pig 8 = .ok (.ifCond .eq 21, 3) := by decide +kernel
theorem dX6_pig_11 : decode cX6_pig 11 = .ok (.aload_n 0, 1) := by decide +kernel
theorem dX6_pig_12 : decode cX6_pig 12 = .ok (.getfield 10, 3) := by decide +kernel
theorem dX6_pig_15 : decode cX6_pig 15 = .ok (.getfield 129, 3) := by decide +kernel
theorem dX6_pig_18 : decode cX6_pig 18 = .ok (.istore_n 3, 1) := by decide +kernel
theorem dX6_pig_19 : decode cX6_pig 19 = .ok (.aload_n 0, 1) := by decide +kernel
theorem dX6_pig_20 : decode cX6_pig 20 = .ok (.getfield 10, 3) := by decide +kernel
theorem dX6_pig_23 : decode cX6_pig 23 = .ok (.iload_n 2, 1) := by decide +kernel
theorem dX6_pig_24 : decode cX6_pig 24 = .ok (.putfield 129, 3) := by decide +kernel
theorem dX6_pig_27 : decode cX6_pig 27 = .ok (.iload_n 3, 1) := by decide +kernel
theorem dX6_pig_28 : decode cX6_pig 28 = .ok (.ireturn, 1) := by decide +kernel
theorem dX6_pig_29 : decode cX6_pig 29 = .ok (.iload_n 1, 1) := by decide +kernel
theorem dX6_pig_30 : decode cX6_pig 30 = .ok (.iconst 1, 1) := by decide +kernel
theorem dX6_pig_31 : decode cX6_pig 31 = .ok (.if_icmp .ne 31, 3) := by decide +kernel
theorem dX6_pig_34 : decode cX6_pig 34 = .ok (.iload_n 2, 1) := by decide +kernel
theorem dX6_pig_35 : decode cX6_pig 35 = .ok (.iconst 0, 1) := by decide +kernel
theorem dX6_pig_36 : decode cX6_pig 36 = .ok (.bipush 9, 2) := by decide +kernel
theorem dX6_pig_38 : decode cX6_pig 38 = .ok (.invokestatic 82, 3) := by decide +kernel
theorem dX6_pig_41 : decode cX6_pig 41 = .ok (.ifCond .eq 21, 3) := by decide +kernel
theorem dX6_pig_44 : decode cX6_pig 44 = .ok (.aload_n 0, 1) := by decide +kernel
theorem dX6_pig_45 : decode cX6_pig 45 = .ok (.getfield 10, 3) := by decide +kernel
theorem dX6_pig_48 : decode cX6_pig 48 = .ok (.getfield 132, 3) := by decide +kernel
theorem dX6_pig_51 : decode cX6_pig 51 = .ok (.istore_n 3, 1) := by decide +kernel
theorem dX6_pig_52 : decode cX6_pig 52 = .ok (.aload_n 0, 1) := by decide +kernel
theorem dX6_pig_53 : decode cX6_pig 53 = .ok (.getfield 10, 3) := by decide +kernel
theorem dX6_pig_56 : decode cX6_pig 56 = .ok (.iload_n 2, 1) := by decide +kernel
theorem dX6_pig_57 : decode cX6_pig 57 = .ok (.putfield 132, 3) := by decide +kernel
theorem dX6_pig_60 : decode cX6_pig 60 = .ok (.iload_n 3, 1) := by decide +kernel
theorem dX6_pig_61 : decode cX6_pig 61 = .ok (.ireturn, 1) := by decide +kernel
theorem dX6_pig_62 : decode cX6_pig 62 = .ok (.aload_n 0, 1) := by decide +kernel
theorem dX6_pig_63 : decode cX6_pig 63 = .ok (.iconst 1, 1) := by decide +kernel
theorem dX6_pig_64 : decode cX6_pig 64 = .ok (.invokevirtual 86, 3) := by decide +kernel
theorem dX6_pig_67 : decode cX6_pig 67 = .ok (.ireturn, 1) := by decide +kernel
theorem gX6_feed_X6_within : GoodIn wsX6_feed (va_wsS RX6 82 yX6_within wsX6_within) := nw_gS nwl_X6_feed nwe_361 nwe_362 nwe_363 nwl_X6_within (by decide +kernel)
theorem gX6_feed_X6_error : GoodIn wsX6_feed (wsV RX6 86 RX6 yX6_error wsX6_error) := nw_gV nwl_X6_feed nwe_372 nwe_373 nwe_374 nwe_363 nwl_X6_error (by decide +kernel)
theorem gX6_feed_X1_append : GoodIn wsX6_feed (wsV RX6 138 RX1 yX1_append wsX1_append) := nw_gV nwl_X6_feed nwe_405 nwe_116 nwe_117 nwe_87 nwl_X1_append (by decide +kernel)
theorem dX6_feed_0 : decode cX6_feed 0 = .ok (.iload_n 3, 1) := by decide +kernel
theorem dX6_feed_1 : decode cX6_feed 1 = .ok (.iconst 1, 1) := by decide +kernel
theorem dX6_feed_2 : decode cX6_feed 2 = .ok (.bipush 8, 2) := by decide +kernel
theorem dX6_feed_4 : decode cX6_feed 4 = .ok (.invokestatic 82, 3) := by decide +kernel
theorem dX6_feed_7 : decode cX6_feed 7 = .ok (.ifCond .ne 9, 3) := by decide +kernel
theorem dX6_feed_10 : decode cX6_feed 10 = .ok (.aload_n 0, 1) := by decide +kernel
theorem dX6_feed_11 : decode cX6_feed 11 = .ok (.iconst 1, 1) := by decide +kernel
theorem dX6_feed_12 : decode cX6_feed 12 = .ok (.invokevirtual 86, 3) := by decide +kernel
theorem dX6_feed_15 : decode cX6_feed 15 = .ok (.ireturn, 1) := by decide +kernel
