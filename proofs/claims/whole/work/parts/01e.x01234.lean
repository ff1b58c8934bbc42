theorem dX1_init_0 : decode cX1_init 0 = .ok (.aload_n 0, 1) := by decide +kernel
theorem dX1_init_1 : decode cX1_init 1 = .ok (.invokespecial 1, 3) := by decide +kernel
theorem dX1_init_4 : decode cX1_init 4 = .ok (.aload_n 0, 1) := by decide +kernel
theorem dX1_init_5 : decode cX1_init 5 = .ok (.iconst 0, 1) := by decide +kernel
theorem dX1_init_6 : decode cX1_init 6 = .ok (.putfield 7, 3) := by decide +kernel
theorem dX1_init_9 : decode cX1_init 9 = .ok (.aload_n 0, 1) := by decide +kernel
theorem dX1_init_10 : decode cX1_init 10 = .ok (.iconst 0, 1) := by decide +kernel
theorem dX1_init_11 : decode cX1_init 11 = .ok (.iload_n 1, 1) := by decide +kernel
theorem dX1_init_12 : decode cX1_init 12 = .ok (.invokestatic 13, 3) := by decide +kernel
theorem dX1_init_15 : decode cX1_init 15 = .ok (.newarray .int, 2) := by decide +kernel
theorem dX1_init_17 : decode cX1_init 17 = .ok (.putfield 19, 3) := by decide +kernel
theorem dX1_init_20 : decode cX1_init 20 = .ok (.return_, 1) := by decide +kernel
theorem dX1_at_0 : decode cX1_at 0 = .ok (.iload_n 1, 1) := by decide +kernel
theorem dX1_at_1 : decode cX1_at 1 = .ok (.ifCond .lt 20, 3) := by decide +kernel
theorem dX1_at_4 : decode cX1_at 4 = .ok (.iload_n 1, 1) := by decide +kernel
theorem dX1_at_5 : decode cX1_at 5 = .ok (.aload_n 0, 1) := by decide +kernel
theorem dX1_at_6 : decode cX1_at 6 = .ok (.getfield 7, 3) := by decide +kernel
theorem dX1_at_9 : decode cX1_at 9 = .ok (.if_icmp .ge 12, 3) := by decide +kernel
theorem dX1_at_12 : decode cX1_at 12 = .ok (.aload_n 0, 1) := by decide +kernel
theorem dX1_at_13 : decode cX1_at 13 = .ok (.getfield 19, 3) := by decide +kernel
theorem dX1_at_16 : decode cX1_at 16 = .ok (.iload_n 1, 1) := by decide +kernel
theorem dX1_at_17 : decode cX1_at 17 = .ok (.iaload, 1) := by decide +kernel
theorem dX1_at_18 : decode cX1_at 18 = .ok (.goto 4, 3) := by decide +kernel
theorem dX1_at_21 : decode cX1_at 21 = .ok (.iconst 0, 1) := by decide +kernel
theorem dX1_at_22 : decode cX1_at 22 = .ok (.ireturn, 1) := by decide +kernel
theorem dX1_append_0 : decode cX1_append 0 = .ok (.aload_n 0, 1) := by decide +kernel
theorem dX1_append_1 : decode cX1_append 1 = .ok (.getfield 7, 3) := by decide +kernel
theorem dX1_append_4 : decode cX1_append 4 = .ok (.aload_n 0, 1) := by decide +kernel
theorem dX1_append_5 : decode cX1_append 5 = .ok (.getfield 19, 3) := by decide +kernel
theorem dX1_append_8 : decode cX1_append 8 = .ok (.arraylength, 1) := by decide +kernel
theorem dX1_append_9 : decode cX1_append 9 = .ok (.if_icmp .ge 23, 3) := by decide +kernel
theorem dX1_append_12 : decode cX1_append 12 = .ok (.aload_n 0, 1) := by decide +kernel
theorem dX1_append_13 : decode cX1_append 13 = .ok (.getfield 19, 3) := by decide +kernel
theorem dX1_append_16 : decode cX1_append 16 = .ok (.aload_n 0, 1) := by decide +kernel
theorem dX1_append_17 : decode cX1_append 17 = .ok (.getfield 7, 3) := by decide +kernel
theorem dX1_append_20 : decode cX1_append 20 = .ok (.iload_n 1, 1) := by decide +kernel
theorem dX1_append_21 : decode cX1_append 21 = .ok (.iastore, 1) := by decide +kernel
theorem dX1_append_22 : decode cX1_append 22 = .ok (.aload_n 0, 1) := by decide +kernel
theorem dX1_append_23 : decode cX1_append 23 = .ok (.dup, 1) := by decide +kernel
theorem dX1_append_24 : decode cX1_append 24 = .ok (.getfield 7, 3) := by decide +kernel
theorem dX1_append_27 : decode cX1_append 27 = .ok (.iconst 1, 1) := by decide +kernel
theorem dX1_append_28 : decode cX1_append 28 = .ok (.iadd, 1) := by decide +kernel
theorem dX1_append_29 : decode cX1_append 29 = .ok (.putfield 7, 3) := by decide +kernel
theorem dX1_append_32 : decode cX1_append 32 = .ok (.return_, 1) := by decide +kernel
theorem dX1_takeFrom_0 : decode cX1_takeFrom 0 = .ok (.aload_n 0, 1) := by decide +kernel
theorem dX1_takeFrom_1 : decode cX1_takeFrom 1 = .ok (.aload_n 1, 1) := by decide +kernel
theorem dX1_takeFrom_2 : decode cX1_takeFrom 2 = .ok (.getfield 7, 3) := by decide +kernel
theorem dX1_takeFrom_5 : decode cX1_takeFrom 5 = .ok (.aload_n 0, 1) := by decide +kernel
theorem dX1_takeFrom_6 : decode cX1_takeFrom 6 = .ok (.getfield 19, 3) := by decide +kernel
theorem dX1_takeFrom_9 : decode cX1_takeFrom 9 = .ok (.arraylength, 1) := by decide +kernel
theorem dX1_takeFrom_10 : decode cX1_takeFrom 10 = .ok (.invokestatic 23, 3) := by decide +kernel
theorem dX1_takeFrom_13 : decode cX1_takeFrom 13 = .ok (.putfield 7, 3) := by decide +kernel
theorem dX1_takeFrom_16 : decode cX1_takeFrom 16 = .ok (.aload_n 1, 1) := by decide +kernel
theorem dX1_takeFrom_17 : decode cX1_takeFrom 17 = .ok (.getfield 19, 3) := by decide +kernel
theorem dX1_takeFrom_20 : decode cX1_takeFrom 20 = .ok (.iconst 0, 1) := by decide +kernel
theorem dX1_takeFrom_21 : decode cX1_takeFrom 21 = .ok (.aload_n 0, 1) := by decide +kernel
theorem dX1_takeFrom_22 : decode cX1_takeFrom 22 = .ok (.getfield 19, 3) := by decide +kernel
theorem dX1_takeFrom_25 : decode cX1_takeFrom 25 = .ok (.iconst 0, 1) := by decide +kernel
theorem dX1_takeFrom_26 : decode cX1_takeFrom 26 = .ok (.aload_n 0, 1) := by decide +kernel
theorem dX1_takeFrom_27 : decode cX1_takeFrom 27 = .ok (.getfield 7, 3) := by decide +kernel
theorem dX1_takeFrom_30 : decode cX1_takeFrom 30 = .ok (.invokestatic 26, 3) := by decide +kernel
theorem dX1_takeFrom_33 : decode cX1_takeFrom 33 = .ok (.return_, 1) := by decide +kernel
theorem dX2_init_0 : decode cX2_init 0 = .ok (.aload_n 0, 1) := by decide +kernel
theorem dX2_init_1 : decode cX2_init 1 = .ok (.invokespecial 3, 3) := by decide +kernel
theorem dX2_init_4 : decode cX2_init 4 = .ok (.aload_n 0, 1) := by decide +kernel
theorem dX2_init_5 : decode cX2_init 5 = .ok (.bipush 24, 2) := by decide +kernel
theorem dX2_init_7 : decode cX2_init 7 = .ok (.newarray .int, 2) := by decide +kernel
theorem dX2_init_9 : decode cX2_init 9 = .ok (.putfield 9, 3) := by decide +kernel
theorem dX2_init_12 : decode cX2_init 12 = .ok (.aload_n 0, 1) := by decide +kernel
theorem dX2_init_13 : decode cX2_init 13 = .ok (.iconst 0, 1) := by decide +kernel
theorem dX2_init_14 : decode cX2_init 14 = .ok (.putfield 15, 3) := by decide +kernel
theorem dX2_init_17 : decode cX2_init 17 = .ok (.aload_n 0, 1) := by decide +kernel
theorem dX2_init_18 : decode cX2_init 18 = .ok (.iconst 0, 1) := by decide +kernel
theorem dX2_init_19 : decode cX2_init 19 = .ok (.putfield 19, 3) := by decide +kernel
theorem dX2_init_22 : decode cX2_init 22 = .ok (.return_, 1) := by decide +kernel
theorem dX2_isMissing_0 : decode cX2_isMissing 0 = .ok (.aload_n 0, 1) := by decide +kernel
theorem dX2_isMissing_1 : decode cX2_isMissing 1 = .ok (.getfield 15, 3) := by decide +kernel
theorem dX2_isMissing_4 : decode cX2_isMissing 4 = .ok (.ifCond .ne 7, 3) := by decide +kernel
theorem dX2_isMissing_7 : decode cX2_isMissing 7 = .ok (.iconst 1, 1) := by decide +kernel
theorem dX2_isMissing_8 : decode cX2_isMissing 8 = .ok (.goto 4, 3) := by decide +kernel
theorem dX2_isMissing_11 : decode cX2_isMissing 11 = .ok (.iconst 0, 1) := by decide +kernel
theorem dX2_isMissing_12 : decode cX2_isMissing 12 = .ok (.ireturn, 1) := by decide +kernel
set_option maxRecDepth 20000 in
theorem ggX2_becomes_J7_fill_53178 : GoodIn wsX2_becomes wsJ7_fill_53178 := goodIn_r _ [14] (by decide +kernel) (by decide +kernel)
set_option maxRecDepth 20000 in
theorem gX2_becomes_J7_fill_53178 : GoodIn wsX2_becomes (va_wsS RX2 31 yJ7_fill_53178 wsJ7_fill_53178) := goodIn_app (goodIn_of _ (by decide +kernel)) ggX2_becomes_J7_fill_53178
theorem dX2_becomes_0 : decode cX2_becomes 0 = .ok (.aload_n 0, 1) := by decide +kernel
theorem dX2_becomes_1 : decode cX2_becomes 1 = .ok (.iload_n 1, 1) := by decide +kernel
theorem dX2_becomes_2 : decode cX2_becomes 2 = .ok (.putfield 15, 3) := by decide +kernel
theorem dX2_becomes_5 : decode cX2_becomes 5 = .ok (.aload_n 0, 1) := by decide +kernel
theorem dX2_becomes_6 : decode cX2_becomes 6 = .ok (.iload_n 1, 1) := by decide +kernel
theorem dX2_becomes_7 : decode cX2_becomes 7 = .ok (.ifCond .ne 7, 3) := by decide +kernel
theorem dX2_becomes_10 : decode cX2_becomes 10 = .ok (.iconst 0, 1) := by decide +kernel
theorem dX2_becomes_11 : decode cX2_becomes 11 = .ok (.goto 13, 3) := by decide +kernel
theorem dX2_becomes_14 : decode cX2_becomes 14 = .ok (.iconst 0, 1) := by decide +kernel
theorem dX2_becomes_15 : decode cX2_becomes 15 = .ok (.bipush 24, 2) := by decide +kernel
theorem dX2_becomes_17 : decode cX2_becomes 17 = .ok (.iload_n 2, 1) := by decide +kernel
theorem dX2_becomes_18 : decode cX2_becomes 18 = .ok (.invokestatic 22, 3) := by decide +kernel
theorem dX2_becomes_21 : decode cX2_becomes 21 = .ok (.invokestatic 28, 3) := by decide +kernel
theorem dX2_becomes_24 : decode cX2_becomes 24 = .ok (.putfield 19, 3) := by decide +kernel
theorem dX2_becomes_27 : decode cX2_becomes 27 = .ok (.aload_n 0, 1) := by decide +kernel
theorem dX2_becomes_28 : decode cX2_becomes 28 = .ok (.getfield 9, 3) := by decide +kernel
theorem dX2_becomes_31 : decode cX2_becomes 31 = .ok (.iconst 0, 1) := by decide +kernel
theorem dX2_becomes_32 : decode cX2_becomes 32 = .ok (.invokestatic 31, 3) := by decide +kernel
theorem dX2_becomes_35 : decode cX2_becomes 35 = .ok (.return_, 1) := by decide +kernel
theorem dX2_at_0 : decode cX2_at 0 = .ok (.iload_n 1, 1) := by decide +kernel
theorem dX2_at_1 : decode cX2_at 1 = .ok (.ifCond .lt 20, 3) := by decide +kernel
theorem dX2_at_4 : decode cX2_at 4 = .ok (.iload_n 1, 1) := by decide +kernel
theorem dX2_at_5 : decode cX2_at 5 = .ok (.aload_n 0, 1) := by decide +kernel
theorem dX2_at_6 : decode cX2_at 6 = .ok (.getfield 19, 3) := by decide +kernel
theorem dX2_at_9 : decode cX2_at 9 = .ok (.if_icmp .ge 12, 3) := by decide +kernel
theorem dX2_at_12 : decode cX2_at 12 = .ok (.aload_n 0, 1) := by decide +kernel
theorem dX2_at_13 : decode cX2_at 13 = .ok (.getfield 9, 3) := by decide +kernel
theorem dX2_at_16 : decode cX2_at 16 = .ok (.iload_n 1, 1) := by decide +kernel
theorem dX2_at_17 : decode cX2_at 17 = .ok (.iaload, 1) := by decide +kernel
theorem dX2_at_18 : decode cX2_at 18 = .ok (.goto 4, 3) := by decide +kernel
theorem dX2_at_21 : decode cX2_at 21 = .ok (.iconst 0, 1) := by decide +kernel
theorem dX2_at_22 : decode cX2_at 22 = .ok (.ireturn, 1) := by decide +kernel
theorem dX2_hold_0 : decode cX2_hold 0 = .ok (.iload_n 1, 1) := by decide +kernel
theorem dX2_hold_1 : decode cX2_hold 1 = .ok (.ifCond .lt 30, 3) := by decide +kernel
theorem dX2_hold_4 : decode cX2_hold 4 = .ok (.iload_n 1, 1) := by decide +kernel
theorem dX2_hold_5 : decode cX2_hold 5 = .ok (.aload_n 0, 1) := by decide +kernel
theorem dX2_hold_6 : decode cX2_hold 6 = .ok (.getfield 19, 3) := by decide +kernel
theorem dX2_hold_9 : decode cX2_hold 9 = .ok (.if_icmp .ge 22, 3) := by decide +kernel
theorem dX2_hold_12 : decode cX2_hold 12 = .ok (.bipush 32, 2) := by decide +kernel
theorem dX2_hold_14 : decode cX2_hold 14 = .ok (.aload_n 0, 1) := by decide +kernel
theorem dX2_hold_15 : decode cX2_hold 15 = .ok (.getfield 15, 3) := by decide +kernel
theorem dX2_hold_18 : decode cX2_hold 18 = .ok (.isub, 1) := by decide +kernel
theorem dX2_hold_19 : decode cX2_hold 19 = .ok (.istore_n 3, 1) := by decide +kernel
theorem dX2_hold_20 : decode cX2_hold 20 = .ok (.aload_n 0, 1) := by decide +kernel
theorem dX2_hold_21 : decode cX2_hold 21 = .ok (.getfield 9, 3) := by decide +kernel
theorem dX2_hold_24 : decode cX2_hold 24 = .ok (.iload_n 1, 1) := by decide +kernel
theorem dX2_hold_25 : decode cX2_hold 25 = .ok (.iload_n 2, 1) := by decide +kernel
theorem dX2_hold_26 : decode cX2_hold 26 = .ok (.iload_n 3, 1) := by decide +kernel
theorem dX2_hold_27 : decode cX2_hold 27 = .ok (.ishl, 1) := by decide +kernel
theorem dX2_hold_28 : decode cX2_hold 28 = .ok (.iload_n 3, 1) := by decide +kernel
theorem dX2_hold_29 : decode cX2_hold 29 = .ok (.ishr, 1) := by decide +kernel
theorem dX2_hold_30 : decode cX2_hold 30 = .ok (.iastore, 1) := by decide +kernel
theorem dX2_hold_31 : decode cX2_hold 31 = .ok (.return_, 1) := by decide +kernel
theorem dX2_holdsPart_0 : decode cX2_holdsPart 0 = .ok (.iload_n 2, 1) := by decide +kernel
theorem dX2_holdsPart_1 : decode cX2_holdsPart 1 = .ok (.ifCond .lt 29, 3) := by decide +kernel
theorem dX2_holdsPart_4 : decode cX2_holdsPart 4 = .ok (.iload_n 1, 1) := by decide +kernel
theorem dX2_holdsPart_5 : decode cX2_holdsPart 5 = .ok (.ifCond .lt 25, 3) := by decide +kernel
theorem dX2_holdsPart_8 : decode cX2_holdsPart 8 = .ok (.iload_n 2, 1) := by decide +kernel
theorem dX2_holdsPart_9 : decode cX2_holdsPart 9 = .ok (.aload_n 0, 1) := by decide +kernel
theorem dX2_holdsPart_10 : decode cX2_holdsPart 10 = .ok (.getfield 19, 3) := by decide +kernel
theorem dX2_holdsPart_13 : decode cX2_holdsPart 13 = .ok (.if_icmp .gt 17, 3) := by decide +kernel
theorem dX2_holdsPart_16 : decode cX2_holdsPart 16 = .ok (.iload_n 1, 1) := by decide +kernel
theorem dX2_holdsPart_17 : decode cX2_holdsPart 17 = .ok (.aload_n 0, 1) := by decide +kernel
theorem dX2_holdsPart_18 : decode cX2_holdsPart 18 = .ok (.getfield 19, 3) := by decide +kernel
theorem dX2_holdsPart_21 : decode cX2_holdsPart 21 = .ok (.iload_n 2, 1) := by decide +kernel
theorem dX2_holdsPart_22 : decode cX2_holdsPart 22 = .ok (.isub, 1) := by decide +kernel
theorem dX2_holdsPart_23 : decode cX2_holdsPart 23 = .ok (.if_icmp .gt 7, 3) := by decide +kernel
theorem dX2_holdsPart_26 : decode cX2_holdsPart 26 = .ok (.iconst 1, 1) := by decide +kernel
theorem dX2_holdsPart_27 : decode cX2_holdsPart 27 = .ok (.goto 4, 3) := by decide +kernel
theorem dX2_holdsPart_30 : decode cX2_holdsPart 30 = .ok (.iconst 0, 1) := by decide +kernel
theorem dX2_holdsPart_31 : decode cX2_holdsPart 31 = .ok (.ireturn, 1) := by decide +kernel
theorem dX2_startsWith_0 : decode cX2_startsWith 0 = .ok (.iconst 0, 1) := by decide +kernel
theorem dX2_startsWith_1 : decode cX2_startsWith 1 = .ok (.istore_n 2, 1) := by decide +kernel
theorem dX2_startsWith_2 : decode cX2_startsWith 2 = .ok (.iload_n 2, 1) := by decide +kernel
theorem dX2_startsWith_3 : decode cX2_startsWith 3 = .ok (.aload_n 1, 1) := by decide +kernel
theorem dX2_startsWith_4 : decode cX2_startsWith 4 = .ok (.arraylength, 1) := by decide +kernel
theorem dX2_startsWith_5 : decode cX2_startsWith 5 = .ok (.if_icmp .ge 31, 3) := by decide +kernel
theorem dX2_startsWith_8 : decode cX2_startsWith 8 = .ok (.iload_n 2, 1) := by decide +kernel
theorem dX2_startsWith_9 : decode cX2_startsWith 9 = .ok (.aload_n 0, 1) := by decide +kernel
theorem dX2_startsWith_10 : decode cX2_startsWith 10 = .ok (.getfield 19, 3) := by decide +kernel
theorem dX2_startsWith_13 : decode cX2_startsWith 13 = .ok (.if_icmp .ge 15, 3) := by decide +kernel
theorem dX2_startsWith_16 : decode cX2_startsWith 16 = .ok (.aload_n 0, 1) := by decide +kernel
theorem dX2_startsWith_17 : decode cX2_startsWith 17 = .ok (.getfield 9, 3) := by decide +kernel
theorem dX2_startsWith_20 : decode cX2_startsWith 20 = .ok (.iload_n 2, 1) := by decide +kernel
theorem dX2_startsWith_21 : decode cX2_startsWith 21 = .ok (.iaload, 1) := by decide +kernel
theorem dX2_startsWith_22 : decode cX2_startsWith 22 = .ok (.aload_n 1, 1) := by decide +kernel
theorem dX2_startsWith_23 : decode cX2_startsWith 23 = .ok (.iload_n 2, 1) := by decide +kernel
theorem dX2_startsWith_24 : decode cX2_startsWith 24 = .ok (.iaload, 1) := by decide +kernel
theorem dX2_startsWith_25 : decode cX2_startsWith 25 = .ok (.if_icmp .eq 5, 3) := by decide +kernel
theorem dX2_startsWith_28 : decode cX2_startsWith 28 = .ok (.iconst 0, 1) := by decide +kernel
theorem dX2_startsWith_29 : decode cX2_startsWith 29 = .ok (.ireturn, 1) := by decide +kernel
theorem dX2_startsWith_30 : decode cX2_startsWith 30 = .ok (.iinc 2 1, 3) := by decide +kernel
theorem dX2_startsWith_33 : decode cX2_startsWith 33 = .ok (.goto (-31), 3) := by decide +kernel
theorem dX2_startsWith_36 : decode cX2_startsWith 36 = .ok (.iconst 1, 1) := by decide +kernel
theorem dX2_startsWith_37 : decode cX2_startsWith 37 = .ok (.ireturn, 1) := by decide +kernel
set_option maxRecDepth 20000 in
theorem ggX3_init_X1_init : GoodIn wsX3_init wsX1_init := goodIn_r _ [12, 13, 2, 3, 14, 15, 16, 17, 18, 8, 19, 20, 21] (by decide +kernel) (by decide +kernel)
set_option maxRecDepth 20000 in
theorem gX3_init_X1_init : GoodIn wsX3_init (wsX1_init) := ggX3_init_X1_init
theorem dX3_init_0 : decode cX3_init 0 = .ok (.aload_n 0, 1) := by decide +kernel
theorem dX3_init_1 : decode cX3_init 1 = .ok (.invokespecial 3, 3) := by decide +kernel
theorem dX3_init_4 : decode cX3_init 4 = .ok (.aload_n 0, 1) := by decide +kernel
theorem dX3_init_5 : decode cX3_init 5 = .ok (.new 9, 3) := by decide +kernel
theorem dX3_init_8 : decode cX3_init 8 = .ok (.dup, 1) := by decide +kernel
theorem dX3_init_9 : decode cX3_init 9 = .ok (.bipush 60, 2) := by decide +kernel
theorem dX3_init_11 : decode cX3_init 11 = .ok (.invokespecial 11, 3) := by decide +kernel
theorem dX3_init_14 : decode cX3_init 14 = .ok (.putfield 14, 3) := by decide +kernel
theorem dX3_init_17 : decode cX3_init 17 = .ok (.aload_n 0, 1) := by decide +kernel
theorem dX3_init_18 : decode cX3_init 18 = .ok (.bipush 60, 2) := by decide +kernel
theorem dX3_init_20 : decode cX3_init 20 = .ok (.newarray .int, 2) := by decide +kernel
theorem dX3_init_22 : decode cX3_init 22 = .ok (.putfield 20, 3) := by decide +kernel
theorem dX3_init_25 : decode cX3_init 25 = .ok (.return_, 1) := by decide +kernel
theorem dX3_isThere_0 : decode cX3_isThere 0 = .ok (.aload_n 0, 1) := by decide +kernel
theorem dX3_isThere_1 : decode cX3_isThere 1 = .ok (.getfield 14, 3) := by decide +kernel
theorem dX3_isThere_4 : decode cX3_isThere 4 = .ok (.getfield 24, 3) := by decide +kernel
theorem dX3_isThere_7 : decode cX3_isThere 7 = .ok (.ifCond .le 7, 3) := by decide +kernel
theorem dX3_isThere_10 : decode cX3_isThere 10 = .ok (.iconst 1, 1) := by decide +kernel
theorem dX3_isThere_11 : decode cX3_isThere 11 = .ok (.goto 4, 3) := by decide +kernel
theorem dX3_isThere_14 : decode cX3_isThere 14 = .ok (.iconst 0, 1) := by decide +kernel
theorem dX3_isThere_15 : decode cX3_isThere 15 = .ok (.ireturn, 1) := by decide +kernel
set_option maxRecDepth 20000 in
theorem ggX3_value_X1_at : GoodIn wsX3_value wsX1_at := goodIn_r _ [8, 9, 10, 20, 21] (by decide +kernel) (by decide +kernel)
set_option maxRecDepth 20000 in
theorem gX3_value_X1_at : GoodIn wsX3_value (wsV RX3 28 RX1 yX1_at wsX1_at) := goodIn_app (goodIn_of _ (by decide +kernel)) ggX3_value_X1_at
set_option maxRecDepth 20000 in
theorem ggX3_value_X3_named : GoodIn wsX3_value wsX3_named := goodIn_r _ [14] (by decide +kernel) (by decide +kernel)
set_option maxRecDepth 20000 in
theorem gX3_value_X3_named : GoodIn wsX3_value (va_wsS RX3 32 yX3_named wsX3_named) := goodIn_app (goodIn_of _ (by decide +kernel)) ggX3_value_X3_named
set_option maxRecDepth 20000 in
theorem ggX3_value_X3_joined : GoodIn wsX3_value wsX3_joined := goodIn_r _ [17] (by decide +kernel) (by decide +kernel)
set_option maxRecDepth 20000 in
theorem gX3_value_X3_joined : GoodIn wsX3_value (va_wsS RX3 36 yX3_joined wsX3_joined) := goodIn_app (goodIn_of _ (by decide +kernel)) ggX3_value_X3_joined
theorem dX3_value_0 : decode cX3_value 0 = .ok (.iconst 0, 1) := by decide +kernel
theorem dX3_value_1 : decode cX3_value 1 = .ok (.istore 4, 2) := by decide +kernel
theorem dX3_value_3 : decode cX3_value 3 = .ok (.iconst 0, 1) := by decide +kernel
theorem dX3_value_4 : decode cX3_value 4 = .ok (.istore 5, 2) := by decide +kernel
theorem dX3_value_6 : decode cX3_value 6 = .ok (.iload 5, 2) := by decide +kernel
theorem dX3_value_8 : decode cX3_value 8 = .ok (.aload_n 0, 1) := by decide +kernel
theorem dX3_value_9 : decode cX3_value 9 = .ok (.getfield 14, 3) := by decide +kernel
theorem dX3_value_12 : decode cX3_value 12 = .ok (.getfield 24, 3) := by decide +kernel
theorem dX3_value_15 : decode cX3_value 15 = .ok (.if_icmp .ge 145, 3) := by decide +kernel
theorem dX3_value_18 : decode cX3_value 18 = .ok (.aload_n 0, 1) := by decide +kernel
theorem dX3_value_19 : decode cX3_value 19 = .ok (.getfield 14, 3) := by decide +kernel
theorem dX3_value_22 : decode cX3_value 22 = .ok (.iload 5, 2) := by decide +kernel
theorem dX3_value_24 : decode cX3_value 24 = .ok (.invokevirtual 28, 3) := by decide +kernel
theorem dX3_value_27 : decode cX3_value 27 = .ok (.istore 6, 2) := by decide +kernel
theorem dX3_value_29 : decode cX3_value 29 = .ok (.iload 6, 2) := by decide +kernel
theorem dX3_value_31 : decode cX3_value 31 = .ok (.sipush 20000, 3) := by decide +kernel
theorem dX3_value_34 : decode cX3_value 34 = .ok (.if_icmp .ge 34, 3) := by decide +kernel
theorem dX3_value_37 : decode cX3_value 37 = .ok (.iload 4, 2) := by decide +kernel
theorem dX3_value_39 : decode cX3_value 39 = .ok (.aload_n 0, 1) := by decide +kernel
theorem dX3_value_40 : decode cX3_value 40 = .ok (.getfield 20, 3) := by decide +kernel
theorem dX3_value_43 : decode cX3_value 43 = .ok (.arraylength, 1) := by decide +kernel
theorem dX3_value_44 : decode cX3_value 44 = .ok (.if_icmp .ge 110, 3) := by decide +kernel
theorem dX3_value_47 : decode cX3_value 47 = .ok (.aload_n 0, 1) := by decide +kernel
theorem dX3_value_48 : decode cX3_value 48 = .ok (.getfield 20, 3) := by decide +kernel
theorem dX3_value_51 : decode cX3_value 51 = .ok (.iload 4, 2) := by decide +kernel
theorem dX3_value_53 : decode cX3_value 53 = .ok (.iload 6, 2) := by decide +kernel
theorem dX3_value_55 : decode cX3_value 55 = .ok (.iload_n 1, 1) := by decide +kernel
theorem dX3_value_56 : decode cX3_value 56 = .ok (.iload_n 2, 1) := by decide +kernel
theorem dX3_value_57 : decode cX3_value 57 = .ok (.iload_n 3, 1) := by decide +kernel
theorem dX3_value_58 : decode cX3_value 58 = .ok (.invokestatic 32, 3) := by decide +kernel
theorem dX3_value_61 : decode cX3_value 61 = .ok (.iastore, 1) := by decide +kernel
theorem dX3_value_62 : decode cX3_value 62 = .ok (.iinc 4 1, 3) := by decide +kernel
theorem dX3_value_65 : decode cX3_value 65 = .ok (.goto 89, 3) := by decide +kernel
theorem dX3_value_68 : decode cX3_value 68 = .ok (.iload 6, 2) := by decide +kernel
theorem dX3_value_70 : decode cX3_value 70 = .ok (.sipush 20033, 3) := by decide +kernel
theorem dX3_value_73 : decode cX3_value 73 = .ok (.if_icmp .ne 38, 3) := by decide +kernel
theorem dX3_value_76 : decode cX3_value 76 = .ok (.iload 4, 2) := by decide +kernel
theorem dX3_value_78 : decode cX3_value 78 = .ok (.iconst 1, 1) := by decide +kernel
theorem dX3_value_79 : decode cX3_value 79 = .ok (.if_icmp .lt 75, 3) := by decide +kernel
theorem dX3_value_82 : decode cX3_value 82 = .ok (.aload_n 0, 1) := by decide +kernel
theorem dX3_value_83 : decode cX3_value 83 = .ok (.getfield 20, 3) := by decide +kernel
theorem dX3_value_86 : decode cX3_value 86 = .ok (.iload 4, 2) := by decide +kernel
theorem dX3_value_88 : decode cX3_value 88 = .ok (.iconst 1, 1) := by decide +kernel
theorem dX3_value_89 : decode cX3_value 89 = .ok (.isub, 1) := by decide +kernel
theorem dX3_value_90 : decode cX3_value 90 = .ok (.aload_n 0, 1) := by decide +kernel
theorem dX3_value_91 : decode cX3_value 91 = .ok (.getfield 20, 3) := by decide +kernel
theorem dX3_value_94 : decode cX3_value 94 = .ok (.iload 4, 2) := by decide +kernel
theorem dX3_value_96 : decode cX3_value 96 = .ok (.iconst 1, 1) := by decide +kernel
theorem dX3_value_97 : decode cX3_value 97 = .ok (.isub, 1) := by decide +kernel
theorem dX3_value_98 : decode cX3_value 98 = .ok (.iaload, 1) := by decide +kernel
theorem dX3_value_99 : decode cX3_value 99 = .ok (.ifCond .ne 7, 3) := by decide +kernel
theorem dX3_value_102 : decode cX3_value 102 = .ok (.iconst 1, 1) := by decide +kernel
theorem dX3_value_103 : decode cX3_value 103 = .ok (.goto 4, 3) := by decide +kernel
theorem dX3_value_106 : decode cX3_value 106 = .ok (.iconst 0, 1) := by decide +kernel
theorem dX3_value_107 : decode cX3_value 107 = .ok (.iastore, 1) := by decide +kernel
theorem dX3_value_108 : decode cX3_value 108 = .ok (.goto 46, 3) := by decide +kernel
theorem dX3_value_111 : decode cX3_value 111 = .ok (.iload 4, 2) := by decide +kernel
theorem dX3_value_113 : decode cX3_value 113 = .ok (.iconst 2, 1) := by decide +kernel
theorem dX3_value_114 : decode cX3_value 114 = .ok (.if_icmp .lt 40, 3) := by decide +kernel
theorem dX3_value_117 : decode cX3_value 117 = .ok (.iinc 4 (-1), 3) := by decide +kernel
theorem dX3_value_120 : decode cX3_value 120 = .ok (.aload_n 0, 1) := by decide +kernel
theorem dX3_value_121 : decode cX3_value 121 = .ok (.getfield 20, 3) := by decide +kernel
theorem dX3_value_124 : decode cX3_value 124 = .ok (.iload 4, 2) := by decide +kernel
theorem dX3_value_126 : decode cX3_value 126 = .ok (.iconst 1, 1) := by decide +kernel
theorem dX3_value_127 : decode cX3_value 127 = .ok (.isub, 1) := by decide +kernel
theorem dX3_value_128 : decode cX3_value 128 = .ok (.iload 6, 2) := by decide +kernel
theorem dX3_value_130 : decode cX3_value 130 = .ok (.sipush 20000, 3) := by decide +kernel
theorem dX3_value_133 : decode cX3_value 133 = .ok (.isub, 1) := by decide +kernel
theorem dX3_value_134 : decode cX3_value 134 = .ok (.aload_n 0, 1) := by decide +kernel
theorem dX3_value_135 : decode cX3_value 135 = .ok (.getfield 20, 3) := by decide +kernel
theorem dX3_value_138 : decode cX3_value 138 = .ok (.iload 4, 2) := by decide +kernel
theorem dX3_value_140 : decode cX3_value 140 = .ok (.iconst 1, 1) := by decide +kernel
theorem dX3_value_141 : decode cX3_value 141 = .ok (.isub, 1) := by decide +kernel
theorem dX3_value_142 : decode cX3_value 142 = .ok (.iaload, 1) := by decide +kernel
theorem dX3_value_143 : decode cX3_value 143 = .ok (.aload_n 0, 1) := by decide +kernel
theorem dX3_value_144 : decode cX3_value 144 = .ok (.getfield 20, 3) := by decide +kernel
theorem dX3_value_147 : decode cX3_value 147 = .ok (.iload 4, 2) := by decide +kernel
theorem dX3_value_149 : decode cX3_value 149 = .ok (.iaload, 1) := by decide +kernel
theorem dX3_value_150 : decode cX3_value 150 = .ok (.invokestatic 36, 3) := by decide +kernel
theorem dX3_value_153 : decode cX3_value 153 = .ok (.iastore, 1) := by decide +kernel
theorem dX3_value_154 : decode cX3_value 154 = .ok (.iinc 5 1, 3) := by decide +kernel
theorem dX3_value_157 : decode cX3_value 157 = .ok (.goto (-151), 3) := by decide +kernel
theorem dX3_value_160 : decode cX3_value 160 = .ok (.iload 4, 2) := by decide +kernel
theorem dX3_value_162 : decode cX3_value 162 = .ok (.iconst 1, 1) := by decide +kernel
theorem dX3_value_163 : decode cX3_value 163 = .ok (.if_icmp .lt 15, 3) := by decide +kernel
theorem dX3_value_166 : decode cX3_value 166 = .ok (.aload_n 0, 1) := by decide +kernel
theorem dX3_value_167 : decode cX3_value 167 = .ok (.getfield 20, 3) := by decide +kernel
theorem dX3_value_170 : decode cX3_value 170 = .ok (.iload 4, 2) := by decide +kernel
theorem dX3_value_172 : decode cX3_value 172 = .ok (.iconst 1, 1) := by decide +kernel
theorem dX3_value_173 : decode cX3_value 173 = .ok (.isub, 1) := by decide +kernel
theorem dX3_value_174 : decode cX3_value 174 = .ok (.iaload, 1) := by decide +kernel
theorem dX3_value_175 : decode cX3_value 175 = .ok (.goto 4, 3) := by decide +kernel
theorem dX3_value_178 : decode cX3_value 178 = .ok (.iconst 0, 1) := by decide +kernel
theorem dX3_value_179 : decode cX3_value 179 = .ok (.ireturn, 1) := by decide +kernel
theorem dX3_named_0 : decode cX3_named 0 = .ok (.iload_n 0, 1) := by decide +kernel
theorem dX3_named_1 : decode cX3_named 1 = .ok (.tableswitch 33 10000 10002 #[27, 29, 31], 27) := by decide +kernel
theorem dX3_named_28 : decode cX3_named 28 = .ok (.iload_n 1, 1) := by decide +kernel
theorem dX3_named_29 : decode cX3_named 29 = .ok (.ireturn, 1) := by decide +kernel
theorem dX3_named_30 : decode cX3_named 30 = .ok (.iload_n 2, 1) := by decide +kernel
theorem dX3_named_31 : decode cX3_named 31 = .ok (.ireturn, 1) := by decide +kernel
theorem dX3_named_32 : decode cX3_named 32 = .ok (.iload_n 3, 1) := by decide +kernel
theorem dX3_named_33 : decode cX3_named 33 = .ok (.ireturn, 1) := by decide +kernel
theorem dX3_named_34 : decode cX3_named 34 = .ok (.iload_n 0, 1) := by decide +kernel
theorem dX3_named_35 : decode cX3_named 35 = .ok (.ireturn, 1) := by decide +kernel
theorem dX3_joined_0 : decode cX3_joined 0 = .ok (.iload_n 0, 1) := by decide +kernel
theorem dX3_joined_1 : decode cX3_joined 1 = .ok (.lookupswitch 168 #[(38, 97), (42, 152), (43, 144), (45, 148), (47, 156), (60, 111), (61, 122), (62, 133), (124, 83)], 83) := by decide +kernel
theorem dX3_joined_84 : decode cX3_joined 84 = .ok (.iload_n 1, 1) := by decide +kernel
theorem dX3_joined_85 : decode cX3_joined 85 = .ok (.ifCond .ne 7, 3) := by decide +kernel
theorem dX3_joined_88 : decode cX3_joined 88 = .ok (.iload_n 2, 1) := by decide +kernel
theorem dX3_joined_89 : decode cX3_joined 89 = .ok (.ifCond .eq 7, 3) := by decide +kernel
theorem dX3_joined_92 : decode cX3_joined 92 = .ok (.iconst 1, 1) := by decide +kernel
theorem dX3_joined_93 : decode cX3_joined 93 = .ok (.goto 4, 3) := by decide +kernel
theorem dX3_joined_96 : decode cX3_joined 96 = .ok (.iconst 0, 1) := by decide +kernel
theorem dX3_joined_97 : decode cX3_joined 97 = .ok (.ireturn, 1) := by decide +kernel
theorem dX3_joined_98 : decode cX3_joined 98 = .ok (.iload_n 1, 1) := by decide +kernel
theorem dX3_joined_99 : decode cX3_joined 99 = .ok (.ifCond .eq 11, 3) := by decide +kernel
theorem dX3_joined_102 : decode cX3_joined 102 = .ok (.iload_n 2, 1) := by decide +kernel
theorem dX3_joined_103 : decode cX3_joined 103 = .ok (.ifCond .eq 7, 3) := by decide +kernel
theorem dX3_joined_106 : decode cX3_joined 106 = .ok (.iconst 1, 1) := by decide +kernel
theorem dX3_joined_107 : decode cX3_joined 107 = .ok (.goto 4, 3) := by decide +kernel
theorem dX3_joined_110 : decode cX3_joined 110 = .ok (.iconst 0, 1) := by decide +kernel
theorem dX3_joined_111 : decode cX3_joined 111 = .ok (.ireturn, 1) := by decide +kernel
theorem dX3_joined_112 : decode cX3_joined 112 = .ok (.iload_n 1, 1) := by decide +kernel
theorem dX3_joined_113 : decode cX3_joined 113 = .ok (.iload_n 2, 1) := by decide +kernel
theorem dX3_joined_114 : decode cX3_joined 114 = .ok (.if_icmp .ge 7, 3) := by decide +kernel
theorem dX3_joined_117 : decode cX3_joined 117 = .ok (.iconst 1, 1) := by decide +kernel
theorem dX3_joined_118 : decode cX3_joined 118 = .ok (.goto 4, 3) := by decide +kernel
theorem dX3_joined_121 : decode cX3_joined 121 = .ok (.iconst 0, 1) := by decide +kernel
theorem dX3_joined_122 : decode cX3_joined 122 = .ok (.ireturn, 1) := by decide +kernel
theorem dX3_joined_123 : decode cX3_joined 123 = .ok (.iload_n 1, 1) := by decide +kernel
theorem dX3_joined_124 : decode cX3_joined 124 = .ok (.iload_n 2, 1) := by decide +kernel
theorem dX3_joined_125 : decode cX3_joined 125 = .ok (.if_icmp .ne 7, 3) := by decide +kernel
theorem dX3_joined_128 : decode cX3_joined 128 = .ok (.iconst 1, 1) := by decide +kernel
theorem dX3_joined_129 : decode cX3_joined 129 = .ok (.goto 4, 3) := by decide +kernel
theorem dX3_joined_132 : decode cX3_joined 132 = .ok (.iconst 0, 1) := by decide +kernel
theorem dX3_joined_133 : decode cX3_joined 133 = .ok (.ireturn, 1) := by decide +kernel
theorem dX3_joined_134 : decode cX3_joined 134 = .ok (.iload_n 1, 1) := by decide +kernel
theorem dX3_joined_135 : decode cX3_joined 135 = .ok (.iload_n 2, 1) := by decide +kernel
theorem dX3_joined_136 : decode cX3_joined 136 = .ok (.if_icmp .le 7, 3) := by decide +kernel
theorem dX3_joined_139 : decode cX3_joined 139 = .ok (.iconst 1, 1) := by decide +kernel
theorem dX3_joined_140 : decode cX3_joined 140 = .ok (.goto 4, 3) := by decide +kernel
theorem dX3_joined_143 : decode cX3_joined 143 = .ok (.iconst 0, 1) := by decide +kernel
theorem dX3_joined_144 : decode cX3_joined 144 = .ok (.ireturn, 1) := by decide +kernel
theorem dX3_joined_145 : decode cX3_joined 145 = .ok (.iload_n 1, 1) := by decide +kernel
theorem dX3_joined_146 : decode cX3_joined 146 = .ok (.iload_n 2, 1) := by decide +kernel
theorem dX3_joined_147 : decode cX3_joined 147 = .ok (.iadd, 1) := by decide +kernel
theorem dX3_joined_148 : decode cX3_joined 148 = .ok (.ireturn, 1) := by decide +kernel
theorem dX3_joined_149 : decode cX3_joined 149 = .ok (.iload_n 1, 1) := by decide +kernel
theorem dX3_joined_150 : decode cX3_joined 150 = .ok (.iload_n 2, 1) := by decide +kernel
theorem dX3_joined_151 : decode cX3_joined 151 = .ok (.isub, 1) := by decide +kernel
theorem dX3_joined_152 : decode cX3_joined 152 = .ok (.ireturn, 1) := by decide +kernel
theorem dX3_joined_153 : decode cX3_joined 153 = .ok (.iload_n 1, 1) := by decide +kernel
theorem dX3_joined_154 : decode cX3_joined 154 = .ok (.iload_n 2, 1) := by decide +kernel
theorem dX3_joined_155 : decode cX3_joined 155 = .ok (.imul, 1) := by decide +kernel
theorem dX3_joined_156 : decode cX3_joined 156 = .ok (.ireturn, 1) := by decide +kernel
theorem dX3_joined_157 : decode cX3_joined 157 = .ok (.iload_n 2, 1) := by decide +kernel
theorem dX3_joined_158 : decode cX3_joined 158 = .ok (.ifCond .ne 7, 3) := by decide +kernel
theorem dX3_joined_161 : decode cX3_joined 161 = .ok (.iconst 0, 1) := by decide +kernel
theorem dX3_joined_162 : decode cX3_joined 162 = .ok (.goto 6, 3) := by decide +kernel
theorem dX3_joined_165 : decode cX3_joined 165 = .ok (.iload_n 1, 1) := by decide +kernel
theorem dX3_joined_166 : decode cX3_joined 166 = .ok (.iload_n 2, 1) := by decide +kernel
theorem dX3_joined_167 : decode cX3_joined 167 = .ok (.idiv, 1) := by decide +kernel
theorem dX3_joined_168 : decode cX3_joined 168 = .ok (.ireturn, 1) := by decide +kernel
theorem dX3_joined_169 : decode cX3_joined 169 = .ok (.iload_n 2, 1) := by decide +kernel
theorem dX3_joined_170 : decode cX3_joined 170 = .ok (.ifCond .ne 7, 3) := by decide +kernel
theorem dX3_joined_173 : decode cX3_joined 173 = .ok (.iconst 0, 1) := by decide +kernel
theorem dX3_joined_174 : decode cX3_joined 174 = .ok (.goto 6, 3) := by decide +kernel
theorem dX3_joined_177 : decode cX3_joined 177 = .ok (.iload_n 1, 1) := by decide +kernel
theorem dX3_joined_178 : decode cX3_joined 178 = .ok (.iload_n 2, 1) := by decide +kernel
theorem dX3_joined_179 : decode cX3_joined 179 = .ok (.irem, 1) := by decide +kernel
theorem dX3_joined_180 : decode cX3_joined 180 = .ok (.ireturn, 1) := by decide +kernel
set_option maxRecDepth 20000 in
theorem ggX4_init_X1_init : GoodIn wsX4_init wsX1_init := goodIn_r _ [14, 15, 2, 3, 16, 17, 18, 19, 20, 21, 22, 23, 24] (by decide +kernel) (by decide +kernel)
set_option maxRecDepth 20000 in
theorem gX4_init_X1_init : GoodIn wsX4_init (wsX1_init) := ggX4_init_X1_init
theorem dX4_init_0 : decode cX4_init 0 = .ok (.aload_n 0, 1) := by decide +kernel
theorem dX4_init_1 : decode cX4_init 1 = .ok (.invokespecial 3, 3) := by decide +kernel
theorem dX4_init_4 : decode cX4_init 4 = .ok (.aload_n 0, 1) := by decide +kernel
theorem dX4_init_5 : decode cX4_init 5 = .ok (.new 9, 3) := by decide +kernel
theorem dX4_init_8 : decode cX4_init 8 = .ok (.dup, 1) := by decide +kernel
theorem dX4_init_9 : decode cX4_init 9 = .ok (.bipush 30, 2) := by decide +kernel
theorem dX4_init_11 : decode cX4_init 11 = .ok (.invokespecial 11, 3) := by decide +kernel
theorem dX4_init_14 : decode cX4_init 14 = .ok (.putfield 14, 3) := by decide +kernel
theorem dX4_init_17 : decode cX4_init 17 = .ok (.aload_n 0, 1) := by decide +kernel
theorem dX4_init_18 : decode cX4_init 18 = .ok (.iconst 0, 1) := by decide +kernel
theorem dX4_init_19 : decode cX4_init 19 = .ok (.putfield 20, 3) := by decide +kernel
theorem dX4_init_22 : decode cX4_init 22 = .ok (.aload_n 0, 1) := by decide +kernel
theorem dX4_init_23 : decode cX4_init 23 = .ok (.iconst 0, 1) := by decide +kernel
theorem dX4_init_24 : decode cX4_init 24 = .ok (.putfield 24, 3) := by decide +kernel
theorem dX4_init_27 : decode cX4_init 27 = .ok (.aload_n 0, 1) := by decide +kernel
theorem dX4_init_28 : decode cX4_init 28 = .ok (.iconst 0, 1) := by decide +kernel
theorem dX4_init_29 : decode cX4_init 29 = .ok (.putfield 28, 3) := by decide +kernel
theorem dX4_init_32 : decode cX4_init 32 = .ok (.aload_n 0, 1) := by decide +kernel
theorem dX4_init_33 : decode cX4_init 33 = .ok (.iconst 0, 1) := by decide +kernel
theorem dX4_init_34 : decode cX4_init 34 = .ok (.putfield 31, 3) := by decide +kernel
theorem dX4_init_37 : decode cX4_init 37 = .ok (.return_, 1) := by decide +kernel
set_option maxRecDepth 20000 in
theorem ggX4_answer_X4_own : GoodIn wsX4_answer wsX4_own := goodIn_r _ [11, 6, 12, 13, 14, 10, 15, 16, 17, 18, 19, 20, 21, 3, 1, 4, 5, 22, 23, 24, 25, 26, 27, 28, 7, 8, 9, 29, 30, 31, 32, 33, 34, 35, 36, 37, 38, 39, 40, 41, 42] (by decide +kernel) (by decide +kernel)
set_option maxRecDepth 20000 in
theorem gX4_answer_X4_own : GoodIn wsX4_answer (wsV RX4 37 RX4 yX4_own wsX4_own) := goodIn_app (goodIn_of _ (by decide +kernel)) ggX4_answer_X4_own
theorem dX4_answer_0 : decode cX4_answer 0 = .ok (.aload_n 0, 1) := by decide +kernel
theorem dX4_answer_1 : decode cX4_answer 1 = .ok (.getfield 14, 3) := by decide +kernel
theorem dX4_answer_4 : decode cX4_answer 4 = .ok (.iconst 0, 1) := by decide +kernel
theorem dX4_answer_5 : decode cX4_answer 5 = .ok (.putfield 34, 3) := by decide +kernel
theorem dX4_answer_8 : decode cX4_answer 8 = .ok (.aload_n 0, 1) := by decide +kernel
theorem dX4_answer_9 : decode cX4_answer 9 = .ok (.iconst 0, 1) := by decide +kernel
theorem dX4_answer_10 : decode cX4_answer 10 = .ok (.putfield 20, 3) := by decide +kernel
theorem dX4_answer_13 : decode cX4_answer 13 = .ok (.aload_n 0, 1) := by decide +kernel
theorem dX4_answer_14 : decode cX4_answer 14 = .ok (.iload_n 1, 1) := by decide +kernel
theorem dX4_answer_15 : decode cX4_answer 15 = .ok (.putfield 24, 3) := by decide +kernel
theorem dX4_answer_18 : decode cX4_answer 18 = .ok (.aload_n 0, 1) := by decide +kernel
theorem dX4_answer_19 : decode cX4_answer 19 = .ok (.iload_n 3, 1) := by decide +kernel
theorem dX4_answer_20 : decode cX4_answer 20 = .ok (.putfield 28, 3) := by decide +kernel
theorem dX4_answer_23 : decode cX4_answer 23 = .ok (.aload_n 0, 1) := by decide +kernel
theorem dX4_answer_24 : decode cX4_answer 24 = .ok (.iload_n 2, 1) := by decide +kernel
theorem dX4_answer_25 : decode cX4_answer 25 = .ok (.putfield 31, 3) := by decide +kernel
theorem dX4_answer_28 : decode cX4_answer 28 = .ok (.aload_n 0, 1) := by decide +kernel
theorem dX4_answer_29 : decode cX4_answer 29 = .ok (.iload 4, 2) := by decide +kernel
theorem dX4_answer_31 : decode cX4_answer 31 = .ok (.iload 5, 2) := by decide +kernel
theorem dX4_answer_33 : decode cX4_answer 33 = .ok (.iconst 0, 1) := by decide +kernel
theorem dX4_answer_34 : decode cX4_answer 34 = .ok (.invokevirtual 37, 3) := by decide +kernel
theorem dX4_answer_37 : decode cX4_answer 37 = .ok (.ireturn, 1) := by decide +kernel
set_option maxRecDepth 20000 in
theorem ggX4_own_X4_from : GoodIn wsX4_own wsX4_from := goodIn_r _ [7, 8, 9, 10, 11, 5, 6, 2, 3, 4, 0, 1, 12, 13, 14, 15, 16, 17, 18, 19, 20, 21, 22, 23, 24, 25, 26, 27, 28, 29, 30, 31, 32, 33, 34, 35, 36, 37, 38, 39, 40] (by decide +kernel) (by decide +kernel)
set_option maxRecDepth 20000 in
theorem gX4_own_X4_from : GoodIn wsX4_own (wsV RX4 41 RX4 yX4_from wsX4_from) := goodIn_app (goodIn_of _ (by decide +kernel)) ggX4_own_X4_from
theorem dX4_own_0 : decode cX4_own 0 = .ok (.aload_n 0, 1) := by decide +kernel
theorem dX4_own_1 : decode cX4_own 1 = .ok (.aload_n 0, 1) := by decide +kernel
theorem dX4_own_2 : decode cX4_own 2 = .ok (.getfield 31, 3) := by decide +kernel
theorem dX4_own_5 : decode cX4_own 5 = .ok (.iload_n 1, 1) := by decide +kernel
theorem dX4_own_6 : decode cX4_own 6 = .ok (.iload_n 2, 1) := by decide +kernel
theorem dX4_own_7 : decode cX4_own 7 = .ok (.iload_n 3, 1) := by decide +kernel
theorem dX4_own_8 : decode cX4_own 8 = .ok (.iconst 1, 1) := by decide +kernel
theorem dX4_own_9 : decode cX4_own 9 = .ok (.iadd, 1) := by decide +kernel
theorem dX4_own_10 : decode cX4_own 10 = .ok (.invokevirtual 41, 3) := by decide +kernel
theorem dX4_own_13 : decode cX4_own 13 = .ok (.ireturn, 1) := by decide +kernel
set_option maxRecDepth 20000 in
theorem ggX4_above_X4_from : GoodIn wsX4_above wsX4_from := goodIn_r _ [5, 6, 7, 8, 9, 4, 0, 1, 2, 3, 10, 11, 12, 13, 14, 15, 16, 17, 18, 19, 20, 21, 22, 23, 24, 25, 26, 27, 28, 29, 30, 31, 32, 33, 34, 35, 36, 37, 38, 39, 40] (by decide +kernel) (by decide +kernel)
set_option maxRecDepth 20000 in
theorem gX4_above_X4_from : GoodIn wsX4_above (wsV RX4 41 RX4 yX4_from wsX4_from) := goodIn_app (goodIn_of _ (by decide +kernel)) ggX4_above_X4_from
theorem dX4_above_0 : decode cX4_above 0 = .ok (.aload_n 0, 1) := by decide +kernel
theorem dX4_above_1 : decode cX4_above 1 = .ok (.getstatic 45, 3) := by decide +kernel
theorem dX4_above_4 : decode cX4_above 4 = .ok (.iload_n 1, 1) := by decide +kernel
theorem dX4_above_5 : decode cX4_above 5 = .ok (.iaload, 1) := by decide +kernel
theorem dX4_above_6 : decode cX4_above 6 = .ok (.iload_n 2, 1) := by decide +kernel
theorem dX4_above_7 : decode cX4_above 7 = .ok (.iload_n 3, 1) := by decide +kernel
theorem dX4_above_8 : decode cX4_above 8 = .ok (.iload 4, 2) := by decide +kernel
theorem dX4_above_10 : decode cX4_above 10 = .ok (.iconst 1, 1) := by decide +kernel
theorem dX4_above_11 : decode cX4_above 11 = .ok (.iadd, 1) := by decide +kernel
theorem dX4_above_12 : decode cX4_above 12 = .ok (.invokevirtual 41, 3) := by decide +kernel
theorem dX4_above_15 : decode cX4_above 15 = .ok (.ireturn, 1) := by decide +kernel
set_option maxRecDepth 20000 in
theorem ggX4_from_X4_workedOut : GoodIn wsX4_from wsX4_workedOut := goodIn_r _ [12, 13, 14, 15, 16, 17, 18, 19, 20, 21, 22, 23, 24, 25, 26, 5, 27, 28, 29, 30, 31, 32, 33, 6, 7, 8, 9, 0, 1, 2, 3, 4, 10, 11, 34, 35, 36, 37, 38, 39, 40] (by decide +kernel) (by decide +kernel)
set_option maxRecDepth 20000 in
theorem gX4_from_X4_workedOut : GoodIn wsX4_from (wsV RX4 52 RX4 yX4_workedOut wsX4_workedOut) := goodIn_app (goodIn_of _ (by decide +kernel)) ggX4_from_X4_workedOut
theorem dX4_from_0 : decode cX4_from 0 = .ok (.iload_n 1, 1) := by decide +kernel
theorem dX4_from_1 : decode cX4_from 1 = .ok (.istore 5, 2) := by decide +kernel
theorem dX4_from_3 : decode cX4_from 3 = .ok (.iconst 0, 1) := by decide +kernel
theorem dX4_from_4 : decode cX4_from 4 = .ok (.istore 6, 2) := by decide +kernel
theorem dX4_from_6 : decode cX4_from 6 = .ok (.iload 6, 2) := by decide +kernel
theorem dX4_from_8 : decode cX4_from 8 = .ok (.bipush 7, 2) := by decide +kernel
theorem dX4_from_10 : decode cX4_from 10 = .ok (.if_icmp .ge 51, 3) := by decide +kernel
theorem dX4_from_13 : decode cX4_from 13 = .ok (.iload 5, 2) := by decide +kernel
theorem dX4_from_15 : decode cX4_from 15 = .ok (.ifCond .lt 46, 3) := by decide +kernel
theorem dX4_from_18 : decode cX4_from 18 = .ok (.getstatic 49, 3) := by decide +kernel
theorem dX4_from_21 : decode cX4_from 21 = .ok (.iconst 4, 1) := by decide +kernel
theorem dX4_from_22 : decode cX4_from 22 = .ok (.iload 5, 2) := by decide +kernel
theorem dX4_from_24 : decode cX4_from 24 = .ok (.imul, 1) := by decide +kernel
theorem dX4_from_25 : decode cX4_from 25 = .ok (.iload_n 2, 1) := by decide +kernel
theorem dX4_from_26 : decode cX4_from 26 = .ok (.iadd, 1) := by decide +kernel
theorem dX4_from_27 : decode cX4_from 27 = .ok (.iaload, 1) := by decide +kernel
theorem dX4_from_28 : decode cX4_from 28 = .ok (.istore 7, 2) := by decide +kernel
theorem dX4_from_30 : decode cX4_from 30 = .ok (.iload 7, 2) := by decide +kernel
theorem dX4_from_32 : decode cX4_from 32 = .ok (.ifCond .eq 15, 3) := by decide +kernel
theorem dX4_from_35 : decode cX4_from 35 = .ok (.aload_n 0, 1) := by decide +kernel
theorem dX4_from_36 : decode cX4_from 36 = .ok (.iload 7, 2) := by decide +kernel
theorem dX4_from_38 : decode cX4_from 38 = .ok (.iload 5, 2) := by decide +kernel
theorem dX4_from_40 : decode cX4_from 40 = .ok (.iload_n 3, 1) := by decide +kernel
theorem dX4_from_41 : decode cX4_from 41 = .ok (.iload 4, 2) := by decide +kernel
theorem dX4_from_43 : decode cX4_from 43 = .ok (.invokevirtual 52, 3) := by decide +kernel
theorem dX4_from_46 : decode cX4_from 46 = .ok (.ireturn, 1) := by decide +kernel
theorem dX4_from_47 : decode cX4_from 47 = .ok (.getstatic 45, 3) := by decide +kernel
theorem dX4_from_50 : decode cX4_from 50 = .ok (.iload 5, 2) := by decide +kernel
theorem dX4_from_52 : decode cX4_from 52 = .ok (.iaload, 1) := by decide +kernel
theorem dX4_from_53 : decode cX4_from 53 = .ok (.istore 5, 2) := by decide +kernel
theorem dX4_from_55 : decode cX4_from 55 = .ok (.iinc 6 1, 3) := by decide +kernel
theorem dX4_from_58 : decode cX4_from 58 = .ok (.goto (-52), 3) := by decide +kernel
theorem dX4_from_61 : decode cX4_from 61 = .ok (.iconst 0, 1) := by decide +kernel
theorem dX4_from_62 : decode cX4_from 62 = .ok (.ireturn, 1) := by decide +kernel
set_option maxRecDepth 20000 in
theorem ggX4_workedOut_X1_append : GoodIn wsX4_workedOut wsX1_append := goodIn_r _ [9, 10, 11, 39, 40] (by decide +kernel) (by decide +kernel)
set_option maxRecDepth 20000 in
theorem gX4_workedOut_X1_append : GoodIn wsX4_workedOut (wsV RX4 55 RX1 yX1_append wsX1_append) := goodIn_app (goodIn_of _ (by decide +kernel)) ggX4_workedOut_X1_append
set_option maxRecDepth 20000 in
theorem ggX4_workedOut_X4_own : GoodIn wsX4_workedOut wsX4_own := goodIn_r _ [32, 33, 24, 25, 26, 15, 23, 27, 28, 29, 30, 31, 0, 1, 2, 3, 4, 5, 6, 7, 8, 9, 10, 11, 12, 13, 14, 16, 17, 18, 19, 20, 21, 22, 34, 35, 36, 37, 38, 39, 40] (by decide +kernel) (by decide +kernel)
set_option maxRecDepth 20000 in
theorem gX4_workedOut_X4_own : GoodIn wsX4_workedOut (wsV RX4 37 RX4 yX4_own wsX4_own) := goodIn_app (goodIn_of _ (by decide +kernel)) ggX4_workedOut_X4_own
set_option maxRecDepth 20000 in
theorem ggX4_workedOut_X4_partedBy : GoodIn wsX4_workedOut wsX4_partedBy := goodIn_r _ [19, 1, 34, 35, 36, 37, 38] (by decide +kernel) (by decide +kernel)
set_option maxRecDepth 20000 in
theorem gX4_workedOut_X4_partedBy : GoodIn wsX4_workedOut (wsV RX4 58 RX4 yX4_partedBy wsX4_partedBy) := goodIn_app (goodIn_of _ (by decide +kernel)) ggX4_workedOut_X4_partedBy
set_option maxRecDepth 20000 in
theorem ggX4_workedOut_X4_above : GoodIn wsX4_workedOut wsX4_above := goodIn_r _ [23, 24, 25, 26, 15, 27, 28, 29, 30, 31, 32, 33, 0, 1, 2, 3, 4, 5, 6, 7, 8, 9, 10, 11, 12, 13, 14, 16, 17, 18, 19, 20, 21, 22, 34, 35, 36, 37, 38, 39, 40] (by decide +kernel) (by decide +kernel)
set_option maxRecDepth 20000 in
theorem gX4_workedOut_X4_above : GoodIn wsX4_workedOut (wsV RX4 62 RX4 yX4_above wsX4_above) := goodIn_app (goodIn_of _ (by decide +kernel)) ggX4_workedOut_X4_above
theorem dX4_workedOut_0 : decode cX4_workedOut 0 = .ok (.aload_n 0, 1) := by decide +kernel
theorem dX4_workedOut_1 : decode cX4_workedOut 1 = .ok (.getfield 20, 3) := by decide +kernel
theorem dX4_workedOut_4 : decode cX4_workedOut 4 = .ok (.ifCond .ne 10, 3) := by decide +kernel
theorem dX4_workedOut_7 : decode cX4_workedOut 7 = .ok (.iload 4, 2) := by decide +kernel
theorem dX4_workedOut_9 : decode cX4_workedOut 9 = .ok (.bipush 40, 2) := by decide +kernel
theorem dX4_workedOut_11 : decode cX4_workedOut 11 = .ok (.if_icmp .le 5, 3) := by decide +kernel
theorem dX4_workedOut_14 : decode cX4_workedOut 14 = .ok (.iconst 0, 1) := by decide +kernel
theorem dX4_workedOut_15 : decode cX4_workedOut 15 = .ok (.ireturn, 1) := by decide +kernel
theorem dX4_workedOut_16 : decode cX4_workedOut 16 = .ok (.aload_n 0, 1) := by decide +kernel
theorem dX4_workedOut_17 : decode cX4_workedOut 17 = .ok (.getfield 14, 3) := by decide +kernel
theorem dX4_workedOut_20 : decode cX4_workedOut 20 = .ok (.iload_n 1, 1) := by decide +kernel
theorem dX4_workedOut_21 : decode cX4_workedOut 21 = .ok (.invokevirtual 55, 3) := by decide +kernel
theorem dX4_workedOut_24 : decode cX4_workedOut 24 = .ok (.iload_n 1, 1) := by decide +kernel
theorem dX4_workedOut_25 : decode cX4_workedOut 25 = .ok (.lookupswitch 251 #[(10, 107), (11, 114), (12, 125), (13, 139), (20, 154), (21, 166), (30, 185), (40, 197), (50, 209), (51, 221), (60, 236), (70, 248)], 107) := by decide +kernel
theorem dX4_workedOut_132 : decode cX4_workedOut 132 = .ok (.iload_n 3, 1) := by decide +kernel
theorem dX4_workedOut_133 : decode cX4_workedOut 133 = .ok (.aload_n 0, 1) := by decide +kernel
theorem dX4_workedOut_134 : decode cX4_workedOut 134 = .ok (.getfield 24, 3) := by decide +kernel
theorem dX4_workedOut_137 : decode cX4_workedOut 137 = .ok (.iadd, 1) := by decide +kernel
theorem dX4_workedOut_138 : decode cX4_workedOut 138 = .ok (.ireturn, 1) := by decide +kernel
theorem dX4_workedOut_139 : decode cX4_workedOut 139 = .ok (.aload_n 0, 1) := by decide +kernel
theorem dX4_workedOut_140 : decode cX4_workedOut 140 = .ok (.iconst 0, 1) := by decide +kernel
theorem dX4_workedOut_141 : decode cX4_workedOut 141 = .ok (.iload_n 3, 1) := by decide +kernel
theorem dX4_workedOut_142 : decode cX4_workedOut 142 = .ok (.iload 4, 2) := by decide +kernel
theorem dX4_workedOut_144 : decode cX4_workedOut 144 = .ok (.invokevirtual 37, 3) := by decide +kernel
theorem dX4_workedOut_147 : decode cX4_workedOut 147 = .ok (.iconst 2, 1) := by decide +kernel
theorem dX4_workedOut_148 : decode cX4_workedOut 148 = .ok (.imul, 1) := by decide +kernel
theorem dX4_workedOut_149 : decode cX4_workedOut 149 = .ok (.ireturn, 1) := by decide +kernel
theorem dX4_workedOut_150 : decode cX4_workedOut 150 = .ok (.aload_n 0, 1) := by decide +kernel
theorem dX4_workedOut_151 : decode cX4_workedOut 151 = .ok (.iconst 1, 1) := by decide +kernel
theorem dX4_workedOut_152 : decode cX4_workedOut 152 = .ok (.iload_n 3, 1) := by decide +kernel
theorem dX4_workedOut_153 : decode cX4_workedOut 153 = .ok (.iload 4, 2) := by decide +kernel
theorem dX4_workedOut_155 : decode cX4_workedOut 155 = .ok (.invokevirtual 37, 3) := by decide +kernel
theorem dX4_workedOut_158 : decode cX4_workedOut 158 = .ok (.aload_n 0, 1) := by decide +kernel
theorem dX4_workedOut_159 : decode cX4_workedOut 159 = .ok (.getfield 28, 3) := by decide +kernel
theorem dX4_workedOut_162 : decode cX4_workedOut 162 = .ok (.isub, 1) := by decide +kernel
theorem dX4_workedOut_163 : decode cX4_workedOut 163 = .ok (.ireturn, 1) := by decide +kernel
theorem dX4_workedOut_164 : decode cX4_workedOut 164 = .ok (.aload_n 0, 1) := by decide +kernel
theorem dX4_workedOut_165 : decode cX4_workedOut 165 = .ok (.iload_n 3, 1) := by decide +kernel
theorem dX4_workedOut_166 : decode cX4_workedOut 166 = .ok (.aload_n 0, 1) := by decide +kernel
theorem dX4_workedOut_167 : decode cX4_workedOut 167 = .ok (.getfield 28, 3) := by decide +kernel
theorem dX4_workedOut_170 : decode cX4_workedOut 170 = .ok (.aload_n 0, 1) := by decide +kernel
theorem dX4_workedOut_171 : decode cX4_workedOut 171 = .ok (.getfield 24, 3) := by decide +kernel
theorem dX4_workedOut_174 : decode cX4_workedOut 174 = .ok (.isub, 1) := by decide +kernel
theorem dX4_workedOut_175 : decode cX4_workedOut 175 = .ok (.invokevirtual 58, 3) := by decide +kernel
theorem dX4_workedOut_178 : decode cX4_workedOut 178 = .ok (.ireturn, 1) := by decide +kernel
theorem dX4_workedOut_179 : decode cX4_workedOut 179 = .ok (.aload_n 0, 1) := by decide +kernel
theorem dX4_workedOut_180 : decode cX4_workedOut 180 = .ok (.iload_n 2, 1) := by decide +kernel
theorem dX4_workedOut_181 : decode cX4_workedOut 181 = .ok (.iconst 0, 1) := by decide +kernel
theorem dX4_workedOut_182 : decode cX4_workedOut 182 = .ok (.iload_n 3, 1) := by decide +kernel
theorem dX4_workedOut_183 : decode cX4_workedOut 183 = .ok (.iload 4, 2) := by decide +kernel
theorem dX4_workedOut_185 : decode cX4_workedOut 185 = .ok (.invokevirtual 62, 3) := by decide +kernel
theorem dX4_workedOut_188 : decode cX4_workedOut 188 = .ok (.iconst 4, 1) := by decide +kernel
theorem dX4_workedOut_189 : decode cX4_workedOut 189 = .ok (.isub, 1) := by decide +kernel
theorem dX4_workedOut_190 : decode cX4_workedOut 190 = .ok (.ireturn, 1) := by decide +kernel
theorem dX4_workedOut_191 : decode cX4_workedOut 191 = .ok (.aload_n 0, 1) := by decide +kernel
theorem dX4_workedOut_192 : decode cX4_workedOut 192 = .ok (.iload_n 2, 1) := by decide +kernel
theorem dX4_workedOut_193 : decode cX4_workedOut 193 = .ok (.iconst 3, 1) := by decide +kernel
theorem dX4_workedOut_194 : decode cX4_workedOut 194 = .ok (.iload_n 3, 1) := by decide +kernel
theorem dX4_workedOut_195 : decode cX4_workedOut 195 = .ok (.iload 4, 2) := by decide +kernel
theorem dX4_workedOut_197 : decode cX4_workedOut 197 = .ok (.invokevirtual 62, 3) := by decide +kernel
theorem dX4_workedOut_200 : decode cX4_workedOut 200 = .ok (.aload_n 0, 1) := by decide +kernel
theorem dX4_workedOut_201 : decode cX4_workedOut 201 = .ok (.iconst 1, 1) := by decide +kernel
theorem dX4_workedOut_202 : decode cX4_workedOut 202 = .ok (.iconst 1, 1) := by decide +kernel
theorem dX4_workedOut_203 : decode cX4_workedOut 203 = .ok (.iload 4, 2) := by decide +kernel
theorem dX4_workedOut_205 : decode cX4_workedOut 205 = .ok (.invokevirtual 37, 3) := by decide +kernel
theorem dX4_workedOut_208 : decode cX4_workedOut 208 = .ok (.iadd, 1) := by decide +kernel
theorem dX4_workedOut_209 : decode cX4_workedOut 209 = .ok (.ireturn, 1) := by decide +kernel
theorem dX4_workedOut_210 : decode cX4_workedOut 210 = .ok (.iconst 0, 1) := by decide +kernel
theorem dX4_workedOut_211 : decode cX4_workedOut 211 = .ok (.aload_n 0, 1) := by decide +kernel
theorem dX4_workedOut_212 : decode cX4_workedOut 212 = .ok (.iload_n 2, 1) := by decide +kernel
theorem dX4_workedOut_213 : decode cX4_workedOut 213 = .ok (.iconst 1, 1) := by decide +kernel
theorem dX4_workedOut_214 : decode cX4_workedOut 214 = .ok (.iload_n 3, 1) := by decide +kernel
theorem dX4_workedOut_215 : decode cX4_workedOut 215 = .ok (.iload 4, 2) := by decide +kernel
theorem dX4_workedOut_217 : decode cX4_workedOut 217 = .ok (.invokevirtual 62, 3) := by decide +kernel
theorem dX4_workedOut_220 : decode cX4_workedOut 220 = .ok (.isub, 1) := by decide +kernel
theorem dX4_workedOut_221 : decode cX4_workedOut 221 = .ok (.ireturn, 1) := by decide +kernel
theorem dX4_workedOut_222 : decode cX4_workedOut 222 = .ok (.aload_n 0, 1) := by decide +kernel
theorem dX4_workedOut_223 : decode cX4_workedOut 223 = .ok (.iload_n 2, 1) := by decide +kernel
theorem dX4_workedOut_224 : decode cX4_workedOut 224 = .ok (.iconst 2, 1) := by decide +kernel
theorem dX4_workedOut_225 : decode cX4_workedOut 225 = .ok (.iload_n 3, 1) := by decide +kernel
theorem dX4_workedOut_226 : decode cX4_workedOut 226 = .ok (.iconst 2, 1) := by decide +kernel
theorem dX4_workedOut_227 : decode cX4_workedOut 227 = .ok (.idiv, 1) := by decide +kernel
theorem dX4_workedOut_228 : decode cX4_workedOut 228 = .ok (.iload 4, 2) := by decide +kernel
theorem dX4_workedOut_230 : decode cX4_workedOut 230 = .ok (.invokevirtual 62, 3) := by decide +kernel
theorem dX4_workedOut_233 : decode cX4_workedOut 233 = .ok (.ireturn, 1) := by decide +kernel
theorem dX4_workedOut_234 : decode cX4_workedOut 234 = .ok (.aload_n 0, 1) := by decide +kernel
theorem dX4_workedOut_235 : decode cX4_workedOut 235 = .ok (.iload_n 2, 1) := by decide +kernel
theorem dX4_workedOut_236 : decode cX4_workedOut 236 = .ok (.iconst 0, 1) := by decide +kernel
theorem dX4_workedOut_237 : decode cX4_workedOut 237 = .ok (.iload_n 3, 1) := by decide +kernel
theorem dX4_workedOut_238 : decode cX4_workedOut 238 = .ok (.iload 4, 2) := by decide +kernel
theorem dX4_workedOut_240 : decode cX4_workedOut 240 = .ok (.invokevirtual 62, 3) := by decide +kernel
theorem dX4_workedOut_243 : decode cX4_workedOut 243 = .ok (.iconst 3, 1) := by decide +kernel
theorem dX4_workedOut_244 : decode cX4_workedOut 244 = .ok (.imul, 1) := by decide +kernel
theorem dX4_workedOut_245 : decode cX4_workedOut 245 = .ok (.ireturn, 1) := by decide +kernel
theorem dX4_workedOut_246 : decode cX4_workedOut 246 = .ok (.aload_n 0, 1) := by decide +kernel
theorem dX4_workedOut_247 : decode cX4_workedOut 247 = .ok (.iload_n 2, 1) := by decide +kernel
theorem dX4_workedOut_248 : decode cX4_workedOut 248 = .ok (.iconst 2, 1) := by decide +kernel
theorem dX4_workedOut_249 : decode cX4_workedOut 249 = .ok (.iload_n 3, 1) := by decide +kernel
theorem dX4_workedOut_250 : decode cX4_workedOut 250 = .ok (.iload 4, 2) := by decide +kernel
theorem dX4_workedOut_252 : decode cX4_workedOut 252 = .ok (.invokevirtual 62, 3) := by decide +kernel
theorem dX4_workedOut_255 : decode cX4_workedOut 255 = .ok (.aload_n 0, 1) := by decide +kernel
theorem dX4_workedOut_256 : decode cX4_workedOut 256 = .ok (.getfield 24, 3) := by decide +kernel
theorem dX4_workedOut_259 : decode cX4_workedOut 259 = .ok (.ixor, 1) := by decide +kernel
theorem dX4_workedOut_260 : decode cX4_workedOut 260 = .ok (.ireturn, 1) := by decide +kernel
theorem dX4_workedOut_261 : decode cX4_workedOut 261 = .ok (.aload_n 0, 1) := by decide +kernel
theorem dX4_workedOut_262 : decode cX4_workedOut 262 = .ok (.iload_n 2, 1) := by decide +kernel
theorem dX4_workedOut_263 : decode cX4_workedOut 263 = .ok (.iconst 1, 1) := by decide +kernel
theorem dX4_workedOut_264 : decode cX4_workedOut 264 = .ok (.iload_n 3, 1) := by decide +kernel
theorem dX4_workedOut_265 : decode cX4_workedOut 265 = .ok (.iconst 1, 1) := by decide +kernel
theorem dX4_workedOut_266 : decode cX4_workedOut 266 = .ok (.iadd, 1) := by decide +kernel
theorem dX4_workedOut_267 : decode cX4_workedOut 267 = .ok (.iload 4, 2) := by decide +kernel
theorem dX4_workedOut_269 : decode cX4_workedOut 269 = .ok (.invokevirtual 62, 3) := by decide +kernel
theorem dX4_workedOut_272 : decode cX4_workedOut 272 = .ok (.ireturn, 1) := by decide +kernel
theorem dX4_workedOut_273 : decode cX4_workedOut 273 = .ok (.bipush 9, 2) := by decide +kernel
theorem dX4_workedOut_275 : decode cX4_workedOut 275 = .ok (.ireturn, 1) := by decide +kernel
theorem dX4_workedOut_276 : decode cX4_workedOut 276 = .ok (.aload_n 0, 1) := by decide +kernel
theorem dX4_workedOut_277 : decode cX4_workedOut 277 = .ok (.iload_n 2, 1) := by decide +kernel
theorem dX4_workedOut_278 : decode cX4_workedOut 278 = .ok (.iconst 1, 1) := by decide +kernel
theorem dX4_workedOut_279 : decode cX4_workedOut 279 = .ok (.iload_n 3, 1) := by decide +kernel
theorem dX4_workedOut_280 : decode cX4_workedOut 280 = .ok (.iload 4, 2) := by decide +kernel
theorem dX4_workedOut_282 : decode cX4_workedOut 282 = .ok (.invokevirtual 62, 3) := by decide +kernel
theorem dX4_workedOut_285 : decode cX4_workedOut 285 = .ok (.aload_n 0, 1) := by decide +kernel
theorem dX4_workedOut_286 : decode cX4_workedOut 286 = .ok (.getfield 28, 3) := by decide +kernel
theorem dX4_workedOut_289 : decode cX4_workedOut 289 = .ok (.iadd, 1) := by decide +kernel
theorem dX4_workedOut_290 : decode cX4_workedOut 290 = .ok (.ireturn, 1) := by decide +kernel
theorem dX4_partedBy_0 : decode cX4_partedBy 0 = .ok (.iload_n 2, 1) := by decide +kernel
theorem dX4_partedBy_1 : decode cX4_partedBy 1 = .ok (.ifCond .ne 10, 3) := by decide +kernel
theorem dX4_partedBy_4 : decode cX4_partedBy 4 = .ok (.aload_n 0, 1) := by decide +kernel
theorem dX4_partedBy_5 : decode cX4_partedBy 5 = .ok (.iconst 1, 1) := by decide +kernel
theorem dX4_partedBy_6 : decode cX4_partedBy 6 = .ok (.putfield 20, 3) := by decide +kernel
theorem dX4_partedBy_9 : decode cX4_partedBy 9 = .ok (.iconst 0, 1) := by decide +kernel
theorem dX4_partedBy_10 : decode cX4_partedBy 10 = .ok (.ireturn, 1) := by decide +kernel
theorem dX4_partedBy_11 : decode cX4_partedBy 11 = .ok (.iload_n 1, 1) := by decide +kernel
theorem dX4_partedBy_12 : decode cX4_partedBy 12 = .ok (.iload_n 2, 1) := by decide +kernel
theorem dX4_partedBy_13 : decode cX4_partedBy 13 = .ok (.idiv, 1) := by decide +kernel
theorem dX4_partedBy_14 : decode cX4_partedBy 14 = .ok (.ireturn, 1) := by decide +kernel
theorem dX0_init_0 : decode cX0_init 0 = .ok (.aload_n 0, 1) := by decide +kernel
theorem dX0_init_1 : decode cX0_init 1 = .ok (.invokespecial 3, 3) := by decide +kernel
theorem dX0_init_4 : decode cX0_init 4 = .ok (.aload_n 0, 1) := by decide +kernel
theorem dX0_init_5 : decode cX0_init 5 = .ok (.new 9, 3) := by decide +kernel
theorem dX0_init_8 : decode cX0_init 8 = .ok (.dup, 1) := by decide +kernel
theorem dX0_init_9 : decode cX0_init 9 = .ok (.bipush 60, 2) := by decide +kernel
theorem dX0_init_11 : decode cX0_init 11 = .ok (.invokespecial 11, 3) := by decide +kernel
theorem dX0_init_14 : decode cX0_init 14 = .ok (.putfield 14, 3) := by decide +kernel
theorem dX0_init_17 : decode cX0_init 17 = .ok (.aload_n 0, 1) := by decide +kernel
theorem dX0_init_18 : decode cX0_init 18 = .ok (.new 9, 3) := by decide +kernel
theorem dX0_init_21 : decode cX0_init 21 = .ok (.dup, 1) := by decide +kernel
theorem dX0_init_22 : decode cX0_init 22 = .ok (.bipush 60, 2) := by decide +kernel
theorem dX0_init_24 : decode cX0_init 24 = .ok (.invokespecial 11, 3) := by decide +kernel
theorem dX0_init_27 : decode cX0_init 27 = .ok (.putfield 20, 3) := by decide +kernel
theorem dX0_init_30 : decode cX0_init 30 = .ok (.aload_n 0, 1) := by decide +kernel
theorem dX0_init_31 : decode cX0_init 31 = .ok (.iconst 0, 1) := by decide +kernel
theorem dX0_init_32 : decode cX0_init 32 = .ok (.putfield 23, 3) := by decide +kernel
theorem dX0_init_35 : decode cX0_init 35 = .ok (.aload_n 0, 1) := by decide +kernel
theorem dX0_init_36 : decode cX0_init 36 = .ok (.iconst 0, 1) := by decide +kernel
theorem dX0_init_37 : decode cX0_init 37 = .ok (.putfield 27, 3) := by decide +kernel
theorem dX0_init_40 : decode cX0_init 40 = .ok (.return_, 1) := by decide +kernel
set_option maxRecDepth 20000 in
theorem ggX0_read_X1_takeFrom : GoodIn wsX0_read wsX1_takeFrom := goodIn_r _ [10, 11, 12, 13, 14, 15, 16, 17, 18, 19, 20, 79, 80] (by decide +kernel) (by decide +kernel)
set_option maxRecDepth 20000 in
theorem gX0_read_X1_takeFrom : GoodIn wsX0_read (wsV RX0 30 RX1 yX1_takeFrom wsX1_takeFrom) := goodIn_app (goodIn_of _ (by decide +kernel)) ggX0_read_X1_takeFrom
set_option maxRecDepth 20000 in
theorem ggX0_read_X0_either : GoodIn wsX0_read wsX0_either := goodIn_r _ [25, 3, 1, 5, 4, 26, 27, 28, 24, 29, 30, 31, 32, 33, 34, 35, 9, 36, 11, 12, 37, 38, 39, 40, 41, 42, 43, 44, 45, 46, 47, 48, 49, 50, 51, 52, 53, 21, 22, 23, 54, 55, 56, 57, 58, 59, 60, 61, 62, 63, 64, 65, 66, 67, 68, 69, 70, 71, 2, 72, 73, 74, 75, 76, 77, 78, 79, 80] (by decide +kernel) (by decide +kernel)
set_option maxRecDepth 20000 in
theorem gX0_read_X0_either : GoodIn wsX0_read (wsV RX0 37 RX0 yX0_either wsX0_either) := goodIn_app (goodIn_of _ (by decide +kernel)) ggX0_read_X0_either
theorem dX0_read_0 : decode cX0_read 0 = .ok (.aload_n 0, 1) := by decide +kernel
theorem dX0_read_1 : decode cX0_read 1 = .ok (.getfield 20, 3) := by decide +kernel
theorem dX0_read_4 : decode cX0_read 4 = .ok (.aload_n 1, 1) := by decide +kernel
theorem dX0_read_5 : decode cX0_read 5 = .ok (.invokevirtual 30, 3) := by decide +kernel
theorem dX0_read_8 : decode cX0_read 8 = .ok (.aload_n 0, 1) := by decide +kernel
theorem dX0_read_9 : decode cX0_read 9 = .ok (.iconst 3, 1) := by decide +kernel
theorem dX0_read_10 : decode cX0_read 10 = .ok (.iload_n 2, 1) := by decide +kernel
theorem dX0_read_11 : decode cX0_read 11 = .ok (.imul, 1) := by decide +kernel
theorem dX0_read_12 : decode cX0_read 12 = .ok (.putfield 23, 3) := by decide +kernel
theorem dX0_read_15 : decode cX0_read 15 = .ok (.aload_n 0, 1) := by decide +kernel
theorem dX0_read_16 : decode cX0_read 16 = .ok (.iconst 0, 1) := by decide +kernel
theorem dX0_read_17 : decode cX0_read 17 = .ok (.putfield 27, 3) := by decide +kernel
theorem dX0_read_20 : decode cX0_read 20 = .ok (.aload_n 0, 1) := by decide +kernel
theorem dX0_read_21 : decode cX0_read 21 = .ok (.getfield 14, 3) := by decide +kernel
theorem dX0_read_24 : decode cX0_read 24 = .ok (.iconst 0, 1) := by decide +kernel
theorem dX0_read_25 : decode cX0_read 25 = .ok (.putfield 34, 3) := by decide +kernel
theorem dX0_read_28 : decode cX0_read 28 = .ok (.aload_n 0, 1) := by decide +kernel
theorem dX0_read_29 : decode cX0_read 29 = .ok (.iconst 0, 1) := by decide +kernel
theorem dX0_read_30 : decode cX0_read 30 = .ok (.invokevirtual 37, 3) := by decide +kernel
theorem dX0_read_33 : decode cX0_read 33 = .ok (.ifCond .eq 21, 3) := by decide +kernel
theorem dX0_read_36 : decode cX0_read 36 = .ok (.aload_n 0, 1) := by decide +kernel
theorem dX0_read_37 : decode cX0_read 37 = .ok (.getfield 27, 3) := by decide +kernel
theorem dX0_read_40 : decode cX0_read 40 = .ok (.aload_n 0, 1) := by decide +kernel
theorem dX0_read_41 : decode cX0_read 41 = .ok (.getfield 20, 3) := by decide +kernel
theorem dX0_read_44 : decode cX0_read 44 = .ok (.getfield 34, 3) := by decide +kernel
theorem dX0_read_47 : decode cX0_read 47 = .ok (.if_icmp .ne 7, 3) := by decide +kernel
theorem dX0_read_50 : decode cX0_read 50 = .ok (.iconst 1, 1) := by decide +kernel
theorem dX0_read_51 : decode cX0_read 51 = .ok (.goto 4, 3) := by decide +kernel
theorem dX0_read_54 : decode cX0_read 54 = .ok (.iconst 0, 1) := by decide +kernel
theorem dX0_read_55 : decode cX0_read 55 = .ok (.istore_n 3, 1) := by decide +kernel
theorem dX0_read_56 : decode cX0_read 56 = .ok (.iload_n 3, 1) := by decide +kernel
theorem dX0_read_57 : decode cX0_read 57 = .ok (.ifCond .eq 7, 3) := by decide +kernel
theorem dX0_read_60 : decode cX0_read 60 = .ok (.iconst (-1), 1) := by decide +kernel
theorem dX0_read_61 : decode cX0_read 61 = .ok (.goto 7, 3) := by decide +kernel
theorem dX0_read_64 : decode cX0_read 64 = .ok (.aload_n 0, 1) := by decide +kernel
theorem dX0_read_65 : decode cX0_read 65 = .ok (.getfield 27, 3) := by decide +kernel
theorem dX0_read_68 : decode cX0_read 68 = .ok (.ireturn, 1) := by decide +kernel
set_option maxRecDepth 20000 in
theorem ggX0_sees_X1_at : GoodIn wsX0_sees wsX1_at := goodIn_r _ [8, 9, 10, 15, 16] (by decide +kernel) (by decide +kernel)
set_option maxRecDepth 20000 in
theorem gX0_sees_X1_at : GoodIn wsX0_sees (wsV RX0 41 RX1 yX1_at wsX1_at) := goodIn_app (goodIn_of _ (by decide +kernel)) ggX0_sees_X1_at
theorem dX0_sees_0 : decode cX0_sees 0 = .ok (.aload_n 0, 1) := by decide +kernel
theorem dX0_sees_1 : decode cX0_sees 1 = .ok (.getfield 27, 3) := by decide +kernel
theorem dX0_sees_4 : decode cX0_sees 4 = .ok (.aload_n 0, 1) := by decide +kernel
theorem dX0_sees_5 : decode cX0_sees 5 = .ok (.getfield 20, 3) := by decide +kernel
theorem dX0_sees_8 : decode cX0_sees 8 = .ok (.getfield 34, 3) := by decide +kernel
theorem dX0_sees_11 : decode cX0_sees 11 = .ok (.if_icmp .ge 22, 3) := by decide +kernel
theorem dX0_sees_14 : decode cX0_sees 14 = .ok (.aload_n 0, 1) := by decide +kernel
theorem dX0_sees_15 : decode cX0_sees 15 = .ok (.getfield 20, 3) := by decide +kernel
theorem dX0_sees_18 : decode cX0_sees 18 = .ok (.aload_n 0, 1) := by decide +kernel
theorem dX0_sees_19 : decode cX0_sees 19 = .ok (.getfield 27, 3) := by decide +kernel
theorem dX0_sees_22 : decode cX0_sees 22 = .ok (.invokevirtual 41, 3) := by decide +kernel
theorem dX0_sees_25 : decode cX0_sees 25 = .ok (.iload_n 1, 1) := by decide +kernel
theorem dX0_sees_26 : decode cX0_sees 26 = .ok (.if_icmp .ne 7, 3) := by decide +kernel
theorem dX0_sees_29 : decode cX0_sees 29 = .ok (.iconst 1, 1) := by decide +kernel
theorem dX0_sees_30 : decode cX0_sees 30 = .ok (.goto 4, 3) := by decide +kernel
theorem dX0_sees_33 : decode cX0_sees 33 = .ok (.iconst 0, 1) := by decide +kernel
theorem dX0_sees_34 : decode cX0_sees 34 = .ok (.ireturn, 1) := by decide +kernel
set_option maxRecDepth 20000 in
theorem ggX0_seesDigit_X1_at : GoodIn wsX0_seesDigit wsX1_at := goodIn_r _ [8, 9, 10, 15, 16] (by decide +kernel) (by decide +kernel)
set_option maxRecDepth 20000 in
theorem gX0_seesDigit_X1_at : GoodIn wsX0_seesDigit (wsV RX0 41 RX1 yX1_at wsX1_at) := goodIn_app (goodIn_of _ (by decide +kernel)) ggX0_seesDigit_X1_at
theorem dX0_seesDigit_0 : decode cX0_seesDigit 0 = .ok (.aload_n 0, 1) := by decide +kernel
theorem dX0_seesDigit_1 : decode cX0_seesDigit 1 = .ok (.getfield 27, 3) := by decide +kernel
theorem dX0_seesDigit_4 : decode cX0_seesDigit 4 = .ok (.aload_n 0, 1) := by decide +kernel
theorem dX0_seesDigit_5 : decode cX0_seesDigit 5 = .ok (.getfield 20, 3) := by decide +kernel
theorem dX0_seesDigit_8 : decode cX0_seesDigit 8 = .ok (.getfield 34, 3) := by decide +kernel
theorem dX0_seesDigit_11 : decode cX0_seesDigit 11 = .ok (.if_icmp .ge 39, 3) := by decide +kernel
theorem dX0_seesDigit_14 : decode cX0_seesDigit 14 = .ok (.aload_n 0, 1) := by decide +kernel
theorem dX0_seesDigit_15 : decode cX0_seesDigit 15 = .ok (.getfield 20, 3) := by decide +kernel
theorem dX0_seesDigit_18 : decode cX0_seesDigit 18 = .ok (.aload_n 0, 1) := by decide +kernel
theorem dX0_seesDigit_19 : decode cX0_seesDigit 19 = .ok (.getfield 27, 3) := by decide +kernel
theorem dX0_seesDigit_22 : decode cX0_seesDigit 22 = .ok (.invokevirtual 41, 3) := by decide +kernel
theorem dX0_seesDigit_25 : decode cX0_seesDigit 25 = .ok (.bipush 48, 2) := by decide +kernel
theorem dX0_seesDigit_27 : decode cX0_seesDigit 27 = .ok (.if_icmp .lt 23, 3) := by decide +kernel
theorem dX0_seesDigit_30 : decode cX0_seesDigit 30 = .ok (.aload_n 0, 1) := by decide +kernel
theorem dX0_seesDigit_31 : decode cX0_seesDigit 31 = .ok (.getfield 20, 3) := by decide +kernel
theorem dX0_seesDigit_34 : decode cX0_seesDigit 34 = .ok (.aload_n 0, 1) := by decide +kernel
theorem dX0_seesDigit_35 : decode cX0_seesDigit 35 = .ok (.getfield 27, 3) := by decide +kernel
theorem dX0_seesDigit_38 : decode cX0_seesDigit 38 = .ok (.invokevirtual 41, 3) := by decide +kernel
theorem dX0_seesDigit_41 : decode cX0_seesDigit 41 = .ok (.bipush 57, 2) := by decide +kernel
theorem dX0_seesDigit_43 : decode cX0_seesDigit 43 = .ok (.if_icmp .gt 7, 3) := by decide +kernel
theorem dX0_seesDigit_46 : decode cX0_seesDigit 46 = .ok (.iconst 1, 1) := by decide +kernel
theorem dX0_seesDigit_47 : decode cX0_seesDigit 47 = .ok (.goto 4, 3) := by decide +kernel
theorem dX0_seesDigit_50 : decode cX0_seesDigit 50 = .ok (.iconst 0, 1) := by decide +kernel
theorem dX0_seesDigit_51 : decode cX0_seesDigit 51 = .ok (.ireturn, 1) := by decide +kernel
set_option maxRecDepth 20000 in
theorem ggX0_either_X0_both : GoodIn wsX0_either wsX0_both := goodIn_r _ [28, 1, 2, 3, 4, 29, 30, 31, 8, 9, 10, 11, 12, 13, 14, 15, 16, 17, 18, 19, 20, 21, 22, 23, 24, 25, 26, 27, 32, 33, 34, 35, 0, 5, 6, 7, 36, 37, 38, 39, 40, 41, 42, 43, 44, 45, 46, 47, 48, 49, 50, 51, 52, 53, 54, 55, 56, 57, 58, 59, 60, 61, 62, 63, 64, 65, 66, 67] (by decide +kernel) (by decide +kernel)
set_option maxRecDepth 20000 in
theorem gX0_either_X0_both : GoodIn wsX0_either (wsV RX0 44 RX0 yX0_both wsX0_both) := goodIn_app (goodIn_of _ (by decide +kernel)) ggX0_either_X0_both
set_option maxRecDepth 20000 in
theorem ggX0_either_X0_sees : GoodIn wsX0_either wsX0_sees := goodIn_r _ [12, 1, 2, 3, 13, 14, 15, 16, 17, 18, 19, 62, 63, 64, 65, 66, 67] (by decide +kernel) (by decide +kernel)
set_option maxRecDepth 20000 in
theorem gX0_either_X0_sees : GoodIn wsX0_either (wsV RX0 47 RX0 yX0_sees wsX0_sees) := goodIn_app (goodIn_of _ (by decide +kernel)) ggX0_either_X0_sees
set_option maxRecDepth 20000 in
theorem ggX0_either_X1_append : GoodIn wsX0_either wsX1_append := goodIn_r _ [23, 18, 19, 66, 67] (by decide +kernel) (by decide +kernel)
set_option maxRecDepth 20000 in
theorem gX0_either_X1_append : GoodIn wsX0_either (wsV RX0 53 RX1 yX1_append wsX1_append) := goodIn_app (goodIn_of _ (by decide +kernel)) ggX0_either_X1_append
theorem dX0_either_0 : decode cX0_either 0 = .ok (.aload_n 0, 1) := by decide +kernel
theorem dX0_either_1 : decode cX0_either 1 = .ok (.iload_n 1, 1) := by decide +kernel
theorem dX0_either_2 : decode cX0_either 2 = .ok (.invokevirtual 44, 3) := by decide +kernel
theorem dX0_either_5 : decode cX0_either 5 = .ok (.ifCond .ne 5, 3) := by decide +kernel
theorem dX0_either_8 : decode cX0_either 8 = .ok (.iconst 0, 1) := by decide +kernel
theorem dX0_either_9 : decode cX0_either 9 = .ok (.ireturn, 1) := by decide +kernel
theorem dX0_either_10 : decode cX0_either 10 = .ok (.aload_n 0, 1) := by decide +kernel
theorem dX0_either_11 : decode cX0_either 11 = .ok (.getfield 27, 3) := by decide +kernel
theorem dX0_either_14 : decode cX0_either 14 = .ok (.aload_n 0, 1) := by decide +kernel
theorem dX0_either_15 : decode cX0_either 15 = .ok (.getfield 20, 3) := by decide +kernel
theorem dX0_either_18 : decode cX0_either 18 = .ok (.getfield 34, 3) := by decide +kernel
theorem dX0_either_21 : decode cX0_either 21 = .ok (.if_icmp .ge 45, 3) := by decide +kernel
theorem dX0_either_24 : decode cX0_either 24 = .ok (.aload_n 0, 1) := by decide +kernel
theorem dX0_either_25 : decode cX0_either 25 = .ok (.bipush 124, 2) := by decide +kernel
theorem dX0_either_27 : decode cX0_either 27 = .ok (.invokevirtual 47, 3) := by decide +kernel
theorem dX0_either_30 : decode cX0_either 30 = .ok (.ifCond .eq 36, 3) := by decide +kernel
theorem dX0_either_33 : decode cX0_either 33 = .ok (.aload_n 0, 1) := by decide +kernel
theorem dX0_either_34 : decode cX0_either 34 = .ok (.dup, 1) := by decide +kernel
theorem dX0_either_35 : decode cX0_either 35 = .ok (.getfield 27, 3) := by decide +kernel
theorem dX0_either_38 : decode cX0_either 38 = .ok (.iconst 1, 1) := by decide +kernel
theorem dX0_either_39 : decode cX0_either 39 = .ok (.iadd, 1) := by decide +kernel
theorem dX0_either_40 : decode cX0_either 40 = .ok (.putfield 27, 3) := by decide +kernel
theorem dX0_either_43 : decode cX0_either 43 = .ok (.aload_n 0, 1) := by decide +kernel
theorem dX0_either_44 : decode cX0_either 44 = .ok (.iload_n 1, 1) := by decide +kernel
theorem dX0_either_45 : decode cX0_either 45 = .ok (.invokevirtual 44, 3) := by decide +kernel
theorem dX0_either_48 : decode cX0_either 48 = .ok (.ifCond .ne 5, 3) := by decide +kernel
theorem dX0_either_51 : decode cX0_either 51 = .ok (.iconst 0, 1) := by decide +kernel
theorem dX0_either_52 : decode cX0_either 52 = .ok (.ireturn, 1) := by decide +kernel
theorem dX0_either_53 : decode cX0_either 53 = .ok (.aload_n 0, 1) := by decide +kernel
theorem dX0_either_54 : decode cX0_either 54 = .ok (.getfield 14, 3) := by decide +kernel
theorem dX0_either_57 : decode cX0_either 57 = .ok (.sipush 20124, 3) := by decide +kernel
theorem dX0_either_60 : decode cX0_either 60 = .ok (.invokevirtual 53, 3) := by decide +kernel
theorem dX0_either_63 : decode cX0_either 63 = .ok (.goto (-53), 3) := by decide +kernel
theorem dX0_either_66 : decode cX0_either 66 = .ok (.iconst 1, 1) := by decide +kernel
theorem dX0_either_67 : decode cX0_either 67 = .ok (.ireturn, 1) := by decide +kernel
set_option maxRecDepth 20000 in
theorem ggX0_both_X0_compared : GoodIn wsX0_both wsX0_compared := goodIn_r _ [28, 2, 1, 4, 29, 30, 31, 8, 9, 10, 11, 12, 3, 13, 14, 15, 16, 17, 18, 19, 20, 21, 22, 23, 24, 25, 26, 27, 0, 5, 6, 7, 32, 33, 34, 35, 36, 37, 38, 39, 40, 41, 42, 43, 44, 45, 46, 47, 48, 49, 50, 51, 52, 53, 54, 55, 56, 57, 58, 59, 60, 61, 62, 63, 64, 65, 66, 67] (by decide +kernel) (by decide +kernel)
set_option maxRecDepth 20000 in
theorem gX0_both_X0_compared : GoodIn wsX0_both (wsV RX0 56 RX0 yX0_compared wsX0_compared) := goodIn_app (goodIn_of _ (by decide +kernel)) ggX0_both_X0_compared
set_option maxRecDepth 20000 in
theorem ggX0_both_X0_sees : GoodIn wsX0_both wsX0_sees := goodIn_r _ [12, 1, 2, 3, 13, 14, 15, 16, 17, 18, 19, 62, 63, 64, 65, 66, 67] (by decide +kernel) (by decide +kernel)
set_option maxRecDepth 20000 in
theorem gX0_both_X0_sees : GoodIn wsX0_both (wsV RX0 47 RX0 yX0_sees wsX0_sees) := goodIn_app (goodIn_of _ (by decide +kernel)) ggX0_both_X0_sees
set_option maxRecDepth 20000 in
theorem ggX0_both_X1_append : GoodIn wsX0_both wsX1_append := goodIn_r _ [23, 18, 19, 66, 67] (by decide +kernel) (by decide +kernel)
set_option maxRecDepth 20000 in
theorem gX0_both_X1_append : GoodIn wsX0_both (wsV RX0 53 RX1 yX1_append wsX1_append) := goodIn_app (goodIn_of _ (by decide +kernel)) ggX0_both_X1_append
theorem dX0_both_0 : decode cX0_both 0 = .ok (.aload_n 0, 1) := by decide +kernel
theorem dX0_both_1 : decode cX0_both 1 = .ok (.iload_n 1, 1) := by decide +kernel
theorem dX0_both_2 : decode cX0_both 2 = .ok (.invokevirtual 56, 3) := by decide +kernel
theorem dX0_both_5 : decode cX0_both 5 = .ok (.ifCond .ne 5, 3) := by decide +kernel
theorem dX0_both_8 : decode cX0_both 8 = .ok (.iconst 0, 1) := by decide +kernel
theorem dX0_both_9 : decode cX0_both 9 = .ok (.ireturn, 1) := by decide +kernel
theorem dX0_both_10 : decode cX0_both 10 = .ok (.aload_n 0, 1) := by decide +kernel
theorem dX0_both_11 : decode cX0_both 11 = .ok (.getfield 27, 3) := by decide +kernel
theorem dX0_both_14 : decode cX0_both 14 = .ok (.aload_n 0, 1) := by decide +kernel
theorem dX0_both_15 : decode cX0_both 15 = .ok (.getfield 20, 3) := by decide +kernel
theorem dX0_both_18 : decode cX0_both 18 = .ok (.getfield 34, 3) := by decide +kernel
theorem dX0_both_21 : decode cX0_both 21 = .ok (.if_icmp .ge 45, 3) := by decide +kernel
theorem dX0_both_24 : decode cX0_both 24 = .ok (.aload_n 0, 1) := by decide +kernel
theorem dX0_both_25 : decode cX0_both 25 = .ok (.bipush 38, 2) := by decide +kernel
theorem dX0_both_27 : decode cX0_both 27 = .ok (.invokevirtual 47, 3) := by decide +kernel
theorem dX0_both_30 : decode cX0_both 30 = .ok (.ifCond .eq 36, 3) := by decide +kernel
theorem dX0_both_33 : decode cX0_both 33 = .ok (.aload_n 0, 1) := by decide +kernel
theorem dX0_both_34 : decode cX0_both 34 = .ok (.dup, 1) := by decide +kernel
theorem dX0_both_35 : decode cX0_both 35 = .ok (.getfield 27, 3) := by decide +kernel
theorem dX0_both_38 : decode cX0_both 38 = .ok (.iconst 1, 1) := by decide +kernel
theorem dX0_both_39 : decode cX0_both 39 = .ok (.iadd, 1) := by decide +kernel
theorem dX0_both_40 : decode cX0_both 40 = .ok (.putfield 27, 3) := by decide +kernel
theorem dX0_both_43 : decode cX0_both 43 = .ok (.aload_n 0, 1) := by decide +kernel
theorem dX0_both_44 : decode cX0_both 44 = .ok (.iload_n 1, 1) := by decide +kernel
theorem dX0_both_45 : decode cX0_both 45 = .ok (.invokevirtual 56, 3) := by decide +kernel
theorem dX0_both_48 : decode cX0_both 48 = .ok (.ifCond .ne 5, 3) := by decide +kernel
theorem dX0_both_51 : decode cX0_both 51 = .ok (.iconst 0, 1) := by decide +kernel
theorem dX0_both_52 : decode cX0_both 52 = .ok (.ireturn, 1) := by decide +kernel
theorem dX0_both_53 : decode cX0_both 53 = .ok (.aload_n 0, 1) := by decide +kernel
theorem dX0_both_54 : decode cX0_both 54 = .ok (.getfield 14, 3) := by decide +kernel
theorem dX0_both_57 : decode cX0_both 57 = .ok (.sipush 20038, 3) := by decide +kernel
theorem dX0_both_60 : decode cX0_both 60 = .ok (.invokevirtual 53, 3) := by decide +kernel
theorem dX0_both_63 : decode cX0_both 63 = .ok (.goto (-53), 3) := by decide +kernel
theorem dX0_both_66 : decode cX0_both 66 = .ok (.iconst 1, 1) := by decide +kernel
theorem dX0_both_67 : decode cX0_both 67 = .ok (.ireturn, 1) := by decide +kernel
set_option maxRecDepth 20000 in
theorem ggX0_compared_X0_added : GoodIn wsX0_compared wsX0_added := goodIn_r _ [24, 2, 1, 12, 3, 25, 26, 27, 7, 8, 9, 10, 11, 13, 14, 15, 16, 17, 18, 19, 20, 21, 22, 23, 28, 29, 30, 31, 0, 4, 5, 6, 32, 33, 34, 35, 36, 37, 38, 39, 40, 41, 42, 43, 44, 45, 46, 47, 48, 49, 50, 51, 52, 53, 54, 55, 56, 57, 58, 59, 60, 61, 62, 63, 64, 65, 66, 67] (by decide +kernel) (by decide +kernel)
set_option maxRecDepth 20000 in
theorem gX0_compared_X0_added : GoodIn wsX0_compared (wsV RX0 59 RX0 yX0_added wsX0_added) := goodIn_app (goodIn_of _ (by decide +kernel)) ggX0_compared_X0_added
set_option maxRecDepth 20000 in
theorem ggX0_compared_X0_sees : GoodIn wsX0_compared wsX0_sees := goodIn_r _ [11, 2, 1, 12, 13, 14, 15, 16, 17, 18, 19, 62, 63, 64, 65, 66, 67] (by decide +kernel) (by decide +kernel)
set_option maxRecDepth 20000 in
theorem gX0_compared_X0_sees : GoodIn wsX0_compared (wsV RX0 47 RX0 yX0_sees wsX0_sees) := goodIn_app (goodIn_of _ (by decide +kernel)) ggX0_compared_X0_sees
set_option maxRecDepth 20000 in
theorem ggX0_compared_X1_at : GoodIn wsX0_compared wsX1_at := goodIn_r _ [17, 18, 19, 66, 67] (by decide +kernel) (by decide +kernel)
set_option maxRecDepth 20000 in
theorem gX0_compared_X1_at : GoodIn wsX0_compared (wsV RX0 41 RX1 yX1_at wsX1_at) := goodIn_app (goodIn_of _ (by decide +kernel)) ggX0_compared_X1_at
set_option maxRecDepth 20000 in
theorem ggX0_compared_X1_append : GoodIn wsX0_compared wsX1_append := goodIn_r _ [23, 18, 19, 66, 67] (by decide +kernel) (by decide +kernel)
set_option maxRecDepth 20000 in
theorem gX0_compared_X1_append : GoodIn wsX0_compared (wsV RX0 53 RX1 yX1_append wsX1_append) := goodIn_app (goodIn_of _ (by decide +kernel)) ggX0_compared_X1_append
theorem dX0_compared_0 : decode cX0_compared 0 = .ok (.aload_n 0, 1) := by decide +kernel
theorem dX0_compared_1 : decode cX0_compared 1 = .ok (.iload_n 1, 1) := by decide +kernel
theorem dX0_compared_2 : decode cX0_compared 2 = .ok (.invokevirtual 59, 3) := by decide +kernel
theorem dX0_compared_5 : decode cX0_compared 5 = .ok (.ifCond .ne 5, 3) := by decide +kernel
theorem dX0_compared_8 : decode cX0_compared 8 = .ok (.iconst 0, 1) := by decide +kernel
theorem dX0_compared_9 : decode cX0_compared 9 = .ok (.ireturn, 1) := by decide +kernel
theorem dX0_compared_10 : decode cX0_compared 10 = .ok (.aload_n 0, 1) := by decide +kernel
theorem dX0_compared_11 : decode cX0_compared 11 = .ok (.bipush 60, 2) := by decide +kernel
theorem dX0_compared_13 : decode cX0_compared 13 = .ok (.invokevirtual 47, 3) := by decide +kernel
theorem dX0_compared_16 : decode cX0_compared 16 = .ok (.ifCond .ne 21, 3) := by decide +kernel
theorem dX0_compared_19 : decode cX0_compared 19 = .ok (.aload_n 0, 1) := by decide +kernel
theorem dX0_compared_20 : decode cX0_compared 20 = .ok (.bipush 61, 2) := by decide +kernel
theorem dX0_compared_22 : decode cX0_compared 22 = .ok (.invokevirtual 47, 3) := by decide +kernel
theorem dX0_compared_25 : decode cX0_compared 25 = .ok (.ifCond .ne 12, 3) := by decide +kernel
theorem dX0_compared_28 : decode cX0_compared 28 = .ok (.aload_n 0, 1) := by decide +kernel
theorem dX0_compared_29 : decode cX0_compared 29 = .ok (.bipush 62, 2) := by decide +kernel
theorem dX0_compared_31 : decode cX0_compared 31 = .ok (.invokevirtual 47, 3) := by decide +kernel
theorem dX0_compared_34 : decode cX0_compared 34 = .ok (.ifCond .eq 47, 3) := by decide +kernel
theorem dX0_compared_37 : decode cX0_compared 37 = .ok (.aload_n 0, 1) := by decide +kernel
theorem dX0_compared_38 : decode cX0_compared 38 = .ok (.getfield 20, 3) := by decide +kernel
theorem dX0_compared_41 : decode cX0_compared 41 = .ok (.aload_n 0, 1) := by decide +kernel
theorem dX0_compared_42 : decode cX0_compared 42 = .ok (.getfield 27, 3) := by decide +kernel
theorem dX0_compared_45 : decode cX0_compared 45 = .ok (.invokevirtual 41, 3) := by decide +kernel
theorem dX0_compared_48 : decode cX0_compared 48 = .ok (.istore_n 2, 1) := by decide +kernel
theorem dX0_compared_49 : decode cX0_compared 49 = .ok (.aload_n 0, 1) := by decide +kernel
theorem dX0_compared_50 : decode cX0_compared 50 = .ok (.dup, 1) := by decide +kernel
theorem dX0_compared_51 : decode cX0_compared 51 = .ok (.getfield 27, 3) := by decide +kernel
theorem dX0_compared_54 : decode cX0_compared 54 = .ok (.iconst 1, 1) := by decide +kernel
theorem dX0_compared_55 : decode cX0_compared 55 = .ok (.iadd, 1) := by decide +kernel
theorem dX0_compared_56 : decode cX0_compared 56 = .ok (.putfield 27, 3) := by decide +kernel
theorem dX0_compared_59 : decode cX0_compared 59 = .ok (.aload_n 0, 1) := by decide +kernel
theorem dX0_compared_60 : decode cX0_compared 60 = .ok (.iload_n 1, 1) := by decide +kernel
theorem dX0_compared_61 : decode cX0_compared 61 = .ok (.invokevirtual 59, 3) := by decide +kernel
theorem dX0_compared_64 : decode cX0_compared 64 = .ok (.ifCond .ne 5, 3) := by decide +kernel
theorem dX0_compared_67 : decode cX0_compared 67 = .ok (.iconst 0, 1) := by decide +kernel
theorem dX0_compared_68 : decode cX0_compared 68 = .ok (.ireturn, 1) := by decide +kernel
theorem dX0_compared_69 : decode cX0_compared 69 = .ok (.aload_n 0, 1) := by decide +kernel
theorem dX0_compared_70 : decode cX0_compared 70 = .ok (.getfield 14, 3) := by decide +kernel
theorem dX0_compared_73 : decode cX0_compared 73 = .ok (.sipush 20000, 3) := by decide +kernel
theorem dX0_compared_76 : decode cX0_compared 76 = .ok (.iload_n 2, 1) := by decide +kernel
theorem dX0_compared_77 : decode cX0_compared 77 = .ok (.iadd, 1) := by decide +kernel
theorem dX0_compared_78 : decode cX0_compared 78 = .ok (.invokevirtual 53, 3) := by decide +kernel
theorem dX0_compared_81 : decode cX0_compared 81 = .ok (.iconst 1, 1) := by decide +kernel
theorem dX0_compared_82 : decode cX0_compared 82 = .ok (.ireturn, 1) := by decide +kernel
set_option maxRecDepth 20000 in
theorem ggX0_added_X0_multiplied : GoodIn wsX0_added wsX0_multiplied := goodIn_r _ [40, 1, 2, 3, 4, 41, 42, 43, 8, 9, 10, 11, 12, 13, 14, 15, 16, 17, 18, 19, 20, 21, 22, 23, 0, 5, 6, 7, 24, 25, 26, 27, 28, 29, 30, 31, 32, 33, 34, 35, 36, 37, 38, 39, 44, 45, 46, 47, 48, 49, 50, 51, 52, 53, 54, 55, 56, 57, 58, 59, 60, 61, 62, 63, 64, 65, 66, 67] (by decide +kernel) (by decide +kernel)
set_option maxRecDepth 20000 in
theorem gX0_added_X0_multiplied : GoodIn wsX0_added (wsV RX0 62 RX0 yX0_multiplied wsX0_multiplied) := goodIn_app (goodIn_of _ (by decide +kernel)) ggX0_added_X0_multiplied
set_option maxRecDepth 20000 in
theorem ggX0_added_X0_sees : GoodIn wsX0_added wsX0_sees := goodIn_r _ [12, 1, 2, 3, 13, 14, 15, 16, 17, 18, 19, 62, 63, 64, 65, 66, 67] (by decide +kernel) (by decide +kernel)
set_option maxRecDepth 20000 in
theorem gX0_added_X0_sees : GoodIn wsX0_added (wsV RX0 47 RX0 yX0_sees wsX0_sees) := goodIn_app (goodIn_of _ (by decide +kernel)) ggX0_added_X0_sees
set_option maxRecDepth 20000 in
theorem ggX0_added_X1_at : GoodIn wsX0_added wsX1_at := goodIn_r _ [17, 18, 19, 66, 67] (by decide +kernel) (by decide +kernel)
set_option maxRecDepth 20000 in
theorem gX0_added_X1_at : GoodIn wsX0_added (wsV RX0 41 RX1 yX1_at wsX1_at) := goodIn_app (goodIn_of _ (by decide +kernel)) ggX0_added_X1_at
set_option maxRecDepth 20000 in
theorem ggX0_added_X1_append : GoodIn wsX0_added wsX1_append := goodIn_r _ [23, 18, 19, 66, 67] (by decide +kernel) (by decide +kernel)
set_option maxRecDepth 20000 in
theorem gX0_added_X1_append : GoodIn wsX0_added (wsV RX0 53 RX1 yX1_append wsX1_append) := goodIn_app (goodIn_of _ (by decide +kernel)) ggX0_added_X1_append
theorem dX0_added_0 : decode cX0_added 0 = .ok (.aload_n 0, 1) := by decide +kernel
theorem dX0_added_1 : decode cX0_added 1 = .ok (.iload_n 1, 1) := by decide +kernel
theorem dX0_added_2 : decode cX0_added 2 = .ok (.invokevirtual 62, 3) := by decide +kernel
theorem dX0_added_5 : decode cX0_added 5 = .ok (.ifCond .ne 5, 3) := by decide +kernel
theorem dX0_added_8 : decode cX0_added 8 = .ok (.iconst 0, 1) := by decide +kernel
theorem dX0_added_9 : decode cX0_added 9 = .ok (.ireturn, 1) := by decide +kernel
theorem dX0_added_10 : decode cX0_added 10 = .ok (.aload_n 0, 1) := by decide +kernel
theorem dX0_added_11 : decode cX0_added 11 = .ok (.getfield 27, 3) := by decide +kernel
theorem dX0_added_14 : decode cX0_added 14 = .ok (.aload_n 0, 1) := by decide +kernel
theorem dX0_added_15 : decode cX0_added 15 = .ok (.getfield 20, 3) := by decide +kernel
theorem dX0_added_18 : decode cX0_added 18 = .ok (.getfield 34, 3) := by decide +kernel
theorem dX0_added_21 : decode cX0_added 21 = .ok (.if_icmp .ge 68, 3) := by decide +kernel
theorem dX0_added_24 : decode cX0_added 24 = .ok (.aload_n 0, 1) := by decide +kernel
theorem dX0_added_25 : decode cX0_added 25 = .ok (.bipush 43, 2) := by decide +kernel
theorem dX0_added_27 : decode cX0_added 27 = .ok (.invokevirtual 47, 3) := by decide +kernel
theorem dX0_added_30 : decode cX0_added 30 = .ok (.ifCond .ne 12, 3) := by decide +kernel
theorem dX0_added_33 : decode cX0_added 33 = .ok (.aload_n 0, 1) := by decide +kernel
theorem dX0_added_34 : decode cX0_added 34 = .ok (.bipush 45, 2) := by decide +kernel
theorem dX0_added_36 : decode cX0_added 36 = .ok (.invokevirtual 47, 3) := by decide +kernel
theorem dX0_added_39 : decode cX0_added 39 = .ok (.ifCond .eq 50, 3) := by decide +kernel
theorem dX0_added_42 : decode cX0_added 42 = .ok (.aload_n 0, 1) := by decide +kernel
theorem dX0_added_43 : decode cX0_added 43 = .ok (.getfield 20, 3) := by decide +kernel
theorem dX0_added_46 : decode cX0_added 46 = .ok (.aload_n 0, 1) := by decide +kernel
theorem dX0_added_47 : decode cX0_added 47 = .ok (.getfield 27, 3) := by decide +kernel
theorem dX0_added_50 : decode cX0_added 50 = .ok (.invokevirtual 41, 3) := by decide +kernel
theorem dX0_added_53 : decode cX0_added 53 = .ok (.istore_n 2, 1) := by decide +kernel
theorem dX0_added_54 : decode cX0_added 54 = .ok (.aload_n 0, 1) := by decide +kernel
theorem dX0_added_55 : decode cX0_added 55 = .ok (.dup, 1) := by decide +kernel
theorem dX0_added_56 : decode cX0_added 56 = .ok (.getfield 27, 3) := by decide +kernel
theorem dX0_added_59 : decode cX0_added 59 = .ok (.iconst 1, 1) := by decide +kernel
theorem dX0_added_60 : decode cX0_added 60 = .ok (.iadd, 1) := by decide +kernel
theorem dX0_added_61 : decode cX0_added 61 = .ok (.putfield 27, 3) := by decide +kernel
theorem dX0_added_64 : decode cX0_added 64 = .ok (.aload_n 0, 1) := by decide +kernel
theorem dX0_added_65 : decode cX0_added 65 = .ok (.iload_n 1, 1) := by decide +kernel
theorem dX0_added_66 : decode cX0_added 66 = .ok (.invokevirtual 62, 3) := by decide +kernel
theorem dX0_added_69 : decode cX0_added 69 = .ok (.ifCond .ne 5, 3) := by decide +kernel
theorem dX0_added_72 : decode cX0_added 72 = .ok (.iconst 0, 1) := by decide +kernel
theorem dX0_added_73 : decode cX0_added 73 = .ok (.ireturn, 1) := by decide +kernel
theorem dX0_added_74 : decode cX0_added 74 = .ok (.aload_n 0, 1) := by decide +kernel
theorem dX0_added_75 : decode cX0_added 75 = .ok (.getfield 14, 3) := by decide +kernel
theorem dX0_added_78 : decode cX0_added 78 = .ok (.sipush 20000, 3) := by decide +kernel
theorem dX0_added_81 : decode cX0_added 81 = .ok (.iload_n 2, 1) := by decide +kernel
theorem dX0_added_82 : decode cX0_added 82 = .ok (.iadd, 1) := by decide +kernel
theorem dX0_added_83 : decode cX0_added 83 = .ok (.invokevirtual 53, 3) := by decide +kernel
theorem dX0_added_86 : decode cX0_added 86 = .ok (.goto (-76), 3) := by decide +kernel
theorem dX0_added_89 : decode cX0_added 89 = .ok (.iconst 1, 1) := by decide +kernel
theorem dX0_added_90 : decode cX0_added 90 = .ok (.ireturn, 1) := by decide +kernel
set_option maxRecDepth 20000 in
theorem ggX0_multiplied_X0_single : GoodIn wsX0_multiplied wsX0_single := goodIn_r _ [44, 1, 4, 45, 46, 47, 8, 48, 2, 3, 13, 14, 15, 16, 17, 18, 19, 49, 50, 51, 52, 20, 21, 22, 23, 53, 54, 55, 56, 57, 58, 9, 10, 11, 12, 5, 6, 7, 59, 60, 61, 24, 25, 26, 27, 28, 29, 30, 31, 32, 33, 34, 35, 36, 37, 38, 39, 40, 41, 42, 43, 0, 62, 63, 64, 65, 66, 67] (by decide +kernel) (by decide +kernel)
set_option maxRecDepth 20000 in
theorem gX0_multiplied_X0_single : GoodIn wsX0_multiplied (wsV RX0 65 RX0 yX0_single wsX0_single) := goodIn_app (goodIn_of _ (by decide +kernel)) ggX0_multiplied_X0_single
set_option maxRecDepth 20000 in
theorem ggX0_multiplied_X0_sees : GoodIn wsX0_multiplied wsX0_sees := goodIn_r _ [12, 1, 2, 3, 13, 14, 15, 16, 17, 18, 19, 62, 63, 64, 65, 66, 67] (by decide +kernel) (by decide +kernel)
set_option maxRecDepth 20000 in
theorem gX0_multiplied_X0_sees : GoodIn wsX0_multiplied (wsV RX0 47 RX0 yX0_sees wsX0_sees) := goodIn_app (goodIn_of _ (by decide +kernel)) ggX0_multiplied_X0_sees
set_option maxRecDepth 20000 in
theorem ggX0_multiplied_X1_at : GoodIn wsX0_multiplied wsX1_at := goodIn_r _ [17, 18, 19, 66, 67] (by decide +kernel) (by decide +kernel)
set_option maxRecDepth 20000 in
theorem gX0_multiplied_X1_at : GoodIn wsX0_multiplied (wsV RX0 41 RX1 yX1_at wsX1_at) := goodIn_app (goodIn_of _ (by decide +kernel)) ggX0_multiplied_X1_at
set_option maxRecDepth 20000 in
theorem ggX0_multiplied_X1_append : GoodIn wsX0_multiplied wsX1_append := goodIn_r _ [23, 18, 19, 66, 67] (by decide +kernel) (by decide +kernel)
set_option maxRecDepth 20000 in
theorem gX0_multiplied_X1_append : GoodIn wsX0_multiplied (wsV RX0 53 RX1 yX1_append wsX1_append) := goodIn_app (goodIn_of _ (by decide +kernel)) ggX0_multiplied_X1_append
theorem dX0_multiplied_0 : decode cX0_multiplied 0 = .ok (.aload_n 0, 1) := by decide +kernel
theorem dX0_multiplied_1 : decode cX0_multiplied 1 = .ok (.iload_n 1, 1) := by decide +kernel
theorem dX0_multiplied_2 : decode cX0_multiplied 2 = .ok (.invokevirtual 65, 3) := by decide +kernel
theorem dX0_multiplied_5 : decode cX0_multiplied 5 = .ok (.ifCond .ne 5, 3) := by decide +kernel
theorem dX0_multiplied_8 : decode cX0_multiplied 8 = .ok (.iconst 0, 1) := by decide +kernel
theorem dX0_multiplied_9 : decode cX0_multiplied 9 = .ok (.ireturn, 1) := by decide +kernel
theorem dX0_multiplied_10 : decode cX0_multiplied 10 = .ok (.aload_n 0, 1) := by decide +kernel
theorem dX0_multiplied_11 : decode cX0_multiplied 11 = .ok (.getfield 27, 3) := by decide +kernel
theorem dX0_multiplied_14 : decode cX0_multiplied 14 = .ok (.aload_n 0, 1) := by decide +kernel
theorem dX0_multiplied_15 : decode cX0_multiplied 15 = .ok (.getfield 20, 3) := by decide +kernel
theorem dX0_multiplied_18 : decode cX0_multiplied 18 = .ok (.getfield 34, 3) := by decide +kernel
theorem dX0_multiplied_21 : decode cX0_multiplied 21 = .ok (.if_icmp .ge 77, 3) := by decide +kernel
theorem dX0_multiplied_24 : decode cX0_multiplied 24 = .ok (.aload_n 0, 1) := by decide +kernel
theorem dX0_multiplied_25 : decode cX0_multiplied 25 = .ok (.bipush 42, 2) := by decide +kernel
theorem dX0_multiplied_27 : decode cX0_multiplied 27 = .ok (.invokevirtual 47, 3) := by decide +kernel
theorem dX0_multiplied_30 : decode cX0_multiplied 30 = .ok (.ifCond .ne 21, 3) := by decide +kernel
theorem dX0_multiplied_33 : decode cX0_multiplied 33 = .ok (.aload_n 0, 1) := by decide +kernel
theorem dX0_multiplied_34 : decode cX0_multiplied 34 = .ok (.bipush 47, 2) := by decide +kernel
theorem dX0_multiplied_36 : decode cX0_multiplied 36 = .ok (.invokevirtual 47, 3) := by decide +kernel
theorem dX0_multiplied_39 : decode cX0_multiplied 39 = .ok (.ifCond .ne 12, 3) := by decide +kernel
theorem dX0_multiplied_42 : decode cX0_multiplied 42 = .ok (.aload_n 0, 1) := by decide +kernel
theorem dX0_multiplied_43 : decode cX0_multiplied 43 = .ok (.bipush 37, 2) := by decide +kernel
theorem dX0_multiplied_45 : decode cX0_multiplied 45 = .ok (.invokevirtual 47, 3) := by decide +kernel
theorem dX0_multiplied_48 : decode cX0_multiplied 48 = .ok (.ifCond .eq 50, 3) := by decide +kernel
theorem dX0_multiplied_51 : decode cX0_multiplied 51 = .ok (.aload_n 0, 1) := by decide +kernel
theorem dX0_multiplied_52 : decode cX0_multiplied 52 = .ok (.getfield 20, 3) := by decide +kernel
theorem dX0_multiplied_55 : decode cX0_multiplied 55 = .ok (.aload_n 0, 1) := by decide +kernel
theorem dX0_multiplied_56 : decode cX0_multiplied 56 = .ok (.getfield 27, 3) := by decide +kernel
theorem dX0_multiplied_59 : decode cX0_multiplied 59 = .ok (.invokevirtual 41, 3) := by decide +kernel
theorem dX0_multiplied_62 : decode cX0_multiplied 62 = .ok (.istore_n 2, 1) := by decide +kernel
theorem dX0_multiplied_63 : decode cX0_multiplied 63 = .ok (.aload_n 0, 1) := by decide +kernel
theorem dX0_multiplied_64 : decode cX0_multiplied 64 = .ok (.dup, 1) := by decide +kernel
theorem dX0_multiplied_65 : decode cX0_multiplied 65 = .ok (.getfield 27, 3) := by decide +kernel
theorem dX0_multiplied_68 : decode cX0_multiplied 68 = .ok (.iconst 1, 1) := by decide +kernel
theorem dX0_multiplied_69 : decode cX0_multiplied 69 = .ok (.iadd, 1) := by decide +kernel
theorem dX0_multiplied_70 : decode cX0_multiplied 70 = .ok (.putfield 27, 3) := by decide +kernel
theorem dX0_multiplied_73 : decode cX0_multiplied 73 = .ok (.aload_n 0, 1) := by decide +kernel
theorem dX0_multiplied_74 : decode cX0_multiplied 74 = .ok (.iload_n 1, 1) := by decide +kernel
theorem dX0_multiplied_75 : decode cX0_multiplied 75 = .ok (.invokevirtual 65, 3) := by decide +kernel
theorem dX0_multiplied_78 : decode cX0_multiplied 78 = .ok (.ifCond .ne 5, 3) := by decide +kernel
theorem dX0_multiplied_81 : decode cX0_multiplied 81 = .ok (.iconst 0, 1) := by decide +kernel
theorem dX0_multiplied_82 : decode cX0_multiplied 82 = .ok (.ireturn, 1) := by decide +kernel
theorem dX0_multiplied_83 : decode cX0_multiplied 83 = .ok (.aload_n 0, 1) := by decide +kernel
theorem dX0_multiplied_84 : decode cX0_multiplied 84 = .ok (.getfield 14, 3) := by decide +kernel
theorem dX0_multiplied_87 : decode cX0_multiplied 87 = .ok (.sipush 20000, 3) := by decide +kernel
theorem dX0_multiplied_90 : decode cX0_multiplied 90 = .ok (.iload_n 2, 1) := by decide +kernel
theorem dX0_multiplied_91 : decode cX0_multiplied 91 = .ok (.iadd, 1) := by decide +kernel
theorem dX0_multiplied_92 : decode cX0_multiplied 92 = .ok (.invokevirtual 53, 3) := by decide +kernel
theorem dX0_multiplied_95 : decode cX0_multiplied 95 = .ok (.goto (-85), 3) := by decide +kernel
theorem dX0_multiplied_98 : decode cX0_multiplied 98 = .ok (.iconst 1, 1) := by decide +kernel
theorem dX0_multiplied_99 : decode cX0_multiplied 99 = .ok (.ireturn, 1) := by decide +kernel
set_option maxRecDepth 20000 in
theorem ggX0_single_X0_seesDigit : GoodIn wsX0_single wsX0_seesDigit := goodIn_r _ [7, 1, 8, 9, 10, 11, 12, 13, 14, 15, 16, 62, 63, 64, 65, 66, 67] (by decide +kernel) (by decide +kernel)
set_option maxRecDepth 20000 in
theorem gX0_single_X0_seesDigit : GoodIn wsX0_single (wsV RX0 68 RX0 yX0_seesDigit wsX0_seesDigit) := goodIn_app (goodIn_of _ (by decide +kernel)) ggX0_single_X0_seesDigit
set_option maxRecDepth 20000 in
theorem ggX0_single_X0_number : GoodIn wsX0_single wsX0_number := goodIn_r _ [20, 8, 1, 2, 3, 4, 5, 6, 7, 9, 10, 11, 12, 13, 14, 15, 16, 21, 22, 23, 24, 62, 63, 64, 65, 66, 67] (by decide +kernel) (by decide +kernel)
set_option maxRecDepth 20000 in
theorem gX0_single_X0_number : GoodIn wsX0_single (wsV RX0 72 RX0 yX0_number wsX0_number) := goodIn_app (goodIn_of _ (by decide +kernel)) ggX0_single_X0_number
set_option maxRecDepth 20000 in
theorem ggX0_single_X0_readsName : GoodIn wsX0_single wsX0_readsName := goodIn_r _ [28, 29, 30, 2, 1, 31, 32, 33, 6, 34, 8, 9, 10, 11, 12, 13, 14, 15, 16, 21, 22, 23, 24, 62, 63, 64, 65, 66, 67] (by decide +kernel) (by decide +kernel)
set_option maxRecDepth 20000 in
theorem gX0_single_X0_readsName : GoodIn wsX0_single (wsV RX0 75 RX0 yX0_readsName wsX0_readsName) := goodIn_app (goodIn_of _ (by decide +kernel)) ggX0_single_X0_readsName
set_option maxRecDepth 20000 in
theorem ggX0_single_X0_sees : GoodIn wsX0_single wsX0_sees := goodIn_r _ [34, 1, 8, 9, 10, 11, 12, 13, 14, 15, 16, 62, 63, 64, 65, 66, 67] (by decide +kernel) (by decide +kernel)
set_option maxRecDepth 20000 in
theorem gX0_single_X0_sees : GoodIn wsX0_single (wsV RX0 47 RX0 yX0_sees wsX0_sees) := goodIn_app (goodIn_of _ (by decide +kernel)) ggX0_single_X0_sees
set_option maxRecDepth 20000 in
theorem ggX0_single_X0_single : GoodIn wsX0_single wsX0_single := goodIn_r _ [0, 1, 2, 3, 4, 5, 6, 7, 8, 9, 10, 11, 12, 13, 14, 15, 16, 17, 18, 19, 20, 21, 22, 23, 24, 25, 26, 27, 28, 29, 30, 31, 32, 33, 34, 35, 36, 37, 38, 39, 40, 41, 42, 43, 44, 45, 46, 47, 48, 49, 50, 51, 52, 53, 54, 55, 56, 57, 58, 59, 60, 61, 62, 63, 64, 65, 66, 67] (by decide +kernel) (by decide +kernel)
set_option maxRecDepth 20000 in
theorem gX0_single_X0_single : GoodIn wsX0_single (wsV RX0 65 RX0 yX0_single wsX0_single) := goodIn_app (goodIn_of _ (by decide +kernel)) ggX0_single_X0_single
set_option maxRecDepth 20000 in
theorem ggX0_single_X1_append : GoodIn wsX0_single wsX1_append := goodIn_r _ [24, 15, 16, 66, 67] (by decide +kernel) (by decide +kernel)
set_option maxRecDepth 20000 in
theorem gX0_single_X1_append : GoodIn wsX0_single (wsV RX0 53 RX1 yX1_append wsX1_append) := goodIn_app (goodIn_of _ (by decide +kernel)) ggX0_single_X1_append
set_option maxRecDepth 20000 in
theorem ggX0_single_X0_enclosed : GoodIn wsX0_single wsX0_enclosed := goodIn_r _ [57, 1, 58, 59, 60, 6, 31, 32, 33, 34, 8, 9, 10, 11, 12, 13, 14, 15, 16, 41, 2, 42, 43, 44, 21, 22, 23, 24, 45, 46, 47, 48, 49, 50, 51, 52, 53, 54, 55, 56, 61, 35, 36, 37, 0, 3, 4, 5, 7, 17, 18, 19, 20, 25, 26, 27, 28, 29, 30, 38, 39, 40, 62, 63, 64, 65, 66, 67] (by decide +kernel) (by decide +kernel)
set_option maxRecDepth 20000 in
theorem gX0_single_X0_enclosed : GoodIn wsX0_single (wsV RX0 78 RX0 yX0_enclosed wsX0_enclosed) := goodIn_app (goodIn_of _ (by decide +kernel)) ggX0_single_X0_enclosed
theorem dX0_single_0 : decode cX0_single 0 = .ok (.aload_n 0, 1) := by decide +kernel
theorem dX0_single_1 : decode cX0_single 1 = .ok (.invokevirtual 68, 3) := by decide +kernel
theorem dX0_single_4 : decode cX0_single 4 = .ok (.ifCond .eq 9, 3) := by decide +kernel
theorem dX0_single_7 : decode cX0_single 7 = .ok (.aload_n 0, 1) := by decide +kernel
theorem dX0_single_8 : decode cX0_single 8 = .ok (.invokevirtual 72, 3) := by decide +kernel
theorem dX0_single_11 : decode cX0_single 11 = .ok (.iconst 1, 1) := by decide +kernel
theorem dX0_single_12 : decode cX0_single 12 = .ok (.ireturn, 1) := by decide +kernel
theorem dX0_single_13 : decode cX0_single 13 = .ok (.aload_n 0, 1) := by decide +kernel
theorem dX0_single_14 : decode cX0_single 14 = .ok (.invokevirtual 75, 3) := by decide +kernel
theorem dX0_single_17 : decode cX0_single 17 = .ok (.ifCond .eq 5, 3) := by decide +kernel
theorem dX0_single_20 : decode cX0_single 20 = .ok (.iconst 1, 1) := by decide +kernel
theorem dX0_single_21 : decode cX0_single 21 = .ok (.ireturn, 1) := by decide +kernel
theorem dX0_single_22 : decode cX0_single 22 = .ok (.iload_n 1, 1) := by decide +kernel
theorem dX0_single_23 : decode cX0_single 23 = .ok (.iconst 5, 1) := by decide +kernel
theorem dX0_single_24 : decode cX0_single 24 = .ok (.if_icmp .lt 5, 3) := by decide +kernel
theorem dX0_single_27 : decode cX0_single 27 = .ok (.iconst 0, 1) := by decide +kernel
theorem dX0_single_28 : decode cX0_single 28 = .ok (.ireturn, 1) := by decide +kernel
theorem dX0_single_29 : decode cX0_single 29 = .ok (.aload_n 0, 1) := by decide +kernel
theorem dX0_single_30 : decode cX0_single 30 = .ok (.bipush 33, 2) := by decide +kernel
theorem dX0_single_32 : decode cX0_single 32 = .ok (.invokevirtual 47, 3) := by decide +kernel
theorem dX0_single_35 : decode cX0_single 35 = .ok (.ifCond .eq 37, 3) := by decide +kernel
theorem dX0_single_38 : decode cX0_single 38 = .ok (.aload_n 0, 1) := by decide +kernel
theorem dX0_single_39 : decode cX0_single 39 = .ok (.dup, 1) := by decide +kernel
theorem dX0_single_40 : decode cX0_single 40 = .ok (.getfield 27, 3) := by decide +kernel
theorem dX0_single_43 : decode cX0_single 43 = .ok (.iconst 1, 1) := by decide +kernel
theorem dX0_single_44 : decode cX0_single 44 = .ok (.iadd, 1) := by decide +kernel
theorem dX0_single_45 : decode cX0_single 45 = .ok (.putfield 27, 3) := by decide +kernel
theorem dX0_single_48 : decode cX0_single 48 = .ok (.aload_n 0, 1) := by decide +kernel
theorem dX0_single_49 : decode cX0_single 49 = .ok (.iload_n 1, 1) := by decide +kernel
theorem dX0_single_50 : decode cX0_single 50 = .ok (.iconst 1, 1) := by decide +kernel
theorem dX0_single_51 : decode cX0_single 51 = .ok (.iadd, 1) := by decide +kernel
theorem dX0_single_52 : decode cX0_single 52 = .ok (.invokevirtual 65, 3) := by decide +kernel
theorem dX0_single_55 : decode cX0_single 55 = .ok (.ifCond .ne 5, 3) := by decide +kernel
theorem dX0_single_58 : decode cX0_single 58 = .ok (.iconst 0, 1) := by decide +kernel
theorem dX0_single_59 : decode cX0_single 59 = .ok (.ireturn, 1) := by decide +kernel
theorem dX0_single_60 : decode cX0_single 60 = .ok (.aload_n 0, 1) := by decide +kernel
theorem dX0_single_61 : decode cX0_single 61 = .ok (.getfield 14, 3) := by decide +kernel
theorem dX0_single_64 : decode cX0_single 64 = .ok (.sipush 20033, 3) := by decide +kernel
theorem dX0_single_67 : decode cX0_single 67 = .ok (.invokevirtual 53, 3) := by decide +kernel
theorem dX0_single_70 : decode cX0_single 70 = .ok (.iconst 1, 1) := by decide +kernel
theorem dX0_single_71 : decode cX0_single 71 = .ok (.ireturn, 1) := by decide +kernel
theorem dX0_single_72 : decode cX0_single 72 = .ok (.aload_n 0, 1) := by decide +kernel
theorem dX0_single_73 : decode cX0_single 73 = .ok (.bipush 40, 2) := by decide +kernel
theorem dX0_single_75 : decode cX0_single 75 = .ok (.invokevirtual 47, 3) := by decide +kernel
theorem dX0_single_78 : decode cX0_single 78 = .ok (.ifCond .eq 17, 3) := by decide +kernel
theorem dX0_single_81 : decode cX0_single 81 = .ok (.aload_n 0, 1) := by decide +kernel
theorem dX0_single_82 : decode cX0_single 82 = .ok (.iload_n 1, 1) := by decide +kernel
theorem dX0_single_83 : decode cX0_single 83 = .ok (.iconst 1, 1) := by decide +kernel
theorem dX0_single_84 : decode cX0_single 84 = .ok (.iadd, 1) := by decide +kernel
theorem dX0_single_85 : decode cX0_single 85 = .ok (.invokevirtual 78, 3) := by decide +kernel
theorem dX0_single_88 : decode cX0_single 88 = .ok (.ifCond .eq 7, 3) := by decide +kernel
theorem dX0_single_91 : decode cX0_single 91 = .ok (.iconst 1, 1) := by decide +kernel
theorem dX0_single_92 : decode cX0_single 92 = .ok (.goto 4, 3) := by decide +kernel
theorem dX0_single_95 : decode cX0_single 95 = .ok (.iconst 0, 1) := by decide +kernel
theorem dX0_single_96 : decode cX0_single 96 = .ok (.ireturn, 1) := by decide +kernel
set_option maxRecDepth 20000 in
theorem ggX0_enclosed_X0_either : GoodIn wsX0_enclosed wsX0_either := goodIn_r _ [36, 1, 10, 11, 20, 37, 38, 39, 5, 6, 7, 8, 9, 12, 13, 14, 15, 16, 17, 18, 24, 25, 26, 27, 19, 21, 22, 23, 28, 29, 30, 31, 32, 33, 34, 35, 0, 2, 3, 4, 40, 41, 42, 43, 44, 45, 46, 47, 48, 49, 50, 51, 52, 53, 54, 55, 56, 57, 58, 59, 60, 61, 62, 63, 64, 65, 66, 67] (by decide +kernel) (by decide +kernel)
set_option maxRecDepth 20000 in
theorem gX0_enclosed_X0_either : GoodIn wsX0_enclosed (wsV RX0 37 RX0 yX0_either wsX0_either) := goodIn_app (goodIn_of _ (by decide +kernel)) ggX0_enclosed_X0_either
set_option maxRecDepth 20000 in
theorem ggX0_enclosed_X0_sees : GoodIn wsX0_enclosed wsX0_sees := goodIn_r _ [9, 1, 10, 11, 12, 13, 14, 15, 16, 17, 18, 62, 63, 64, 65, 66, 67] (by decide +kernel) (by decide +kernel)
set_option maxRecDepth 20000 in
theorem gX0_enclosed_X0_sees : GoodIn wsX0_enclosed (wsV RX0 47 RX0 yX0_sees wsX0_sees) := goodIn_app (goodIn_of _ (by decide +kernel)) ggX0_enclosed_X0_sees
theorem dX0_enclosed_0 : decode cX0_enclosed 0 = .ok (.aload_n 0, 1) := by decide +kernel
theorem dX0_enclosed_1 : decode cX0_enclosed 1 = .ok (.dup, 1) := by decide +kernel
theorem dX0_enclosed_2 : decode cX0_enclosed 2 = .ok (.getfield 27, 3) := by decide +kernel
theorem dX0_enclosed_5 : decode cX0_enclosed 5 = .ok (.iconst 1, 1) := by decide +kernel
theorem dX0_enclosed_6 : decode cX0_enclosed 6 = .ok (.iadd, 1) := by decide +kernel
theorem dX0_enclosed_7 : decode cX0_enclosed 7 = .ok (.putfield 27, 3) := by decide +kernel
theorem dX0_enclosed_10 : decode cX0_enclosed 10 = .ok (.aload_n 0, 1) := by decide +kernel
theorem dX0_enclosed_11 : decode cX0_enclosed 11 = .ok (.iload_n 1, 1) := by decide +kernel
theorem dX0_enclosed_12 : decode cX0_enclosed 12 = .ok (.invokevirtual 37, 3) := by decide +kernel
theorem dX0_enclosed_15 : decode cX0_enclosed 15 = .ok (.ifCond .eq 12, 3) := by decide +kernel
theorem dX0_enclosed_18 : decode cX0_enclosed 18 = .ok (.aload_n 0, 1) := by decide +kernel
theorem dX0_enclosed_19 : decode cX0_enclosed 19 = .ok (.bipush 41, 2) := by decide +kernel
theorem dX0_enclosed_21 : decode cX0_enclosed 21 = .ok (.invokevirtual 47, 3) := by decide +kernel
theorem dX0_enclosed_24 : decode cX0_enclosed 24 = .ok (.ifCond .ne 5, 3) := by decide +kernel
theorem dX0_enclosed_27 : decode cX0_enclosed 27 = .ok (.iconst 0, 1) := by decide +kernel
theorem dX0_enclosed_28 : decode cX0_enclosed 28 = .ok (.ireturn, 1) := by decide +kernel
theorem dX0_enclosed_29 : decode cX0_enclosed 29 = .ok (.aload_n 0, 1) := by decide +kernel
theorem dX0_enclosed_30 : decode cX0_enclosed 30 = .ok (.dup, 1) := by decide +kernel
theorem dX0_enclosed_31 : decode cX0_enclosed 31 = .ok (.getfield 27, 3) := by decide +kernel
theorem dX0_enclosed_34 : decode cX0_enclosed 34 = .ok (.iconst 1, 1) := by decide +kernel
theorem dX0_enclosed_35 : decode cX0_enclosed 35 = .ok (.iadd, 1) := by decide +kernel
theorem dX0_enclosed_36 : decode cX0_enclosed 36 = .ok (.putfield 27, 3) := by decide +kernel
theorem dX0_enclosed_39 : decode cX0_enclosed 39 = .ok (.iconst 1, 1) := by decide +kernel
theorem dX0_enclosed_40 : decode cX0_enclosed 40 = .ok (.ireturn, 1) := by decide +kernel
set_option maxRecDepth 20000 in
theorem ggX0_number_X0_seesDigit : GoodIn wsX0_number wsX0_seesDigit := goodIn_r _ [8, 2, 1, 9, 10, 11, 12, 13, 14, 15, 16, 21, 22, 23, 24, 25, 26] (by decide +kernel) (by decide +kernel)
set_option maxRecDepth 20000 in
theorem gX0_number_X0_seesDigit : GoodIn wsX0_number (wsV RX0 68 RX0 yX0_seesDigit wsX0_seesDigit) := goodIn_app (goodIn_of _ (by decide +kernel)) ggX0_number_X0_seesDigit
set_option maxRecDepth 20000 in
theorem ggX0_number_X1_at : GoodIn wsX0_number wsX1_at := goodIn_r _ [14, 15, 16, 25, 26] (by decide +kernel) (by decide +kernel)
set_option maxRecDepth 20000 in
theorem gX0_number_X1_at : GoodIn wsX0_number (wsV RX0 41 RX1 yX1_at wsX1_at) := goodIn_app (goodIn_of _ (by decide +kernel)) ggX0_number_X1_at
set_option maxRecDepth 20000 in
theorem ggX0_number_X1_append : GoodIn wsX0_number wsX1_append := goodIn_r _ [20, 15, 16, 25, 26] (by decide +kernel) (by decide +kernel)
set_option maxRecDepth 20000 in
theorem gX0_number_X1_append : GoodIn wsX0_number (wsV RX0 53 RX1 yX1_append wsX1_append) := goodIn_app (goodIn_of _ (by decide +kernel)) ggX0_number_X1_append
theorem dX0_number_0 : decode cX0_number 0 = .ok (.iconst 0, 1) := by decide +kernel
theorem dX0_number_1 : decode cX0_number 1 = .ok (.istore_n 1, 1) := by decide +kernel
theorem dX0_number_2 : decode cX0_number 2 = .ok (.iconst 0, 1) := by decide +kernel
theorem dX0_number_3 : decode cX0_number 3 = .ok (.istore_n 2, 1) := by decide +kernel
theorem dX0_number_4 : decode cX0_number 4 = .ok (.iload_n 2, 1) := by decide +kernel
theorem dX0_number_5 : decode cX0_number 5 = .ok (.iconst 4, 1) := by decide +kernel
theorem dX0_number_6 : decode cX0_number 6 = .ok (.if_icmp .ge 46, 3) := by decide +kernel
theorem dX0_number_9 : decode cX0_number 9 = .ok (.aload_n 0, 1) := by decide +kernel
theorem dX0_number_10 : decode cX0_number 10 = .ok (.invokevirtual 68, 3) := by decide +kernel
theorem dX0_number_13 : decode cX0_number 13 = .ok (.ifCond .eq 39, 3) := by decide +kernel
theorem dX0_number_16 : decode cX0_number 16 = .ok (.bipush 10, 2) := by decide +kernel
theorem dX0_number_18 : decode cX0_number 18 = .ok (.iload_n 1, 1) := by decide +kernel
theorem dX0_number_19 : decode cX0_number 19 = .ok (.imul, 1) := by decide +kernel
theorem dX0_number_20 : decode cX0_number 20 = .ok (.aload_n 0, 1) := by decide +kernel
theorem dX0_number_21 : decode cX0_number 21 = .ok (.getfield 20, 3) := by decide +kernel
theorem dX0_number_24 : decode cX0_number 24 = .ok (.aload_n 0, 1) := by decide +kernel
theorem dX0_number_25 : decode cX0_number 25 = .ok (.getfield 27, 3) := by decide +kernel
theorem dX0_number_28 : decode cX0_number 28 = .ok (.invokevirtual 41, 3) := by decide +kernel
theorem dX0_number_31 : decode cX0_number 31 = .ok (.iadd, 1) := by decide +kernel
theorem dX0_number_32 : decode cX0_number 32 = .ok (.bipush 48, 2) := by decide +kernel
theorem dX0_number_34 : decode cX0_number 34 = .ok (.isub, 1) := by decide +kernel
theorem dX0_number_35 : decode cX0_number 35 = .ok (.istore_n 1, 1) := by decide +kernel
theorem dX0_number_36 : decode cX0_number 36 = .ok (.aload_n 0, 1) := by decide +kernel
theorem dX0_number_37 : decode cX0_number 37 = .ok (.dup, 1) := by decide +kernel
theorem dX0_number_38 : decode cX0_number 38 = .ok (.getfield 27, 3) := by decide +kernel
theorem dX0_number_41 : decode cX0_number 41 = .ok (.iconst 1, 1) := by decide +kernel
theorem dX0_number_42 : decode cX0_number 42 = .ok (.iadd, 1) := by decide +kernel
theorem dX0_number_43 : decode cX0_number 43 = .ok (.putfield 27, 3) := by decide +kernel
theorem dX0_number_46 : decode cX0_number 46 = .ok (.iinc 2 1, 3) := by decide +kernel
theorem dX0_number_49 : decode cX0_number 49 = .ok (.goto (-45), 3) := by decide +kernel
theorem dX0_number_52 : decode cX0_number 52 = .ok (.aload_n 0, 1) := by decide +kernel
theorem dX0_number_53 : decode cX0_number 53 = .ok (.getfield 14, 3) := by decide +kernel
theorem dX0_number_56 : decode cX0_number 56 = .ok (.iload_n 1, 1) := by decide +kernel
theorem dX0_number_57 : decode cX0_number 57 = .ok (.invokevirtual 53, 3) := by decide +kernel
theorem dX0_number_60 : decode cX0_number 60 = .ok (.return_, 1) := by decide +kernel
set_option maxRecDepth 20000 in
theorem ggX0_readsName_X0_sees : GoodIn wsX0_readsName wsX0_sees := goodIn_r _ [9, 4, 10, 11, 12, 13, 14, 15, 16, 17, 18, 23, 24, 25, 26, 27, 28] (by decide +kernel) (by decide +kernel)
set_option maxRecDepth 20000 in
theorem gX0_readsName_X0_sees : GoodIn wsX0_readsName (wsV RX0 47 RX0 yX0_sees wsX0_sees) := goodIn_app (goodIn_of _ (by decide +kernel)) ggX0_readsName_X0_sees
set_option maxRecDepth 20000 in
theorem ggX0_readsName_X1_append : GoodIn wsX0_readsName wsX1_append := goodIn_r _ [22, 17, 18, 27, 28] (by decide +kernel) (by decide +kernel)
set_option maxRecDepth 20000 in
theorem gX0_readsName_X1_append : GoodIn wsX0_readsName (wsV RX0 53 RX1 yX1_append wsX1_append) := goodIn_app (goodIn_of _ (by decide +kernel)) ggX0_readsName_X1_append
theorem dX0_readsName_0 : decode cX0_readsName 0 = .ok (.iconst 0, 1) := by decide +kernel
theorem dX0_readsName_1 : decode cX0_readsName 1 = .ok (.istore_n 1, 1) := by decide +kernel
theorem dX0_readsName_2 : decode cX0_readsName 2 = .ok (.iload_n 1, 1) := by decide +kernel
theorem dX0_readsName_3 : decode cX0_readsName 3 = .ok (.iconst 3, 1) := by decide +kernel
theorem dX0_readsName_4 : decode cX0_readsName 4 = .ok (.if_icmp .ge 50, 3) := by decide +kernel
theorem dX0_readsName_7 : decode cX0_readsName 7 = .ok (.aload_n 0, 1) := by decide +kernel
theorem dX0_readsName_8 : decode cX0_readsName 8 = .ok (.getstatic 81, 3) := by decide +kernel
theorem dX0_readsName_11 : decode cX0_readsName 11 = .ok (.aload_n 0, 1) := by decide +kernel
theorem dX0_readsName_12 : decode cX0_readsName 12 = .ok (.getfield 23, 3) := by decide +kernel
theorem dX0_readsName_15 : decode cX0_readsName 15 = .ok (.iload_n 1, 1) := by decide +kernel
theorem dX0_readsName_16 : decode cX0_readsName 16 = .ok (.iadd, 1) := by decide +kernel
theorem dX0_readsName_17 : decode cX0_readsName 17 = .ok (.caload, 1) := by decide +kernel
theorem dX0_readsName_18 : decode cX0_readsName 18 = .ok (.invokevirtual 47, 3) := by decide +kernel
theorem dX0_readsName_21 : decode cX0_readsName 21 = .ok (.ifCond .eq 27, 3) := by decide +kernel
theorem dX0_readsName_24 : decode cX0_readsName 24 = .ok (.aload_n 0, 1) := by decide +kernel
theorem dX0_readsName_25 : decode cX0_readsName 25 = .ok (.getfield 14, 3) := by decide +kernel
theorem dX0_readsName_28 : decode cX0_readsName 28 = .ok (.sipush 10000, 3) := by decide +kernel
theorem dX0_readsName_31 : decode cX0_readsName 31 = .ok (.iload_n 1, 1) := by decide +kernel
theorem dX0_readsName_32 : decode cX0_readsName 32 = .ok (.iadd, 1) := by decide +kernel
theorem dX0_readsName_33 : decode cX0_readsName 33 = .ok (.invokevirtual 53, 3) := by decide +kernel
theorem dX0_readsName_36 : decode cX0_readsName 36 = .ok (.aload_n 0, 1) := by decide +kernel
theorem dX0_readsName_37 : decode cX0_readsName 37 = .ok (.dup, 1) := by decide +kernel
theorem dX0_readsName_38 : decode cX0_readsName 38 = .ok (.getfield 27, 3) := by decide +kernel
theorem dX0_readsName_41 : decode cX0_readsName 41 = .ok (.iconst 1, 1) := by decide +kernel
theorem dX0_readsName_42 : decode cX0_readsName 42 = .ok (.iadd, 1) := by decide +kernel
theorem dX0_readsName_43 : decode cX0_readsName 43 = .ok (.putfield 27, 3) := by decide +kernel
theorem dX0_readsName_46 : decode cX0_readsName 46 = .ok (.iconst 1, 1) := by decide +kernel
theorem dX0_readsName_47 : decode cX0_readsName 47 = .ok (.ireturn, 1) := by decide +kernel
theorem dX0_readsName_48 : decode cX0_readsName 48 = .ok (.iinc 1 1, 3) := by decide +kernel
theorem dX0_readsName_51 : decode cX0_readsName 51 = .ok (.goto (-49), 3) := by decide +kernel
theorem dX0_readsName_54 : decode cX0_readsName 54 = .ok (.iconst 0, 1) := by decide +kernel
theorem dX0_readsName_55 : decode cX0_readsName 55 = .ok (.ireturn, 1) := by decide +kernel
theorem dJ7_fill_53178_0 : decode cJ7_fill_53178 0 = .ok (.iconst 0, 1) := by decide +kernel
theorem dJ7_fill_53178_1 : decode cJ7_fill_53178 1 = .ok (.istore_n 2, 1) := by decide +kernel
theorem dJ7_fill_53178_2 : decode cJ7_fill_53178 2 = .ok (.aload_n 0, 1) := by decide +kernel
theorem dJ7_fill_53178_3 : decode cJ7_fill_53178 3 = .ok (.arraylength, 1) := by decide +kernel
theorem dJ7_fill_53178_4 : decode cJ7_fill_53178 4 = .ok (.istore_n 3, 1) := by decide +kernel
theorem dJ7_fill_53178_5 : decode cJ7_fill_53178 5 = .ok (.iload_n 2, 1) := by decide +kernel
theorem dJ7_fill_53178_6 : decode cJ7_fill_53178 6 = .ok (.iload_n 3, 1) := by decide +kernel
theorem dJ7_fill_53178_7 : decode cJ7_fill_53178 7 = .ok (.if_icmp .ge 13, 3) := by decide +kernel
theorem dJ7_fill_53178_10 : decode cJ7_fill_53178 10 = .ok (.aload_n 0, 1) := by decide +kernel
theorem dJ7_fill_53178_11 : decode cJ7_fill_53178 11 = .ok (.iload_n 2, 1) := by decide +kernel
theorem dJ7_fill_53178_12 : decode cJ7_fill_53178 12 = .ok (.iload_n 1, 1) := by decide +kernel
theorem dJ7_fill_53178_13 : decode cJ7_fill_53178 13 = .ok (.iastore, 1) := by decide +kernel
theorem dJ7_fill_53178_14 : decode cJ7_fill_53178 14 = .ok (.iinc 2 1, 3) := by decide +kernel
theorem dJ7_fill_53178_17 : decode cJ7_fill_53178 17 = .ok (.goto (-12), 3) := by decide +kernel
theorem dJ7_fill_53178_20 : decode cJ7_fill_53178 20 = .ok (.return_, 1) := by decide +kernel
