theorem dX7_explains_7 : decode cX7_explains 7 = .ok (.iconst 3, 1) := by decide +kernel
theorem dX7_explains_8 : decode cX7_explains 8 = .ok (.invokevirtual 59, 3) := by decide +kernel
theorem dX7_explains_11 : decode cX7_explains 11 = .ok (.aload_n 0, 1) := by decide +kernel
theorem dX7_explains_12 : decode cX7_explains 12 = .ok (.iload_n 2, 1) := by decide +kernel
theorem dX7_explains_13 : decode cX7_explains 13 = .ok (.iconst 1, 1) := by decide +kernel
theorem dX7_explains_14 : decode cX7_explains 14 = .ok (.iload_n 3, 1) := by decide +kernel
theorem dX7_explains_15 : decode cX7_explains 15 = .ok (.invokevirtual 59, 3) := by decide +kernel
theorem dX7_explains_18 : decode cX7_explains 18 = .ok (.aload_n 0, 1) := by decide +kernel
theorem dX7_explains_19 : decode cX7_explains 19 = .ok (.iload 4, 2) := by decide +kernel
theorem dX7_explains_21 : decode cX7_explains 21 = .ok (.invokevirtual 191, 3) := by decide +kernel
theorem dX7_explains_24 : decode cX7_explains 24 = .ok (.istore 5, 2) := by decide +kernel
theorem dX7_explains_26 : decode cX7_explains 26 = .ok (.iconst 1, 1) := by decide +kernel
theorem dX7_explains_27 : decode cX7_explains 27 = .ok (.istore 6, 2) := by decide +kernel
theorem dX7_explains_29 : decode cX7_explains 29 = .ok (.iconst 0, 1) := by decide +kernel
theorem dX7_explains_30 : decode cX7_explains 30 = .ok (.istore 7, 2) := by decide +kernel
theorem dX7_explains_32 : decode cX7_explains 32 = .ok (.iload 7, 2) := by decide +kernel
theorem dX7_explains_34 : decode cX7_explains 34 = .ok (.bipush 9, 2) := by decide +kernel
theorem dX7_explains_36 : decode cX7_explains 36 = .ok (.if_icmp .ge 43, 3) := by decide +kernel
theorem dX7_explains_39 : decode cX7_explains 39 = .ok (.iload 6, 2) := by decide +kernel
theorem dX7_explains_41 : decode cX7_explains 41 = .ok (.ifCond .eq 29, 3) := by decide +kernel
theorem dX7_explains_44 : decode cX7_explains 44 = .ok (.aload_n 0, 1) := by decide +kernel
theorem dX7_explains_45 : decode cX7_explains 45 = .ok (.iload 7, 2) := by decide +kernel
theorem dX7_explains_47 : decode cX7_explains 47 = .ok (.iconst 2, 1) := by decide +kernel
theorem dX7_explains_48 : decode cX7_explains 48 = .ok (.invokevirtual 72, 3) := by decide +kernel
theorem dX7_explains_51 : decode cX7_explains 51 = .ok (.aload_n 0, 1) := by decide +kernel
theorem dX7_explains_52 : decode cX7_explains 52 = .ok (.getfield 53, 3) := by decide +kernel
theorem dX7_explains_55 : decode cX7_explains 55 = .ok (.bipush 24, 2) := by decide +kernel
theorem dX7_explains_57 : decode cX7_explains 57 = .ok (.iload_n 1, 1) := by decide +kernel
theorem dX7_explains_58 : decode cX7_explains 58 = .ok (.imul, 1) := by decide +kernel
theorem dX7_explains_59 : decode cX7_explains 59 = .ok (.iload 7, 2) := by decide +kernel
theorem dX7_explains_61 : decode cX7_explains 61 = .ok (.iadd, 1) := by decide +kernel
theorem dX7_explains_62 : decode cX7_explains 62 = .ok (.iaload, 1) := by decide +kernel
theorem dX7_explains_63 : decode cX7_explains 63 = .ok (.if_icmp .ne 7, 3) := by decide +kernel
theorem dX7_explains_66 : decode cX7_explains 66 = .ok (.iconst 1, 1) := by decide +kernel
theorem dX7_explains_67 : decode cX7_explains 67 = .ok (.goto 4, 3) := by decide +kernel
theorem dX7_explains_70 : decode cX7_explains 70 = .ok (.iconst 0, 1) := by decide +kernel
theorem dX7_explains_71 : decode cX7_explains 71 = .ok (.istore 6, 2) := by decide +kernel
theorem dX7_explains_73 : decode cX7_explains 73 = .ok (.iinc 7 1, 3) := by decide +kernel
theorem dX7_explains_76 : decode cX7_explains 76 = .ok (.goto (-44), 3) := by decide +kernel
theorem dX7_explains_79 : decode cX7_explains 79 = .ok (.aload_n 0, 1) := by decide +kernel
theorem dX7_explains_80 : decode cX7_explains 80 = .ok (.invokevirtual 201, 3) := by decide +kernel
theorem dX7_explains_83 : decode cX7_explains 83 = .ok (.iload 6, 2) := by decide +kernel
theorem dX7_explains_85 : decode cX7_explains 85 = .ok (.ireturn, 1) := by decide +kernel
theorem gX7_whoHid_X7_isSheet : GoodIn wsX7_whoHid (va_wsS RX7 220 yX7_isSheet wsX7_isSheet) := nw_gS nwl_X7_whoHid nwe_732 nwe_733 nwe_534 nwl_X7_isSheet (by decide +kernel)
theorem gX7_whoHid_X7_in : GoodIn wsX7_whoHid (va_wsS RX7 68 yX7_in wsX7_in) := nw_gS nwl_X7_whoHid nwe_546 nwe_547 nwe_534 nwl_X7_in (by decide +kernel)
theorem gX7_whoHid_X7_error : GoodIn wsX7_whoHid (wsV RX7 76 RX7 yX7_error wsX7_error) := nw_gV nwl_X7_whoHid nwe_558 nwe_559 nwe_560 nwe_534 nwl_X7_error (by decide +kernel)
theorem gX7_whoHid_X7_explains : GoodIn wsX7_whoHid (wsV RX7 223 RX7 yX7_explains wsX7_explains) := nw_gV nwl_X7_whoHid nwe_734 nwe_735 nwe_736 nwe_534 nwl_X7_explains (by decide +kernel)
theorem dX7_whoHid_0 : decode cX7_whoHid 0 = .ok (.iload_n 1, 1) := by decide +kernel
theorem dX7_whoHid_1 : decode cX7_whoHid 1 = .ok (.invokestatic 220, 3) := by decide +kernel
theorem dX7_whoHid_4 : decode cX7_whoHid 4 = .ok (.ifCond .eq 22, 3) := by decide +kernel
theorem dX7_whoHid_7 : decode cX7_whoHid 7 = .ok (.iload_n 2, 1) := by decide +kernel
theorem dX7_whoHid_8 : decode cX7_whoHid 8 = .ok (.iconst 1, 1) := by decide +kernel
theorem dX7_whoHid_9 : decode cX7_whoHid 9 = .ok (.bipush 18, 2) := by decide +kernel
theorem dX7_whoHid_11 : decode cX7_whoHid 11 = .ok (.invokestatic 68, 3) := by decide +kernel
theorem dX7_whoHid_14 : decode cX7_whoHid 14 = .ok (.ifCond .eq 12, 3) := by decide +kernel
theorem dX7_whoHid_17 : decode cX7_whoHid 17 = .ok (.iload_n 3, 1) := by decide +kernel
theorem dX7_whoHid_18 : decode cX7_whoHid 18 = .ok (.iconst 0, 1) := by decide +kernel
theorem dX7_whoHid_19 : decode cX7_whoHid 19 = .ok (.iconst 2, 1) := by decide +kernel
theorem dX7_whoHid_20 : decode cX7_whoHid 20 = .ok (.invokestatic 68, 3) := by decide +kernel
theorem dX7_whoHid_23 : decode cX7_whoHid 23 = .ok (.ifCond .ne 9, 3) := by decide +kernel
theorem dX7_whoHid_26 : decode cX7_whoHid 26 = .ok (.aload_n 0, 1) := by decide +kernel
theorem dX7_whoHid_27 : decode cX7_whoHid 27 = .ok (.iconst 1, 1) := by decide +kernel
theorem dX7_whoHid_28 : decode cX7_whoHid 28 = .ok (.invokevirtual 76, 3) := by decide +kernel
theorem dX7_whoHid_31 : decode cX7_whoHid 31 = .ok (.ireturn, 1) := by decide +kernel
theorem dX7_whoHid_32 : decode cX7_whoHid 32 = .ok (.aload_n 0, 1) := by decide +kernel
theorem dX7_whoHid_33 : decode cX7_whoHid 33 = .ok (.getfield 47, 3) := by decide +kernel
theorem dX7_whoHid_36 : decode cX7_whoHid 36 = .ok (.iload_n 1, 1) := by decide +kernel
theorem dX7_whoHid_37 : decode cX7_whoHid 37 = .ok (.iaload, 1) := by decide +kernel
theorem dX7_whoHid_38 : decode cX7_whoHid 38 = .ok (.ifCond .eq 14, 3) := by decide +kernel
theorem dX7_whoHid_41 : decode cX7_whoHid 41 = .ok (.aload_n 0, 1) := by decide +kernel
theorem dX7_whoHid_42 : decode cX7_whoHid 42 = .ok (.getfield 50, 3) := by decide +kernel
theorem dX7_whoHid_45 : decode cX7_whoHid 45 = .ok (.iload_n 1, 1) := by decide +kernel
theorem dX7_whoHid_46 : decode cX7_whoHid 46 = .ok (.iaload, 1) := by decide +kernel
theorem dX7_whoHid_47 : decode cX7_whoHid 47 = .ok (.bipush 9, 2) := by decide +kernel
theorem dX7_whoHid_49 : decode cX7_whoHid 49 = .ok (.if_icmp .ge 9, 3) := by decide +kernel
theorem dX7_whoHid_52 : decode cX7_whoHid 52 = .ok (.aload_n 0, 1) := by decide +kernel
theorem dX7_whoHid_53 : decode cX7_whoHid 53 = .ok (.iconst 2, 1) := by decide +kernel
theorem dX7_whoHid_54 : decode cX7_whoHid 54 = .ok (.invokevirtual 76, 3) := by decide +kernel
theorem dX7_whoHid_57 : decode cX7_whoHid 57 = .ok (.ireturn, 1) := by decide +kernel
theorem dX7_whoHid_58 : decode cX7_whoHid 58 = .ok (.iconst 0, 1) := by decide +kernel
theorem dX7_whoHid_59 : decode cX7_whoHid 59 = .ok (.istore 4, 2) := by decide +kernel
theorem dX7_whoHid_61 : decode cX7_whoHid 61 = .ok (.iconst (-1), 1) := by decide +kernel
theorem dX7_whoHid_62 : decode cX7_whoHid 62 = .ok (.istore 5, 2) := by decide +kernel
theorem dX7_whoHid_64 : decode cX7_whoHid 64 = .ok (.iconst 0, 1) := by decide +kernel
theorem dX7_whoHid_65 : decode cX7_whoHid 65 = .ok (.istore 6, 2) := by decide +kernel
theorem dX7_whoHid_67 : decode cX7_whoHid 67 = .ok (.iconst 0, 1) := by decide +kernel
theorem dX7_whoHid_68 : decode cX7_whoHid 68 = .ok (.istore 7, 2) := by decide +kernel
theorem dX7_whoHid_70 : decode cX7_whoHid 70 = .ok (.iload 7, 2) := by decide +kernel
theorem dX7_whoHid_72 : decode cX7_whoHid 72 = .ok (.bipush 9, 2) := by decide +kernel
theorem dX7_whoHid_74 : decode cX7_whoHid 74 = .ok (.if_icmp .ge 84, 3) := by decide +kernel
theorem dX7_whoHid_77 : decode cX7_whoHid 77 = .ok (.iconst 0, 1) := by decide +kernel
theorem dX7_whoHid_78 : decode cX7_whoHid 78 = .ok (.istore 8, 2) := by decide +kernel
theorem dX7_whoHid_80 : decode cX7_whoHid 80 = .ok (.iload 8, 2) := by decide +kernel
theorem dX7_whoHid_82 : decode cX7_whoHid 82 = .ok (.bipush 10, 2) := by decide +kernel
theorem dX7_whoHid_84 : decode cX7_whoHid 84 = .ok (.if_icmp .ge 22, 3) := by decide +kernel
theorem dX7_whoHid_87 : decode cX7_whoHid 87 = .ok (.aload_n 0, 1) := by decide +kernel
theorem dX7_whoHid_88 : decode cX7_whoHid 88 = .ok (.iload_n 1, 1) := by decide +kernel
theorem dX7_whoHid_89 : decode cX7_whoHid 89 = .ok (.iload 7, 2) := by decide +kernel
theorem dX7_whoHid_91 : decode cX7_whoHid 91 = .ok (.iload 8, 2) := by decide +kernel
theorem dX7_whoHid_93 : decode cX7_whoHid 93 = .ok (.iload_n 2, 1) := by decide +kernel
theorem dX7_whoHid_94 : decode cX7_whoHid 94 = .ok (.invokevirtual 223, 3) := by decide +kernel
theorem dX7_whoHid_97 : decode cX7_whoHid 97 = .ok (.ifCond .ne 9, 3) := by decide +kernel
theorem dX7_whoHid_100 : decode cX7_whoHid 100 = .ok (.iinc 8 1, 3) := by decide +kernel
theorem dX7_whoHid_103 : decode cX7_whoHid 103 = .ok (.goto (-23), 3) := by decide +kernel
theorem dX7_whoHid_106 : decode cX7_whoHid 106 = .ok (.iload 8, 2) := by decide +kernel
theorem dX7_whoHid_108 : decode cX7_whoHid 108 = .ok (.bipush 10, 2) := by decide +kernel
theorem dX7_whoHid_110 : decode cX7_whoHid 110 = .ok (.if_icmp .ge 42, 3) := by decide +kernel
theorem dX7_whoHid_113 : decode cX7_whoHid 113 = .ok (.iload 4, 2) := by decide +kernel
theorem dX7_whoHid_115 : decode cX7_whoHid 115 = .ok (.iconst 1, 1) := by decide +kernel
theorem dX7_whoHid_116 : decode cX7_whoHid 116 = .ok (.iload 7, 2) := by decide +kernel
theorem dX7_whoHid_118 : decode cX7_whoHid 118 = .ok (.ishl, 1) := by decide +kernel
theorem dX7_whoHid_119 : decode cX7_whoHid 119 = .ok (.ior, 1) := by decide +kernel
theorem dX7_whoHid_120 : decode cX7_whoHid 120 = .ok (.istore 4, 2) := by decide +kernel
theorem dX7_whoHid_122 : decode cX7_whoHid 122 = .ok (.iload 5, 2) := by decide +kernel
theorem dX7_whoHid_124 : decode cX7_whoHid 124 = .ok (.iconst (-1), 1) := by decide +kernel
theorem dX7_whoHid_125 : decode cX7_whoHid 125 = .ok (.if_icmp .ne 8, 3) := by decide +kernel
theorem dX7_whoHid_128 : decode cX7_whoHid 128 = .ok (.iload 8, 2) := by decide +kernel
theorem dX7_whoHid_130 : decode cX7_whoHid 130 = .ok (.goto 5, 3) := by decide +kernel
theorem dX7_whoHid_133 : decode cX7_whoHid 133 = .ok (.iload 6, 2) := by decide +kernel
theorem dX7_whoHid_135 : decode cX7_whoHid 135 = .ok (.istore 6, 2) := by decide +kernel
theorem dX7_whoHid_137 : decode cX7_whoHid 137 = .ok (.iload 5, 2) := by decide +kernel
theorem dX7_whoHid_139 : decode cX7_whoHid 139 = .ok (.iconst (-1), 1) := by decide +kernel
theorem dX7_whoHid_140 : decode cX7_whoHid 140 = .ok (.if_icmp .ne 8, 3) := by decide +kernel
theorem dX7_whoHid_143 : decode cX7_whoHid 143 = .ok (.iload 7, 2) := by decide +kernel
theorem dX7_whoHid_145 : decode cX7_whoHid 145 = .ok (.goto 5, 3) := by decide +kernel
theorem dX7_whoHid_148 : decode cX7_whoHid 148 = .ok (.iload 5, 2) := by decide +kernel
theorem dX7_whoHid_150 : decode cX7_whoHid 150 = .ok (.istore 5, 2) := by decide +kernel
theorem dX7_whoHid_152 : decode cX7_whoHid 152 = .ok (.iinc 7 1, 3) := by decide +kernel
theorem dX7_whoHid_155 : decode cX7_whoHid 155 = .ok (.goto (-85), 3) := by decide +kernel
theorem dX7_whoHid_158 : decode cX7_whoHid 158 = .ok (.iload_n 3, 1) := by decide +kernel
theorem dX7_whoHid_159 : decode cX7_whoHid 159 = .ok (.ifCond .ne 8, 3) := by decide +kernel
theorem dX7_whoHid_162 : decode cX7_whoHid 162 = .ok (.iload 4, 2) := by decide +kernel
theorem dX7_whoHid_164 : decode cX7_whoHid 164 = .ok (.goto 29, 3) := by decide +kernel
theorem dX7_whoHid_167 : decode cX7_whoHid 167 = .ok (.iload 5, 2) := by decide +kernel
theorem dX7_whoHid_169 : decode cX7_whoHid 169 = .ok (.iconst (-1), 1) := by decide +kernel
theorem dX7_whoHid_170 : decode cX7_whoHid 170 = .ok (.if_icmp .ne 11, 3) := by decide +kernel
theorem dX7_whoHid_173 : decode cX7_whoHid 173 = .ok (.aload_n 0, 1) := by decide +kernel
theorem dX7_whoHid_174 : decode cX7_whoHid 174 = .ok (.iconst 2, 1) := by decide +kernel
theorem dX7_whoHid_175 : decode cX7_whoHid 175 = .ok (.invokevirtual 76, 3) := by decide +kernel
theorem dX7_whoHid_178 : decode cX7_whoHid 178 = .ok (.goto 15, 3) := by decide +kernel
theorem dX7_whoHid_181 : decode cX7_whoHid 181 = .ok (.iload_n 3, 1) := by decide +kernel
theorem dX7_whoHid_182 : decode cX7_whoHid 182 = .ok (.iconst 1, 1) := by decide +kernel
theorem dX7_whoHid_183 : decode cX7_whoHid 183 = .ok (.if_icmp .ne 8, 3) := by decide +kernel
theorem dX7_whoHid_186 : decode cX7_whoHid 186 = .ok (.iload 5, 2) := by decide +kernel
theorem dX7_whoHid_188 : decode cX7_whoHid 188 = .ok (.goto 5, 3) := by decide +kernel
theorem dX7_whoHid_191 : decode cX7_whoHid 191 = .ok (.iload 6, 2) := by decide +kernel
theorem dX7_whoHid_193 : decode cX7_whoHid 193 = .ok (.ireturn, 1) := by decide +kernel
theorem dX7_begins_0 : decode cX7_begins 0 = .ok (.aload_n 0, 1) := by decide +kernel
theorem dX7_begins_1 : decode cX7_begins 1 = .ok (.getfield 227, 3) := by decide +kernel
theorem dX7_begins_4 : decode cX7_begins 4 = .ok (.bipush 30, 2) := by decide +kernel
theorem dX7_begins_6 : decode cX7_begins 6 = .ok (.if_icmp .ge 23, 3) := by decide +kernel
theorem dX7_begins_9 : decode cX7_begins 9 = .ok (.aload_n 0, 1) := by decide +kernel
theorem dX7_begins_10 : decode cX7_begins 10 = .ok (.getfield 44, 3) := by decide +kernel
theorem dX7_begins_13 : decode cX7_begins 13 = .ok (.aload_n 0, 1) := by decide +kernel
theorem dX7_begins_14 : decode cX7_begins 14 = .ok (.getfield 227, 3) := by decide +kernel
theorem dX7_begins_17 : decode cX7_begins 17 = .ok (.iload_n 1, 1) := by decide +kernel
theorem dX7_begins_18 : decode cX7_begins 18 = .ok (.iastore, 1) := by decide +kernel
theorem dX7_begins_19 : decode cX7_begins 19 = .ok (.aload_n 0, 1) := by decide +kernel
theorem dX7_begins_20 : decode cX7_begins 20 = .ok (.dup, 1) := by decide +kernel
theorem dX7_begins_21 : decode cX7_begins 21 = .ok (.getfield 227, 3) := by decide +kernel
theorem dX7_begins_24 : decode cX7_begins 24 = .ok (.iconst 1, 1) := by decide +kernel
theorem dX7_begins_25 : decode cX7_begins 25 = .ok (.iadd, 1) := by decide +kernel
theorem dX7_begins_26 : decode cX7_begins 26 = .ok (.putfield 227, 3) := by decide +kernel
theorem dX7_begins_29 : decode cX7_begins 29 = .ok (.return_, 1) := by decide +kernel
theorem dX7_above_0 : decode cX7_above 0 = .ok (.iload_n 0, 1) := by decide +kernel
theorem dX7_above_1 : decode cX7_above 1 = .ok (.iconst 4, 1) := by decide +kernel
theorem dX7_above_2 : decode cX7_above 2 = .ok (.if_icmp .ne 7, 3) := by decide +kernel
theorem dX7_above_5 : decode cX7_above 5 = .ok (.iconst 1, 1) := by decide +kernel
theorem dX7_above_6 : decode cX7_above 6 = .ok (.goto 13, 3) := by decide +kernel
theorem dX7_above_9 : decode cX7_above 9 = .ok (.iload_n 0, 1) := by decide +kernel
theorem dX7_above_10 : decode cX7_above 10 = .ok (.iconst 5, 1) := by decide +kernel
theorem dX7_above_11 : decode cX7_above 11 = .ok (.if_icmp .ne 7, 3) := by decide +kernel
theorem dX7_above_14 : decode cX7_above 14 = .ok (.iconst 2, 1) := by decide +kernel
theorem dX7_above_15 : decode cX7_above 15 = .ok (.goto 4, 3) := by decide +kernel
theorem dX7_above_18 : decode cX7_above 18 = .ok (.iconst 0, 1) := by decide +kernel
theorem dX7_above_19 : decode cX7_above 19 = .ok (.ireturn, 1) := by decide +kernel
theorem gX7_kindNow_X7_its : GoodIn wsX7_kindNow (wsV RX7 72 RX7 yX7_its wsX7_its) := nw_gV nwl_X7_kindNow nwe_552 nwe_553 nwe_554 nwe_534 nwl_X7_its (by decide +kernel)
theorem dX7_kindNow_0 : decode cX7_kindNow 0 = .ok (.aload_n 0, 1) := by decide +kernel
theorem dX7_kindNow_1 : decode cX7_kindNow 1 = .ok (.aload_n 0, 1) := by decide +kernel
theorem dX7_kindNow_2 : decode cX7_kindNow 2 = .ok (.getfield 230, 3) := by decide +kernel
theorem dX7_kindNow_5 : decode cX7_kindNow 5 = .ok (.iconst 0, 1) := by decide +kernel
theorem dX7_kindNow_6 : decode cX7_kindNow 6 = .ok (.invokevirtual 72, 3) := by decide +kernel
theorem dX7_kindNow_9 : decode cX7_kindNow 9 = .ok (.ireturn, 1) := by decide +kernel
theorem gX7_mNow_X7_its : GoodIn wsX7_mNow (wsV RX7 72 RX7 yX7_its wsX7_its) := nw_gV nwl_X7_mNow nwe_552 nwe_553 nwe_554 nwe_534 nwl_X7_its (by decide +kernel)
theorem dX7_mNow_0 : decode cX7_mNow 0 = .ok (.aload_n 0, 1) := by decide +kernel
theorem dX7_mNow_1 : decode cX7_mNow 1 = .ok (.aload_n 0, 1) := by decide +kernel
theorem dX7_mNow_2 : decode cX7_mNow 2 = .ok (.getfield 230, 3) := by decide +kernel
theorem dX7_mNow_5 : decode cX7_mNow 5 = .ok (.iconst 1, 1) := by decide +kernel
theorem dX7_mNow_6 : decode cX7_mNow 6 = .ok (.invokevirtual 72, 3) := by decide +kernel
theorem dX7_mNow_9 : decode cX7_mNow 9 = .ok (.ireturn, 1) := by decide +kernel
theorem gX7_leadsAs_X7_begins : GoodIn wsX7_leadsAs (wsV RX7 233 RX7 yX7_begins wsX7_begins) := nw_gV nwl_X7_leadsAs nwe_745 nwe_746 nwe_747 nwe_534 nwl_X7_begins (by decide +kernel)
theorem gX7_leadsAs_X7_above : GoodIn wsX7_leadsAs (va_wsS RX7 237 yX7_above wsX7_above) := nw_gS nwl_X7_leadsAs nwe_748 nwe_749 nwe_534 nwl_X7_above (by decide +kernel)
theorem gX7_leadsAs_X7_leadsAs : GoodIn wsX7_leadsAs (wsV RX7 240 RX7 yX7_leadsAs wsX7_leadsAs) := nw_gV nwl_X7_leadsAs nwe_750 nwe_751 nwe_752 nwe_534 nwl_X7_leadsAs (by decide +kernel)
theorem dX7_leadsAs_0 : decode cX7_leadsAs 0 = .ok (.iload_n 1, 1) := by decide +kernel
theorem dX7_leadsAs_1 : decode cX7_leadsAs 1 = .ok (.tableswitch 101 0 6 #[43, 56, 101, 101, 74, 101, 92], 43) := by decide +kernel
theorem dX7_leadsAs_44 : decode cX7_leadsAs 44 = .ok (.aload_n 0, 1) := by decide +kernel
theorem dX7_leadsAs_45 : decode cX7_leadsAs 45 = .ok (.bipush 10, 2) := by decide +kernel
theorem dX7_leadsAs_47 : decode cX7_leadsAs 47 = .ok (.invokevirtual 233, 3) := by decide +kernel
theorem dX7_leadsAs_50 : decode cX7_leadsAs 50 = .ok (.iload_n 2, 1) := by decide +kernel
theorem dX7_leadsAs_51 : decode cX7_leadsAs 51 = .ok (.aload_n 0, 1) := by decide +kernel
theorem dX7_leadsAs_52 : decode cX7_leadsAs 52 = .ok (.getfield 230, 3) := by decide +kernel
theorem dX7_leadsAs_55 : decode cX7_leadsAs 55 = .ok (.iadd, 1) := by decide +kernel
theorem dX7_leadsAs_56 : decode cX7_leadsAs 56 = .ok (.ireturn, 1) := by decide +kernel
theorem dX7_leadsAs_57 : decode cX7_leadsAs 57 = .ok (.aload_n 0, 1) := by decide +kernel
theorem dX7_leadsAs_58 : decode cX7_leadsAs 58 = .ok (.bipush 20, 2) := by decide +kernel
theorem dX7_leadsAs_60 : decode cX7_leadsAs 60 = .ok (.invokevirtual 233, 3) := by decide +kernel
theorem dX7_leadsAs_63 : decode cX7_leadsAs 63 = .ok (.aload_n 0, 1) := by decide +kernel
theorem dX7_leadsAs_64 : decode cX7_leadsAs 64 = .ok (.iconst 1, 1) := by decide +kernel
theorem dX7_leadsAs_65 : decode cX7_leadsAs 65 = .ok (.invokestatic 237, 3) := by decide +kernel
theorem dX7_leadsAs_68 : decode cX7_leadsAs 68 = .ok (.iload_n 2, 1) := by decide +kernel
theorem dX7_leadsAs_69 : decode cX7_leadsAs 69 = .ok (.invokevirtual 240, 3) := by decide +kernel
theorem dX7_leadsAs_72 : decode cX7_leadsAs 72 = .ok (.iconst 4, 1) := by decide +kernel
theorem dX7_leadsAs_73 : decode cX7_leadsAs 73 = .ok (.isub, 1) := by decide +kernel
theorem dX7_leadsAs_74 : decode cX7_leadsAs 74 = .ok (.ireturn, 1) := by decide +kernel
theorem dX7_leadsAs_75 : decode cX7_leadsAs 75 = .ok (.aload_n 0, 1) := by decide +kernel
theorem dX7_leadsAs_76 : decode cX7_leadsAs 76 = .ok (.bipush 50, 2) := by decide +kernel
theorem dX7_leadsAs_78 : decode cX7_leadsAs 78 = .ok (.invokevirtual 233, 3) := by decide +kernel
theorem dX7_leadsAs_81 : decode cX7_leadsAs 81 = .ok (.aload_n 0, 1) := by decide +kernel
theorem dX7_leadsAs_82 : decode cX7_leadsAs 82 = .ok (.iconst 4, 1) := by decide +kernel
theorem dX7_leadsAs_83 : decode cX7_leadsAs 83 = .ok (.invokestatic 237, 3) := by decide +kernel
theorem dX7_leadsAs_86 : decode cX7_leadsAs 86 = .ok (.iload_n 2, 1) := by decide +kernel
theorem dX7_leadsAs_87 : decode cX7_leadsAs 87 = .ok (.invokevirtual 240, 3) := by decide +kernel
theorem dX7_leadsAs_90 : decode cX7_leadsAs 90 = .ok (.iconst 3, 1) := by decide +kernel
theorem dX7_leadsAs_91 : decode cX7_leadsAs 91 = .ok (.imul, 1) := by decide +kernel
theorem dX7_leadsAs_92 : decode cX7_leadsAs 92 = .ok (.ireturn, 1) := by decide +kernel
theorem dX7_leadsAs_93 : decode cX7_leadsAs 93 = .ok (.aload_n 0, 1) := by decide +kernel
theorem dX7_leadsAs_94 : decode cX7_leadsAs 94 = .ok (.bipush 70, 2) := by decide +kernel
theorem dX7_leadsAs_96 : decode cX7_leadsAs 96 = .ok (.invokevirtual 233, 3) := by decide +kernel
theorem dX7_leadsAs_99 : decode cX7_leadsAs 99 = .ok (.bipush 9, 2) := by decide +kernel
theorem dX7_leadsAs_101 : decode cX7_leadsAs 101 = .ok (.ireturn, 1) := by decide +kernel
theorem dX7_leadsAs_102 : decode cX7_leadsAs 102 = .ok (.aload_n 0, 1) := by decide +kernel
theorem dX7_leadsAs_103 : decode cX7_leadsAs 103 = .ok (.iload_n 1, 1) := by decide +kernel
theorem dX7_leadsAs_104 : decode cX7_leadsAs 104 = .ok (.invokestatic 237, 3) := by decide +kernel
theorem dX7_leadsAs_107 : decode cX7_leadsAs 107 = .ok (.iload_n 2, 1) := by decide +kernel
theorem dX7_leadsAs_108 : decode cX7_leadsAs 108 = .ok (.invokevirtual 240, 3) := by decide +kernel
theorem dX7_leadsAs_111 : decode cX7_leadsAs 111 = .ok (.ireturn, 1) := by decide +kernel
theorem gX7_feedsAs_X7_begins : GoodIn wsX7_feedsAs (wsV RX7 233 RX7 yX7_begins wsX7_begins) := nw_gV nwl_X7_feedsAs nwe_745 nwe_746 nwe_747 nwe_534 nwl_X7_begins (by decide +kernel)
theorem gX7_feedsAs_X7_kindNow : GoodIn wsX7_feedsAs (wsV RX7 243 RX7 yX7_kindNow wsX7_kindNow) := nw_gV nwl_X7_feedsAs nwe_753 nwe_754 nwe_755 nwe_534 nwl_X7_kindNow (by decide +kernel)
theorem gX7_feedsAs_X7_leadsAs : GoodIn wsX7_feedsAs (wsV RX7 240 RX7 yX7_leadsAs wsX7_leadsAs) := nw_gV nwl_X7_feedsAs nwe_750 nwe_751 nwe_752 nwe_534 nwl_X7_leadsAs (by decide +kernel)
theorem gX7_feedsAs_X7_above : GoodIn wsX7_feedsAs (va_wsS RX7 237 yX7_above wsX7_above) := nw_gS nwl_X7_feedsAs nwe_748 nwe_749 nwe_534 nwl_X7_above (by decide +kernel)
theorem gX7_feedsAs_X7_feedsAs : GoodIn wsX7_feedsAs (wsV RX7 246 RX7 yX7_feedsAs wsX7_feedsAs) := nw_gV nwl_X7_feedsAs nwe_756 nwe_757 nwe_758 nwe_534 nwl_X7_feedsAs (by decide +kernel)
theorem gX7_feedsAs_X7_mNow : GoodIn wsX7_feedsAs (wsV RX7 249 RX7 yX7_mNow wsX7_mNow) := nw_gV nwl_X7_feedsAs nwe_759 nwe_760 nwe_761 nwe_534 nwl_X7_mNow (by decide +kernel)
theorem dX7_feedsAs_0 : decode cX7_feedsAs 0 = .ok (.iload_n 1, 1) := by decide +kernel
theorem dX7_feedsAs_1 : decode cX7_feedsAs 1 = .ok (.tableswitch 119 0 6 #[43, 119, 61, 119, 119, 79, 97], 43) := by decide +kernel
theorem dX7_feedsAs_44 : decode cX7_feedsAs 44 = .ok (.aload_n 0, 1) := by decide +kernel
theorem dX7_feedsAs_45 : decode cX7_feedsAs 45 = .ok (.bipush 11, 2) := by decide +kernel
theorem dX7_feedsAs_47 : decode cX7_feedsAs 47 = .ok (.invokevirtual 233, 3) := by decide +kernel
theorem dX7_feedsAs_50 : decode cX7_feedsAs 50 = .ok (.aload_n 0, 1) := by decide +kernel
theorem dX7_feedsAs_51 : decode cX7_feedsAs 51 = .ok (.aload_n 0, 1) := by decide +kernel
theorem dX7_feedsAs_52 : decode cX7_feedsAs 52 = .ok (.invokevirtual 243, 3) := by decide +kernel
theorem dX7_feedsAs_55 : decode cX7_feedsAs 55 = .ok (.iload_n 2, 1) := by decide +kernel
theorem dX7_feedsAs_56 : decode cX7_feedsAs 56 = .ok (.invokevirtual 240, 3) := by decide +kernel
theorem dX7_feedsAs_59 : decode cX7_feedsAs 59 = .ok (.iconst 2, 1) := by decide +kernel
theorem dX7_feedsAs_60 : decode cX7_feedsAs 60 = .ok (.imul, 1) := by decide +kernel
theorem dX7_feedsAs_61 : decode cX7_feedsAs 61 = .ok (.ireturn, 1) := by decide +kernel
theorem dX7_feedsAs_62 : decode cX7_feedsAs 62 = .ok (.aload_n 0, 1) := by decide +kernel
theorem dX7_feedsAs_63 : decode cX7_feedsAs 63 = .ok (.bipush 30, 2) := by decide +kernel
theorem dX7_feedsAs_65 : decode cX7_feedsAs 65 = .ok (.invokevirtual 233, 3) := by decide +kernel
theorem dX7_feedsAs_68 : decode cX7_feedsAs 68 = .ok (.iconst 0, 1) := by decide +kernel
theorem dX7_feedsAs_69 : decode cX7_feedsAs 69 = .ok (.aload_n 0, 1) := by decide +kernel
theorem dX7_feedsAs_70 : decode cX7_feedsAs 70 = .ok (.iconst 2, 1) := by decide +kernel
theorem dX7_feedsAs_71 : decode cX7_feedsAs 71 = .ok (.invokestatic 237, 3) := by decide +kernel
theorem dX7_feedsAs_74 : decode cX7_feedsAs 74 = .ok (.iload_n 2, 1) := by decide +kernel
theorem dX7_feedsAs_75 : decode cX7_feedsAs 75 = .ok (.invokevirtual 246, 3) := by decide +kernel
theorem dX7_feedsAs_78 : decode cX7_feedsAs 78 = .ok (.isub, 1) := by decide +kernel
theorem dX7_feedsAs_79 : decode cX7_feedsAs 79 = .ok (.ireturn, 1) := by decide +kernel
theorem dX7_feedsAs_80 : decode cX7_feedsAs 80 = .ok (.aload_n 0, 1) := by decide +kernel
theorem dX7_feedsAs_81 : decode cX7_feedsAs 81 = .ok (.bipush 60, 2) := by decide +kernel
theorem dX7_feedsAs_83 : decode cX7_feedsAs 83 = .ok (.invokevirtual 233, 3) := by decide +kernel
theorem dX7_feedsAs_86 : decode cX7_feedsAs 86 = .ok (.aload_n 0, 1) := by decide +kernel
theorem dX7_feedsAs_87 : decode cX7_feedsAs 87 = .ok (.iconst 5, 1) := by decide +kernel
theorem dX7_feedsAs_88 : decode cX7_feedsAs 88 = .ok (.invokestatic 237, 3) := by decide +kernel
theorem dX7_feedsAs_91 : decode cX7_feedsAs 91 = .ok (.iload_n 2, 1) := by decide +kernel
theorem dX7_feedsAs_92 : decode cX7_feedsAs 92 = .ok (.iconst 1, 1) := by decide +kernel
theorem dX7_feedsAs_93 : decode cX7_feedsAs 93 = .ok (.iadd, 1) := by decide +kernel
theorem dX7_feedsAs_94 : decode cX7_feedsAs 94 = .ok (.invokevirtual 246, 3) := by decide +kernel
theorem dX7_feedsAs_97 : decode cX7_feedsAs 97 = .ok (.ireturn, 1) := by decide +kernel
theorem dX7_feedsAs_98 : decode cX7_feedsAs 98 = .ok (.aload_n 0, 1) := by decide +kernel
theorem dX7_feedsAs_99 : decode cX7_feedsAs 99 = .ok (.bipush 71, 2) := by decide +kernel
theorem dX7_feedsAs_101 : decode cX7_feedsAs 101 = .ok (.invokevirtual 233, 3) := by decide +kernel
theorem dX7_feedsAs_104 : decode cX7_feedsAs 104 = .ok (.aload_n 0, 1) := by decide +kernel
theorem dX7_feedsAs_105 : decode cX7_feedsAs 105 = .ok (.bipush 6, 2) := by decide +kernel
theorem dX7_feedsAs_107 : decode cX7_feedsAs 107 = .ok (.invokestatic 237, 3) := by decide +kernel
theorem dX7_feedsAs_110 : decode cX7_feedsAs 110 = .ok (.iload_n 2, 1) := by decide +kernel
theorem dX7_feedsAs_111 : decode cX7_feedsAs 111 = .ok (.invokevirtual 246, 3) := by decide +kernel
theorem dX7_feedsAs_114 : decode cX7_feedsAs 114 = .ok (.aload_n 0, 1) := by decide +kernel
theorem dX7_feedsAs_115 : decode cX7_feedsAs 115 = .ok (.invokevirtual 249, 3) := by decide +kernel
theorem dX7_feedsAs_118 : decode cX7_feedsAs 118 = .ok (.iadd, 1) := by decide +kernel
theorem dX7_feedsAs_119 : decode cX7_feedsAs 119 = .ok (.ireturn, 1) := by decide +kernel
theorem dX7_feedsAs_120 : decode cX7_feedsAs 120 = .ok (.aload_n 0, 1) := by decide +kernel
theorem dX7_feedsAs_121 : decode cX7_feedsAs 121 = .ok (.iload_n 1, 1) := by decide +kernel
theorem dX7_feedsAs_122 : decode cX7_feedsAs 122 = .ok (.invokestatic 237, 3) := by decide +kernel
theorem dX7_feedsAs_125 : decode cX7_feedsAs 125 = .ok (.iload_n 2, 1) := by decide +kernel
theorem dX7_feedsAs_126 : decode cX7_feedsAs 126 = .ok (.invokevirtual 246, 3) := by decide +kernel
theorem dX7_feedsAs_129 : decode cX7_feedsAs 129 = .ok (.ireturn, 1) := by decide +kernel
theorem gX7_hidesAs_X7_begins : GoodIn wsX7_hidesAs (wsV RX7 233 RX7 yX7_begins wsX7_begins) := nw_gV nwl_X7_hidesAs nwe_745 nwe_746 nwe_747 nwe_534 nwl_X7_begins (by decide +kernel)
theorem gX7_hidesAs_X7_kindNow : GoodIn wsX7_hidesAs (wsV RX7 243 RX7 yX7_kindNow wsX7_kindNow) := nw_gV nwl_X7_hidesAs nwe_753 nwe_754 nwe_755 nwe_534 nwl_X7_kindNow (by decide +kernel)
theorem gX7_hidesAs_X7_feedsAs : GoodIn wsX7_hidesAs (wsV RX7 246 RX7 yX7_feedsAs wsX7_feedsAs) := nw_gV nwl_X7_hidesAs nwe_756 nwe_757 nwe_758 nwe_534 nwl_X7_feedsAs (by decide +kernel)
theorem gX7_hidesAs_X7_mNow : GoodIn wsX7_hidesAs (wsV RX7 249 RX7 yX7_mNow wsX7_mNow) := nw_gV nwl_X7_hidesAs nwe_759 nwe_760 nwe_761 nwe_534 nwl_X7_mNow (by decide +kernel)
theorem gX7_hidesAs_X7_above : GoodIn wsX7_hidesAs (va_wsS RX7 237 yX7_above wsX7_above) := nw_gS nwl_X7_hidesAs nwe_748 nwe_749 nwe_534 nwl_X7_above (by decide +kernel)
theorem gX7_hidesAs_X7_hidesAs : GoodIn wsX7_hidesAs (wsV RX7 252 RX7 yX7_hidesAs wsX7_hidesAs) := nw_gV nwl_X7_hidesAs nwe_763 nwe_764 nwe_765 nwe_534 nwl_X7_hidesAs (by decide +kernel)
theorem dX7_hidesAs_0 : decode cX7_hidesAs 0 = .ok (.iload_n 1, 1) := by decide +kernel
theorem dX7_hidesAs_1 : decode cX7_hidesAs 1 = .ok (.tableswitch 95 0 4 #[35, 95, 95, 56, 74], 35) := by decide +kernel
theorem dX7_hidesAs_36 : decode cX7_hidesAs 36 = .ok (.aload_n 0, 1) := by decide +kernel
theorem dX7_hidesAs_37 : decode cX7_hidesAs 37 = .ok (.bipush 12, 2) := by decide +kernel
theorem dX7_hidesAs_39 : decode cX7_hidesAs 39 = .ok (.invokevirtual 233, 3) := by decide +kernel
theorem dX7_hidesAs_42 : decode cX7_hidesAs 42 = .ok (.aload_n 0, 1) := by decide +kernel
theorem dX7_hidesAs_43 : decode cX7_hidesAs 43 = .ok (.aload_n 0, 1) := by decide +kernel
theorem dX7_hidesAs_44 : decode cX7_hidesAs 44 = .ok (.invokevirtual 243, 3) := by decide +kernel
theorem dX7_hidesAs_47 : decode cX7_hidesAs 47 = .ok (.iload_n 2, 1) := by decide +kernel
theorem dX7_hidesAs_48 : decode cX7_hidesAs 48 = .ok (.invokevirtual 246, 3) := by decide +kernel
theorem dX7_hidesAs_51 : decode cX7_hidesAs 51 = .ok (.aload_n 0, 1) := by decide +kernel
theorem dX7_hidesAs_52 : decode cX7_hidesAs 52 = .ok (.invokevirtual 249, 3) := by decide +kernel
theorem dX7_hidesAs_55 : decode cX7_hidesAs 55 = .ok (.isub, 1) := by decide +kernel
theorem dX7_hidesAs_56 : decode cX7_hidesAs 56 = .ok (.ireturn, 1) := by decide +kernel
theorem dX7_hidesAs_57 : decode cX7_hidesAs 57 = .ok (.aload_n 0, 1) := by decide +kernel
theorem dX7_hidesAs_58 : decode cX7_hidesAs 58 = .ok (.bipush 40, 2) := by decide +kernel
theorem dX7_hidesAs_60 : decode cX7_hidesAs 60 = .ok (.invokevirtual 233, 3) := by decide +kernel
theorem dX7_hidesAs_63 : decode cX7_hidesAs 63 = .ok (.aload_n 0, 1) := by decide +kernel
theorem dX7_hidesAs_64 : decode cX7_hidesAs 64 = .ok (.iconst 3, 1) := by decide +kernel
theorem dX7_hidesAs_65 : decode cX7_hidesAs 65 = .ok (.invokestatic 237, 3) := by decide +kernel
theorem dX7_hidesAs_68 : decode cX7_hidesAs 68 = .ok (.iload_n 2, 1) := by decide +kernel
theorem dX7_hidesAs_69 : decode cX7_hidesAs 69 = .ok (.iconst 2, 1) := by decide +kernel
theorem dX7_hidesAs_70 : decode cX7_hidesAs 70 = .ok (.idiv, 1) := by decide +kernel
theorem dX7_hidesAs_71 : decode cX7_hidesAs 71 = .ok (.invokevirtual 252, 3) := by decide +kernel
theorem dX7_hidesAs_74 : decode cX7_hidesAs 74 = .ok (.ireturn, 1) := by decide +kernel
theorem dX7_hidesAs_75 : decode cX7_hidesAs 75 = .ok (.aload_n 0, 1) := by decide +kernel
theorem dX7_hidesAs_76 : decode cX7_hidesAs 76 = .ok (.bipush 51, 2) := by decide +kernel
theorem dX7_hidesAs_78 : decode cX7_hidesAs 78 = .ok (.invokevirtual 233, 3) := by decide +kernel
theorem dX7_hidesAs_81 : decode cX7_hidesAs 81 = .ok (.aload_n 0, 1) := by decide +kernel
theorem dX7_hidesAs_82 : decode cX7_hidesAs 82 = .ok (.iconst 4, 1) := by decide +kernel
theorem dX7_hidesAs_83 : decode cX7_hidesAs 83 = .ok (.invokestatic 237, 3) := by decide +kernel
theorem dX7_hidesAs_86 : decode cX7_hidesAs 86 = .ok (.iload_n 2, 1) := by decide +kernel
theorem dX7_hidesAs_87 : decode cX7_hidesAs 87 = .ok (.invokevirtual 252, 3) := by decide +kernel
theorem dX7_hidesAs_90 : decode cX7_hidesAs 90 = .ok (.aload_n 0, 1) := by decide +kernel
theorem dX7_hidesAs_91 : decode cX7_hidesAs 91 = .ok (.getfield 230, 3) := by decide +kernel
theorem dX7_hidesAs_94 : decode cX7_hidesAs 94 = .ok (.ixor, 1) := by decide +kernel
theorem dX7_hidesAs_95 : decode cX7_hidesAs 95 = .ok (.ireturn, 1) := by decide +kernel
theorem dX7_hidesAs_96 : decode cX7_hidesAs 96 = .ok (.aload_n 0, 1) := by decide +kernel
theorem dX7_hidesAs_97 : decode cX7_hidesAs 97 = .ok (.iload_n 1, 1) := by decide +kernel
theorem dX7_hidesAs_98 : decode cX7_hidesAs 98 = .ok (.invokestatic 237, 3) := by decide +kernel
theorem dX7_hidesAs_101 : decode cX7_hidesAs 101 = .ok (.iload_n 2, 1) := by decide +kernel
theorem dX7_hidesAs_102 : decode cX7_hidesAs 102 = .ok (.invokevirtual 252, 3) := by decide +kernel
theorem dX7_hidesAs_105 : decode cX7_hidesAs 105 = .ok (.ireturn, 1) := by decide +kernel
theorem gX7_partsAs_X7_begins : GoodIn wsX7_partsAs (wsV RX7 233 RX7 yX7_begins wsX7_begins) := nw_gV nwl_X7_partsAs nwe_745 nwe_746 nwe_747 nwe_534 nwl_X7_begins (by decide +kernel)
theorem gX7_partsAs_X7_mNow : GoodIn wsX7_partsAs (wsV RX7 249 RX7 yX7_mNow wsX7_mNow) := nw_gV nwl_X7_partsAs nwe_759 nwe_760 nwe_761 nwe_534 nwl_X7_mNow (by decide +kernel)
theorem gX7_partsAs_X7_above : GoodIn wsX7_partsAs (va_wsS RX7 237 yX7_above wsX7_above) := nw_gS nwl_X7_partsAs nwe_748 nwe_749 nwe_534 nwl_X7_above (by decide +kernel)
theorem gX7_partsAs_X7_partsAs : GoodIn wsX7_partsAs (wsV RX7 259 RX7 yX7_partsAs wsX7_partsAs) := nw_gV nwl_X7_partsAs nwe_768 nwe_769 nwe_770 nwe_534 nwl_X7_partsAs (by decide +kernel)
theorem gX7_partsAs_X7_kindNow : GoodIn wsX7_partsAs (wsV RX7 243 RX7 yX7_kindNow wsX7_kindNow) := nw_gV nwl_X7_partsAs nwe_753 nwe_754 nwe_755 nwe_534 nwl_X7_kindNow (by decide +kernel)
theorem gX7_partsAs_X7_feedsAs : GoodIn wsX7_partsAs (wsV RX7 246 RX7 yX7_feedsAs wsX7_feedsAs) := nw_gV nwl_X7_partsAs nwe_756 nwe_757 nwe_758 nwe_534 nwl_X7_feedsAs (by decide +kernel)
theorem dX7_partsAs_0 : decode cX7_partsAs 0 = .ok (.iload_n 1, 1) := by decide +kernel
theorem dX7_partsAs_1 : decode cX7_partsAs 1 = .ok (.lookupswitch 119 #[(0, 27), (1, 78)], 27) := by decide +kernel
theorem dX7_partsAs_28 : decode cX7_partsAs 28 = .ok (.aload_n 0, 1) := by decide +kernel
theorem dX7_partsAs_29 : decode cX7_partsAs 29 = .ok (.bipush 13, 2) := by decide +kernel
theorem dX7_partsAs_31 : decode cX7_partsAs 31 = .ok (.invokevirtual 233, 3) := by decide +kernel
theorem dX7_partsAs_34 : decode cX7_partsAs 34 = .ok (.aload_n 0, 1) := by decide +kernel
theorem dX7_partsAs_35 : decode cX7_partsAs 35 = .ok (.invokevirtual 249, 3) := by decide +kernel
theorem dX7_partsAs_38 : decode cX7_partsAs 38 = .ok (.aload_n 0, 1) := by decide +kernel
theorem dX7_partsAs_39 : decode cX7_partsAs 39 = .ok (.getfield 230, 3) := by decide +kernel
theorem dX7_partsAs_42 : decode cX7_partsAs 42 = .ok (.isub, 1) := by decide +kernel
theorem dX7_partsAs_43 : decode cX7_partsAs 43 = .ok (.istore_n 3, 1) := by decide +kernel
theorem dX7_partsAs_44 : decode cX7_partsAs 44 = .ok (.aload_n 0, 1) := by decide +kernel
theorem dX7_partsAs_45 : decode cX7_partsAs 45 = .ok (.iload_n 3, 1) := by decide +kernel
theorem dX7_partsAs_46 : decode cX7_partsAs 46 = .ok (.ifCond .ne 7, 3) := by decide +kernel
theorem dX7_partsAs_49 : decode cX7_partsAs 49 = .ok (.iconst 1, 1) := by decide +kernel
theorem dX7_partsAs_50 : decode cX7_partsAs 50 = .ok (.goto 4, 3) := by decide +kernel
theorem dX7_partsAs_53 : decode cX7_partsAs 53 = .ok (.iconst 0, 1) := by decide +kernel
theorem dX7_partsAs_54 : decode cX7_partsAs 54 = .ok (.putfield 255, 3) := by decide +kernel
theorem dX7_partsAs_57 : decode cX7_partsAs 57 = .ok (.iload_n 3, 1) := by decide +kernel
theorem dX7_partsAs_58 : decode cX7_partsAs 58 = .ok (.ifCond .ne 7, 3) := by decide +kernel
theorem dX7_partsAs_61 : decode cX7_partsAs 61 = .ok (.iconst 0, 1) := by decide +kernel
theorem dX7_partsAs_62 : decode cX7_partsAs 62 = .ok (.goto 16, 3) := by decide +kernel
theorem dX7_partsAs_65 : decode cX7_partsAs 65 = .ok (.iload_n 3, 1) := by decide +kernel
theorem dX7_partsAs_66 : decode cX7_partsAs 66 = .ok (.iconst (-1), 1) := by decide +kernel
theorem dX7_partsAs_67 : decode cX7_partsAs 67 = .ok (.if_icmp .ne 8, 3) := by decide +kernel
theorem dX7_partsAs_70 : decode cX7_partsAs 70 = .ok (.iload_n 2, 1) := by decide +kernel
theorem dX7_partsAs_71 : decode cX7_partsAs 71 = .ok (.ineg, 1) := by decide +kernel
theorem dX7_partsAs_72 : decode cX7_partsAs 72 = .ok (.goto 6, 3) := by decide +kernel
theorem dX7_partsAs_75 : decode cX7_partsAs 75 = .ok (.iload_n 2, 1) := by decide +kernel
theorem dX7_partsAs_76 : decode cX7_partsAs 76 = .ok (.iload_n 3, 1) := by decide +kernel
theorem dX7_partsAs_77 : decode cX7_partsAs 77 = .ok (.idiv, 1) := by decide +kernel
theorem dX7_partsAs_78 : decode cX7_partsAs 78 = .ok (.ireturn, 1) := by decide +kernel
theorem dX7_partsAs_79 : decode cX7_partsAs 79 = .ok (.aload_n 0, 1) := by decide +kernel
theorem dX7_partsAs_80 : decode cX7_partsAs 80 = .ok (.bipush 21, 2) := by decide +kernel
theorem dX7_partsAs_82 : decode cX7_partsAs 82 = .ok (.invokevirtual 233, 3) := by decide +kernel
theorem dX7_partsAs_85 : decode cX7_partsAs 85 = .ok (.aload_n 0, 1) := by decide +kernel
theorem dX7_partsAs_86 : decode cX7_partsAs 86 = .ok (.iconst 1, 1) := by decide +kernel
theorem dX7_partsAs_87 : decode cX7_partsAs 87 = .ok (.invokestatic 237, 3) := by decide +kernel
theorem dX7_partsAs_90 : decode cX7_partsAs 90 = .ok (.iload_n 2, 1) := by decide +kernel
theorem dX7_partsAs_91 : decode cX7_partsAs 91 = .ok (.invokevirtual 259, 3) := by decide +kernel
theorem dX7_partsAs_94 : decode cX7_partsAs 94 = .ok (.istore 4, 2) := by decide +kernel
theorem dX7_partsAs_96 : decode cX7_partsAs 96 = .ok (.aload_n 0, 1) := by decide +kernel
theorem dX7_partsAs_97 : decode cX7_partsAs 97 = .ok (.getfield 255, 3) := by decide +kernel
theorem dX7_partsAs_100 : decode cX7_partsAs 100 = .ok (.ifCond .eq 7, 3) := by decide +kernel
theorem dX7_partsAs_103 : decode cX7_partsAs 103 = .ok (.iconst 0, 1) := by decide +kernel
theorem dX7_partsAs_104 : decode cX7_partsAs 104 = .ok (.goto 15, 3) := by decide +kernel
theorem dX7_partsAs_107 : decode cX7_partsAs 107 = .ok (.iload 4, 2) := by decide +kernel
theorem dX7_partsAs_109 : decode cX7_partsAs 109 = .ok (.aload_n 0, 1) := by decide +kernel
theorem dX7_partsAs_110 : decode cX7_partsAs 110 = .ok (.aload_n 0, 1) := by decide +kernel
theorem dX7_partsAs_111 : decode cX7_partsAs 111 = .ok (.invokevirtual 243, 3) := by decide +kernel
theorem dX7_partsAs_114 : decode cX7_partsAs 114 = .ok (.iconst 1, 1) := by decide +kernel
theorem dX7_partsAs_115 : decode cX7_partsAs 115 = .ok (.invokevirtual 246, 3) := by decide +kernel
theorem dX7_partsAs_118 : decode cX7_partsAs 118 = .ok (.iadd, 1) := by decide +kernel
theorem dX7_partsAs_119 : decode cX7_partsAs 119 = .ok (.ireturn, 1) := by decide +kernel
theorem dX7_partsAs_120 : decode cX7_partsAs 120 = .ok (.aload_n 0, 1) := by decide +kernel
theorem dX7_partsAs_121 : decode cX7_partsAs 121 = .ok (.iload_n 1, 1) := by decide +kernel
theorem dX7_partsAs_122 : decode cX7_partsAs 122 = .ok (.invokestatic 237, 3) := by decide +kernel
theorem dX7_partsAs_125 : decode cX7_partsAs 125 = .ok (.iload_n 2, 1) := by decide +kernel
theorem dX7_partsAs_126 : decode cX7_partsAs 126 = .ok (.invokevirtual 259, 3) := by decide +kernel
theorem dX7_partsAs_129 : decode cX7_partsAs 129 = .ok (.ireturn, 1) := by decide +kernel
theorem gX7_voice_X7_isFarmer : GoodIn wsX7_voice (va_wsS RX7 178 yX7_isFarmer wsX7_isFarmer) := nw_gS nwl_X7_voice nwe_670 nwe_671 nwe_534 nwl_X7_isFarmer (by decide +kernel)
theorem gX7_voice_X7_in : GoodIn wsX7_voice (va_wsS RX7 68 yX7_in wsX7_in) := nw_gS nwl_X7_voice nwe_546 nwe_547 nwe_534 nwl_X7_in (by decide +kernel)
theorem gX7_voice_X7_error : GoodIn wsX7_voice (wsV RX7 76 RX7 yX7_error wsX7_error) := nw_gV nwl_X7_voice nwe_558 nwe_559 nwe_560 nwe_534 nwl_X7_error (by decide +kernel)
theorem gX7_voice_X7_kindNow : GoodIn wsX7_voice (wsV RX7 243 RX7 yX7_kindNow wsX7_kindNow) := nw_gV nwl_X7_voice nwe_753 nwe_754 nwe_755 nwe_534 nwl_X7_kindNow (by decide +kernel)
theorem gX7_voice_X7_leadsAs : GoodIn wsX7_voice (wsV RX7 240 RX7 yX7_leadsAs wsX7_leadsAs) := nw_gV nwl_X7_voice nwe_750 nwe_751 nwe_752 nwe_534 nwl_X7_leadsAs (by decide +kernel)
theorem gX7_voice_X7_feedsAs : GoodIn wsX7_voice (wsV RX7 246 RX7 yX7_feedsAs wsX7_feedsAs) := nw_gV nwl_X7_voice nwe_756 nwe_757 nwe_758 nwe_534 nwl_X7_feedsAs (by decide +kernel)
theorem gX7_voice_X7_hidesAs : GoodIn wsX7_voice (wsV RX7 252 RX7 yX7_hidesAs wsX7_hidesAs) := nw_gV nwl_X7_voice nwe_763 nwe_764 nwe_765 nwe_534 nwl_X7_hidesAs (by decide +kernel)
theorem gX7_voice_X7_partsAs : GoodIn wsX7_voice (wsV RX7 259 RX7 yX7_partsAs wsX7_partsAs) := nw_gV nwl_X7_voice nwe_768 nwe_769 nwe_770 nwe_534 nwl_X7_partsAs (by decide +kernel)
theorem dX7_voice_0 : decode cX7_voice 0 = .ok (.iload_n 1, 1) := by decide +kernel
theorem dX7_voice_1 : decode cX7_voice 1 = .ok (.invokestatic 178, 3) := by decide +kernel
theorem dX7_voice_4 : decode cX7_voice 4 = .ok (.ifCond .eq 12, 3) := by decide +kernel
theorem dX7_voice_7 : decode cX7_voice 7 = .ok (.iload_n 2, 1) := by decide +kernel
theorem dX7_voice_8 : decode cX7_voice 8 = .ok (.iconst 0, 1) := by decide +kernel
theorem dX7_voice_9 : decode cX7_voice 9 = .ok (.iconst 3, 1) := by decide +kernel
theorem dX7_voice_10 : decode cX7_voice 10 = .ok (.invokestatic 68, 3) := by decide +kernel
theorem dX7_voice_13 : decode cX7_voice 13 = .ok (.ifCond .ne 9, 3) := by decide +kernel
theorem dX7_voice_16 : decode cX7_voice 16 = .ok (.aload_n 0, 1) := by decide +kernel
theorem dX7_voice_17 : decode cX7_voice 17 = .ok (.iconst 1, 1) := by decide +kernel
theorem dX7_voice_18 : decode cX7_voice 18 = .ok (.invokevirtual 76, 3) := by decide +kernel
theorem dX7_voice_21 : decode cX7_voice 21 = .ok (.ireturn, 1) := by decide +kernel
theorem dX7_voice_22 : decode cX7_voice 22 = .ok (.aload_n 0, 1) := by decide +kernel
theorem dX7_voice_23 : decode cX7_voice 23 = .ok (.iconst 0, 1) := by decide +kernel
theorem dX7_voice_24 : decode cX7_voice 24 = .ok (.putfield 227, 3) := by decide +kernel
theorem dX7_voice_27 : decode cX7_voice 27 = .ok (.aload_n 0, 1) := by decide +kernel
theorem dX7_voice_28 : decode cX7_voice 28 = .ok (.iload_n 1, 1) := by decide +kernel
theorem dX7_voice_29 : decode cX7_voice 29 = .ok (.putfield 230, 3) := by decide +kernel
theorem dX7_voice_32 : decode cX7_voice 32 = .ok (.aload_n 0, 1) := by decide +kernel
theorem dX7_voice_33 : decode cX7_voice 33 = .ok (.iconst 0, 1) := by decide +kernel
theorem dX7_voice_34 : decode cX7_voice 34 = .ok (.putfield 255, 3) := by decide +kernel
theorem dX7_voice_37 : decode cX7_voice 37 = .ok (.aload_n 0, 1) := by decide +kernel
theorem dX7_voice_38 : decode cX7_voice 38 = .ok (.invokevirtual 243, 3) := by decide +kernel
theorem dX7_voice_41 : decode cX7_voice 41 = .ok (.istore 4, 2) := by decide +kernel
theorem dX7_voice_43 : decode cX7_voice 43 = .ok (.iload_n 2, 1) := by decide +kernel
theorem dX7_voice_44 : decode cX7_voice 44 = .ok (.ifCond .ne 13, 3) := by decide +kernel
theorem dX7_voice_47 : decode cX7_voice 47 = .ok (.aload_n 0, 1) := by decide +kernel
theorem dX7_voice_48 : decode cX7_voice 48 = .ok (.iload 4, 2) := by decide +kernel
theorem dX7_voice_50 : decode cX7_voice 50 = .ok (.iload_n 3, 1) := by decide +kernel
theorem dX7_voice_51 : decode cX7_voice 51 = .ok (.invokevirtual 240, 3) := by decide +kernel
theorem dX7_voice_54 : decode cX7_voice 54 = .ok (.goto 40, 3) := by decide +kernel
theorem dX7_voice_57 : decode cX7_voice 57 = .ok (.iload_n 2, 1) := by decide +kernel
theorem dX7_voice_58 : decode cX7_voice 58 = .ok (.iconst 1, 1) := by decide +kernel
theorem dX7_voice_59 : decode cX7_voice 59 = .ok (.if_icmp .ne 13, 3) := by decide +kernel
theorem dX7_voice_62 : decode cX7_voice 62 = .ok (.aload_n 0, 1) := by decide +kernel
theorem dX7_voice_63 : decode cX7_voice 63 = .ok (.iload 4, 2) := by decide +kernel
theorem dX7_voice_65 : decode cX7_voice 65 = .ok (.iload_n 3, 1) := by decide +kernel
theorem dX7_voice_66 : decode cX7_voice 66 = .ok (.invokevirtual 246, 3) := by decide +kernel
theorem dX7_voice_69 : decode cX7_voice 69 = .ok (.goto 25, 3) := by decide +kernel
theorem dX7_voice_72 : decode cX7_voice 72 = .ok (.iload_n 2, 1) := by decide +kernel
theorem dX7_voice_73 : decode cX7_voice 73 = .ok (.iconst 2, 1) := by decide +kernel
theorem dX7_voice_74 : decode cX7_voice 74 = .ok (.if_icmp .ne 13, 3) := by decide +kernel
theorem dX7_voice_77 : decode cX7_voice 77 = .ok (.aload_n 0, 1) := by decide +kernel
theorem dX7_voice_78 : decode cX7_voice 78 = .ok (.iload 4, 2) := by decide +kernel
theorem dX7_voice_80 : decode cX7_voice 80 = .ok (.iload_n 3, 1) := by decide +kernel
theorem dX7_voice_81 : decode cX7_voice 81 = .ok (.invokevirtual 252, 3) := by decide +kernel
theorem dX7_voice_84 : decode cX7_voice 84 = .ok (.goto 10, 3) := by decide +kernel
theorem dX7_voice_87 : decode cX7_voice 87 = .ok (.aload_n 0, 1) := by decide +kernel
theorem dX7_voice_88 : decode cX7_voice 88 = .ok (.iload 4, 2) := by decide +kernel
theorem dX7_voice_90 : decode cX7_voice 90 = .ok (.iload_n 3, 1) := by decide +kernel
theorem dX7_voice_91 : decode cX7_voice 91 = .ok (.invokevirtual 259, 3) := by decide +kernel
theorem dX7_voice_94 : decode cX7_voice 94 = .ok (.istore 5, 2) := by decide +kernel
theorem dX7_voice_96 : decode cX7_voice 96 = .ok (.aload_n 0, 1) := by decide +kernel
theorem dX7_voice_97 : decode cX7_voice 97 = .ok (.getfield 255, 3) := by decide +kernel
theorem dX7_voice_100 : decode cX7_voice 100 = .ok (.ifCond .eq 12, 3) := by decide +kernel
theorem dX7_voice_103 : decode cX7_voice 103 = .ok (.aload_n 0, 1) := by decide +kernel
theorem dX7_voice_104 : decode cX7_voice 104 = .ok (.bipush 6, 2) := by decide +kernel
theorem dX7_voice_106 : decode cX7_voice 106 = .ok (.invokevirtual 76, 3) := by decide +kernel
theorem dX7_voice_109 : decode cX7_voice 109 = .ok (.goto 5, 3) := by decide +kernel
theorem dX7_voice_112 : decode cX7_voice 112 = .ok (.iload 5, 2) := by decide +kernel
theorem dX7_voice_114 : decode cX7_voice 114 = .ok (.ireturn, 1) := by decide +kernel
theorem gX7_body_X7_in : GoodIn wsX7_body (va_wsS RX7 68 yX7_in wsX7_in) := nw_gS nwl_X7_body nwe_546 nwe_547 nwe_534 nwl_X7_in (by decide +kernel)
theorem gX7_body_X7_error : GoodIn wsX7_body (wsV RX7 76 RX7 yX7_error wsX7_error) := nw_gV nwl_X7_body nwe_558 nwe_559 nwe_560 nwe_534 nwl_X7_error (by decide +kernel)
theorem dX7_body_0 : decode cX7_body 0 = .ok (.iload_n 1, 1) := by decide +kernel
theorem dX7_body_1 : decode cX7_body 1 = .ok (.iconst 0, 1) := by decide +kernel
theorem dX7_body_2 : decode cX7_body 2 = .ok (.aload_n 0, 1) := by decide +kernel
theorem dX7_body_3 : decode cX7_body 3 = .ok (.getfield 227, 3) := by decide +kernel
theorem dX7_body_6 : decode cX7_body 6 = .ok (.iconst 1, 1) := by decide +kernel
theorem dX7_body_7 : decode cX7_body 7 = .ok (.isub, 1) := by decide +kernel
theorem dX7_body_8 : decode cX7_body 8 = .ok (.invokestatic 68, 3) := by decide +kernel
theorem dX7_body_11 : decode cX7_body 11 = .ok (.ifCond .eq 12, 3) := by decide +kernel
theorem dX7_body_14 : decode cX7_body 14 = .ok (.aload_n 0, 1) := by decide +kernel
theorem dX7_body_15 : decode cX7_body 15 = .ok (.getfield 44, 3) := by decide +kernel
theorem dX7_body_18 : decode cX7_body 18 = .ok (.iload_n 1, 1) := by decide +kernel
theorem dX7_body_19 : decode cX7_body 19 = .ok (.iaload, 1) := by decide +kernel
theorem dX7_body_20 : decode cX7_body 20 = .ok (.goto 8, 3) := by decide +kernel
theorem dX7_body_23 : decode cX7_body 23 = .ok (.aload_n 0, 1) := by decide +kernel
theorem dX7_body_24 : decode cX7_body 24 = .ok (.iconst 2, 1) := by decide +kernel
theorem dX7_body_25 : decode cX7_body 25 = .ok (.invokevirtual 76, 3) := by decide +kernel
theorem dX7_body_28 : decode cX7_body 28 = .ok (.ireturn, 1) := by decide +kernel
theorem gX7_isSheet_X7_in : GoodIn wsX7_isSheet (va_wsS RX7 68 yX7_in wsX7_in) := nw_gS nwl_X7_isSheet nwe_546 nwe_547 nwe_534 nwl_X7_in (by decide +kernel)
theorem dX7_isSheet_0 : decode cX7_isSheet 0 = .ok (.iload_n 0, 1) := by decide +kernel
theorem dX7_isSheet_1 : decode cX7_isSheet 1 = .ok (.iconst 0, 1) := by decide +kernel
theorem dX7_isSheet_2 : decode cX7_isSheet 2 = .ok (.iconst 3, 1) := by decide +kernel
theorem dX7_isSheet_3 : decode cX7_isSheet 3 = .ok (.invokestatic 68, 3) := by decide +kernel
theorem dX7_isSheet_6 : decode cX7_isSheet 6 = .ok (.ireturn, 1) := by decide +kernel
theorem gX7_sheet_X7_isSheet : GoodIn wsX7_sheet (va_wsS RX7 220 yX7_isSheet wsX7_isSheet) := nw_gS nwl_X7_sheet nwe_732 nwe_733 nwe_534 nwl_X7_isSheet (by decide +kernel)
theorem gX7_sheet_X7_error : GoodIn wsX7_sheet (wsV RX7 76 RX7 yX7_error wsX7_error) := nw_gV nwl_X7_sheet nwe_558 nwe_559 nwe_560 nwe_534 nwl_X7_error (by decide +kernel)
theorem dX7_sheet_0 : decode cX7_sheet 0 = .ok (.iload_n 1, 1) := by decide +kernel
theorem dX7_sheet_1 : decode cX7_sheet 1 = .ok (.invokestatic 220, 3) := by decide +kernel
theorem dX7_sheet_4 : decode cX7_sheet 4 = .ok (.ifCond .eq 25, 3) := by decide +kernel
theorem dX7_sheet_7 : decode cX7_sheet 7 = .ok (.iload_n 2, 1) := by decide +kernel
theorem dX7_sheet_8 : decode cX7_sheet 8 = .ok (.ifCond .eq 27, 3) := by decide +kernel
theorem dX7_sheet_11 : decode cX7_sheet 11 = .ok (.iload_n 2, 1) := by decide +kernel
theorem dX7_sheet_12 : decode cX7_sheet 12 = .ok (.bipush 8, 2) := by decide +kernel
theorem dX7_sheet_14 : decode cX7_sheet 14 = .ok (.if_icmp .eq 21, 3) := by decide +kernel
theorem dX7_sheet_17 : decode cX7_sheet 17 = .ok (.iload_n 2, 1) := by decide +kernel
theorem dX7_sheet_18 : decode cX7_sheet 18 = .ok (.bipush 16, 2) := by decide +kernel
theorem dX7_sheet_20 : decode cX7_sheet 20 = .ok (.if_icmp .eq 15, 3) := by decide +kernel
theorem dX7_sheet_23 : decode cX7_sheet 23 = .ok (.iload_n 2, 1) := by decide +kernel
theorem dX7_sheet_24 : decode cX7_sheet 24 = .ok (.bipush 32, 2) := by decide +kernel
theorem dX7_sheet_26 : decode cX7_sheet 26 = .ok (.if_icmp .eq 9, 3) := by decide +kernel
theorem dX7_sheet_29 : decode cX7_sheet 29 = .ok (.aload_n 0, 1) := by decide +kernel
theorem dX7_sheet_30 : decode cX7_sheet 30 = .ok (.iconst 1, 1) := by decide +kernel
theorem dX7_sheet_31 : decode cX7_sheet 31 = .ok (.invokevirtual 76, 3) := by decide +kernel
theorem dX7_sheet_34 : decode cX7_sheet 34 = .ok (.ireturn, 1) := by decide +kernel
theorem dX7_sheet_35 : decode cX7_sheet 35 = .ok (.iload_n 2, 1) := by decide +kernel
theorem dX7_sheet_36 : decode cX7_sheet 36 = .ok (.ifCond .eq 13, 3) := by decide +kernel
theorem dX7_sheet_39 : decode cX7_sheet 39 = .ok (.iload_n 3, 1) := by decide +kernel
theorem dX7_sheet_40 : decode cX7_sheet 40 = .ok (.ifCond .ge 9, 3) := by decide +kernel
theorem dX7_sheet_43 : decode cX7_sheet 43 = .ok (.aload_n 0, 1) := by decide +kernel
theorem dX7_sheet_44 : decode cX7_sheet 44 = .ok (.iconst 3, 1) := by decide +kernel
theorem dX7_sheet_45 : decode cX7_sheet 45 = .ok (.invokevirtual 76, 3) := by decide +kernel
theorem dX7_sheet_48 : decode cX7_sheet 48 = .ok (.ireturn, 1) := by decide +kernel
theorem dX7_sheet_49 : decode cX7_sheet 49 = .ok (.iload_n 2, 1) := by decide +kernel
theorem dX7_sheet_50 : decode cX7_sheet 50 = .ok (.ifCond .eq 15, 3) := by decide +kernel
theorem dX7_sheet_53 : decode cX7_sheet 53 = .ok (.iload_n 3, 1) := by decide +kernel
theorem dX7_sheet_54 : decode cX7_sheet 54 = .ok (.bipush 24, 2) := by decide +kernel
theorem dX7_sheet_56 : decode cX7_sheet 56 = .ok (.if_icmp .le 9, 3) := by decide +kernel
theorem dX7_sheet_59 : decode cX7_sheet 59 = .ok (.aload_n 0, 1) := by decide +kernel
theorem dX7_sheet_60 : decode cX7_sheet 60 = .ok (.iconst 1, 1) := by decide +kernel
theorem dX7_sheet_61 : decode cX7_sheet 61 = .ok (.invokevirtual 76, 3) := by decide +kernel
theorem dX7_sheet_64 : decode cX7_sheet 64 = .ok (.ireturn, 1) := by decide +kernel
theorem dX7_sheet_65 : decode cX7_sheet 65 = .ok (.aload_n 0, 1) := by decide +kernel
theorem dX7_sheet_66 : decode cX7_sheet 66 = .ok (.getfield 47, 3) := by decide +kernel
theorem dX7_sheet_69 : decode cX7_sheet 69 = .ok (.iload_n 1, 1) := by decide +kernel
theorem dX7_sheet_70 : decode cX7_sheet 70 = .ok (.iload_n 2, 1) := by decide +kernel
theorem dX7_sheet_71 : decode cX7_sheet 71 = .ok (.iastore, 1) := by decide +kernel
theorem dX7_sheet_72 : decode cX7_sheet 72 = .ok (.aload_n 0, 1) := by decide +kernel
theorem dX7_sheet_73 : decode cX7_sheet 73 = .ok (.getfield 50, 3) := by decide +kernel
theorem dX7_sheet_76 : decode cX7_sheet 76 = .ok (.iload_n 1, 1) := by decide +kernel
theorem dX7_sheet_77 : decode cX7_sheet 77 = .ok (.iload_n 2, 1) := by decide +kernel
theorem dX7_sheet_78 : decode cX7_sheet 78 = .ok (.ifCond .ne 7, 3) := by decide +kernel
theorem dX7_sheet_81 : decode cX7_sheet 81 = .ok (.iconst 0, 1) := by decide +kernel
theorem dX7_sheet_82 : decode cX7_sheet 82 = .ok (.goto 4, 3) := by decide +kernel
theorem dX7_sheet_85 : decode cX7_sheet 85 = .ok (.iload_n 3, 1) := by decide +kernel
theorem dX7_sheet_86 : decode cX7_sheet 86 = .ok (.iastore, 1) := by decide +kernel
theorem dX7_sheet_87 : decode cX7_sheet 87 = .ok (.iconst 0, 1) := by decide +kernel
theorem dX7_sheet_88 : decode cX7_sheet 88 = .ok (.istore 4, 2) := by decide +kernel
theorem dX7_sheet_90 : decode cX7_sheet 90 = .ok (.iload 4, 2) := by decide +kernel
theorem dX7_sheet_92 : decode cX7_sheet 92 = .ok (.bipush 24, 2) := by decide +kernel
theorem dX7_sheet_94 : decode cX7_sheet 94 = .ok (.if_icmp .ge 22, 3) := by decide +kernel
theorem dX7_sheet_97 : decode cX7_sheet 97 = .ok (.aload_n 0, 1) := by decide +kernel
theorem dX7_sheet_98 : decode cX7_sheet 98 = .ok (.getfield 53, 3) := by decide +kernel
theorem dX7_sheet_101 : decode cX7_sheet 101 = .ok (.bipush 24, 2) := by decide +kernel
theorem dX7_sheet_103 : decode cX7_sheet 103 = .ok (.iload_n 1, 1) := by decide +kernel
theorem dX7_sheet_104 : decode cX7_sheet 104 = .ok (.imul, 1) := by decide +kernel
theorem dX7_sheet_105 : decode cX7_sheet 105 = .ok (.iload 4, 2) := by decide +kernel
theorem dX7_sheet_107 : decode cX7_sheet 107 = .ok (.iadd, 1) := by decide +kernel
theorem dX7_sheet_108 : decode cX7_sheet 108 = .ok (.iconst 0, 1) := by decide +kernel
theorem dX7_sheet_109 : decode cX7_sheet 109 = .ok (.iastore, 1) := by decide +kernel
theorem dX7_sheet_110 : decode cX7_sheet 110 = .ok (.iinc 4 1, 3) := by decide +kernel
theorem dX7_sheet_113 : decode cX7_sheet 113 = .ok (.goto (-23), 3) := by decide +kernel
theorem dX7_sheet_116 : decode cX7_sheet 116 = .ok (.iconst 1, 1) := by decide +kernel
theorem dX7_sheet_117 : decode cX7_sheet 117 = .ok (.ireturn, 1) := by decide +kernel
theorem gX7_put_X7_isSheet : GoodIn wsX7_put (va_wsS RX7 220 yX7_isSheet wsX7_isSheet) := nw_gS nwl_X7_put nwe_732 nwe_733 nwe_534 nwl_X7_isSheet (by decide +kernel)
theorem gX7_put_X7_error : GoodIn wsX7_put (wsV RX7 76 RX7 yX7_error wsX7_error) := nw_gV nwl_X7_put nwe_558 nwe_559 nwe_560 nwe_534 nwl_X7_error (by decide +kernel)
theorem gX7_put_X7_in : GoodIn wsX7_put (va_wsS RX7 68 yX7_in wsX7_in) := nw_gS nwl_X7_put nwe_546 nwe_547 nwe_534 nwl_X7_in (by decide +kernel)
theorem dX7_put_0 : decode cX7_put 0 = .ok (.iload_n 1, 1) := by decide +kernel
theorem dX7_put_1 : decode cX7_put 1 = .ok (.invokestatic 220, 3) := by decide +kernel
theorem dX7_put_4 : decode cX7_put 4 = .ok (.ifCond .ne 9, 3) := by decide +kernel
theorem dX7_put_7 : decode cX7_put 7 = .ok (.aload_n 0, 1) := by decide +kernel
theorem dX7_put_8 : decode cX7_put 8 = .ok (.iconst 1, 1) := by decide +kernel
theorem dX7_put_9 : decode cX7_put 9 = .ok (.invokevirtual 76, 3) := by decide +kernel
theorem dX7_put_12 : decode cX7_put 12 = .ok (.ireturn, 1) := by decide +kernel
theorem dX7_put_13 : decode cX7_put 13 = .ok (.aload_n 0, 1) := by decide +kernel
theorem dX7_put_14 : decode cX7_put 14 = .ok (.getfield 47, 3) := by decide +kernel
theorem dX7_put_17 : decode cX7_put 17 = .ok (.iload_n 1, 1) := by decide +kernel
theorem dX7_put_18 : decode cX7_put 18 = .ok (.iaload, 1) := by decide +kernel
theorem dX7_put_19 : decode cX7_put 19 = .ok (.ifCond .ne 9, 3) := by decide +kernel
theorem dX7_put_22 : decode cX7_put 22 = .ok (.aload_n 0, 1) := by decide +kernel
theorem dX7_put_23 : decode cX7_put 23 = .ok (.iconst 2, 1) := by decide +kernel
theorem dX7_put_24 : decode cX7_put 24 = .ok (.invokevirtual 76, 3) := by decide +kernel
theorem dX7_put_27 : decode cX7_put 27 = .ok (.ireturn, 1) := by decide +kernel
theorem dX7_put_28 : decode cX7_put 28 = .ok (.iload_n 2, 1) := by decide +kernel
theorem dX7_put_29 : decode cX7_put 29 = .ok (.iconst 0, 1) := by decide +kernel
theorem dX7_put_30 : decode cX7_put 30 = .ok (.aload_n 0, 1) := by decide +kernel
theorem dX7_put_31 : decode cX7_put 31 = .ok (.getfield 50, 3) := by decide +kernel
theorem dX7_put_34 : decode cX7_put 34 = .ok (.iload_n 1, 1) := by decide +kernel
theorem dX7_put_35 : decode cX7_put 35 = .ok (.iaload, 1) := by decide +kernel
theorem dX7_put_36 : decode cX7_put 36 = .ok (.iconst 1, 1) := by decide +kernel
theorem dX7_put_37 : decode cX7_put 37 = .ok (.isub, 1) := by decide +kernel
theorem dX7_put_38 : decode cX7_put 38 = .ok (.invokestatic 68, 3) := by decide +kernel
theorem dX7_put_41 : decode cX7_put 41 = .ok (.ifCond .ne 9, 3) := by decide +kernel
theorem dX7_put_44 : decode cX7_put 44 = .ok (.aload_n 0, 1) := by decide +kernel
theorem dX7_put_45 : decode cX7_put 45 = .ok (.iconst 1, 1) := by decide +kernel
theorem dX7_put_46 : decode cX7_put 46 = .ok (.invokevirtual 76, 3) := by decide +kernel
theorem dX7_put_49 : decode cX7_put 49 = .ok (.ireturn, 1) := by decide +kernel
theorem dX7_put_50 : decode cX7_put 50 = .ok (.bipush 32, 2) := by decide +kernel
theorem dX7_put_52 : decode cX7_put 52 = .ok (.aload_n 0, 1) := by decide +kernel
theorem dX7_put_53 : decode cX7_put 53 = .ok (.getfield 47, 3) := by decide +kernel
theorem dX7_put_56 : decode cX7_put 56 = .ok (.iload_n 1, 1) := by decide +kernel
theorem dX7_put_57 : decode cX7_put 57 = .ok (.iaload, 1) := by decide +kernel
theorem dX7_put_58 : decode cX7_put 58 = .ok (.isub, 1) := by decide +kernel
theorem dX7_put_59 : decode cX7_put 59 = .ok (.istore 4, 2) := by decide +kernel
theorem dX7_put_61 : decode cX7_put 61 = .ok (.aload_n 0, 1) := by decide +kernel
theorem dX7_put_62 : decode cX7_put 62 = .ok (.getfield 53, 3) := by decide +kernel
theorem dX7_put_65 : decode cX7_put 65 = .ok (.bipush 24, 2) := by decide +kernel
theorem dX7_put_67 : decode cX7_put 67 = .ok (.iload_n 1, 1) := by decide +kernel
theorem dX7_put_68 : decode cX7_put 68 = .ok (.imul, 1) := by decide +kernel
theorem dX7_put_69 : decode cX7_put 69 = .ok (.iload_n 2, 1) := by decide +kernel
theorem dX7_put_70 : decode cX7_put 70 = .ok (.iadd, 1) := by decide +kernel
theorem dX7_put_71 : decode cX7_put 71 = .ok (.iload_n 3, 1) := by decide +kernel
theorem dX7_put_72 : decode cX7_put 72 = .ok (.iload 4, 2) := by decide +kernel
theorem dX7_put_74 : decode cX7_put 74 = .ok (.ishl, 1) := by decide +kernel
theorem dX7_put_75 : decode cX7_put 75 = .ok (.iload 4, 2) := by decide +kernel
theorem dX7_put_77 : decode cX7_put 77 = .ok (.ishr, 1) := by decide +kernel
theorem dX7_put_78 : decode cX7_put 78 = .ok (.iastore, 1) := by decide +kernel
theorem dX7_put_79 : decode cX7_put 79 = .ok (.iconst 1, 1) := by decide +kernel
theorem dX7_put_80 : decode cX7_put 80 = .ok (.ireturn, 1) := by decide +kernel
theorem gX7_move_X7_isSheet : GoodIn wsX7_move (va_wsS RX7 220 yX7_isSheet wsX7_isSheet) := nw_gS nwl_X7_move nwe_732 nwe_733 nwe_534 nwl_X7_isSheet (by decide +kernel)
theorem gX7_move_X7_error : GoodIn wsX7_move (wsV RX7 76 RX7 yX7_error wsX7_error) := nw_gV nwl_X7_move nwe_558 nwe_559 nwe_560 nwe_534 nwl_X7_error (by decide +kernel)
theorem dX7_move_0 : decode cX7_move 0 = .ok (.iload_n 1, 1) := by decide +kernel
theorem dX7_move_1 : decode cX7_move 1 = .ok (.invokestatic 220, 3) := by decide +kernel
theorem dX7_move_4 : decode cX7_move 4 = .ok (.ifCond .eq 10, 3) := by decide +kernel
theorem dX7_move_7 : decode cX7_move 7 = .ok (.iload_n 3, 1) := by decide +kernel
theorem dX7_move_8 : decode cX7_move 8 = .ok (.invokestatic 220, 3) := by decide +kernel
theorem dX7_move_11 : decode cX7_move 11 = .ok (.ifCond .ne 9, 3) := by decide +kernel
theorem dX7_move_14 : decode cX7_move 14 = .ok (.aload_n 0, 1) := by decide +kernel
theorem dX7_move_15 : decode cX7_move 15 = .ok (.iconst 1, 1) := by decide +kernel
theorem dX7_move_16 : decode cX7_move 16 = .ok (.invokevirtual 76, 3) := by decide +kernel
theorem dX7_move_19 : decode cX7_move 19 = .ok (.ireturn, 1) := by decide +kernel
theorem dX7_move_20 : decode cX7_move 20 = .ok (.aload_n 0, 1) := by decide +kernel
theorem dX7_move_21 : decode cX7_move 21 = .ok (.getfield 47, 3) := by decide +kernel
theorem dX7_move_24 : decode cX7_move 24 = .ok (.iload_n 1, 1) := by decide +kernel
theorem dX7_move_25 : decode cX7_move 25 = .ok (.iaload, 1) := by decide +kernel
theorem dX7_move_26 : decode cX7_move 26 = .ok (.ifCond .eq 12, 3) := by decide +kernel
theorem dX7_move_29 : decode cX7_move 29 = .ok (.aload_n 0, 1) := by decide +kernel
theorem dX7_move_30 : decode cX7_move 30 = .ok (.getfield 47, 3) := by decide +kernel
theorem dX7_move_33 : decode cX7_move 33 = .ok (.iload_n 3, 1) := by decide +kernel
theorem dX7_move_34 : decode cX7_move 34 = .ok (.iaload, 1) := by decide +kernel
theorem dX7_move_35 : decode cX7_move 35 = .ok (.ifCond .ne 9, 3) := by decide +kernel
theorem dX7_move_38 : decode cX7_move 38 = .ok (.aload_n 0, 1) := by decide +kernel
theorem dX7_move_39 : decode cX7_move 39 = .ok (.iconst 2, 1) := by decide +kernel
theorem dX7_move_40 : decode cX7_move 40 = .ok (.invokevirtual 76, 3) := by decide +kernel
theorem dX7_move_43 : decode cX7_move 43 = .ok (.ireturn, 1) := by decide +kernel
theorem dX7_move_44 : decode cX7_move 44 = .ok (.aload_n 0, 1) := by decide +kernel
theorem dX7_move_45 : decode cX7_move 45 = .ok (.getfield 47, 3) := by decide +kernel
theorem dX7_move_48 : decode cX7_move 48 = .ok (.iload_n 1, 1) := by decide +kernel
theorem dX7_move_49 : decode cX7_move 49 = .ok (.iaload, 1) := by decide +kernel
theorem dX7_move_50 : decode cX7_move 50 = .ok (.aload_n 0, 1) := by decide +kernel
theorem dX7_move_51 : decode cX7_move 51 = .ok (.getfield 47, 3) := by decide +kernel
theorem dX7_move_54 : decode cX7_move 54 = .ok (.iload_n 3, 1) := by decide +kernel
theorem dX7_move_55 : decode cX7_move 55 = .ok (.iaload, 1) := by decide +kernel
theorem dX7_move_56 : decode cX7_move 56 = .ok (.if_icmp .eq 9, 3) := by decide +kernel
theorem dX7_move_59 : decode cX7_move 59 = .ok (.aload_n 0, 1) := by decide +kernel
theorem dX7_move_60 : decode cX7_move 60 = .ok (.iconst 5, 1) := by decide +kernel
theorem dX7_move_61 : decode cX7_move 61 = .ok (.invokevirtual 76, 3) := by decide +kernel
theorem dX7_move_64 : decode cX7_move 64 = .ok (.ireturn, 1) := by decide +kernel
theorem dX7_move_65 : decode cX7_move 65 = .ok (.iload 5, 2) := by decide +kernel
theorem dX7_move_67 : decode cX7_move 67 = .ok (.ifCond .lt 39, 3) := by decide +kernel
theorem dX7_move_70 : decode cX7_move 70 = .ok (.iload_n 2, 1) := by decide +kernel
theorem dX7_move_71 : decode cX7_move 71 = .ok (.ifCond .lt 35, 3) := by decide +kernel
theorem dX7_move_74 : decode cX7_move 74 = .ok (.iload 4, 2) := by decide +kernel
theorem dX7_move_76 : decode cX7_move 76 = .ok (.ifCond .lt 30, 3) := by decide +kernel
theorem dX7_move_79 : decode cX7_move 79 = .ok (.iload_n 2, 1) := by decide +kernel
theorem dX7_move_80 : decode cX7_move 80 = .ok (.aload_n 0, 1) := by decide +kernel
theorem dX7_move_81 : decode cX7_move 81 = .ok (.getfield 50, 3) := by decide +kernel
theorem dX7_move_84 : decode cX7_move 84 = .ok (.iload_n 1, 1) := by decide +kernel
theorem dX7_move_85 : decode cX7_move 85 = .ok (.iaload, 1) := by decide +kernel
theorem dX7_move_86 : decode cX7_move 86 = .ok (.iload 5, 2) := by decide +kernel
theorem dX7_move_88 : decode cX7_move 88 = .ok (.isub, 1) := by decide +kernel
theorem dX7_move_89 : decode cX7_move 89 = .ok (.if_icmp .gt 17, 3) := by decide +kernel
theorem dX7_move_92 : decode cX7_move 92 = .ok (.iload 4, 2) := by decide +kernel
theorem dX7_move_94 : decode cX7_move 94 = .ok (.aload_n 0, 1) := by decide +kernel
theorem dX7_move_95 : decode cX7_move 95 = .ok (.getfield 50, 3) := by decide +kernel
theorem dX7_move_98 : decode cX7_move 98 = .ok (.iload_n 3, 1) := by decide +kernel
theorem dX7_move_99 : decode cX7_move 99 = .ok (.iaload, 1) := by decide +kernel
theorem dX7_move_100 : decode cX7_move 100 = .ok (.iload 5, 2) := by decide +kernel
theorem dX7_move_102 : decode cX7_move 102 = .ok (.isub, 1) := by decide +kernel
theorem dX7_move_103 : decode cX7_move 103 = .ok (.if_icmp .le 9, 3) := by decide +kernel
theorem dX7_move_106 : decode cX7_move 106 = .ok (.aload_n 0, 1) := by decide +kernel
theorem dX7_move_107 : decode cX7_move 107 = .ok (.iconst 1, 1) := by decide +kernel
theorem dX7_move_108 : decode cX7_move 108 = .ok (.invokevirtual 76, 3) := by decide +kernel
theorem dX7_move_111 : decode cX7_move 111 = .ok (.ireturn, 1) := by decide +kernel
theorem dX7_move_112 : decode cX7_move 112 = .ok (.iconst 0, 1) := by decide +kernel
theorem dX7_move_113 : decode cX7_move 113 = .ok (.istore 6, 2) := by decide +kernel
theorem dX7_move_115 : decode cX7_move 115 = .ok (.iload 6, 2) := by decide +kernel
theorem dX7_move_117 : decode cX7_move 117 = .ok (.iload 5, 2) := by decide +kernel
theorem dX7_move_119 : decode cX7_move 119 = .ok (.if_icmp .ge 30, 3) := by decide +kernel
theorem dX7_move_122 : decode cX7_move 122 = .ok (.aload_n 0, 1) := by decide +kernel
theorem dX7_move_123 : decode cX7_move 123 = .ok (.getfield 56, 3) := by decide +kernel
theorem dX7_move_126 : decode cX7_move 126 = .ok (.iload 6, 2) := by decide +kernel
theorem dX7_move_128 : decode cX7_move 128 = .ok (.aload_n 0, 1) := by decide +kernel
theorem dX7_move_129 : decode cX7_move 129 = .ok (.getfield 53, 3) := by decide +kernel
theorem dX7_move_132 : decode cX7_move 132 = .ok (.bipush 24, 2) := by decide +kernel
theorem dX7_move_134 : decode cX7_move 134 = .ok (.iload_n 1, 1) := by decide +kernel
theorem dX7_move_135 : decode cX7_move 135 = .ok (.imul, 1) := by decide +kernel
theorem dX7_move_136 : decode cX7_move 136 = .ok (.iload_n 2, 1) := by decide +kernel
theorem dX7_move_137 : decode cX7_move 137 = .ok (.iadd, 1) := by decide +kernel
theorem dX7_move_138 : decode cX7_move 138 = .ok (.iload 6, 2) := by decide +kernel
theorem dX7_move_140 : decode cX7_move 140 = .ok (.iadd, 1) := by decide +kernel
theorem dX7_move_141 : decode cX7_move 141 = .ok (.iaload, 1) := by decide +kernel
theorem dX7_move_142 : decode cX7_move 142 = .ok (.iastore, 1) := by decide +kernel
theorem dX7_move_143 : decode cX7_move 143 = .ok (.iinc 6 1, 3) := by decide +kernel
theorem dX7_move_146 : decode cX7_move 146 = .ok (.goto (-31), 3) := by decide +kernel
theorem dX7_move_149 : decode cX7_move 149 = .ok (.iconst 0, 1) := by decide +kernel
theorem dX7_move_150 : decode cX7_move 150 = .ok (.istore 6, 2) := by decide +kernel
theorem dX7_move_152 : decode cX7_move 152 = .ok (.iload 6, 2) := by decide +kernel
theorem dX7_move_154 : decode cX7_move 154 = .ok (.iload 5, 2) := by decide +kernel
theorem dX7_move_156 : decode cX7_move 156 = .ok (.if_icmp .ge 31, 3) := by decide +kernel
theorem dX7_move_159 : decode cX7_move 159 = .ok (.aload_n 0, 1) := by decide +kernel
theorem dX7_move_160 : decode cX7_move 160 = .ok (.getfield 53, 3) := by decide +kernel
theorem dX7_move_163 : decode cX7_move 163 = .ok (.bipush 24, 2) := by decide +kernel
theorem dX7_move_165 : decode cX7_move 165 = .ok (.iload_n 3, 1) := by decide +kernel
theorem dX7_move_166 : decode cX7_move 166 = .ok (.imul, 1) := by decide +kernel
theorem dX7_move_167 : decode cX7_move 167 = .ok (.iload 4, 2) := by decide +kernel
theorem dX7_move_169 : decode cX7_move 169 = .ok (.iadd, 1) := by decide +kernel
theorem dX7_move_170 : decode cX7_move 170 = .ok (.iload 6, 2) := by decide +kernel
theorem dX7_move_172 : decode cX7_move 172 = .ok (.iadd, 1) := by decide +kernel
theorem dX7_move_173 : decode cX7_move 173 = .ok (.aload_n 0, 1) := by decide +kernel
theorem dX7_move_174 : decode cX7_move 174 = .ok (.getfield 56, 3) := by decide +kernel
theorem dX7_move_177 : decode cX7_move 177 = .ok (.iload 6, 2) := by decide +kernel
theorem dX7_move_179 : decode cX7_move 179 = .ok (.iaload, 1) := by decide +kernel
theorem dX7_move_180 : decode cX7_move 180 = .ok (.iastore, 1) := by decide +kernel
theorem dX7_move_181 : decode cX7_move 181 = .ok (.iinc 6 1, 3) := by decide +kernel
theorem dX7_move_184 : decode cX7_move 184 = .ok (.goto (-32), 3) := by decide +kernel
theorem dX7_move_187 : decode cX7_move 187 = .ok (.iload 5, 2) := by decide +kernel
theorem dX7_move_189 : decode cX7_move 189 = .ok (.ireturn, 1) := by decide +kernel
theorem gX7_lacks_X7_isSheet : GoodIn wsX7_lacks (va_wsS RX7 220 yX7_isSheet wsX7_isSheet) := nw_gS nwl_X7_lacks nwe_732 nwe_733 nwe_534 nwl_X7_isSheet (by decide +kernel)
theorem dX7_lacks_0 : decode cX7_lacks 0 = .ok (.iload_n 1, 1) := by decide +kernel
theorem dX7_lacks_1 : decode cX7_lacks 1 = .ok (.invokestatic 220, 3) := by decide +kernel
theorem dX7_lacks_4 : decode cX7_lacks 4 = .ok (.ifCond .ne 7, 3) := by decide +kernel
theorem dX7_lacks_7 : decode cX7_lacks 7 = .ok (.iconst 1, 1) := by decide +kernel
theorem dX7_lacks_8 : decode cX7_lacks 8 = .ok (.goto 17, 3) := by decide +kernel
theorem dX7_lacks_11 : decode cX7_lacks 11 = .ok (.aload_n 0, 1) := by decide +kernel
theorem dX7_lacks_12 : decode cX7_lacks 12 = .ok (.getfield 47, 3) := by decide +kernel
theorem dX7_lacks_15 : decode cX7_lacks 15 = .ok (.iload_n 1, 1) := by decide +kernel
theorem dX7_lacks_16 : decode cX7_lacks 16 = .ok (.iaload, 1) := by decide +kernel
theorem dX7_lacks_17 : decode cX7_lacks 17 = .ok (.ifCond .ne 7, 3) := by decide +kernel
theorem dX7_lacks_20 : decode cX7_lacks 20 = .ok (.iconst 2, 1) := by decide +kernel
theorem dX7_lacks_21 : decode cX7_lacks 21 = .ok (.goto 4, 3) := by decide +kernel
theorem dX7_lacks_24 : decode cX7_lacks 24 = .ok (.iconst 0, 1) := by decide +kernel
theorem dX7_lacks_25 : decode cX7_lacks 25 = .ok (.ireturn, 1) := by decide +kernel
theorem gX7_unders_X7_lacks : GoodIn wsX7_unders (wsV RX7 262 RX7 yX7_lacks wsX7_lacks) := nw_gV nwl_X7_unders nwe_779 nwe_780 nwe_781 nwe_534 nwl_X7_lacks (by decide +kernel)
theorem gX7_unders_X7_error : GoodIn wsX7_unders (wsV RX7 76 RX7 yX7_error wsX7_error) := nw_gV nwl_X7_unders nwe_558 nwe_559 nwe_560 nwe_534 nwl_X7_error (by decide +kernel)
theorem gX7_unders_X7_in : GoodIn wsX7_unders (va_wsS RX7 68 yX7_in wsX7_in) := nw_gS nwl_X7_unders nwe_546 nwe_547 nwe_534 nwl_X7_in (by decide +kernel)
theorem dX7_unders_0 : decode cX7_unders 0 = .ok (.aload_n 0, 1) := by decide +kernel
theorem dX7_unders_1 : decode cX7_unders 1 = .ok (.iload_n 1, 1) := by decide +kernel
theorem dX7_unders_2 : decode cX7_unders 2 = .ok (.invokevirtual 262, 3) := by decide +kernel
theorem dX7_unders_5 : decode cX7_unders 5 = .ok (.istore_n 2, 1) := by decide +kernel
theorem dX7_unders_6 : decode cX7_unders 6 = .ok (.iload_n 2, 1) := by decide +kernel
theorem dX7_unders_7 : decode cX7_unders 7 = .ok (.ifCond .le 9, 3) := by decide +kernel
theorem dX7_unders_10 : decode cX7_unders 10 = .ok (.aload_n 0, 1) := by decide +kernel
theorem dX7_unders_11 : decode cX7_unders 11 = .ok (.iload_n 2, 1) := by decide +kernel
theorem dX7_unders_12 : decode cX7_unders 12 = .ok (.invokevirtual 76, 3) := by decide +kernel
theorem dX7_unders_15 : decode cX7_unders 15 = .ok (.ireturn, 1) := by decide +kernel
theorem dX7_unders_16 : decode cX7_unders 16 = .ok (.iconst 0, 1) := by decide +kernel
theorem dX7_unders_17 : decode cX7_unders 17 = .ok (.istore_n 3, 1) := by decide +kernel
theorem dX7_unders_18 : decode cX7_unders 18 = .ok (.iload_n 3, 1) := by decide +kernel
theorem dX7_unders_19 : decode cX7_unders 19 = .ok (.aload_n 0, 1) := by decide +kernel
theorem dX7_unders_20 : decode cX7_unders 20 = .ok (.getfield 50, 3) := by decide +kernel
theorem dX7_unders_23 : decode cX7_unders 23 = .ok (.iload_n 1, 1) := by decide +kernel
theorem dX7_unders_24 : decode cX7_unders 24 = .ok (.iaload, 1) := by decide +kernel
theorem dX7_unders_25 : decode cX7_unders 25 = .ok (.if_icmp .ge 56, 3) := by decide +kernel
theorem dX7_unders_28 : decode cX7_unders 28 = .ok (.iload_n 3, 1) := by decide +kernel
theorem dX7_unders_29 : decode cX7_unders 29 = .ok (.bipush 16, 2) := by decide +kernel
theorem dX7_unders_31 : decode cX7_unders 31 = .ok (.if_icmp .ge 50, 3) := by decide +kernel
theorem dX7_unders_34 : decode cX7_unders 34 = .ok (.aload_n 0, 1) := by decide +kernel
theorem dX7_unders_35 : decode cX7_unders 35 = .ok (.getfield 53, 3) := by decide +kernel
theorem dX7_unders_38 : decode cX7_unders 38 = .ok (.bipush 24, 2) := by decide +kernel
theorem dX7_unders_40 : decode cX7_unders 40 = .ok (.iload_n 1, 1) := by decide +kernel
theorem dX7_unders_41 : decode cX7_unders 41 = .ok (.imul, 1) := by decide +kernel
theorem dX7_unders_42 : decode cX7_unders 42 = .ok (.iload_n 3, 1) := by decide +kernel
theorem dX7_unders_43 : decode cX7_unders 43 = .ok (.iadd, 1) := by decide +kernel
theorem dX7_unders_44 : decode cX7_unders 44 = .ok (.iaload, 1) := by decide +kernel
theorem dX7_unders_45 : decode cX7_unders 45 = .ok (.iconst 0, 1) := by decide +kernel
theorem dX7_unders_46 : decode cX7_unders 46 = .ok (.sipush 999, 3) := by decide +kernel
theorem dX7_unders_49 : decode cX7_unders 49 = .ok (.invokestatic 68, 3) := by decide +kernel
theorem dX7_unders_52 : decode cX7_unders 52 = .ok (.ifCond .eq 29, 3) := by decide +kernel
theorem dX7_unders_55 : decode cX7_unders 55 = .ok (.aload_n 0, 1) := by decide +kernel
theorem dX7_unders_56 : decode cX7_unders 56 = .ok (.getfield 7, 3) := by decide +kernel
theorem dX7_unders_59 : decode cX7_unders 59 = .ok (.bipush 24, 2) := by decide +kernel
theorem dX7_unders_61 : decode cX7_unders 61 = .ok (.iload_n 3, 1) := by decide +kernel
theorem dX7_unders_62 : decode cX7_unders 62 = .ok (.iadd, 1) := by decide +kernel
theorem dX7_unders_63 : decode cX7_unders 63 = .ok (.aload_n 0, 1) := by decide +kernel
theorem dX7_unders_64 : decode cX7_unders 64 = .ok (.getfield 53, 3) := by decide +kernel
theorem dX7_unders_67 : decode cX7_unders 67 = .ok (.bipush 24, 2) := by decide +kernel
theorem dX7_unders_69 : decode cX7_unders 69 = .ok (.iload_n 1, 1) := by decide +kernel
theorem dX7_unders_70 : decode cX7_unders 70 = .ok (.imul, 1) := by decide +kernel
theorem dX7_unders_71 : decode cX7_unders 71 = .ok (.iload_n 3, 1) := by decide +kernel
theorem dX7_unders_72 : decode cX7_unders 72 = .ok (.iadd, 1) := by decide +kernel
theorem dX7_unders_73 : decode cX7_unders 73 = .ok (.iaload, 1) := by decide +kernel
theorem dX7_unders_74 : decode cX7_unders 74 = .ok (.iastore, 1) := by decide +kernel
theorem dX7_unders_75 : decode cX7_unders 75 = .ok (.iinc 3 1, 3) := by decide +kernel
theorem dX7_unders_78 : decode cX7_unders 78 = .ok (.goto (-60), 3) := by decide +kernel
theorem dX7_unders_81 : decode cX7_unders 81 = .ok (.iload_n 3, 1) := by decide +kernel
theorem dX7_unders_82 : decode cX7_unders 82 = .ok (.ireturn, 1) := by decide +kernel
theorem gX7_judge_X7_lacks : GoodIn wsX7_judge (wsV RX7 262 RX7 yX7_lacks wsX7_lacks) := nw_gV nwl_X7_judge nwe_779 nwe_780 nwe_781 nwe_534 nwl_X7_lacks (by decide +kernel)
theorem gX7_judge_X7_error : GoodIn wsX7_judge (wsV RX7 76 RX7 yX7_error wsX7_error) := nw_gV nwl_X7_judge nwe_558 nwe_559 nwe_560 nwe_534 nwl_X7_error (by decide +kernel)
theorem gX7_judge_X7_layDown : GoodIn wsX7_judge (wsV RX7 198 RX7 yX7_layDown wsX7_layDown) := nw_gV nwl_X7_judge nwe_699 nwe_700 nwe_701 nwe_534 nwl_X7_layDown (by decide +kernel)
theorem gX7_judge_X7_day : GoodIn wsX7_judge (wsV RX7 169 RX7 yX7_day wsX7_day) := nw_gV nwl_X7_judge nwe_657 nwe_658 nwe_659 nwe_534 nwl_X7_day (by decide +kernel)
theorem gX7_judge_X7_layBack : GoodIn wsX7_judge (wsV RX7 201 RX7 yX7_layBack wsX7_layBack) := nw_gV nwl_X7_judge nwe_702 nwe_703 nwe_704 nwe_534 nwl_X7_layBack (by decide +kernel)
theorem dX7_judge_0 : decode cX7_judge 0 = .ok (.aload_n 0, 1) := by decide +kernel
theorem dX7_judge_1 : decode cX7_judge 1 = .ok (.iload_n 1, 1) := by decide +kernel
theorem dX7_judge_2 : decode cX7_judge 2 = .ok (.invokevirtual 262, 3) := by decide +kernel
theorem dX7_judge_5 : decode cX7_judge 5 = .ok (.istore_n 2, 1) := by decide +kernel
theorem dX7_judge_6 : decode cX7_judge 6 = .ok (.iload_n 2, 1) := by decide +kernel
theorem dX7_judge_7 : decode cX7_judge 7 = .ok (.ifCond .le 9, 3) := by decide +kernel
theorem dX7_judge_10 : decode cX7_judge 10 = .ok (.aload_n 0, 1) := by decide +kernel
theorem dX7_judge_11 : decode cX7_judge 11 = .ok (.iload_n 2, 1) := by decide +kernel
theorem dX7_judge_12 : decode cX7_judge 12 = .ok (.invokevirtual 76, 3) := by decide +kernel
theorem dX7_judge_15 : decode cX7_judge 15 = .ok (.ireturn, 1) := by decide +kernel
theorem dX7_judge_16 : decode cX7_judge 16 = .ok (.aload_n 0, 1) := by decide +kernel
theorem dX7_judge_17 : decode cX7_judge 17 = .ok (.invokevirtual 198, 3) := by decide +kernel
theorem dX7_judge_20 : decode cX7_judge 20 = .ok (.iconst 0, 1) := by decide +kernel
theorem dX7_judge_21 : decode cX7_judge 21 = .ok (.istore_n 3, 1) := by decide +kernel
theorem dX7_judge_22 : decode cX7_judge 22 = .ok (.iload_n 3, 1) := by decide +kernel
theorem dX7_judge_23 : decode cX7_judge 23 = .ok (.aload_n 0, 1) := by decide +kernel
theorem dX7_judge_24 : decode cX7_judge 24 = .ok (.getfield 50, 3) := by decide +kernel
theorem dX7_judge_27 : decode cX7_judge 27 = .ok (.iload_n 1, 1) := by decide +kernel
theorem dX7_judge_28 : decode cX7_judge 28 = .ok (.iaload, 1) := by decide +kernel
theorem dX7_judge_29 : decode cX7_judge 29 = .ok (.if_icmp .ge 35, 3) := by decide +kernel
theorem dX7_judge_32 : decode cX7_judge 32 = .ok (.aload_n 0, 1) := by decide +kernel
theorem dX7_judge_33 : decode cX7_judge 33 = .ok (.getfield 53, 3) := by decide +kernel
theorem dX7_judge_36 : decode cX7_judge 36 = .ok (.bipush 24, 2) := by decide +kernel
theorem dX7_judge_38 : decode cX7_judge 38 = .ok (.iload_n 1, 1) := by decide +kernel
theorem dX7_judge_39 : decode cX7_judge 39 = .ok (.imul, 1) := by decide +kernel
theorem dX7_judge_40 : decode cX7_judge 40 = .ok (.iload_n 3, 1) := by decide +kernel
theorem dX7_judge_41 : decode cX7_judge 41 = .ok (.iadd, 1) := by decide +kernel
theorem dX7_judge_42 : decode cX7_judge 42 = .ok (.iaload, 1) := by decide +kernel
theorem dX7_judge_43 : decode cX7_judge 43 = .ok (.aload_n 0, 1) := by decide +kernel
theorem dX7_judge_44 : decode cX7_judge 44 = .ok (.getfield 7, 3) := by decide +kernel
theorem dX7_judge_47 : decode cX7_judge 47 = .ok (.iconst 2, 1) := by decide +kernel
theorem dX7_judge_48 : decode cX7_judge 48 = .ok (.iaload, 1) := by decide +kernel
theorem dX7_judge_49 : decode cX7_judge 49 = .ok (.if_icmp .ne 15, 3) := by decide +kernel
theorem dX7_judge_52 : decode cX7_judge 52 = .ok (.aload_n 0, 1) := by decide +kernel
theorem dX7_judge_53 : decode cX7_judge 53 = .ok (.invokevirtual 169, 3) := by decide +kernel
