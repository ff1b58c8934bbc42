theorem dX2_holdsPart_16 : decode cX2_holdsPart 16 = .ok (.iload_n 1, 1) := by decide +kernel
theorem dX2_holdsPart_17 : decode cX2_holdsPart 17 = .ok (.aload_n 0, 1) := by decide +kernel
theorem dX2_holdsPart_18 : decode cX2_holdsPart 18 = .ok (.getfield 19, 3) := by decide +kernel
theorem dX2_holdsPart_21 : decode cX2_holdsPart 21 = .ok (.iload_n 2, 1) := by decide +kernel
theorem dX2_holdsPart_22 : decode cX2_holdsPart 22 = .ok (.isub, 1) := by decide +kernel
theorem dX2_holdsPart_23 : decode cX2_holdsPart 23 = .ok (.if_icmp .gt 7, 3) := by decide +kernel
theorem dX2_holdsPart_26 : decode cX2_holdsPart 26 = .ok (.iconst 1, 1) := by decide +kernel
theorem dX2_holdsPart_27 : decode cX2_holdsPart 27 = .ok (.goto 4, 3) := by decide +kernel
theorem dX2_holdsPart_30 : decode cX2_holdsPart 30 = .ok (.iconst 0, 1) := by decide +kernel
theorem dX2_holdsPart_31 : decode cX2_holdsPart 31 = .ok (.ireturn, 1) := by decide +kernel
theorem dX2_startsWith_0 : decode cX2_startsWith 0 = .ok (.iconst 0, 1) := by decide +kernel
theorem dX2_startsWith_1 : decode cX2_startsWith 1 = .ok (.istore_n 2, 1) := by decide +kernel
theorem dX2_startsWith_2 : decode cX2_startsWith 2 = .ok (.iload_n 2, 1) := by decide +kernel
theorem dX2_startsWith_3 : decode cX2_startsWith 3 = .ok (.aload_n 1, 1) := by decide +kernel
theorem dX2_startsWith_4 : decode cX2_startsWith 4 = .ok (.arraylength, 1) := by decide +kernel
theorem dX2_startsWith_5 : decode cX2_startsWith 5 = .ok (.if_icmp .ge 31, 3) := by decide +kernel
theorem dX2_startsWith_8 : decode cX2_startsWith 8 = .ok (.iload_n 2, 1) := by decide +kernel
theorem dX2_startsWith_9 : decode cX2_startsWith 9 = .ok (.aload_n 0, 1) := by decide +kernel
theorem dX2_startsWith_10 : decode cX2_startsWith 10 = .ok (.getfield 19, 3) := by decide +kernel
theorem dX2_startsWith_13 : decode cX2_startsWith 13 = .ok (.if_icmp .ge 15, 3) := by decide +kernel
theorem dX2_startsWith_16 : decode cX2_startsWith 16 = .ok (.aload_n 0, 1) := by decide +kernel
theorem dX2_startsWith_17 : decode cX2_startsWith 17 = .ok (.getfield 9, 3) := by decide +kernel
theorem dX2_startsWith_20 : decode cX2_startsWith 20 = .ok (.iload_n 2, 1) := by decide +kernel
theorem dX2_startsWith_21 : decode cX2_startsWith 21 = .ok (.iaload, 1) := by decide +kernel
theorem dX2_startsWith_22 : decode cX2_startsWith 22 = .ok (.aload_n 1, 1) := by decide +kernel
theorem dX2_startsWith_23 : decode cX2_startsWith 23 = .ok (.iload_n 2, 1) := by decide +kernel
theorem dX2_startsWith_24 : decode cX2_startsWith 24 = .ok (.iaload, 1) := by decide +kernel
theorem dX2_startsWith_25 : decode cX2_startsWith 25 = .ok (.if_icmp .eq 5, 3) := by decide +kernel
theorem dX2_startsWith_28 : decode cX2_startsWith 28 = .ok (.iconst 0, 1) := by decide +kernel
theorem dX2_startsWith_29 : decode cX2_startsWith 29 = .ok (.ireturn, 1) := by decide +kernel
theorem dX2_startsWith_30 : decode cX2_startsWith 30 = .ok (.iinc 2 1, 3) := by decide +kernel
theorem dX2_startsWith_33 : decode cX2_startsWith 33 = .ok (.goto (-31), 3) := by decide +kernel
theorem dX2_startsWith_36 : decode cX2_startsWith 36 = .ok (.iconst 1, 1) := by decide +kernel
theorem dX2_startsWith_37 : decode cX2_startsWith 37 = .ok (.ireturn, 1) := by decide +kernel
theorem gX3_init_X1_init : GoodIn wsX3_init (wsX1_init) := nw_gi nwl_X3_init nwl_X1_init (by decide +kernel)
theorem dX3_init_0 : decode cX3_init 0 = .ok (.aload_n 0, 1) := by decide +kernel
theorem dX3_init_1 : decode cX3_init 1 = .ok (.invokespecial 3, 3) := by decide +kernel
theorem dX3_init_4 : decode cX3_init 4 = .ok (.aload_n 0, 1) := by decide +kernel
theorem dX3_init_5 : decode cX3_init 5 = .ok (.new 9, 3) := by decide +kernel
theorem dX3_init_8 : decode cX3_init 8 = .ok (.dup, 1) := by decide +kernel
theorem dX3_init_9 : decode cX3_init 9 = .ok (.bipush 60, 2) := by decide +kernel
theorem dX3_init_11 : decode cX3_init 11 = .ok (.invokespecial 11, 3) := by decide +kernel
theorem dX3_init_14 : decode cX3_init 14 = .ok (.putfield 14, 3) := by decide +kernel
theorem dX3_init_17 : decode cX3_init 17 = .ok (.aload_n 0, 1) := by decide +kernel
theorem dX3_init_18 : decode cX3_init 18 = .ok (.bipush 60, 2) := by decide +kernel
theorem dX3_init_20 : decode cX3_init 20 = .ok (.newarray .int, 2) := by decide +kernel
theorem dX3_init_22 : decode cX3_init 22 = .ok (.putfield 20, 3) := by decide +kernel
theorem dX3_init_25 : decode cX3_init 25 = .ok (.return_, 1) := by decide +kernel
theorem dX3_isThere_0 : decode cX3_isThere 0 = .ok (.aload_n 0, 1) := by decide +kernel
theorem dX3_isThere_1 : decode cX3_isThere 1 = .ok (.getfield 14, 3) := by decide +kernel
theorem dX3_isThere_4 : decode cX3_isThere 4 = .ok (.getfield 24, 3) := by decide +kernel
theorem dX3_isThere_7 : decode cX3_isThere 7 = .ok (.ifCond .le 7, 3) := by decide +kernel
theorem dX3_isThere_10 : decode cX3_isThere 10 = .ok (.iconst 1, 1) := by decide +kernel
theorem dX3_isThere_11 : decode cX3_isThere 11 = .ok (.goto 4, 3) := by decide +kernel
theorem dX3_isThere_14 : decode cX3_isThere 14 = .ok (.iconst 0, 1) := by decide +kernel
theorem dX3_isThere_15 : decode cX3_isThere 15 = .ok (.ireturn, 1) := by decide +kernel
theorem gX3_value_X1_at : GoodIn wsX3_value (wsV RX3 28 RX1 yX1_at wsX1_at) := nw_gV nwl_X3_value nwe_189 nwe_106 nwe_107 nwe_87 nwl_X1_at (by decide +kernel)
theorem gX3_value_X3_named : GoodIn wsX3_value (va_wsS RX3 32 yX3_named wsX3_named) := nw_gS nwl_X3_value nwe_190 nwe_191 nwe_192 nwl_X3_named (by decide +kernel)
theorem gX3_value_X3_joined : GoodIn wsX3_value (va_wsS RX3 36 yX3_joined wsX3_joined) := nw_gS nwl_X3_value nwe_193 nwe_194 nwe_192 nwl_X3_joined (by decide +kernel)
theorem dX3_value_0 : decode cX3_value 0 = .ok (.iconst 0, 1) := by decide +kernel
theorem dX3_value_1 : decode cX3_value 1 = .ok (.istore 4, 2) := by decide +kernel
theorem dX3_value_3 : decode cX3_value 3 = .ok (.iconst 0, 1) := by decide +kernel
theorem dX3_value_4 : decode cX3_value 4 = .ok (.istore 5, 2) := by decide +kernel
theorem dX3_value_6 : decode cX3_value 6 = .ok (.iload 5, 2) := by decide +kernel
theorem dX3_value_8 : decode cX3_value 8 = .ok (.aload_n 0, 1) := by decide +kernel
theorem dX3_value_9 : decode cX3_value 9 = .ok (.getfield 14, 3) := by decide +kernel
theorem dX3_value_12 : decode cX3_value 12 = .ok (.getfield 24, 3) := by decide +kernel
theorem dX3_value_15 : decode cX3_value 15 = .ok (.if_icmp .ge 145, 3) := by decide +kernel
theorem dX3_value_18 : decode cX3_value 18 = .ok (.aload_n 0, 1) := by decide +kernel
theorem dX3_value_19 : decode cX3_value 19 = .ok (.getfield 14, 3) := by decide +kernel
theorem dX3_value_22 : decode cX3_value 22 = .ok (.iload 5, 2) := by decide +kernel
theorem dX3_value_24 : decode cX3_value 24 = .ok (.invokevirtual 28, 3) := by decide +kernel
theorem dX3_value_27 : decode cX3_value 27 = .ok (.istore 6, 2) := by decide +kernel
theorem dX3_value_29 : decode cX3_value 29 = .ok (.iload 6, 2) := by decide +kernel
theorem dX3_value_31 : decode cX3_value 31 = .ok (.sipush 20000, 3) := by decide +kernel
theorem dX3_value_34 : decode cX3_value 34 = .ok (.if_icmp .ge 34, 3) := by decide +kernel
theorem dX3_value_37 : decode cX3_value 37 = .ok (.iload 4, 2) := by decide +kernel
theorem dX3_value_39 : decode cX3_value 39 = .ok (.aload_n 0, 1) := by decide +kernel
theorem dX3_value_40 : decode cX3_value 40 = .ok (.getfield 20, 3) := by decide +kernel
theorem dX3_value_43 : decode cX3_value 43 = .ok (.arraylength, 1) := by decide +kernel
theorem dX3_value_44 : decode cX3_value 44 = .ok (.if_icmp .ge 110, 3) := by decide +kernel
theorem dX3_value_47 : decode cX3_value 47 = .ok (.aload_n 0, 1) := by decide +kernel
theorem dX3_value_48 : decode cX3_value 48 = .ok (.getfield 20, 3) := by decide +kernel
theorem dX3_value_51 : decode cX3_value 51 = .ok (.iload 4, 2) := by decide +kernel
theorem dX3_value_53 : decode cX3_value 53 = .ok (.iload 6, 2) := by decide +kernel
theorem dX3_value_55 : decode cX3_value 55 = .ok (.iload_n 1, 1) := by decide +kernel
theorem dX3_value_56 : decode cX3_value 56 = .ok (.iload_n 2, 1) := by decide +kernel
theorem dX3_value_57 : decode cX3_value 57 = .ok (.iload_n 3, 1) := by decide +kernel
theorem dX3_value_58 : decode cX3_value 58 = .ok (.invokestatic 32, 3) := by decide +kernel
theorem dX3_value_61 : decode cX3_value 61 = .ok (.iastore, 1) := by decide +kernel
theorem dX3_value_62 : decode cX3_value 62 = .ok (.iinc 4 1, 3) := by decide +kernel
theorem dX3_value_65 : decode cX3_value 65 = .ok (.goto 89, 3) := by decide +kernel
theorem dX3_value_68 : decode cX3_value 68 = .ok (.iload 6, 2) := by decide +kernel
theorem dX3_value_70 : decode cX3_value 70 = .ok (.sipush 20033, 3) := by decide +kernel
theorem dX3_value_73 : decode cX3_value 73 = .ok (.if_icmp .ne 38, 3) := by decide +kernel
theorem dX3_value_76 : decode cX3_value 76 = .ok (.iload 4, 2) := by decide +kernel
theorem dX3_value_78 : decode cX3_value 78 = .ok (.iconst 1, 1) := by decide +kernel
theorem dX3_value_79 : decode cX3_value 79 = .ok (.if_icmp .lt 75, 3) := by decide +kernel
theorem dX3_value_82 : decode cX3_value 82 = .ok (.aload_n 0, 1) := by decide +kernel
theorem dX3_value_83 : decode cX3_value 83 = .ok (.getfield 20, 3) := by decide +kernel
theorem dX3_value_86 : decode cX3_value 86 = .ok (.iload 4, 2) := by decide +kernel
theorem dX3_value_88 : decode cX3_value 88 = .ok (.iconst 1, 1) := by decide +kernel
theorem dX3_value_89 : decode cX3_value 89 = .ok (.isub, 1) := by decide +kernel
theorem dX3_value_90 : decode cX3_value 90 = .ok (.aload_n 0, 1) := by decide +kernel
theorem dX3_value_91 : decode cX3_value 91 = .ok (.getfield 20, 3) := by decide +kernel
theorem dX3_value_94 : decode cX3_value 94 = .ok (.iload 4, 2) := by decide +kernel
theorem dX3_value_96 : decode cX3_value 96 = .ok (.iconst 1, 1) := by decide +kernel
theorem dX3_value_97 : decode cX3_value 97 = .ok (.isub, 1) := by decide +kernel
theorem dX3_value_98 : decode cX3_value 98 = .ok (.iaload, 1) := by decide +kernel
theorem dX3_value_99 : decode cX3_value 99 = .ok (.ifCond .ne 7, 3) := by decide +kernel
theorem dX3_value_102 : decode cX3_value 102 = .ok (.iconst 1, 1) := by decide +kernel
theorem dX3_value_103 : decode cX3_value 103 = .ok (.goto 4, 3) := by decide +kernel
theorem dX3_value_106 : decode cX3_value 106 = .ok (.iconst 0, 1) := by decide +kernel
theorem dX3_value_107 : decode cX3_value 107 = .ok (.iastore, 1) := by decide +kernel
theorem dX3_value_108 : decode cX3_value 108 = .ok (.goto 46, 3) := by decide +kernel
theorem dX3_value_111 : decode cX3_value 111 = .ok (.iload 4, 2) := by decide +kernel
theorem dX3_value_113 : decode cX3_value 113 = .ok (.iconst 2, 1) := by decide +kernel
theorem dX3_value_114 : decode cX3_value 114 = .ok (.if_icmp .lt 40, 3) := by decide +kernel
theorem dX3_value_117 : decode cX3_value 117 = .ok (.iinc 4 (-1), 3) := by decide +kernel
theorem dX3_value_120 : decode cX3_value 120 = .ok (.aload_n 0, 1) := by decide +kernel
theorem dX3_value_121 : decode cX3_value 121 = .ok (.getfield 20, 3) := by decide +kernel
theorem dX3_value_124 : decode cX3_value 124 = .ok (.iload 4, 2) := by decide +kernel
theorem dX3_value_126 : decode cX3_value 126 = .ok (.iconst 1, 1) := by decide +kernel
theorem dX3_value_127 : decode cX3_value 127 = .ok (.isub, 1) := by decide +kernel
theorem dX3_value_128 : decode cX3_value 128 = .ok (.iload 6, 2) := by decide +kernel
theorem dX3_value_130 : decode cX3_value 130 = .ok (.sipush 20000, 3) := by decide +kernel
theorem dX3_value_133 : decode cX3_value 133 = .ok (.isub, 1) := by decide +kernel
theorem dX3_value_134 : decode cX3_value 134 = .ok (.aload_n 0, 1) := by decide +kernel
theorem dX3_value_135 : decode cX3_value 135 = .ok (.getfield 20, 3) := by decide +kernel
theorem dX3_value_138 : decode cX3_value 138 = .ok (.iload 4, 2) := by decide +kernel
theorem dX3_value_140 : decode cX3_value 140 = .ok (.iconst 1, 1) := by decide +kernel
theorem dX3_value_141 : decode cX3_value 141 = .ok (.isub, 1) := by decide +kernel
theorem dX3_value_142 : decode cX3_value 142 = .ok (.iaload, 1) := by decide +kernel
theorem dX3_value_143 : decode cX3_value 143 = .ok (.aload_n 0, 1) := by decide +kernel
theorem dX3_value_144 : decode cX3_value 144 = .ok (.getfield 20, 3) := by decide +kernel
theorem dX3_value_147 : decode cX3_value 147 = .ok (.iload 4, 2) := by decide +kernel
theorem dX3_value_149 : decode cX3_value 149 = .ok (.iaload, 1) := by decide +kernel
theorem dX3_value_150 : decode cX3_value 150 = .ok (.invokestatic 36, 3) := by decide +kernel
theorem dX3_value_153 : decode cX3_value 153 = .ok (.iastore, 1) := by decide +kernel
theorem dX3_value_154 : decode cX3_value 154 = .ok (.iinc 5 1, 3) := by decide +kernel
theorem dX3_value_157 : decode cX3_value 157 = .ok (.goto (-151), 3) := by decide +kernel
theorem dX3_value_160 : decode cX3_value 160 = .ok (.iload 4, 2) := by decide +kernel
theorem dX3_value_162 : decode cX3_value 162 = .ok (.iconst 1, 1) := by decide +kernel
theorem dX3_value_163 : decode cX3_value 163 = .ok (.if_icmp .lt 15, 3) := by decide +kernel
theorem dX3_value_166 : decode cX3_value 166 = .ok (.aload_n 0, 1) := by decide +kernel
theorem dX3_value_167 : decode cX3_value 167 = .ok (.getfield 20, 3) := by decide +kernel
theorem dX3_value_170 : decode cX3_value 170 = .ok (.iload 4, 2) := by decide +kernel
theorem dX3_value_172 : decode cX3_value 172 = .ok (.iconst 1, 1) := by decide +kernel
theorem dX3_value_173 : decode cX3_value 173 = .ok (.isub, 1) := by decide +kernel
theorem dX3_value_174 : decode cX3_value 174 = .ok (.iaload, 1) := by decide +kernel
theorem dX3_value_175 : decode cX3_value 175 = .ok (.goto 4, 3) := by decide +kernel
theorem dX3_value_178 : decode cX3_value 178 = .ok (.iconst 0, 1) := by decide +kernel
theorem dX3_value_179 : decode cX3_value 179 = .ok (.ireturn, 1) := by decide +kernel
theorem dX3_named_0 : decode cX3_named 0 = .ok (.iload_n 0, 1) := by decide +kernel
theorem dX3_named_1 : decode cX3_named 1 = .ok (.tableswitch 33 10000 10002 #[27, 29, 31], 27) := by decide +kernel
theorem dX3_named_28 : decode cX3_named 28 = .ok (.iload_n 1, 1) := by decide +kernel
theorem dX3_named_29 : decode cX3_named 29 = .ok (.ireturn, 1) := by decide +kernel
theorem dX3_named_30 : decode cX3_named 30 = .ok (.iload_n 2, 1) := by decide +kernel
theorem dX3_named_31 : decode cX3_named 31 = .ok (.ireturn, 1) := by decide +kernel
theorem dX3_named_32 : decode cX3_named 32 = .ok (.iload_n 3, 1) := by decide +kernel
theorem dX3_named_33 : decode cX3_named 33 = .ok (.ireturn, 1) := by decide +kernel
theorem dX3_named_34 : decode cX3_named 34 = .ok (.iload_n 0, 1) := by decide +kernel
theorem dX3_named_35 : decode cX3_named 35 = .ok (.ireturn, 1) := by decide +kernel
theorem dX3_joined_0 : decode cX3_joined 0 = .ok (.iload_n 0, 1) := by decide +kernel
theorem dX3_joined_1 : decode cX3_joined 1 = .ok (.lookupswitch 168 #[(38, 97), (42, 152), (43, 144), (45, 148), (47, 156), (60, 111), (61, 122), (62, 133), (124, 83)], 83) := by decide +kernel
theorem dX3_joined_84 : decode cX3_joined 84 = .ok (.iload_n 1, 1) := by decide +kernel
theorem dX3_joined_85 : decode cX3_joined 85 = .ok (.ifCond .ne 7, 3) := by decide +kernel
theorem dX3_joined_88 : decode cX3_joined 88 = .ok (.iload_n 2, 1) := by decide +kernel
theorem dX3_joined_89 : decode cX3_joined 89 = .ok (.ifCond .eq 7, 3) := by decide +kernel
theorem dX3_joined_92 : decode cX3_joined 92 = .ok (.iconst 1, 1) := by decide +kernel
theorem dX3_joined_93 : decode cX3_joined 93 = .ok (.goto 4, 3) := by decide +kernel
theorem dX3_joined_96 : decode cX3_joined 96 = .ok (.iconst 0, 1) := by decide +kernel
theorem dX3_joined_97 : decode cX3_joined 97 = .ok (.ireturn, 1) := by decide +kernel
theorem dX3_joined_98 : decode cX3_joined 98 = .ok (.iload_n 1, 1) := by decide +kernel
theorem dX3_joined_99 : decode cX3_joined 99 = .ok (.ifCond .eq 11, 3) := by decide +kernel
theorem dX3_joined_102 : decode cX3_joined 102 = .ok (.iload_n 2, 1) := by decide +kernel
theorem dX3_joined_103 : decode cX3_joined 103 = .ok (.ifCond .eq 7, 3) := by decide +kernel
theorem dX3_joined_106 : decode cX3_joined 106 = .ok (.iconst 1, 1) := by decide +kernel
theorem dX3_joined_107 : decode cX3_joined 107 = .ok (.goto 4, 3) := by decide +kernel
theorem dX3_joined_110 : decode cX3_joined 110 = .ok (.iconst 0, 1) := by decide +kernel
theorem dX3_joined_111 : decode cX3_joined 111 = .ok (.ireturn, 1) := by decide +kernel
theorem dX3_joined_112 : decode cX3_joined 112 = .ok (.iload_n 1, 1) := by decide +kernel
theorem dX3_joined_113 : decode cX3_joined 113 = .ok (.iload_n 2, 1) := by decide +kernel
theorem dX3_joined_114 : decode cX3_joined 114 = .ok (.if_icmp .ge 7, 3) := by decide +kernel
theorem dX3_joined_117 : decode cX3_joined 117 = .ok (.iconst 1, 1) := by decide +kernel
theorem dX3_joined_118 : decode cX3_joined 118 = .ok (.goto 4, 3) := by decide +kernel
theorem dX3_joined_121 : decode cX3_joined 121 = .ok (.iconst 0, 1) := by decide +kernel
theorem dX3_joined_122 : decode cX3_joined 122 = .ok (.ireturn, 1) := by decide +kernel
theorem dX3_joined_123 : decode cX3_joined 123 = .ok (.iload_n 1, 1) := by decide +kernel
theorem dX3_joined_124 : decode cX3_joined 124 = .ok (.iload_n 2, 1) := by decide +kernel
theorem dX3_joined_125 : decode cX3_joined 125 = .ok (.if_icmp .ne 7, 3) := by decide +kernel
theorem dX3_joined_128 : decode cX3_joined 128 = .ok (.iconst 1, 1) := by decide +kernel
theorem dX3_joined_129 : decode cX3_joined 129 = .ok (.goto 4, 3) := by decide +kernel
theorem dX3_joined_132 : decode cX3_joined 132 = .ok (.iconst 0, 1) := by decide +kernel
theorem dX3_joined_133 : decode cX3_joined 133 = .ok (.ireturn, 1) := by decide +kernel
theorem dX3_joined_134 : decode cX3_joined 134 = .ok (.iload_n 1, 1) := by decide +kernel
theorem dX3_joined_135 : decode cX3_joined 135 = .ok (.iload_n 2, 1) := by decide +kernel
theorem dX3_joined_136 : decode cX3_joined 136 = .ok (.if_icmp .le 7, 3) := by decide +kernel
theorem dX3_joined_139 : decode cX3_joined 139 = .ok (.iconst 1, 1) := by decide +kernel
theorem dX3_joined_140 : decode cX3_joined 140 = .ok (.goto 4, 3) := by decide +kernel
theorem dX3_joined_143 : decode cX3_joined 143 = .ok (.iconst 0, 1) := by decide +kernel
theorem dX3_joined_144 : decode cX3_joined 144 = .ok (.ireturn, 1) := by decide +kernel
theorem dX3_joined_145 : decode cX3_joined 145 = .ok (.iload_n 1, 1) := by decide +kernel
theorem dX3_joined_146 : decode cX3_joined 146 = .ok (.iload_n 2, 1) := by decide +kernel
theorem dX3_joined_147 : decode cX3_joined 147 = .ok (.iadd, 1) := by decide +kernel
theorem dX3_joined_148 : decode cX3_joined 148 = .ok (.ireturn, 1) := by decide +kernel
theorem dX3_joined_149 : decode cX3_joined 149 = .ok (.iload_n 1, 1) := by decide +kernel
theorem dX3_joined_150 : decode cX3_joined 150 = .ok (.iload_n 2, 1) := by decide +kernel
theorem dX3_joined_151 : decode cX3_joined 151 = .ok (.isub, 1) := by decide +kernel
theorem dX3_joined_152 : decode cX3_joined 152 = .ok (.ireturn, 1) := by decide +kernel
theorem dX3_joined_153 : decode cX3_joined 153 = .ok (.iload_n 1, 1) := by decide +kernel
theorem dX3_joined_154 : decode cX3_joined 154 = .ok (.iload_n 2, 1) := by decide +kernel
theorem dX3_joined_155 : decode cX3_joined 155 = .ok (.imul, 1) := by decide +kernel
theorem dX3_joined_156 : decode cX3_joined 156 = .ok (.ireturn, 1) := by decide +kernel
theorem dX3_joined_157 : decode cX3_joined 157 = .ok (.iload_n 2, 1) := by decide +kernel
theorem dX3_joined_158 : decode cX3_joined 158 = .ok (.ifCond .ne 7, 3) := by decide +kernel
theorem dX3_joined_161 : decode cX3_joined 161 = .ok (.iconst 0, 1) := by decide +kernel
theorem dX3_joined_162 : decode cX3_joined 162 = .ok (.goto 6, 3) := by decide +kernel
theorem dX3_joined_165 : decode cX3_joined 165 = .ok (.iload_n 1, 1) := by decide +kernel
theorem dX3_joined_166 : decode cX3_joined 166 = .ok (.iload_n 2, 1) := by decide +kernel
theorem dX3_joined_167 : decode cX3_joined 167 = .ok (.idiv, 1) := by decide +kernel
theorem dX3_joined_168 : decode cX3_joined 168 = .ok (.ireturn, 1) := by decide +kernel
theorem dX3_joined_169 : decode cX3_joined 169 = .ok (.iload_n 2, 1) := by decide +kernel
theorem dX3_joined_170 : decode cX3_joined 170 = .ok (.ifCond .ne 7, 3) := by decide +kernel
theorem dX3_joined_173 : decode cX3_joined 173 = .ok (.iconst 0, 1) := by decide +kernel
theorem dX3_joined_174 : decode cX3_joined 174 = .ok (.goto 6, 3) := by decide +kernel
theorem dX3_joined_177 : decode cX3_joined 177 = .ok (.iload_n 1, 1) := by decide +kernel
theorem dX3_joined_178 : decode cX3_joined 178 = .ok (.iload_n 2, 1) := by decide +kernel
theorem dX3_joined_179 : decode cX3_joined 179 = .ok (.irem, 1) := by decide +kernel
theorem dX3_joined_180 : decode cX3_joined 180 = .ok (.ireturn, 1) := by decide +kernel
theorem gX4_init_X1_init : GoodIn wsX4_init (wsX1_init) := nw_gi nwl_X4_init nwl_X1_init (by decide +kernel)
theorem dX4_init_0 : decode cX4_init 0 = .ok (.aload_n 0, 1) := by decide +kernel
theorem dX4_init_1 : decode cX4_init 1 = .ok (.invokespecial 3, 3) := by decide +kernel
theorem dX4_init_4 : decode cX4_init 4 = .ok (.aload_n 0, 1) := by decide +kernel
theorem dX4_init_5 : decode cX4_init 5 = .ok (.new 9, 3) := by decide +kernel
theorem dX4_init_8 : decode cX4_init 8 = .ok (.dup, 1) := by decide +kernel
theorem dX4_init_9 : decode cX4_init 9 = .ok (.bipush 30, 2) := by decide +kernel
theorem dX4_init_11 : decode cX4_init 11 = .ok (.invokespecial 11, 3) := by decide +kernel
theorem dX4_init_14 : decode cX4_init 14 = .ok (.putfield 14, 3) := by decide +kernel
theorem dX4_init_17 : decode cX4_init 17 = .ok (.aload_n 0, 1) := by decide +kernel
theorem dX4_init_18 : decode cX4_init 18 = .ok (.iconst 0, 1) := by decide +kernel
theorem dX4_init_19 : decode cX4_init 19 = .ok (.putfield 20, 3) := by decide +kernel
theorem dX4_init_22 : decode cX4_init 22 = .ok (.aload_n 0, 1) := by decide +kernel
theorem dX4_init_23 : decode cX4_init 23 = .ok (.iconst 0, 1) := by decide +kernel
theorem dX4_init_24 : decode cX4_init 24 = .ok (.putfield 24, 3) := by decide +kernel
theorem dX4_init_27 : decode cX4_init 27 = .ok (.aload_n 0, 1) := by decide +kernel
theorem dX4_init_28 : decode cX4_init 28 = .ok (.iconst 0, 1) := by decide +kernel
theorem dX4_init_29 : decode cX4_init 29 = .ok (.putfield 28, 3) := by decide +kernel
theorem dX4_init_32 : decode cX4_init 32 = .ok (.aload_n 0, 1) := by decide +kernel
theorem dX4_init_33 : decode cX4_init 33 = .ok (.iconst 0, 1) := by decide +kernel
theorem dX4_init_34 : decode cX4_init 34 = .ok (.putfield 31, 3) := by decide +kernel
theorem dX4_init_37 : decode cX4_init 37 = .ok (.return_, 1) := by decide +kernel
theorem gX4_answer_X4_own : GoodIn wsX4_answer (wsV RX4 37 RX4 yX4_own wsX4_own) := nw_gV nwl_X4_answer nwe_217 nwe_218 nwe_219 nwe_208 nwl_X4_own (by decide +kernel)
theorem dX4_answer_0 : decode cX4_answer 0 = .ok (.aload_n 0, 1) := by decide +kernel
theorem dX4_answer_1 : decode cX4_answer 1 = .ok (.getfield 14, 3) := by decide +kernel
theorem dX4_answer_4 : decode cX4_answer 4 = .ok (.iconst 0, 1) := by decide +kernel
theorem dX4_answer_5 : decode cX4_answer 5 = .ok (.putfield 34, 3) := by decide +kernel
theorem dX4_answer_8 : decode cX4_answer 8 = .ok (.aload_n 0, 1) := by decide +kernel
theorem dX4_answer_9 : decode cX4_answer 9 = .ok (.iconst 0, 1) := by decide +kernel
theorem dX4_answer_10 : decode cX4_answer 10 = .ok (.putfield 20, 3) := by decide +kernel
theorem dX4_answer_13 : decode cX4_answer 13 = .ok (.aload_n 0, 1) := by decide +kernel
theorem dX4_answer_14 : decode cX4_answer 14 = .ok (.iload_n 1, 1) := by decide +kernel
theorem dX4_answer_15 : decode cX4_answer 15 = .ok (.putfield 24, 3) := by decide +kernel
theorem dX4_answer_18 : decode cX4_answer 18 = .ok (.aload_n 0, 1) := by decide +kernel
theorem dX4_answer_19 : decode cX4_answer 19 = .ok (.iload_n 3, 1) := by decide +kernel
theorem dX4_answer_20 : decode cX4_answer 20 = .ok (.putfield 28, 3) := by decide +kernel
theorem dX4_answer_23 : decode cX4_answer 23 = .ok (.aload_n 0, 1) := by decide +kernel
theorem dX4_answer_24 : decode cX4_answer 24 = .ok (.iload_n 2, 1) := by decide +kernel
theorem dX4_answer_25 : decode cX4_answer 25 = .ok (.putfield 31, 3) := by decide +kernel
theorem dX4_answer_28 : decode cX4_answer 28 = .ok (.aload_n 0, 1) := by decide +kernel
theorem dX4_answer_29 : decode cX4_answer 29 = .ok (.iload 4, 2) := by decide +kernel
theorem dX4_answer_31 : decode cX4_answer 31 = .ok (.iload 5, 2) := by decide +kernel
theorem dX4_answer_33 : decode cX4_answer 33 = .ok (.iconst 0, 1) := by decide +kernel
theorem dX4_answer_34 : decode cX4_answer 34 = .ok (.invokevirtual 37, 3) := by decide +kernel
theorem dX4_answer_37 : decode cX4_answer 37 = .ok (.ireturn, 1) := by decide +kernel
theorem gX4_own_X4_from : GoodIn wsX4_own (wsV RX4 41 RX4 yX4_from wsX4_from) := nw_gV nwl_X4_own nwe_205 nwe_206 nwe_207 nwe_208 nwl_X4_from (by decide +kernel)
theorem dX4_own_0 : decode cX4_own 0 = .ok (.aload_n 0, 1) := by decide +kernel
theorem dX4_own_1 : decode cX4_own 1 = .ok (.aload_n 0, 1) := by decide +kernel
theorem dX4_own_2 : decode cX4_own 2 = .ok (.getfield 31, 3) := by decide +kernel
theorem dX4_own_5 : decode cX4_own 5 = .ok (.iload_n 1, 1) := by decide +kernel
theorem dX4_own_6 : decode cX4_own 6 = .ok (.iload_n 2, 1) := by decide +kernel
theorem dX4_own_7 : decode cX4_own 7 = .ok (.iload_n 3, 1) := by decide +kernel
theorem dX4_own_8 : decode cX4_own 8 = .ok (.iconst 1, 1) := by decide +kernel
theorem dX4_own_9 : decode cX4_own 9 = .ok (.iadd, 1) := by decide +kernel
theorem dX4_own_10 : decode cX4_own 10 = .ok (.invokevirtual 41, 3) := by decide +kernel
theorem dX4_own_13 : decode cX4_own 13 = .ok (.ireturn, 1) := by decide +kernel
theorem gX4_above_X4_from : GoodIn wsX4_above (wsV RX4 41 RX4 yX4_from wsX4_from) := nw_gV nwl_X4_above nwe_205 nwe_206 nwe_207 nwe_208 nwl_X4_from (by decide +kernel)
theorem dX4_above_0 : decode cX4_above 0 = .ok (.aload_n 0, 1) := by decide +kernel
theorem dX4_above_1 : decode cX4_above 1 = .ok (.getstatic 45, 3) := by decide +kernel
theorem dX4_above_4 : decode cX4_above 4 = .ok (.iload_n 1, 1) := by decide +kernel
theorem dX4_above_5 : decode cX4_above 5 = .ok (.iaload, 1) := by decide +kernel
theorem dX4_above_6 : decode cX4_above 6 = .ok (.iload_n 2, 1) := by decide +kernel
theorem dX4_above_7 : decode cX4_above 7 = .ok (.iload_n 3, 1) := by decide +kernel
theorem dX4_above_8 : decode cX4_above 8 = .ok (.iload 4, 2) := by decide +kernel
theorem dX4_above_10 : decode cX4_above 10 = .ok (.iconst 1, 1) := by decide +kernel
theorem dX4_above_11 : decode cX4_above 11 = .ok (.iadd, 1) := by decide +kernel
theorem dX4_above_12 : decode cX4_above 12 = .ok (.invokevirtual 41, 3) := by decide +kernel
theorem dX4_above_15 : decode cX4_above 15 = .ok (.ireturn, 1) := by decide +kernel
theorem gX4_from_X4_workedOut : GoodIn wsX4_from (wsV RX4 52 RX4 yX4_workedOut wsX4_workedOut) := nw_gV nwl_X4_from nwe_211 nwe_212 nwe_213 nwe_208 nwl_X4_workedOut (by decide +kernel)
theorem dX4_from_0 : decode cX4_from 0 = .ok (.iload_n 1, 1) := by decide +kernel
theorem dX4_from_1 : decode cX4_from 1 = .ok (.istore 5, 2) := by decide +kernel
theorem dX4_from_3 : decode cX4_from 3 = .ok (.iconst 0, 1) := by decide +kernel
theorem dX4_from_4 : decode cX4_from 4 = .ok (.istore 6, 2) := by decide +kernel
theorem dX4_from_6 : decode cX4_from 6 = .ok (.iload 6, 2) := by decide +kernel
theorem dX4_from_8 : decode cX4_from 8 = .ok (.bipush 7, 2) := by decide +kernel
theorem dX4_from_10 : decode cX4_from 10 = .ok (.if_icmp .ge 51, 3) := by decide +kernel
theorem dX4_from_13 : decode cX4_from 13 = .ok (.iload 5, 2) := by decide +kernel
theorem dX4_from_15 : decode cX4_from 15 = .ok (.ifCond .lt 46, 3) := by decide +kernel
theorem dX4_from_18 : decode cX4_from 18 = .ok (.getstatic 49, 3) := by decide +kernel
theorem dX4_from_21 : decode cX4_from 21 = .ok (.iconst 4, 1) := by decide +kernel
theorem dX4_from_22 : decode cX4_from 22 = .ok (.iload 5, 2) := by decide +kernel
theorem dX4_from_24 : decode cX4_from 24 = .ok (.imul, 1) := by decide +kernel
theorem dX4_from_25 : decode cX4_from 25 = .ok (.iload_n 2, 1) := by decide +kernel
theorem dX4_from_26 : decode cX4_from 26 = .ok (.iadd, 1) := by decide +kernel
theorem dX4_from_27 : decode cX4_from 27 = .ok (.iaload, 1) := by decide +kernel
theorem dX4_from_28 : decode cX4_from 28 = .ok (.istore 7, 2) := by decide +kernel
theorem dX4_from_30 : decode cX4_from 30 = .ok (.iload 7, 2) := by decide +kernel
theorem dX4_from_32 : decode cX4_from 32 = .ok (.ifCond .eq 15, 3) := by decide +kernel
theorem dX4_from_35 : decode cX4_from 35 = .ok (.aload_n 0, 1) := by decide +kernel
theorem dX4_from_36 : decode cX4_from 36 = .ok (.iload 7, 2) := by decide +kernel
theorem dX4_from_38 : decode cX4_from 38 = .ok (.iload 5, 2) := by decide +kernel
theorem dX4_from_40 : decode cX4_from 40 = .ok (.iload_n 3, 1) := by decide +kernel
theorem dX4_from_41 : decode cX4_from 41 = .ok (.iload 4, 2) := by decide +kernel
theorem dX4_from_43 : decode cX4_from 43 = .ok (.invokevirtual 52, 3) := by decide +kernel
theorem dX4_from_46 : decode cX4_from 46 = .ok (.ireturn, 1) := by decide +kernel
theorem dX4_from_47 : decode cX4_from 47 = .ok (.getstatic 45, 3) := by decide +kernel
theorem dX4_from_50 : decode cX4_from 50 = .ok (.iload 5, 2) := by decide +kernel
theorem dX4_from_52 : decode cX4_from 52 = .ok (.iaload, 1) := by decide +kernel
theorem dX4_from_53 : decode cX4_from 53 = .ok (.istore 5, 2) := by decide +kernel
theorem dX4_from_55 : decode cX4_from 55 = .ok (.iinc 6 1, 3) := by decide +kernel
theorem dX4_from_58 : decode cX4_from 58 = .ok (.goto (-52), 3) := by decide +kernel
theorem dX4_from_61 : decode cX4_from 61 = .ok (.iconst 0, 1) := by decide +kernel
theorem dX4_from_62 : decode cX4_from 62 = .ok (.ireturn, 1) := by decide +kernel
theorem gX4_workedOut_X1_append : GoodIn wsX4_workedOut (wsV RX4 55 RX1 yX1_append wsX1_append) := nw_gV nwl_X4_workedOut nwe_216 nwe_116 nwe_117 nwe_87 nwl_X1_append (by decide +kernel)
theorem gX4_workedOut_X4_own : GoodIn wsX4_workedOut (wsV RX4 37 RX4 yX4_own wsX4_own) := nw_gV nwl_X4_workedOut nwe_217 nwe_218 nwe_219 nwe_208 nwl_X4_own (by decide +kernel)
theorem gX4_workedOut_X4_partedBy : GoodIn wsX4_workedOut (wsV RX4 58 RX4 yX4_partedBy wsX4_partedBy) := nw_gV nwl_X4_workedOut nwe_220 nwe_221 nwe_222 nwe_208 nwl_X4_partedBy (by decide +kernel)
theorem gX4_workedOut_X4_above : GoodIn wsX4_workedOut (wsV RX4 62 RX4 yX4_above wsX4_above) := nw_gV nwl_X4_workedOut nwe_223 nwe_224 nwe_225 nwe_208 nwl_X4_above (by decide +kernel)
theorem dX4_workedOut_0 : decode cX4_workedOut 0 = .ok (.aload_n 0, 1) := by decide +kernel
theorem dX4_workedOut_1 : decode cX4_workedOut 1 = .ok (.getfield 20, 3) := by decide +kernel
theorem dX4_workedOut_4 : decode cX4_workedOut 4 = .ok (.ifCond .ne 10, 3) := by decide +kernel
theorem dX4_workedOut_7 : decode cX4_workedOut 7 = .ok (.iload 4, 2) := by decide +kernel
theorem dX4_workedOut_9 : decode cX4_workedOut 9 = .ok (.bipush 40, 2) := by decide +kernel
theorem dX4_workedOut_11 : decode cX4_workedOut 11 = .ok (.if_icmp .le 5, 3) := by decide +kernel
theorem dX4_workedOut_14 : decode cX4_workedOut 14 = .ok (.iconst 0, 1) := by decide +kernel
theorem dX4_workedOut_15 : decode cX4_workedOut 15 = .ok (.ireturn, 1) := by decide +kernel
theorem dX4_workedOut_16 : decode cX4_workedOut 16 = .ok (.aload_n 0, 1) := by decide +kernel
theorem dX4_workedOut_17 : decode cX4_workedOut 17 = .ok (.getfield 14, 3) := by decide +kernel
theorem dX4_workedOut_20 : decode cX4_workedOut 20 = .ok (.iload_n 1, 1) := by decide +kernel
theorem dX4_workedOut_21 : decode cX4_workedOut 21 = .ok (.invokevirtual 55, 3) := by decide +kernel
theorem dX4_workedOut_24 : decode cX4_workedOut 24 = .ok (.iload_n 1, 1) := by decide +kernel
theorem dX4_workedOut_25 : decode cX4_workedOut 25 = .ok (.lookupswitch 251 #[(10, 107), (11, 114), (12, 125), (13, 139), (20, 154), (21, 166), (30, 185), (40, 197), (50, 209), (51, 221), (60, 236), (70, 248)], 107) := by decide +kernel
theorem dX4_workedOut_132 : decode cX4_workedOut 132 = .ok (.iload_n 3, 1) := by decide +kernel
theorem dX4_workedOut_133 : decode cX4_workedOut 133 = .ok (.aload_n 0, 1) := by decide +kernel
theorem dX4_workedOut_134 : decode cX4_workedOut 134 = .ok (.getfield 24, 3) := by decide +kernel
theorem dX4_workedOut_137 : decode cX4_workedOut 137 = .ok (.iadd, 1) := by decide +kernel
theorem dX4_workedOut_138 : decode cX4_workedOut 138 = .ok (.ireturn, 1) := by decide +kernel
theorem dX4_workedOut_139 : decode cX4_workedOut 139 = .ok (.aload_n 0, 1) := by decide +kernel
theorem dX4_workedOut_140 : decode cX4_workedOut 140 = .ok (.iconst 0, 1) := by decide +kernel
theorem dX4_workedOut_141 : decode cX4_workedOut 141 = .ok (.iload_n 3, 1) := by decide +kernel
theorem dX4_workedOut_142 : decode cX4_workedOut 142 = .ok (.iload 4, 2) := by decide +kernel
theorem dX4_workedOut_144 : decode cX4_workedOut 144 = .ok (.invokevirtual 37, 3) := by decide +kernel
theorem dX4_workedOut_147 : decode cX4_workedOut 147 = .ok (.iconst 2, 1) := by decide +kernel
theorem dX4_workedOut_148 : decode cX4_workedOut 148 = .ok (.imul, 1) := by decide +kernel
theorem dX4_workedOut_149 : decode cX4_workedOut 149 = .ok (.ireturn, 1) := by decide +kernel
theorem dX4_workedOut_150 : decode cX4_workedOut 150 = .ok (.aload_n 0, 1) := by decide +kernel
theorem dX4_workedOut_151 : decode cX4_workedOut 151 = .ok (.iconst 1, 1) := by decide +kernel
theorem dX4_workedOut_152 : decode cX4_workedOut 152 = .ok (.iload_n 3, 1) := by decide +kernel
theorem dX4_workedOut_153 : decode cX4_workedOut 153 = .ok (.iload 4, 2) := by decide +kernel
theorem dX4_workedOut_155 : decode cX4_workedOut 155 = .ok (.invokevirtual 37, 3) := by decide +kernel
theorem dX4_workedOut_158 : decode cX4_workedOut 158 = .ok (.aload_n 0, 1) := by decide +kernel
theorem dX4_workedOut_159 : decode cX4_workedOut 159 = .ok (.getfield 28, 3) := by decide +kernel
theorem dX4_workedOut_162 : decode cX4_workedOut 162 = .ok (.isub, 1) := by decide +kernel
theorem dX4_workedOut_163 : decode cX4_workedOut 163 = .ok (.ireturn, 1) := by decide +kernel
theorem dX4_workedOut_164 : decode cX4_workedOut 164 = .ok (.aload_n 0, 1) := by decide +kernel
theorem dX4_workedOut_165 : decode cX4_workedOut 165 = .ok (.iload_n 3, 1) := by decide +kernel
theorem dX4_workedOut_166 : decode cX4_workedOut 166 = .ok (.aload_n 0, 1) := by decide +kernel
theorem dX4_workedOut_167 : decode cX4_workedOut 167 = .ok (.getfield 28, 3) := by decide +kernel
theorem dX4_workedOut_170 : decode cX4_workedOut 170 = .ok (.aload_n 0, 1) := by decide +kernel
theorem dX4_workedOut_171 : decode cX4_workedOut 171 = .ok (.getfield 24, 3) := by decide +kernel
theorem dX4_workedOut_174 : decode cX4_workedOut 174 = .ok (.isub, 1) := by decide +kernel
theorem dX4_workedOut_175 : decode cX4_workedOut 175 = .ok (.invokevirtual 58, 3) := by decide +kernel
theorem dX4_workedOut_178 : decode cX4_workedOut 178 = .ok (.ireturn, 1) := by decide +kernel
theorem dX4_workedOut_179 : decode cX4_workedOut 179 = .ok (.aload_n 0, 1) := by decide +kernel
theorem dX4_workedOut_180 : decode cX4_workedOut 180 = .ok (.iload_n 2, 1) := by decide +kernel
theorem dX4_workedOut_181 : decode cX4_workedOut 181 = .ok (.iconst 0, 1) := by decide +kernel
theorem dX4_workedOut_182 : decode cX4_workedOut 182 = .ok (.iload_n 3, 1) := by decide +kernel
theorem dX4_workedOut_183 : decode cX4_workedOut 183 = .ok (.iload 4, 2) := by decide +kernel
theorem dX4_workedOut_185 : decode cX4_workedOut 185 = .ok (.invokevirtual 62, 3) := by decide +kernel
theorem dX4_workedOut_188 : decode cX4_workedOut 188 = .ok (.iconst 4, 1) := by decide +kernel
theorem dX4_workedOut_189 : decode cX4_workedOut 189 = .ok (.isub, 1) := by decide +kernel
theorem dX4_workedOut_190 : decode cX4_workedOut 190 = .ok (.ireturn, 1) := by decide +kernel
theorem dX4_workedOut_191 : decode cX4_workedOut 191 = .ok (.aload_n 0, 1) := by decide +kernel
theorem dX4_workedOut_192 : decode cX4_workedOut 192 = .ok (.iload_n 2, 1) := by decide +kernel
theorem dX4_workedOut_193 : decode cX4_workedOut 193 = .ok (.iconst 3, 1) := by decide +kernel
theorem dX4_workedOut_194 : decode cX4_workedOut 194 = .ok (.iload_n 3, 1) := by decide +kernel
theorem dX4_workedOut_195 : decode cX4_workedOut 195 = .ok (.iload 4, 2) := by decide +kernel
theorem dX4_workedOut_197 : decode cX4_workedOut 197 = .ok (.invokevirtual 62, 3) := by decide +kernel
theorem dX4_workedOut_200 : decode cX4_workedOut 200 = .ok (.aload_n 0, 1) := by decide +kernel
theorem dX4_workedOut_201 : decode cX4_workedOut 201 = .ok (.iconst 1, 1) := by decide +kernel
theorem dX4_workedOut_202 : decode cX4_workedOut 202 = .ok (.iconst 1, 1) := by decide +kernel
theorem dX4_workedOut_203 : decode cX4_workedOut 203 = .ok (.iload 4, 2) := by decide +kernel
theorem dX4_workedOut_205 : decode cX4_workedOut 205 = .ok (.invokevirtual 37, 3) := by decide +kernel
theorem dX4_workedOut_208 : decode cX4_workedOut 208 = .ok (.iadd, 1) := by decide +kernel
theorem dX4_workedOut_209 : decode cX4_workedOut 209 = .ok (.ireturn, 1) := by decide +kernel
theorem dX4_workedOut_210 : decode cX4_workedOut 210 = .ok (.iconst 0, 1) := by decide +kernel
theorem dX4_workedOut_211 : decode cX4_workedOut 211 = .ok (.aload_n 0, 1) := by decide +kernel
theorem dX4_workedOut_212 : decode cX4_workedOut 212 = .ok (.iload_n 2, 1) := by decide +kernel
theorem dX4_workedOut_213 : decode cX4_workedOut 213 = .ok (.iconst 1, 1) := by decide +kernel
theorem dX4_workedOut_214 : decode cX4_workedOut 214 = .ok (.iload_n 3, 1) := by decide +kernel
theorem dX4_workedOut_215 : decode cX4_workedOut 215 = .ok (.iload 4, 2) := by decide +kernel
theorem dX4_workedOut_217 : decode cX4_workedOut 217 = .ok (.invokevirtual 62, 3) := by decide +kernel
theorem dX4_workedOut_220 : decode cX4_workedOut 220 = .ok (.isub, 1) := by decide +kernel
theorem dX4_workedOut_221 : decode cX4_workedOut 221 = .ok (.ireturn, 1) := by decide +kernel
theorem dX4_workedOut_222 : decode cX4_workedOut 222 = .ok (.aload_n 0, 1) := by decide +kernel
theorem dX4_workedOut_223 : decode cX4_workedOut 223 = .ok (.iload_n 2, 1) := by decide +kernel
theorem dX4_workedOut_224 : decode cX4_workedOut 224 = .ok (.iconst 2, 1) := by decide +kernel
theorem dX4_workedOut_225 : decode cX4_workedOut 225 = .ok (.iload_n 3, 1) := by decide +kernel
theorem dX4_workedOut_226 : decode cX4_workedOut 226 = .ok (.iconst 2, 1) := by decide +kernel
theorem dX4_workedOut_227 : decode cX4_workedOut 227 = .ok (.idiv, 1) := by decide +kernel
theorem dX4_workedOut_228 : decode cX4_workedOut 228 = .ok (.iload 4, 2) := by decide +kernel
theorem dX4_workedOut_230 : decode cX4_workedOut 230 = .ok (.invokevirtual 62, 3) := by decide +kernel
theorem dX4_workedOut_233 : decode cX4_workedOut 233 = .ok (.ireturn, 1) := by decide +kernel
theorem dX4_workedOut_234 : decode cX4_workedOut 234 = .ok (.aload_n 0, 1) := by decide +kernel
theorem dX4_workedOut_235 : decode cX4_workedOut 235 = .ok (.iload_n 2, 1) := by decide +kernel
theorem dX4_workedOut_236 : decode cX4_workedOut 236 = .ok (.iconst 0, 1) := by decide +kernel
theorem dX4_workedOut_237 : decode cX4_workedOut 237 = .ok (.iload_n 3, 1) := by decide +kernel
theorem dX4_workedOut_238 : decode cX4_workedOut 238 = .ok (.iload 4, 2) := by decide +kernel
theorem dX4_workedOut_240 : decode cX4_workedOut 240 = .ok (.invokevirtual 62, 3) := by decide +kernel
theorem dX4_workedOut_243 : decode cX4_workedOut 243 = .ok (.iconst 3, 1) := by decide +kernel
theorem dX4_workedOut_244 : decode cX4_workedOut 244 = .ok (.imul, 1) := by decide +kernel
theorem dX4_workedOut_245 : decode cX4_workedOut 245 = .ok (.ireturn, 1) := by decide +kernel
theorem dX4_workedOut_246 : decode cX4_workedOut 246 = .ok (.aload_n 0, 1) := by decide +kernel
theorem dX4_workedOut_247 : decode cX4_workedOut 247 = .ok (.iload_n 2, 1) := by decide +kernel
theorem dX4_workedOut_248 : decode cX4_workedOut 248 = .ok (.iconst 2, 1) := by decide +kernel
theorem dX4_workedOut_249 : decode cX4_workedOut 249 = .ok (.iload_n 3, 1) := by decide +kernel
theorem dX4_workedOut_250 : decode cX4_workedOut 250 = .ok (.iload 4, 2) := by decide +kernel
theorem dX4_workedOut_252 : decode cX4_workedOut 252 = .ok (.invokevirtual 62, 3) := by decide +kernel
theorem dX4_workedOut_255 : decode cX4_workedOut 255 = .ok (.aload_n 0, 1) := by decide +kernel
theorem dX4_workedOut_256 : decode cX4_workedOut 256 = .ok (.getfield 24, 3) := by decide +kernel
theorem dX4_workedOut_259 : decode cX4_workedOut 259 = .ok (.ixor, 1) := by decide +kernel
theorem dX4_workedOut_260 : decode cX4_workedOut 260 = .ok (.ireturn, 1) := by decide +kernel
theorem dX4_workedOut_261 : decode cX4_workedOut 261 = .ok (.aload_n 0, 1) := by decide +kernel
theorem dX4_workedOut_262 : decode cX4_workedOut 262 = .ok (.iload_n 2, 1) := by decide +kernel
theorem dX4_workedOut_263 : decode cX4_workedOut 263 = .ok (.iconst 1, 1) := by decide +kernel
theorem dX4_workedOut_264 : decode cX4_workedOut 264 = .ok (.iload_n 3, 1) := by decide +kernel
theorem dX4_workedOut_265 : decode cX4_workedOut 265 = .ok (.iconst 1, 1) := by decide +kernel
theorem dX4_workedOut_266 : decode cX4_workedOut 266 = .ok (.iadd, 1) := by decide +kernel
theorem dX4_workedOut_267 : decode cX4_workedOut 267 = .ok (.iload 4, 2) := by decide +kernel
theorem dX4_workedOut_269 : decode cX4_workedOut 269 = .ok (.invokevirtual 62, 3) := by decide +kernel
theorem dX4_workedOut_272 : decode cX4_workedOut 272 = .ok (.ireturn, 1) := by decide +kernel
theorem dX4_workedOut_273 : decode cX4_workedOut 273 = .ok (.bipush 9, 2) := by decide +kernel
theorem dX4_workedOut_275 : decode cX4_workedOut 275 = .ok (.ireturn, 1) := by decide +kernel
theorem dX4_workedOut_276 : decode cX4_workedOut 276 = .ok (.aload_n 0, 1) := by decide +kernel
theorem dX4_workedOut_277 : decode cX4_workedOut 277 = .ok (.iload_n 2, 1) := by decide +kernel
theorem dX4_workedOut_278 : decode cX4_workedOut 278 = .ok (.iconst 1, 1) := by decide +kernel
theorem dX4_workedOut_279 : decode cX4_workedOut 279 = .ok (.iload_n 3, 1) := by decide +kernel
theorem dX4_workedOut_280 : decode cX4_workedOut 280 = .ok (.iload 4, 2) := by decide +kernel
theorem dX4_workedOut_282 : decode cX4_workedOut 282 = .ok (.invokevirtual 62, 3) := by decide +kernel
theorem dX4_workedOut_285 : decode cX4_workedOut 285 = .ok (.aload_n 0, 1) := by decide +kernel
theorem dX4_workedOut_286 : decode cX4_workedOut 286 = .ok (.getfield 28, 3) := by decide +kernel
theorem dX4_workedOut_289 : decode cX4_workedOut 289 = .ok (.iadd, 1) := by decide +kernel
theorem dX4_workedOut_290 : decode cX4_workedOut 290 = .ok (.ireturn, 1) := by decide +kernel
theorem dX4_partedBy_0 : decode cX4_partedBy 0 = .ok (.iload_n 2, 1) := by decide +kernel
theorem dX4_partedBy_1 : decode cX4_partedBy 1 = .ok (.ifCond .ne 10, 3) := by decide +kernel
theorem dX4_partedBy_4 : decode cX4_partedBy 4 = .ok (.aload_n 0, 1) := by decide +kernel
theorem dX4_partedBy_5 : decode cX4_partedBy 5 = .ok (.iconst 1, 1) := by decide +kernel
theorem dX4_partedBy_6 : decode cX4_partedBy 6 = .ok (.putfield 20, 3) := by decide +kernel
theorem dX4_partedBy_9 : decode cX4_partedBy 9 = .ok (.iconst 0, 1) := by decide +kernel
theorem dX4_partedBy_10 : decode cX4_partedBy 10 = .ok (.ireturn, 1) := by decide +kernel
theorem dX4_partedBy_11 : decode cX4_partedBy 11 = .ok (.iload_n 1, 1) := by decide +kernel
theorem dX4_partedBy_12 : decode cX4_partedBy 12 = .ok (.iload_n 2, 1) := by decide +kernel
theorem dX4_partedBy_13 : decode cX4_partedBy 13 = .ok (.idiv, 1) := by decide +kernel
theorem dX4_partedBy_14 : decode cX4_partedBy 14 = .ok (.ireturn, 1) := by decide +kernel
theorem dJ7_fill_53178_0 : decode cJ7_fill_53178 0 = .ok (.iconst 0, 1) := by decide +kernel
theorem dJ7_fill_53178_1 : decode cJ7_fill_53178 1 = .ok (.istore_n 2, 1) := by decide +kernel
theorem dJ7_fill_53178_2 : decode cJ7_fill_53178 2 = .ok (.aload_n 0, 1) := by decide +kernel
theorem dJ7_fill_53178_3 : decode cJ7_fill_53178 3 = .ok (.arraylength, 1) := by decide +kernel
theorem dJ7_fill_53178_4 : decode cJ7_fill_53178 4 = .ok (.istore_n 3, 1) := by decide +kernel
theorem dJ7_fill_53178_5 : decode cJ7_fill_53178 5 = .ok (.iload_n 2, 1) := by decide +kernel
theorem dJ7_fill_53178_6 : decode cJ7_fill_53178 6 = .ok (.iload_n 3, 1) := by decide +kernel
theorem dJ7_fill_53178_7 : decode cJ7_fill_53178 7 = .ok (.if_icmp .ge 13, 3) := by decide +kernel
theorem dJ7_fill_53178_10 : decode cJ7_fill_53178 10 = .ok (.aload_n 0, 1) := by decide +kernel
theorem dJ7_fill_53178_11 : decode cJ7_fill_53178 11 = .ok (.iload_n 2, 1) := by decide +kernel
theorem dJ7_fill_53178_12 : decode cJ7_fill_53178 12 = .ok (.iload_n 1, 1) := by decide +kernel
theorem dJ7_fill_53178_13 : decode cJ7_fill_53178 13 = .ok (.iastore, 1) := by decide +kernel
theorem dJ7_fill_53178_14 : decode cJ7_fill_53178 14 = .ok (.iinc 2 1, 3) := by decide +kernel
theorem dJ7_fill_53178_17 : decode cJ7_fill_53178 17 = .ok (.goto (-12), 3) := by decide +kernel
theorem dJ7_fill_53178_20 : decode cJ7_fill_53178 20 = .ok (.return_, 1) := by decide +kernel
theorem gX5_init_X3_init_n38 : GoodIn wsX5_init (wsX3_init) := nw_gi nwl_X5_init nwl_X3_init (by decide +kernel)
theorem gX5_init_J7_fill_53178 : GoodIn wsX5_init (va_wsS RX5 68 yJ7_fill_53178 wsJ7_fill_53178) := nw_gS nwl_X5_init nwe_250 nwe_172 nwe_173 nwl_J7_fill_53178 (by decide +kernel)
theorem dX5_init_0 : decode cX5_init 0 = .ok (.aload_n 0, 1) := by decide +kernel
theorem dX5_init_1 : decode cX5_init 1 = .ok (.invokespecial 3, 3) := by decide +kernel
theorem dX5_init_4 : decode cX5_init 4 = .ok (.aload_n 0, 1) := by decide +kernel
theorem dX5_init_5 : decode cX5_init 5 = .ok (.bipush 16, 2) := by decide +kernel
theorem dX5_init_7 : decode cX5_init 7 = .ok (.newarray .int, 2) := by decide +kernel
theorem dX5_init_9 : decode cX5_init 9 = .ok (.putfield 9, 3) := by decide +kernel
theorem dX5_init_12 : decode cX5_init 12 = .ok (.aload_n 0, 1) := by decide +kernel
theorem dX5_init_13 : decode cX5_init 13 = .ok (.bipush 16, 2) := by decide +kernel
theorem dX5_init_15 : decode cX5_init 15 = .ok (.newarray .int, 2) := by decide +kernel
theorem dX5_init_17 : decode cX5_init 17 = .ok (.putfield 15, 3) := by decide +kernel
theorem dX5_init_20 : decode cX5_init 20 = .ok (.aload_n 0, 1) := by decide +kernel
theorem dX5_init_21 : decode cX5_init 21 = .ok (.bipush 9, 2) := by decide +kernel
theorem dX5_init_23 : decode cX5_init 23 = .ok (.newarray .int, 2) := by decide +kernel
theorem dX5_init_25 : decode cX5_init 25 = .ok (.putfield 18, 3) := by decide +kernel
theorem dX5_init_28 : decode cX5_init 28 = .ok (.aload_n 0, 1) := by decide +kernel
theorem dX5_init_29 : decode cX5_init 29 = .ok (.bipush 9, 2) := by decide +kernel
theorem dX5_init_31 : decode cX5_init 31 = .ok (.newarray .int, 2) := by decide +kernel
theorem dX5_init_33 : decode cX5_init 33 = .ok (.putfield 21, 3) := by decide +kernel
theorem dX5_init_36 : decode cX5_init 36 = .ok (.aload_n 0, 1) := by decide +kernel
theorem dX5_init_37 : decode cX5_init 37 = .ok (.bipush 9, 2) := by decide +kernel
theorem dX5_init_39 : decode cX5_init 39 = .ok (.newarray .int, 2) := by decide +kernel
theorem dX5_init_41 : decode cX5_init 41 = .ok (.putfield 24, 3) := by decide +kernel
theorem dX5_init_44 : decode cX5_init 44 = .ok (.aload_n 0, 1) := by decide +kernel
theorem dX5_init_45 : decode cX5_init 45 = .ok (.bipush 9, 2) := by decide +kernel
theorem dX5_init_47 : decode cX5_init 47 = .ok (.newarray .int, 2) := by decide +kernel
theorem dX5_init_49 : decode cX5_init 49 = .ok (.putfield 27, 3) := by decide +kernel
theorem dX5_init_52 : decode cX5_init 52 = .ok (.aload_n 0, 1) := by decide +kernel
theorem dX5_init_53 : decode cX5_init 53 = .ok (.bipush 9, 2) := by decide +kernel
theorem dX5_init_55 : decode cX5_init 55 = .ok (.newarray .int, 2) := by decide +kernel
theorem dX5_init_57 : decode cX5_init 57 = .ok (.putfield 30, 3) := by decide +kernel
theorem dX5_init_60 : decode cX5_init 60 = .ok (.aload_n 0, 1) := by decide +kernel
theorem dX5_init_61 : decode cX5_init 61 = .ok (.bipush 36, 2) := by decide +kernel
theorem dX5_init_63 : decode cX5_init 63 = .ok (.newarray .int, 2) := by decide +kernel
theorem dX5_init_65 : decode cX5_init 65 = .ok (.putfield 33, 3) := by decide +kernel
theorem dX5_init_68 : decode cX5_init 68 = .ok (.aload_n 0, 1) := by decide +kernel
theorem dX5_init_69 : decode cX5_init 69 = .ok (.new 36, 3) := by decide +kernel
theorem dX5_init_72 : decode cX5_init 72 = .ok (.dup, 1) := by decide +kernel
theorem dX5_init_73 : decode cX5_init 73 = .ok (.invokespecial 38, 3) := by decide +kernel
theorem dX5_init_76 : decode cX5_init 76 = .ok (.putfield 39, 3) := by decide +kernel
theorem dX5_init_79 : decode cX5_init 79 = .ok (.aload_n 0, 1) := by decide +kernel
theorem dX5_init_80 : decode cX5_init 80 = .ok (.new 36, 3) := by decide +kernel
theorem dX5_init_83 : decode cX5_init 83 = .ok (.dup, 1) := by decide +kernel
theorem dX5_init_84 : decode cX5_init 84 = .ok (.invokespecial 38, 3) := by decide +kernel
theorem dX5_init_87 : decode cX5_init 87 = .ok (.putfield 43, 3) := by decide +kernel
theorem dX5_init_90 : decode cX5_init 90 = .ok (.aload_n 0, 1) := by decide +kernel
theorem dX5_init_91 : decode cX5_init 91 = .ok (.iconst 1, 1) := by decide +kernel
theorem dX5_init_92 : decode cX5_init 92 = .ok (.putfield 46, 3) := by decide +kernel
theorem dX5_init_95 : decode cX5_init 95 = .ok (.aload_n 0, 1) := by decide +kernel
theorem dX5_init_96 : decode cX5_init 96 = .ok (.iconst 0, 1) := by decide +kernel
theorem dX5_init_97 : decode cX5_init 97 = .ok (.putfield 50, 3) := by decide +kernel
theorem dX5_init_100 : decode cX5_init 100 = .ok (.aload_n 0, 1) := by decide +kernel
theorem dX5_init_101 : decode cX5_init 101 = .ok (.iconst 5, 1) := by decide +kernel
theorem dX5_init_102 : decode cX5_init 102 = .ok (.putfield 53, 3) := by decide +kernel
theorem dX5_init_105 : decode cX5_init 105 = .ok (.aload_n 0, 1) := by decide +kernel
theorem dX5_init_106 : decode cX5_init 106 = .ok (.iconst 0, 1) := by decide +kernel
theorem dX5_init_107 : decode cX5_init 107 = .ok (.putfield 56, 3) := by decide +kernel
theorem dX5_init_110 : decode cX5_init 110 = .ok (.aload_n 0, 1) := by decide +kernel
theorem dX5_init_111 : decode cX5_init 111 = .ok (.iconst 1, 1) := by decide +kernel
theorem dX5_init_112 : decode cX5_init 112 = .ok (.putfield 59, 3) := by decide +kernel
theorem dX5_init_115 : decode cX5_init 115 = .ok (.aload_n 0, 1) := by decide +kernel
theorem dX5_init_116 : decode cX5_init 116 = .ok (.bipush 16, 2) := by decide +kernel
theorem dX5_init_118 : decode cX5_init 118 = .ok (.newarray .int, 2) := by decide +kernel
theorem dX5_init_120 : decode cX5_init 120 = .ok (.putfield 62, 3) := by decide +kernel
theorem dX5_init_123 : decode cX5_init 123 = .ok (.aload_n 0, 1) := by decide +kernel
theorem dX5_init_124 : decode cX5_init 124 = .ok (.bipush 16, 2) := by decide +kernel
theorem dX5_init_126 : decode cX5_init 126 = .ok (.newarray .int, 2) := by decide +kernel
theorem dX5_init_128 : decode cX5_init 128 = .ok (.putfield 65, 3) := by decide +kernel
theorem dX5_init_131 : decode cX5_init 131 = .ok (.iconst 0, 1) := by decide +kernel
theorem dX5_init_132 : decode cX5_init 132 = .ok (.istore_n 1, 1) := by decide +kernel
theorem dX5_init_133 : decode cX5_init 133 = .ok (.iload_n 1, 1) := by decide +kernel
theorem dX5_init_134 : decode cX5_init 134 = .ok (.bipush 16, 2) := by decide +kernel
theorem dX5_init_136 : decode cX5_init 136 = .ok (.if_icmp .ge 19, 3) := by decide +kernel
theorem dX5_init_139 : decode cX5_init 139 = .ok (.aload_n 0, 1) := by decide +kernel
theorem dX5_init_140 : decode cX5_init 140 = .ok (.getfield 9, 3) := by decide +kernel
theorem dX5_init_143 : decode cX5_init 143 = .ok (.iload_n 1, 1) := by decide +kernel
theorem dX5_init_144 : decode cX5_init 144 = .ok (.iload_n 1, 1) := by decide +kernel
theorem dX5_init_145 : decode cX5_init 145 = .ok (.bipush 9, 2) := by decide +kernel
theorem dX5_init_147 : decode cX5_init 147 = .ok (.irem, 1) := by decide +kernel
theorem dX5_init_148 : decode cX5_init 148 = .ok (.iastore, 1) := by decide +kernel
theorem dX5_init_149 : decode cX5_init 149 = .ok (.iinc 1 1, 3) := by decide +kernel
theorem dX5_init_152 : decode cX5_init 152 = .ok (.goto (-19), 3) := by decide +kernel
theorem dX5_init_155 : decode cX5_init 155 = .ok (.iconst 0, 1) := by decide +kernel
theorem dX5_init_156 : decode cX5_init 156 = .ok (.istore_n 1, 1) := by decide +kernel
theorem dX5_init_157 : decode cX5_init 157 = .ok (.iload_n 1, 1) := by decide +kernel
theorem dX5_init_158 : decode cX5_init 158 = .ok (.bipush 9, 2) := by decide +kernel
theorem dX5_init_160 : decode cX5_init 160 = .ok (.if_icmp .ge 16, 3) := by decide +kernel
theorem dX5_init_163 : decode cX5_init 163 = .ok (.aload_n 0, 1) := by decide +kernel
theorem dX5_init_164 : decode cX5_init 164 = .ok (.getfield 30, 3) := by decide +kernel
theorem dX5_init_167 : decode cX5_init 167 = .ok (.iload_n 1, 1) := by decide +kernel
theorem dX5_init_168 : decode cX5_init 168 = .ok (.iload_n 1, 1) := by decide +kernel
theorem dX5_init_169 : decode cX5_init 169 = .ok (.iastore, 1) := by decide +kernel
theorem dX5_init_170 : decode cX5_init 170 = .ok (.iinc 1 1, 3) := by decide +kernel
theorem dX5_init_173 : decode cX5_init 173 = .ok (.goto (-16), 3) := by decide +kernel
theorem dX5_init_176 : decode cX5_init 176 = .ok (.aload_n 0, 1) := by decide +kernel
theorem dX5_init_177 : decode cX5_init 177 = .ok (.getfield 33, 3) := by decide +kernel
theorem dX5_init_180 : decode cX5_init 180 = .ok (.iconst 4, 1) := by decide +kernel
theorem dX5_init_181 : decode cX5_init 181 = .ok (.invokestatic 68, 3) := by decide +kernel
theorem dX5_init_184 : decode cX5_init 184 = .ok (.return_, 1) := by decide +kernel
theorem gX5_takeFrom_X1_takeFrom : GoodIn wsX5_takeFrom (wsV RX5 84 RX1 yX1_takeFrom wsX1_takeFrom) := nw_gV nwl_X5_takeFrom nwe_255 nwe_158 nwe_159 nwe_87 nwl_X1_takeFrom (by decide +kernel)
theorem gX5_takeFrom_X5_takeWoodFrom : GoodIn wsX5_takeFrom (wsV RX5 90 RX5 yX5_takeWoodFrom wsX5_takeWoodFrom) := nw_gV nwl_X5_takeFrom nwe_256 nwe_257 nwe_258 nwe_259 nwl_X5_takeWoodFrom (by decide +kernel)
theorem dX5_takeFrom_0 : decode cX5_takeFrom 0 = .ok (.aload_n 1, 1) := by decide +kernel
theorem dX5_takeFrom_1 : decode cX5_takeFrom 1 = .ok (.getfield 9, 3) := by decide +kernel
theorem dX5_takeFrom_4 : decode cX5_takeFrom 4 = .ok (.iconst 0, 1) := by decide +kernel
theorem dX5_takeFrom_5 : decode cX5_takeFrom 5 = .ok (.aload_n 0, 1) := by decide +kernel
theorem dX5_takeFrom_6 : decode cX5_takeFrom 6 = .ok (.getfield 9, 3) := by decide +kernel
theorem dX5_takeFrom_9 : decode cX5_takeFrom 9 = .ok (.iconst 0, 1) := by decide +kernel
theorem dX5_takeFrom_10 : decode cX5_takeFrom 10 = .ok (.bipush 16, 2) := by decide +kernel
theorem dX5_takeFrom_12 : decode cX5_takeFrom 12 = .ok (.invokestatic 74, 3) := by decide +kernel
theorem dX5_takeFrom_15 : decode cX5_takeFrom 15 = .ok (.aload_n 1, 1) := by decide +kernel
theorem dX5_takeFrom_16 : decode cX5_takeFrom 16 = .ok (.getfield 18, 3) := by decide +kernel
theorem dX5_takeFrom_19 : decode cX5_takeFrom 19 = .ok (.iconst 0, 1) := by decide +kernel
theorem dX5_takeFrom_20 : decode cX5_takeFrom 20 = .ok (.aload_n 0, 1) := by decide +kernel
theorem dX5_takeFrom_21 : decode cX5_takeFrom 21 = .ok (.getfield 18, 3) := by decide +kernel
theorem dX5_takeFrom_24 : decode cX5_takeFrom 24 = .ok (.iconst 0, 1) := by decide +kernel
theorem dX5_takeFrom_25 : decode cX5_takeFrom 25 = .ok (.bipush 9, 2) := by decide +kernel
theorem dX5_takeFrom_27 : decode cX5_takeFrom 27 = .ok (.invokestatic 74, 3) := by decide +kernel
theorem dX5_takeFrom_30 : decode cX5_takeFrom 30 = .ok (.aload_n 1, 1) := by decide +kernel
theorem dX5_takeFrom_31 : decode cX5_takeFrom 31 = .ok (.getfield 21, 3) := by decide +kernel
theorem dX5_takeFrom_34 : decode cX5_takeFrom 34 = .ok (.iconst 0, 1) := by decide +kernel
theorem dX5_takeFrom_35 : decode cX5_takeFrom 35 = .ok (.aload_n 0, 1) := by decide +kernel
theorem dX5_takeFrom_36 : decode cX5_takeFrom 36 = .ok (.getfield 21, 3) := by decide +kernel
theorem dX5_takeFrom_39 : decode cX5_takeFrom 39 = .ok (.iconst 0, 1) := by decide +kernel
theorem dX5_takeFrom_40 : decode cX5_takeFrom 40 = .ok (.bipush 9, 2) := by decide +kernel
theorem dX5_takeFrom_42 : decode cX5_takeFrom 42 = .ok (.invokestatic 74, 3) := by decide +kernel
theorem dX5_takeFrom_45 : decode cX5_takeFrom 45 = .ok (.aload_n 1, 1) := by decide +kernel
theorem dX5_takeFrom_46 : decode cX5_takeFrom 46 = .ok (.getfield 24, 3) := by decide +kernel
theorem dX5_takeFrom_49 : decode cX5_takeFrom 49 = .ok (.iconst 0, 1) := by decide +kernel
theorem dX5_takeFrom_50 : decode cX5_takeFrom 50 = .ok (.aload_n 0, 1) := by decide +kernel
theorem dX5_takeFrom_51 : decode cX5_takeFrom 51 = .ok (.getfield 24, 3) := by decide +kernel
theorem dX5_takeFrom_54 : decode cX5_takeFrom 54 = .ok (.iconst 0, 1) := by decide +kernel
theorem dX5_takeFrom_55 : decode cX5_takeFrom 55 = .ok (.bipush 9, 2) := by decide +kernel
theorem dX5_takeFrom_57 : decode cX5_takeFrom 57 = .ok (.invokestatic 74, 3) := by decide +kernel
theorem dX5_takeFrom_60 : decode cX5_takeFrom 60 = .ok (.aload_n 1, 1) := by decide +kernel
theorem dX5_takeFrom_61 : decode cX5_takeFrom 61 = .ok (.getfield 27, 3) := by decide +kernel
theorem dX5_takeFrom_64 : decode cX5_takeFrom 64 = .ok (.iconst 0, 1) := by decide +kernel
theorem dX5_takeFrom_65 : decode cX5_takeFrom 65 = .ok (.aload_n 0, 1) := by decide +kernel
theorem dX5_takeFrom_66 : decode cX5_takeFrom 66 = .ok (.getfield 27, 3) := by decide +kernel
theorem dX5_takeFrom_69 : decode cX5_takeFrom 69 = .ok (.iconst 0, 1) := by decide +kernel
theorem dX5_takeFrom_70 : decode cX5_takeFrom 70 = .ok (.bipush 9, 2) := by decide +kernel
theorem dX5_takeFrom_72 : decode cX5_takeFrom 72 = .ok (.invokestatic 74, 3) := by decide +kernel
theorem dX5_takeFrom_75 : decode cX5_takeFrom 75 = .ok (.aload_n 1, 1) := by decide +kernel
theorem dX5_takeFrom_76 : decode cX5_takeFrom 76 = .ok (.getfield 30, 3) := by decide +kernel
theorem dX5_takeFrom_79 : decode cX5_takeFrom 79 = .ok (.iconst 0, 1) := by decide +kernel
theorem dX5_takeFrom_80 : decode cX5_takeFrom 80 = .ok (.aload_n 0, 1) := by decide +kernel
theorem dX5_takeFrom_81 : decode cX5_takeFrom 81 = .ok (.getfield 30, 3) := by decide +kernel
theorem dX5_takeFrom_84 : decode cX5_takeFrom 84 = .ok (.iconst 0, 1) := by decide +kernel
theorem dX5_takeFrom_85 : decode cX5_takeFrom 85 = .ok (.bipush 9, 2) := by decide +kernel
theorem dX5_takeFrom_87 : decode cX5_takeFrom 87 = .ok (.invokestatic 74, 3) := by decide +kernel
theorem dX5_takeFrom_90 : decode cX5_takeFrom 90 = .ok (.aload_n 1, 1) := by decide +kernel
theorem dX5_takeFrom_91 : decode cX5_takeFrom 91 = .ok (.getfield 33, 3) := by decide +kernel
theorem dX5_takeFrom_94 : decode cX5_takeFrom 94 = .ok (.iconst 0, 1) := by decide +kernel
theorem dX5_takeFrom_95 : decode cX5_takeFrom 95 = .ok (.aload_n 0, 1) := by decide +kernel
theorem dX5_takeFrom_96 : decode cX5_takeFrom 96 = .ok (.getfield 33, 3) := by decide +kernel
theorem dX5_takeFrom_99 : decode cX5_takeFrom 99 = .ok (.iconst 0, 1) := by decide +kernel
theorem dX5_takeFrom_100 : decode cX5_takeFrom 100 = .ok (.bipush 36, 2) := by decide +kernel
theorem dX5_takeFrom_102 : decode cX5_takeFrom 102 = .ok (.invokestatic 74, 3) := by decide +kernel
theorem dX5_takeFrom_105 : decode cX5_takeFrom 105 = .ok (.aload_n 0, 1) := by decide +kernel
theorem dX5_takeFrom_106 : decode cX5_takeFrom 106 = .ok (.getfield 39, 3) := by decide +kernel
theorem dX5_takeFrom_109 : decode cX5_takeFrom 109 = .ok (.getfield 80, 3) := by decide +kernel
theorem dX5_takeFrom_112 : decode cX5_takeFrom 112 = .ok (.aload_n 1, 1) := by decide +kernel
theorem dX5_takeFrom_113 : decode cX5_takeFrom 113 = .ok (.getfield 39, 3) := by decide +kernel
theorem dX5_takeFrom_116 : decode cX5_takeFrom 116 = .ok (.getfield 80, 3) := by decide +kernel
theorem dX5_takeFrom_119 : decode cX5_takeFrom 119 = .ok (.invokevirtual 84, 3) := by decide +kernel
theorem dX5_takeFrom_122 : decode cX5_takeFrom 122 = .ok (.aload_n 0, 1) := by decide +kernel
theorem dX5_takeFrom_123 : decode cX5_takeFrom 123 = .ok (.getfield 43, 3) := by decide +kernel
theorem dX5_takeFrom_126 : decode cX5_takeFrom 126 = .ok (.getfield 80, 3) := by decide +kernel
theorem dX5_takeFrom_129 : decode cX5_takeFrom 129 = .ok (.aload_n 1, 1) := by decide +kernel
theorem dX5_takeFrom_130 : decode cX5_takeFrom 130 = .ok (.getfield 43, 3) := by decide +kernel
theorem dX5_takeFrom_133 : decode cX5_takeFrom 133 = .ok (.getfield 80, 3) := by decide +kernel
theorem dX5_takeFrom_136 : decode cX5_takeFrom 136 = .ok (.invokevirtual 84, 3) := by decide +kernel
theorem dX5_takeFrom_139 : decode cX5_takeFrom 139 = .ok (.aload_n 0, 1) := by decide +kernel
theorem dX5_takeFrom_140 : decode cX5_takeFrom 140 = .ok (.aload_n 1, 1) := by decide +kernel
theorem dX5_takeFrom_141 : decode cX5_takeFrom 141 = .ok (.getfield 46, 3) := by decide +kernel
theorem dX5_takeFrom_144 : decode cX5_takeFrom 144 = .ok (.putfield 46, 3) := by decide +kernel
theorem dX5_takeFrom_147 : decode cX5_takeFrom 147 = .ok (.aload_n 0, 1) := by decide +kernel
theorem dX5_takeFrom_148 : decode cX5_takeFrom 148 = .ok (.aload_n 1, 1) := by decide +kernel
theorem dX5_takeFrom_149 : decode cX5_takeFrom 149 = .ok (.getfield 53, 3) := by decide +kernel
theorem dX5_takeFrom_152 : decode cX5_takeFrom 152 = .ok (.putfield 53, 3) := by decide +kernel
theorem dX5_takeFrom_155 : decode cX5_takeFrom 155 = .ok (.aload_n 0, 1) := by decide +kernel
theorem dX5_takeFrom_156 : decode cX5_takeFrom 156 = .ok (.aload_n 1, 1) := by decide +kernel
theorem dX5_takeFrom_157 : decode cX5_takeFrom 157 = .ok (.getfield 56, 3) := by decide +kernel
theorem dX5_takeFrom_160 : decode cX5_takeFrom 160 = .ok (.putfield 56, 3) := by decide +kernel
theorem dX5_takeFrom_163 : decode cX5_takeFrom 163 = .ok (.aload_n 0, 1) := by decide +kernel
theorem dX5_takeFrom_164 : decode cX5_takeFrom 164 = .ok (.aload_n 1, 1) := by decide +kernel
theorem dX5_takeFrom_165 : decode cX5_takeFrom 165 = .ok (.getfield 59, 3) := by decide +kernel
theorem dX5_takeFrom_168 : decode cX5_takeFrom 168 = .ok (.putfield 59, 3) := by decide +kernel
theorem dX5_takeFrom_171 : decode cX5_takeFrom 171 = .ok (.aload_n 0, 1) := by decide +kernel
theorem dX5_takeFrom_172 : decode cX5_takeFrom 172 = .ok (.aload_n 1, 1) := by decide +kernel
theorem dX5_takeFrom_173 : decode cX5_takeFrom 173 = .ok (.invokevirtual 90, 3) := by decide +kernel
theorem dX5_takeFrom_176 : decode cX5_takeFrom 176 = .ok (.return_, 1) := by decide +kernel
theorem dX5_takeWoodFrom_0 : decode cX5_takeWoodFrom 0 = .ok (.aload_n 1, 1) := by decide +kernel
theorem dX5_takeWoodFrom_1 : decode cX5_takeWoodFrom 1 = .ok (.getfield 15, 3) := by decide +kernel
theorem dX5_takeWoodFrom_4 : decode cX5_takeWoodFrom 4 = .ok (.iconst 0, 1) := by decide +kernel
theorem dX5_takeWoodFrom_5 : decode cX5_takeWoodFrom 5 = .ok (.aload_n 0, 1) := by decide +kernel
theorem dX5_takeWoodFrom_6 : decode cX5_takeWoodFrom 6 = .ok (.getfield 15, 3) := by decide +kernel
theorem dX5_takeWoodFrom_9 : decode cX5_takeWoodFrom 9 = .ok (.iconst 0, 1) := by decide +kernel
theorem dX5_takeWoodFrom_10 : decode cX5_takeWoodFrom 10 = .ok (.bipush 16, 2) := by decide +kernel
theorem dX5_takeWoodFrom_12 : decode cX5_takeWoodFrom 12 = .ok (.invokestatic 74, 3) := by decide +kernel
theorem dX5_takeWoodFrom_15 : decode cX5_takeWoodFrom 15 = .ok (.aload_n 1, 1) := by decide +kernel
theorem dX5_takeWoodFrom_16 : decode cX5_takeWoodFrom 16 = .ok (.getfield 62, 3) := by decide +kernel
theorem dX5_takeWoodFrom_19 : decode cX5_takeWoodFrom 19 = .ok (.iconst 0, 1) := by decide +kernel
theorem dX5_takeWoodFrom_20 : decode cX5_takeWoodFrom 20 = .ok (.aload_n 0, 1) := by decide +kernel
theorem dX5_takeWoodFrom_21 : decode cX5_takeWoodFrom 21 = .ok (.getfield 62, 3) := by decide +kernel
theorem dX5_takeWoodFrom_24 : decode cX5_takeWoodFrom 24 = .ok (.iconst 0, 1) := by decide +kernel
theorem dX5_takeWoodFrom_25 : decode cX5_takeWoodFrom 25 = .ok (.bipush 16, 2) := by decide +kernel
theorem dX5_takeWoodFrom_27 : decode cX5_takeWoodFrom 27 = .ok (.invokestatic 74, 3) := by decide +kernel
theorem dX5_takeWoodFrom_30 : decode cX5_takeWoodFrom 30 = .ok (.aload_n 0, 1) := by decide +kernel
theorem dX5_takeWoodFrom_31 : decode cX5_takeWoodFrom 31 = .ok (.aload_n 1, 1) := by decide +kernel
theorem dX5_takeWoodFrom_32 : decode cX5_takeWoodFrom 32 = .ok (.getfield 50, 3) := by decide +kernel
theorem dX5_takeWoodFrom_35 : decode cX5_takeWoodFrom 35 = .ok (.putfield 50, 3) := by decide +kernel
theorem dX5_takeWoodFrom_38 : decode cX5_takeWoodFrom 38 = .ok (.return_, 1) := by decide +kernel
theorem dX5_textOf_0 : decode cX5_textOf 0 = .ok (.iload_n 1, 1) := by decide +kernel
theorem dX5_textOf_1 : decode cX5_textOf 1 = .ok (.ifCond .ne 10, 3) := by decide +kernel
theorem dX5_textOf_4 : decode cX5_textOf 4 = .ok (.aload_n 0, 1) := by decide +kernel
theorem dX5_textOf_5 : decode cX5_textOf 5 = .ok (.getfield 39, 3) := by decide +kernel
theorem dX5_textOf_8 : decode cX5_textOf 8 = .ok (.goto 7, 3) := by decide +kernel
theorem dX5_textOf_11 : decode cX5_textOf 11 = .ok (.aload_n 0, 1) := by decide +kernel
theorem dX5_textOf_12 : decode cX5_textOf 12 = .ok (.getfield 43, 3) := by decide +kernel
theorem dX5_textOf_15 : decode cX5_textOf 15 = .ok (.areturn, 1) := by decide +kernel
theorem gX5_ofFarmer_X5_within4 : GoodIn wsX5_ofFarmer (va_wsS RX5 94 yX5_within4 wsX5_within4) := nw_gS nwl_X5_ofFarmer nwe_266 nwe_267 nwe_259 nwl_X5_within4 (by decide +kernel)
theorem dX5_ofFarmer_0 : decode cX5_ofFarmer 0 = .ok (.iload_n 2, 1) := by decide +kernel
theorem dX5_ofFarmer_1 : decode cX5_ofFarmer 1 = .ok (.tableswitch 70 0 4 #[35, 42, 49, 56, 63], 35) := by decide +kernel
theorem dX5_ofFarmer_36 : decode cX5_ofFarmer 36 = .ok (.aload_n 0, 1) := by decide +kernel
theorem dX5_ofFarmer_37 : decode cX5_ofFarmer 37 = .ok (.getfield 18, 3) := by decide +kernel
theorem dX5_ofFarmer_40 : decode cX5_ofFarmer 40 = .ok (.iload_n 1, 1) := by decide +kernel
theorem dX5_ofFarmer_41 : decode cX5_ofFarmer 41 = .ok (.iaload, 1) := by decide +kernel
theorem dX5_ofFarmer_42 : decode cX5_ofFarmer 42 = .ok (.ireturn, 1) := by decide +kernel
theorem dX5_ofFarmer_43 : decode cX5_ofFarmer 43 = .ok (.aload_n 0, 1) := by decide +kernel
theorem dX5_ofFarmer_44 : decode cX5_ofFarmer 44 = .ok (.getfield 21, 3) := by decide +kernel
theorem dX5_ofFarmer_47 : decode cX5_ofFarmer 47 = .ok (.iload_n 1, 1) := by decide +kernel
theorem dX5_ofFarmer_48 : decode cX5_ofFarmer 48 = .ok (.iaload, 1) := by decide +kernel
theorem dX5_ofFarmer_49 : decode cX5_ofFarmer 49 = .ok (.ireturn, 1) := by decide +kernel
theorem dX5_ofFarmer_50 : decode cX5_ofFarmer 50 = .ok (.aload_n 0, 1) := by decide +kernel
theorem dX5_ofFarmer_51 : decode cX5_ofFarmer 51 = .ok (.getfield 24, 3) := by decide +kernel
theorem dX5_ofFarmer_54 : decode cX5_ofFarmer 54 = .ok (.iload_n 1, 1) := by decide +kernel
theorem dX5_ofFarmer_55 : decode cX5_ofFarmer 55 = .ok (.iaload, 1) := by decide +kernel
theorem dX5_ofFarmer_56 : decode cX5_ofFarmer 56 = .ok (.ireturn, 1) := by decide +kernel
theorem dX5_ofFarmer_57 : decode cX5_ofFarmer 57 = .ok (.aload_n 0, 1) := by decide +kernel
theorem dX5_ofFarmer_58 : decode cX5_ofFarmer 58 = .ok (.getfield 27, 3) := by decide +kernel
theorem dX5_ofFarmer_61 : decode cX5_ofFarmer 61 = .ok (.iload_n 1, 1) := by decide +kernel
theorem dX5_ofFarmer_62 : decode cX5_ofFarmer 62 = .ok (.iaload, 1) := by decide +kernel
theorem dX5_ofFarmer_63 : decode cX5_ofFarmer 63 = .ok (.ireturn, 1) := by decide +kernel
theorem dX5_ofFarmer_64 : decode cX5_ofFarmer 64 = .ok (.aload_n 0, 1) := by decide +kernel
theorem dX5_ofFarmer_65 : decode cX5_ofFarmer 65 = .ok (.getfield 30, 3) := by decide +kernel
theorem dX5_ofFarmer_68 : decode cX5_ofFarmer 68 = .ok (.iload_n 1, 1) := by decide +kernel
theorem dX5_ofFarmer_69 : decode cX5_ofFarmer 69 = .ok (.iaload, 1) := by decide +kernel
theorem dX5_ofFarmer_70 : decode cX5_ofFarmer 70 = .ok (.ireturn, 1) := by decide +kernel
theorem dX5_ofFarmer_71 : decode cX5_ofFarmer 71 = .ok (.aload_n 0, 1) := by decide +kernel
theorem dX5_ofFarmer_72 : decode cX5_ofFarmer 72 = .ok (.getfield 33, 3) := by decide +kernel
theorem dX5_ofFarmer_75 : decode cX5_ofFarmer 75 = .ok (.iconst 4, 1) := by decide +kernel
theorem dX5_ofFarmer_76 : decode cX5_ofFarmer 76 = .ok (.iload_n 1, 1) := by decide +kernel
theorem dX5_ofFarmer_77 : decode cX5_ofFarmer 77 = .ok (.imul, 1) := by decide +kernel
theorem dX5_ofFarmer_78 : decode cX5_ofFarmer 78 = .ok (.iload_n 2, 1) := by decide +kernel
theorem dX5_ofFarmer_79 : decode cX5_ofFarmer 79 = .ok (.iconst 5, 1) := by decide +kernel
theorem dX5_ofFarmer_80 : decode cX5_ofFarmer 80 = .ok (.isub, 1) := by decide +kernel
theorem dX5_ofFarmer_81 : decode cX5_ofFarmer 81 = .ok (.invokestatic 94, 3) := by decide +kernel
theorem dX5_ofFarmer_84 : decode cX5_ofFarmer 84 = .ok (.iadd, 1) := by decide +kernel
theorem dX5_ofFarmer_85 : decode cX5_ofFarmer 85 = .ok (.iaload, 1) := by decide +kernel
theorem dX5_ofFarmer_86 : decode cX5_ofFarmer 86 = .ok (.ireturn, 1) := by decide +kernel
theorem dX5_changeTurns_0 : decode cX5_changeTurns 0 = .ok (.aload_n 0, 1) := by decide +kernel
theorem dX5_changeTurns_1 : decode cX5_changeTurns 1 = .ok (.getfield 30, 3) := by decide +kernel
theorem dX5_changeTurns_4 : decode cX5_changeTurns 4 = .ok (.iload_n 1, 1) := by decide +kernel
theorem dX5_changeTurns_5 : decode cX5_changeTurns 5 = .ok (.iaload, 1) := by decide +kernel
theorem dX5_changeTurns_6 : decode cX5_changeTurns 6 = .ok (.istore_n 3, 1) := by decide +kernel
theorem dX5_changeTurns_7 : decode cX5_changeTurns 7 = .ok (.aload_n 0, 1) := by decide +kernel
theorem dX5_changeTurns_8 : decode cX5_changeTurns 8 = .ok (.getfield 30, 3) := by decide +kernel
theorem dX5_changeTurns_11 : decode cX5_changeTurns 11 = .ok (.iload_n 1, 1) := by decide +kernel
theorem dX5_changeTurns_12 : decode cX5_changeTurns 12 = .ok (.aload_n 0, 1) := by decide +kernel
theorem dX5_changeTurns_13 : decode cX5_changeTurns 13 = .ok (.getfield 30, 3) := by decide +kernel
theorem dX5_changeTurns_16 : decode cX5_changeTurns 16 = .ok (.iload_n 2, 1) := by decide +kernel
theorem dX5_changeTurns_17 : decode cX5_changeTurns 17 = .ok (.iaload, 1) := by decide +kernel
theorem dX5_changeTurns_18 : decode cX5_changeTurns 18 = .ok (.iastore, 1) := by decide +kernel
theorem dX5_changeTurns_19 : decode cX5_changeTurns 19 = .ok (.aload_n 0, 1) := by decide +kernel
theorem dX5_changeTurns_20 : decode cX5_changeTurns 20 = .ok (.getfield 30, 3) := by decide +kernel
theorem dX5_changeTurns_23 : decode cX5_changeTurns 23 = .ok (.iload_n 2, 1) := by decide +kernel
theorem dX5_changeTurns_24 : decode cX5_changeTurns 24 = .ok (.iload_n 3, 1) := by decide +kernel
theorem dX5_changeTurns_25 : decode cX5_changeTurns 25 = .ok (.iastore, 1) := by decide +kernel
theorem dX5_changeTurns_26 : decode cX5_changeTurns 26 = .ok (.return_, 1) := by decide +kernel
theorem dX5_whoHasIt_0 : decode cX5_whoHasIt 0 = .ok (.aload_n 0, 1) := by decide +kernel
theorem dX5_whoHasIt_1 : decode cX5_whoHasIt 1 = .ok (.getfield 56, 3) := by decide +kernel
theorem dX5_whoHasIt_4 : decode cX5_whoHasIt 4 = .ok (.bipush 9, 2) := by decide +kernel
theorem dX5_whoHasIt_6 : decode cX5_whoHasIt 6 = .ok (.irem, 1) := by decide +kernel
theorem dX5_whoHasIt_7 : decode cX5_whoHasIt 7 = .ok (.istore_n 1, 1) := by decide +kernel
theorem dX5_whoHasIt_8 : decode cX5_whoHasIt 8 = .ok (.iconst 0, 1) := by decide +kernel
theorem dX5_whoHasIt_9 : decode cX5_whoHasIt 9 = .ok (.istore_n 2, 1) := by decide +kernel
theorem dX5_whoHasIt_10 : decode cX5_whoHasIt 10 = .ok (.iload_n 2, 1) := by decide +kernel
theorem dX5_whoHasIt_11 : decode cX5_whoHasIt 11 = .ok (.bipush 8, 2) := by decide +kernel
theorem dX5_whoHasIt_13 : decode cX5_whoHasIt 13 = .ok (.if_icmp .ge 19, 3) := by decide +kernel
theorem dX5_whoHasIt_16 : decode cX5_whoHasIt 16 = .ok (.aload_n 0, 1) := by decide +kernel
theorem dX5_whoHasIt_17 : decode cX5_whoHasIt 17 = .ok (.getfield 30, 3) := by decide +kernel
theorem dX5_whoHasIt_20 : decode cX5_whoHasIt 20 = .ok (.iload_n 2, 1) := by decide +kernel
theorem dX5_whoHasIt_21 : decode cX5_whoHasIt 21 = .ok (.iaload, 1) := by decide +kernel
theorem dX5_whoHasIt_22 : decode cX5_whoHasIt 22 = .ok (.iload_n 1, 1) := by decide +kernel
theorem dX5_whoHasIt_23 : decode cX5_whoHasIt 23 = .ok (.if_icmp .eq 9, 3) := by decide +kernel
theorem dX5_whoHasIt_26 : decode cX5_whoHasIt 26 = .ok (.iinc 2 1, 3) := by decide +kernel
theorem dX5_whoHasIt_29 : decode cX5_whoHasIt 29 = .ok (.goto (-19), 3) := by decide +kernel
theorem dX5_whoHasIt_32 : decode cX5_whoHasIt 32 = .ok (.iload_n 2, 1) := by decide +kernel
theorem dX5_whoHasIt_33 : decode cX5_whoHasIt 33 = .ok (.ireturn, 1) := by decide +kernel
theorem dX5_richestOak_0 : decode cX5_richestOak 0 = .ok (.iconst 0, 1) := by decide +kernel
theorem dX5_richestOak_1 : decode cX5_richestOak 1 = .ok (.istore_n 1, 1) := by decide +kernel
theorem dX5_richestOak_2 : decode cX5_richestOak 2 = .ok (.iconst 1, 1) := by decide +kernel
theorem dX5_richestOak_3 : decode cX5_richestOak 3 = .ok (.istore_n 2, 1) := by decide +kernel
theorem dX5_richestOak_4 : decode cX5_richestOak 4 = .ok (.iload_n 2, 1) := by decide +kernel
theorem dX5_richestOak_5 : decode cX5_richestOak 5 = .ok (.bipush 16, 2) := by decide +kernel
theorem dX5_richestOak_7 : decode cX5_richestOak 7 = .ok (.if_icmp .ge 26, 3) := by decide +kernel
theorem dX5_richestOak_10 : decode cX5_richestOak 10 = .ok (.aload_n 0, 1) := by decide +kernel
theorem dX5_richestOak_11 : decode cX5_richestOak 11 = .ok (.getfield 15, 3) := by decide +kernel
theorem dX5_richestOak_14 : decode cX5_richestOak 14 = .ok (.iload_n 2, 1) := by decide +kernel
theorem dX5_richestOak_15 : decode cX5_richestOak 15 = .ok (.iaload, 1) := by decide +kernel
theorem dX5_richestOak_16 : decode cX5_richestOak 16 = .ok (.aload_n 0, 1) := by decide +kernel
theorem dX5_richestOak_17 : decode cX5_richestOak 17 = .ok (.getfield 15, 3) := by decide +kernel
theorem dX5_richestOak_20 : decode cX5_richestOak 20 = .ok (.iload_n 1, 1) := by decide +kernel
theorem dX5_richestOak_21 : decode cX5_richestOak 21 = .ok (.iaload, 1) := by decide +kernel
theorem dX5_richestOak_22 : decode cX5_richestOak 22 = .ok (.if_icmp .le 5, 3) := by decide +kernel
theorem dX5_richestOak_25 : decode cX5_richestOak 25 = .ok (.iload_n 2, 1) := by decide +kernel
theorem dX5_richestOak_26 : decode cX5_richestOak 26 = .ok (.istore_n 1, 1) := by decide +kernel
theorem dX5_richestOak_27 : decode cX5_richestOak 27 = .ok (.iinc 2 1, 3) := by decide +kernel
theorem dX5_richestOak_30 : decode cX5_richestOak 30 = .ok (.goto (-26), 3) := by decide +kernel
theorem dX5_richestOak_33 : decode cX5_richestOak 33 = .ok (.iload_n 1, 1) := by decide +kernel
theorem dX5_richestOak_34 : decode cX5_richestOak 34 = .ok (.ireturn, 1) := by decide +kernel
theorem dX5_dugFor_0 : decode cX5_dugFor 0 = .ok (.iconst 0, 1) := by decide +kernel
theorem dX5_dugFor_1 : decode cX5_dugFor 1 = .ok (.istore_n 2, 1) := by decide +kernel
theorem dX5_dugFor_2 : decode cX5_dugFor 2 = .ok (.iconst 0, 1) := by decide +kernel
theorem dX5_dugFor_3 : decode cX5_dugFor 3 = .ok (.istore_n 3, 1) := by decide +kernel
theorem dX5_dugFor_4 : decode cX5_dugFor 4 = .ok (.iload_n 3, 1) := by decide +kernel
theorem dX5_dugFor_5 : decode cX5_dugFor 5 = .ok (.bipush 16, 2) := by decide +kernel
theorem dX5_dugFor_7 : decode cX5_dugFor 7 = .ok (.if_icmp .ge 32, 3) := by decide +kernel
theorem dX5_dugFor_10 : decode cX5_dugFor 10 = .ok (.iload_n 2, 1) := by decide +kernel
theorem dX5_dugFor_11 : decode cX5_dugFor 11 = .ok (.aload_n 0, 1) := by decide +kernel
theorem dX5_dugFor_12 : decode cX5_dugFor 12 = .ok (.getfield 9, 3) := by decide +kernel
theorem dX5_dugFor_15 : decode cX5_dugFor 15 = .ok (.iload_n 3, 1) := by decide +kernel
theorem dX5_dugFor_16 : decode cX5_dugFor 16 = .ok (.iaload, 1) := by decide +kernel
theorem dX5_dugFor_17 : decode cX5_dugFor 17 = .ok (.iload_n 1, 1) := by decide +kernel
theorem dX5_dugFor_18 : decode cX5_dugFor 18 = .ok (.if_icmp .ne 12, 3) := by decide +kernel
theorem dX5_dugFor_21 : decode cX5_dugFor 21 = .ok (.aload_n 0, 1) := by decide +kernel
theorem dX5_dugFor_22 : decode cX5_dugFor 22 = .ok (.getfield 65, 3) := by decide +kernel
theorem dX5_dugFor_25 : decode cX5_dugFor 25 = .ok (.iload_n 3, 1) := by decide +kernel
theorem dX5_dugFor_26 : decode cX5_dugFor 26 = .ok (.iaload, 1) := by decide +kernel
theorem dX5_dugFor_27 : decode cX5_dugFor 27 = .ok (.goto 4, 3) := by decide +kernel
theorem dX5_dugFor_30 : decode cX5_dugFor 30 = .ok (.iconst 0, 1) := by decide +kernel
theorem dX5_dugFor_31 : decode cX5_dugFor 31 = .ok (.iadd, 1) := by decide +kernel
theorem dX5_dugFor_32 : decode cX5_dugFor 32 = .ok (.istore_n 2, 1) := by decide +kernel
theorem dX5_dugFor_33 : decode cX5_dugFor 33 = .ok (.iinc 3 1, 3) := by decide +kernel
theorem dX5_dugFor_36 : decode cX5_dugFor 36 = .ok (.goto (-32), 3) := by decide +kernel
theorem dX5_dugFor_39 : decode cX5_dugFor 39 = .ok (.iload_n 2, 1) := by decide +kernel
theorem dX5_dugFor_40 : decode cX5_dugFor 40 = .ok (.ireturn, 1) := by decide +kernel
theorem dX5_drawRain_0 : decode cX5_drawRain 0 = .ok (.aload_n 0, 1) := by decide +kernel
theorem dX5_drawRain_1 : decode cX5_drawRain 1 = .ok (.aload_n 0, 1) := by decide +kernel
theorem dX5_drawRain_2 : decode cX5_drawRain 2 = .ok (.getfield 59, 3) := by decide +kernel
theorem dX5_drawRain_5 : decode cX5_drawRain 5 = .ok (.ldc 98, 2) := by decide +kernel
theorem dX5_drawRain_7 : decode cX5_drawRain 7 = .ok (.imul, 1) := by decide +kernel
theorem dX5_drawRain_8 : decode cX5_drawRain 8 = .ok (.sipush 12345, 3) := by decide +kernel
theorem dX5_drawRain_11 : decode cX5_drawRain 11 = .ok (.iadd, 1) := by decide +kernel
theorem dX5_drawRain_12 : decode cX5_drawRain 12 = .ok (.putfield 59, 3) := by decide +kernel
theorem dX5_drawRain_15 : decode cX5_drawRain 15 = .ok (.aload_n 0, 1) := by decide +kernel
theorem dX5_drawRain_16 : decode cX5_drawRain 16 = .ok (.aload_n 0, 1) := by decide +kernel
theorem dX5_drawRain_17 : decode cX5_drawRain 17 = .ok (.getfield 59, 3) := by decide +kernel
theorem dX5_drawRain_20 : decode cX5_drawRain 20 = .ok (.bipush 8, 2) := by decide +kernel
theorem dX5_drawRain_22 : decode cX5_drawRain 22 = .ok (.iushr, 1) := by decide +kernel
theorem dX5_drawRain_23 : decode cX5_drawRain 23 = .ok (.bipush 10, 2) := by decide +kernel
theorem dX5_drawRain_25 : decode cX5_drawRain 25 = .ok (.irem, 1) := by decide +kernel
theorem dX5_drawRain_26 : decode cX5_drawRain 26 = .ok (.putfield 46, 3) := by decide +kernel
theorem dX5_drawRain_29 : decode cX5_drawRain 29 = .ok (.return_, 1) := by decide +kernel
theorem gX5_goOn_X5_oneDay : GoodIn wsX5_goOn (wsV RX5 99 RX5 yX5_oneDay wsX5_oneDay) := nw_gV nwl_X5_goOn nwe_322 nwe_323 nwe_324 nwe_259 nwl_X5_oneDay (by decide +kernel)
theorem dX5_goOn_0 : decode cX5_goOn 0 = .ok (.iconst 0, 1) := by decide +kernel
theorem dX5_goOn_1 : decode cX5_goOn 1 = .ok (.istore_n 2, 1) := by decide +kernel
theorem dX5_goOn_2 : decode cX5_goOn 2 = .ok (.iconst 0, 1) := by decide +kernel
theorem dX5_goOn_3 : decode cX5_goOn 3 = .ok (.istore_n 3, 1) := by decide +kernel
theorem dX5_goOn_4 : decode cX5_goOn 4 = .ok (.iload_n 3, 1) := by decide +kernel
theorem dX5_goOn_5 : decode cX5_goOn 5 = .ok (.iload_n 1, 1) := by decide +kernel
theorem dX5_goOn_6 : decode cX5_goOn 6 = .ok (.if_icmp .ge 17, 3) := by decide +kernel
theorem dX5_goOn_9 : decode cX5_goOn 9 = .ok (.iload_n 2, 1) := by decide +kernel
theorem dX5_goOn_10 : decode cX5_goOn 10 = .ok (.aload_n 0, 1) := by decide +kernel
theorem dX5_goOn_11 : decode cX5_goOn 11 = .ok (.iconst (-1), 1) := by decide +kernel
theorem dX5_goOn_12 : decode cX5_goOn 12 = .ok (.invokevirtual 99, 3) := by decide +kernel
theorem dX5_goOn_15 : decode cX5_goOn 15 = .ok (.iadd, 1) := by decide +kernel
theorem dX5_goOn_16 : decode cX5_goOn 16 = .ok (.istore_n 2, 1) := by decide +kernel
theorem dX5_goOn_17 : decode cX5_goOn 17 = .ok (.iinc 3 1, 3) := by decide +kernel
theorem dX5_goOn_20 : decode cX5_goOn 20 = .ok (.goto (-16), 3) := by decide +kernel
theorem dX5_goOn_23 : decode cX5_goOn 23 = .ok (.iload_n 2, 1) := by decide +kernel
theorem dX5_goOn_24 : decode cX5_goOn 24 = .ok (.ireturn, 1) := by decide +kernel
theorem gX5_oneDay_X5_whoHasIt : GoodIn wsX5_oneDay (wsV RX5 102 RX5 yX5_whoHasIt wsX5_whoHasIt) := nw_gV nwl_X5_oneDay nwe_306 nwe_307 nwe_308 nwe_259 nwl_X5_whoHasIt (by decide +kernel)
theorem gX5_oneDay_X5_morning : GoodIn wsX5_oneDay (wsV RX5 106 RX5 yX5_morning wsX5_morning) := nw_gV nwl_X5_oneDay nwe_309 nwe_310 nwe_311 nwe_259 nwl_X5_morning (by decide +kernel)
theorem gX5_oneDay_X5_hours : GoodIn wsX5_oneDay (wsV RX5 109 RX5 yX5_hours wsX5_hours) := nw_gV nwl_X5_oneDay nwe_312 nwe_313 nwe_314 nwe_259 nwl_X5_hours (by decide +kernel)
theorem gX5_oneDay_X5_partOut : GoodIn wsX5_oneDay (wsV RX5 112 RX5 yX5_partOut wsX5_partOut) := nw_gV nwl_X5_oneDay nwe_315 nwe_316 nwe_317 nwe_259 nwl_X5_partOut (by decide +kernel)
theorem gX5_oneDay_X5_feedsOf : GoodIn wsX5_oneDay (wsV RX5 116 RX5 yX5_feedsOf wsX5_feedsOf) := nw_gV nwl_X5_oneDay nwe_318 nwe_319 nwe_320 nwe_259 nwl_X5_feedsOf (by decide +kernel)
