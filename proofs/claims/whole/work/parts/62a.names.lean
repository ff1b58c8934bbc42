theorem gX7_init_X7_lays1 : GoodIn wsX7_init (wsV RX7 59 RX7 yX7_lays1 wsX7_lays1) := nw_gV nwl_X7_init nwe_531 nwe_532 nwe_533 nwe_534 nwl_X7_lays1 (by decide +kernel)
theorem dX7_init_0 : decode cX7_init 0 = .ok (.aload_n 0, 1) := by decide +kernel
theorem dX7_init_1 : decode cX7_init 1 = .ok (.invokespecial 1, 3) := by decide +kernel
theorem dX7_init_4 : decode cX7_init 4 = .ok (.aload_n 0, 1) := by decide +kernel
theorem dX7_init_5 : decode cX7_init 5 = .ok (.sipush 455, 3) := by decide +kernel
theorem dX7_init_8 : decode cX7_init 8 = .ok (.newarray .int, 2) := by decide +kernel
theorem dX7_init_10 : decode cX7_init 10 = .ok (.putfield 7, 3) := by decide +kernel
theorem dX7_init_13 : decode cX7_init 13 = .ok (.aload_n 0, 1) := by decide +kernel
theorem dX7_init_14 : decode cX7_init 14 = .ok (.sipush 455, 3) := by decide +kernel
theorem dX7_init_17 : decode cX7_init 17 = .ok (.newarray .int, 2) := by decide +kernel
theorem dX7_init_19 : decode cX7_init 19 = .ok (.putfield 13, 3) := by decide +kernel
theorem dX7_init_22 : decode cX7_init 22 = .ok (.aload_n 0, 1) := by decide +kernel
theorem dX7_init_23 : decode cX7_init 23 = .ok (.bipush 121, 2) := by decide +kernel
theorem dX7_init_25 : decode cX7_init 25 = .ok (.newarray .int, 2) := by decide +kernel
theorem dX7_init_27 : decode cX7_init 27 = .ok (.putfield 16, 3) := by decide +kernel
theorem dX7_init_30 : decode cX7_init 30 = .ok (.aload_n 0, 1) := by decide +kernel
theorem dX7_init_31 : decode cX7_init 31 = .ok (.bipush 7, 2) := by decide +kernel
theorem dX7_init_33 : decode cX7_init 33 = .ok (.newarray .int, 2) := by decide +kernel
theorem dX7_init_35 : decode cX7_init 35 = .ok (.putfield 19, 3) := by decide +kernel
theorem dX7_init_38 : decode cX7_init 38 = .ok (.aload_n 0, 1) := by decide +kernel
theorem dX7_init_39 : decode cX7_init 39 = .ok (.bipush 124, 2) := by decide +kernel
theorem dX7_init_41 : decode cX7_init 41 = .ok (.newarray .int, 2) := by decide +kernel
theorem dX7_init_43 : decode cX7_init 43 = .ok (.putfield 22, 3) := by decide +kernel
theorem dX7_init_46 : decode cX7_init 46 = .ok (.aload_n 0, 1) := by decide +kernel
theorem dX7_init_47 : decode cX7_init 47 = .ok (.sipush 128, 3) := by decide +kernel
theorem dX7_init_50 : decode cX7_init 50 = .ok (.newarray .int, 2) := by decide +kernel
theorem dX7_init_52 : decode cX7_init 52 = .ok (.putfield 25, 3) := by decide +kernel
theorem dX7_init_55 : decode cX7_init 55 = .ok (.aload_n 0, 1) := by decide +kernel
theorem dX7_init_56 : decode cX7_init 56 = .ok (.bipush 64, 2) := by decide +kernel
theorem dX7_init_58 : decode cX7_init 58 = .ok (.newarray .int, 2) := by decide +kernel
theorem dX7_init_60 : decode cX7_init 60 = .ok (.putfield 28, 3) := by decide +kernel
theorem dX7_init_63 : decode cX7_init 63 = .ok (.aload_n 0, 1) := by decide +kernel
theorem dX7_init_64 : decode cX7_init 64 = .ok (.bipush 16, 2) := by decide +kernel
theorem dX7_init_66 : decode cX7_init 66 = .ok (.newarray .int, 2) := by decide +kernel
theorem dX7_init_68 : decode cX7_init 68 = .ok (.putfield 31, 3) := by decide +kernel
theorem dX7_init_71 : decode cX7_init 71 = .ok (.aload_n 0, 1) := by decide +kernel
theorem dX7_init_72 : decode cX7_init 72 = .ok (.iconst (-1), 1) := by decide +kernel
theorem dX7_init_73 : decode cX7_init 73 = .ok (.putfield 34, 3) := by decide +kernel
theorem dX7_init_76 : decode cX7_init 76 = .ok (.aload_n 0, 1) := by decide +kernel
theorem dX7_init_77 : decode cX7_init 77 = .ok (.bipush 9, 2) := by decide +kernel
theorem dX7_init_79 : decode cX7_init 79 = .ok (.newarray .int, 2) := by decide +kernel
theorem dX7_init_81 : decode cX7_init 81 = .ok (.putfield 38, 3) := by decide +kernel
theorem dX7_init_84 : decode cX7_init 84 = .ok (.aload_n 0, 1) := by decide +kernel
theorem dX7_init_85 : decode cX7_init 85 = .ok (.bipush 9, 2) := by decide +kernel
theorem dX7_init_87 : decode cX7_init 87 = .ok (.newarray .int, 2) := by decide +kernel
theorem dX7_init_89 : decode cX7_init 89 = .ok (.putfield 41, 3) := by decide +kernel
theorem dX7_init_92 : decode cX7_init 92 = .ok (.aload_n 0, 1) := by decide +kernel
theorem dX7_init_93 : decode cX7_init 93 = .ok (.bipush 30, 2) := by decide +kernel
theorem dX7_init_95 : decode cX7_init 95 = .ok (.newarray .int, 2) := by decide +kernel
theorem dX7_init_97 : decode cX7_init 97 = .ok (.putfield 44, 3) := by decide +kernel
theorem dX7_init_100 : decode cX7_init 100 = .ok (.aload_n 0, 1) := by decide +kernel
theorem dX7_init_101 : decode cX7_init 101 = .ok (.iconst 4, 1) := by decide +kernel
theorem dX7_init_102 : decode cX7_init 102 = .ok (.newarray .int, 2) := by decide +kernel
theorem dX7_init_104 : decode cX7_init 104 = .ok (.putfield 47, 3) := by decide +kernel
theorem dX7_init_107 : decode cX7_init 107 = .ok (.aload_n 0, 1) := by decide +kernel
theorem dX7_init_108 : decode cX7_init 108 = .ok (.iconst 4, 1) := by decide +kernel
theorem dX7_init_109 : decode cX7_init 109 = .ok (.newarray .int, 2) := by decide +kernel
theorem dX7_init_111 : decode cX7_init 111 = .ok (.putfield 50, 3) := by decide +kernel
theorem dX7_init_114 : decode cX7_init 114 = .ok (.aload_n 0, 1) := by decide +kernel
theorem dX7_init_115 : decode cX7_init 115 = .ok (.bipush 96, 2) := by decide +kernel
theorem dX7_init_117 : decode cX7_init 117 = .ok (.newarray .int, 2) := by decide +kernel
theorem dX7_init_119 : decode cX7_init 119 = .ok (.putfield 53, 3) := by decide +kernel
theorem dX7_init_122 : decode cX7_init 122 = .ok (.aload_n 0, 1) := by decide +kernel
theorem dX7_init_123 : decode cX7_init 123 = .ok (.bipush 24, 2) := by decide +kernel
theorem dX7_init_125 : decode cX7_init 125 = .ok (.newarray .int, 2) := by decide +kernel
theorem dX7_init_127 : decode cX7_init 127 = .ok (.putfield 56, 3) := by decide +kernel
theorem dX7_init_130 : decode cX7_init 130 = .ok (.aload_n 0, 1) := by decide +kernel
theorem dX7_init_131 : decode cX7_init 131 = .ok (.getfield 7, 3) := by decide +kernel
theorem dX7_init_134 : decode cX7_init 134 = .ok (.iconst 1, 1) := by decide +kernel
theorem dX7_init_135 : decode cX7_init 135 = .ok (.iconst 1, 1) := by decide +kernel
theorem dX7_init_136 : decode cX7_init 136 = .ok (.iastore, 1) := by decide +kernel
theorem dX7_init_137 : decode cX7_init 137 = .ok (.aload_n 0, 1) := by decide +kernel
theorem dX7_init_138 : decode cX7_init 138 = .ok (.getfield 7, 3) := by decide +kernel
theorem dX7_init_141 : decode cX7_init 141 = .ok (.iconst 3, 1) := by decide +kernel
theorem dX7_init_142 : decode cX7_init 142 = .ok (.iconst 5, 1) := by decide +kernel
theorem dX7_init_143 : decode cX7_init 143 = .ok (.iastore, 1) := by decide +kernel
theorem dX7_init_144 : decode cX7_init 144 = .ok (.aload_n 0, 1) := by decide +kernel
theorem dX7_init_145 : decode cX7_init 145 = .ok (.getfield 7, 3) := by decide +kernel
theorem dX7_init_148 : decode cX7_init 148 = .ok (.bipush 6, 2) := by decide +kernel
theorem dX7_init_150 : decode cX7_init 150 = .ok (.iconst 1, 1) := by decide +kernel
theorem dX7_init_151 : decode cX7_init 151 = .ok (.iastore, 1) := by decide +kernel
theorem dX7_init_152 : decode cX7_init 152 = .ok (.iconst 0, 1) := by decide +kernel
theorem dX7_init_153 : decode cX7_init 153 = .ok (.istore_n 1, 1) := by decide +kernel
theorem dX7_init_154 : decode cX7_init 154 = .ok (.iload_n 1, 1) := by decide +kernel
theorem dX7_init_155 : decode cX7_init 155 = .ok (.bipush 16, 2) := by decide +kernel
theorem dX7_init_157 : decode cX7_init 157 = .ok (.if_icmp .ge 22, 3) := by decide +kernel
theorem dX7_init_160 : decode cX7_init 160 = .ok (.aload_n 0, 1) := by decide +kernel
theorem dX7_init_161 : decode cX7_init 161 = .ok (.getfield 7, 3) := by decide +kernel
theorem dX7_init_164 : decode cX7_init 164 = .ok (.bipush 8, 2) := by decide +kernel
theorem dX7_init_166 : decode cX7_init 166 = .ok (.iload_n 1, 1) := by decide +kernel
theorem dX7_init_167 : decode cX7_init 167 = .ok (.iadd, 1) := by decide +kernel
theorem dX7_init_168 : decode cX7_init 168 = .ok (.iload_n 1, 1) := by decide +kernel
theorem dX7_init_169 : decode cX7_init 169 = .ok (.bipush 9, 2) := by decide +kernel
theorem dX7_init_171 : decode cX7_init 171 = .ok (.irem, 1) := by decide +kernel
theorem dX7_init_172 : decode cX7_init 172 = .ok (.iastore, 1) := by decide +kernel
theorem dX7_init_173 : decode cX7_init 173 = .ok (.iinc 1 1, 3) := by decide +kernel
theorem dX7_init_176 : decode cX7_init 176 = .ok (.goto (-22), 3) := by decide +kernel
theorem dX7_init_179 : decode cX7_init 179 = .ok (.iconst 0, 1) := by decide +kernel
theorem dX7_init_180 : decode cX7_init 180 = .ok (.istore_n 1, 1) := by decide +kernel
theorem dX7_init_181 : decode cX7_init 181 = .ok (.iload_n 1, 1) := by decide +kernel
theorem dX7_init_182 : decode cX7_init 182 = .ok (.bipush 9, 2) := by decide +kernel
theorem dX7_init_184 : decode cX7_init 184 = .ok (.if_icmp .ge 38, 3) := by decide +kernel
theorem dX7_init_187 : decode cX7_init 187 = .ok (.aload_n 0, 1) := by decide +kernel
theorem dX7_init_188 : decode cX7_init 188 = .ok (.iload_n 1, 1) := by decide +kernel
theorem dX7_init_189 : decode cX7_init 189 = .ok (.iconst 4, 1) := by decide +kernel
theorem dX7_init_190 : decode cX7_init 190 = .ok (.iload_n 1, 1) := by decide +kernel
theorem dX7_init_191 : decode cX7_init 191 = .ok (.invokevirtual 59, 3) := by decide +kernel
theorem dX7_init_194 : decode cX7_init 194 = .ok (.iconst 0, 1) := by decide +kernel
theorem dX7_init_195 : decode cX7_init 195 = .ok (.istore_n 2, 1) := by decide +kernel
theorem dX7_init_196 : decode cX7_init 196 = .ok (.iload_n 2, 1) := by decide +kernel
theorem dX7_init_197 : decode cX7_init 197 = .ok (.iconst 4, 1) := by decide +kernel
theorem dX7_init_198 : decode cX7_init 198 = .ok (.if_icmp .ge 18, 3) := by decide +kernel
theorem dX7_init_201 : decode cX7_init 201 = .ok (.aload_n 0, 1) := by decide +kernel
theorem dX7_init_202 : decode cX7_init 202 = .ok (.iload_n 1, 1) := by decide +kernel
theorem dX7_init_203 : decode cX7_init 203 = .ok (.iconst 5, 1) := by decide +kernel
theorem dX7_init_204 : decode cX7_init 204 = .ok (.iload_n 2, 1) := by decide +kernel
theorem dX7_init_205 : decode cX7_init 205 = .ok (.iadd, 1) := by decide +kernel
theorem dX7_init_206 : decode cX7_init 206 = .ok (.iconst 4, 1) := by decide +kernel
theorem dX7_init_207 : decode cX7_init 207 = .ok (.invokevirtual 59, 3) := by decide +kernel
theorem dX7_init_210 : decode cX7_init 210 = .ok (.iinc 2 1, 3) := by decide +kernel
theorem dX7_init_213 : decode cX7_init 213 = .ok (.goto (-17), 3) := by decide +kernel
theorem dX7_init_216 : decode cX7_init 216 = .ok (.iinc 1 1, 3) := by decide +kernel
theorem dX7_init_219 : decode cX7_init 219 = .ok (.goto (-38), 3) := by decide +kernel
theorem dX7_init_222 : decode cX7_init 222 = .ok (.return_, 1) := by decide +kernel
theorem dX7_error_0 : decode cX7_error 0 = .ok (.aload_n 0, 1) := by decide +kernel
theorem dX7_error_1 : decode cX7_error 1 = .ok (.getfield 19, 3) := by decide +kernel
theorem dX7_error_4 : decode cX7_error 4 = .ok (.iload_n 1, 1) := by decide +kernel
theorem dX7_error_5 : decode cX7_error 5 = .ok (.dup2, 1) := by decide +kernel
theorem dX7_error_6 : decode cX7_error 6 = .ok (.iaload, 1) := by decide +kernel
theorem dX7_error_7 : decode cX7_error 7 = .ok (.iconst 1, 1) := by decide +kernel
theorem dX7_error_8 : decode cX7_error 8 = .ok (.iadd, 1) := by decide +kernel
theorem dX7_error_9 : decode cX7_error 9 = .ok (.iastore, 1) := by decide +kernel
theorem dX7_error_10 : decode cX7_error 10 = .ok (.ldc 63, 2) := by decide +kernel
theorem dX7_error_12 : decode cX7_error 12 = .ok (.iload_n 1, 1) := by decide +kernel
theorem dX7_error_13 : decode cX7_error 13 = .ok (.isub, 1) := by decide +kernel
theorem dX7_error_14 : decode cX7_error 14 = .ok (.ireturn, 1) := by decide +kernel
theorem dX7_in_0 : decode cX7_in 0 = .ok (.iload_n 0, 1) := by decide +kernel
theorem dX7_in_1 : decode cX7_in 1 = .ok (.iload_n 1, 1) := by decide +kernel
theorem dX7_in_2 : decode cX7_in 2 = .ok (.if_icmp .lt 12, 3) := by decide +kernel
theorem dX7_in_5 : decode cX7_in 5 = .ok (.iload_n 0, 1) := by decide +kernel
theorem dX7_in_6 : decode cX7_in 6 = .ok (.iload_n 2, 1) := by decide +kernel
theorem dX7_in_7 : decode cX7_in 7 = .ok (.if_icmp .gt 7, 3) := by decide +kernel
theorem dX7_in_10 : decode cX7_in 10 = .ok (.iconst 1, 1) := by decide +kernel
theorem dX7_in_11 : decode cX7_in 11 = .ok (.goto 4, 3) := by decide +kernel
theorem dX7_in_14 : decode cX7_in 14 = .ok (.iconst 0, 1) := by decide +kernel
theorem dX7_in_15 : decode cX7_in 15 = .ok (.ireturn, 1) := by decide +kernel
theorem dX7_held_0 : decode cX7_held 0 = .ok (.iload_n 0, 1) := by decide +kernel
theorem dX7_held_1 : decode cX7_held 1 = .ok (.iload_n 1, 1) := by decide +kernel
theorem dX7_held_2 : decode cX7_held 2 = .ok (.if_icmp .ge 7, 3) := by decide +kernel
theorem dX7_held_5 : decode cX7_held 5 = .ok (.iload_n 1, 1) := by decide +kernel
theorem dX7_held_6 : decode cX7_held 6 = .ok (.goto 13, 3) := by decide +kernel
theorem dX7_held_9 : decode cX7_held 9 = .ok (.iload_n 0, 1) := by decide +kernel
theorem dX7_held_10 : decode cX7_held 10 = .ok (.iload_n 2, 1) := by decide +kernel
theorem dX7_held_11 : decode cX7_held 11 = .ok (.if_icmp .le 7, 3) := by decide +kernel
theorem dX7_held_14 : decode cX7_held 14 = .ok (.iload_n 2, 1) := by decide +kernel
theorem dX7_held_15 : decode cX7_held 15 = .ok (.goto 4, 3) := by decide +kernel
theorem dX7_held_18 : decode cX7_held 18 = .ok (.iload_n 0, 1) := by decide +kernel
theorem dX7_held_19 : decode cX7_held 19 = .ok (.ireturn, 1) := by decide +kernel
theorem dX7_carry_0 : decode cX7_carry 0 = .ok (.iconst 0, 1) := by decide +kernel
theorem dX7_carry_1 : decode cX7_carry 1 = .ok (.istore_n 3, 1) := by decide +kernel
theorem dX7_carry_2 : decode cX7_carry 2 = .ok (.iload_n 3, 1) := by decide +kernel
theorem dX7_carry_3 : decode cX7_carry 3 = .ok (.iload_n 2, 1) := by decide +kernel
theorem dX7_carry_4 : decode cX7_carry 4 = .ok (.if_icmp .ge 15, 3) := by decide +kernel
theorem dX7_carry_7 : decode cX7_carry 7 = .ok (.aload_n 1, 1) := by decide +kernel
theorem dX7_carry_8 : decode cX7_carry 8 = .ok (.iload_n 3, 1) := by decide +kernel
theorem dX7_carry_9 : decode cX7_carry 9 = .ok (.aload_n 0, 1) := by decide +kernel
theorem dX7_carry_10 : decode cX7_carry 10 = .ok (.iload_n 3, 1) := by decide +kernel
theorem dX7_carry_11 : decode cX7_carry 11 = .ok (.iaload, 1) := by decide +kernel
theorem dX7_carry_12 : decode cX7_carry 12 = .ok (.iastore, 1) := by decide +kernel
theorem dX7_carry_13 : decode cX7_carry 13 = .ok (.iinc 3 1, 3) := by decide +kernel
theorem dX7_carry_16 : decode cX7_carry 16 = .ok (.goto (-14), 3) := by decide +kernel
theorem dX7_carry_19 : decode cX7_carry 19 = .ok (.return_, 1) := by decide +kernel
theorem gX7_layDown_X7_carry : GoodIn wsX7_layDown (va_wsS RX7 64 yX7_carry wsX7_carry) := nw_gS nwl_X7_layDown nwe_542 nwe_543 nwe_534 nwl_X7_carry (by decide +kernel)
theorem dX7_layDown_0 : decode cX7_layDown 0 = .ok (.aload_n 0, 1) := by decide +kernel
theorem dX7_layDown_1 : decode cX7_layDown 1 = .ok (.getfield 7, 3) := by decide +kernel
theorem dX7_layDown_4 : decode cX7_layDown 4 = .ok (.aload_n 0, 1) := by decide +kernel
theorem dX7_layDown_5 : decode cX7_layDown 5 = .ok (.getfield 16, 3) := by decide +kernel
theorem dX7_layDown_8 : decode cX7_layDown 8 = .ok (.bipush 121, 2) := by decide +kernel
theorem dX7_layDown_10 : decode cX7_layDown 10 = .ok (.invokestatic 64, 3) := by decide +kernel
theorem dX7_layDown_13 : decode cX7_layDown 13 = .ok (.return_, 1) := by decide +kernel
theorem gX7_layBack_X7_carry : GoodIn wsX7_layBack (va_wsS RX7 64 yX7_carry wsX7_carry) := nw_gS nwl_X7_layBack nwe_542 nwe_543 nwe_534 nwl_X7_carry (by decide +kernel)
theorem dX7_layBack_0 : decode cX7_layBack 0 = .ok (.aload_n 0, 1) := by decide +kernel
theorem dX7_layBack_1 : decode cX7_layBack 1 = .ok (.getfield 16, 3) := by decide +kernel
theorem dX7_layBack_4 : decode cX7_layBack 4 = .ok (.aload_n 0, 1) := by decide +kernel
theorem dX7_layBack_5 : decode cX7_layBack 5 = .ok (.getfield 7, 3) := by decide +kernel
theorem dX7_layBack_8 : decode cX7_layBack 8 = .ok (.bipush 121, 2) := by decide +kernel
theorem dX7_layBack_10 : decode cX7_layBack 10 = .ok (.invokestatic 64, 3) := by decide +kernel
theorem dX7_layBack_13 : decode cX7_layBack 13 = .ok (.return_, 1) := by decide +kernel
theorem gX7_isOak_X7_in : GoodIn wsX7_isOak (va_wsS RX7 68 yX7_in wsX7_in) := nw_gS nwl_X7_isOak nwe_546 nwe_547 nwe_534 nwl_X7_in (by decide +kernel)
theorem dX7_isOak_0 : decode cX7_isOak 0 = .ok (.iload_n 0, 1) := by decide +kernel
theorem dX7_isOak_1 : decode cX7_isOak 1 = .ok (.iconst 0, 1) := by decide +kernel
theorem dX7_isOak_2 : decode cX7_isOak 2 = .ok (.bipush 15, 2) := by decide +kernel
theorem dX7_isOak_4 : decode cX7_isOak 4 = .ok (.invokestatic 68, 3) := by decide +kernel
theorem dX7_isOak_7 : decode cX7_isOak 7 = .ok (.ireturn, 1) := by decide +kernel
theorem gX7_isFarmer_X7_in : GoodIn wsX7_isFarmer (va_wsS RX7 68 yX7_in wsX7_in) := nw_gS nwl_X7_isFarmer nwe_546 nwe_547 nwe_534 nwl_X7_in (by decide +kernel)
theorem dX7_isFarmer_0 : decode cX7_isFarmer 0 = .ok (.iload_n 0, 1) := by decide +kernel
theorem dX7_isFarmer_1 : decode cX7_isFarmer 1 = .ok (.iconst 0, 1) := by decide +kernel
theorem dX7_isFarmer_2 : decode cX7_isFarmer 2 = .ok (.bipush 8, 2) := by decide +kernel
theorem dX7_isFarmer_4 : decode cX7_isFarmer 4 = .ok (.invokestatic 68, 3) := by decide +kernel
theorem dX7_isFarmer_7 : decode cX7_isFarmer 7 = .ok (.ireturn, 1) := by decide +kernel
theorem dX7_its_0 : decode cX7_its 0 = .ok (.aload_n 0, 1) := by decide +kernel
theorem dX7_its_1 : decode cX7_its 1 = .ok (.getfield 7, 3) := by decide +kernel
theorem dX7_its_4 : decode cX7_its 4 = .ok (.bipush 40, 2) := by decide +kernel
theorem dX7_its_6 : decode cX7_its 6 = .ok (.bipush 9, 2) := by decide +kernel
theorem dX7_its_8 : decode cX7_its 8 = .ok (.iload_n 1, 1) := by decide +kernel
theorem dX7_its_9 : decode cX7_its 9 = .ok (.imul, 1) := by decide +kernel
theorem dX7_its_10 : decode cX7_its 10 = .ok (.iadd, 1) := by decide +kernel
theorem dX7_its_11 : decode cX7_its 11 = .ok (.iload_n 2, 1) := by decide +kernel
theorem dX7_its_12 : decode cX7_its 12 = .ok (.iadd, 1) := by decide +kernel
theorem dX7_its_13 : decode cX7_its 13 = .ok (.iaload, 1) := by decide +kernel
theorem dX7_its_14 : decode cX7_its 14 = .ok (.ireturn, 1) := by decide +kernel
theorem dX7_lays1_0 : decode cX7_lays1 0 = .ok (.aload_n 0, 1) := by decide +kernel
theorem dX7_lays1_1 : decode cX7_lays1 1 = .ok (.getfield 7, 3) := by decide +kernel
theorem dX7_lays1_4 : decode cX7_lays1 4 = .ok (.bipush 40, 2) := by decide +kernel
theorem dX7_lays1_6 : decode cX7_lays1 6 = .ok (.bipush 9, 2) := by decide +kernel
theorem dX7_lays1_8 : decode cX7_lays1 8 = .ok (.iload_n 1, 1) := by decide +kernel
theorem dX7_lays1_9 : decode cX7_lays1 9 = .ok (.imul, 1) := by decide +kernel
theorem dX7_lays1_10 : decode cX7_lays1 10 = .ok (.iadd, 1) := by decide +kernel
theorem dX7_lays1_11 : decode cX7_lays1 11 = .ok (.iload_n 2, 1) := by decide +kernel
theorem dX7_lays1_12 : decode cX7_lays1 12 = .ok (.iadd, 1) := by decide +kernel
theorem dX7_lays1_13 : decode cX7_lays1 13 = .ok (.iload_n 3, 1) := by decide +kernel
theorem dX7_lays1_14 : decode cX7_lays1 14 = .ok (.iastore, 1) := by decide +kernel
theorem dX7_lays1_15 : decode cX7_lays1 15 = .ok (.return_, 1) := by decide +kernel
theorem dX7_change1_0 : decode cX7_change1 0 = .ok (.aload_n 0, 1) := by decide +kernel
theorem dX7_change1_1 : decode cX7_change1 1 = .ok (.getfield 7, 3) := by decide +kernel
theorem dX7_change1_4 : decode cX7_change1 4 = .ok (.iload_n 1, 1) := by decide +kernel
theorem dX7_change1_5 : decode cX7_change1 5 = .ok (.iaload, 1) := by decide +kernel
theorem dX7_change1_6 : decode cX7_change1 6 = .ok (.istore_n 3, 1) := by decide +kernel
theorem dX7_change1_7 : decode cX7_change1 7 = .ok (.aload_n 0, 1) := by decide +kernel
theorem dX7_change1_8 : decode cX7_change1 8 = .ok (.getfield 7, 3) := by decide +kernel
theorem dX7_change1_11 : decode cX7_change1 11 = .ok (.iload_n 1, 1) := by decide +kernel
theorem dX7_change1_12 : decode cX7_change1 12 = .ok (.iload_n 2, 1) := by decide +kernel
theorem dX7_change1_13 : decode cX7_change1 13 = .ok (.iastore, 1) := by decide +kernel
theorem dX7_change1_14 : decode cX7_change1 14 = .ok (.iload_n 3, 1) := by decide +kernel
theorem dX7_change1_15 : decode cX7_change1 15 = .ok (.ireturn, 1) := by decide +kernel
theorem gX7_allOf_X7_its : GoodIn wsX7_allOf (wsV RX7 72 RX7 yX7_its wsX7_its) := nw_gV nwl_X7_allOf nwe_552 nwe_553 nwe_554 nwe_534 nwl_X7_its (by decide +kernel)
theorem dX7_allOf_0 : decode cX7_allOf 0 = .ok (.iconst 0, 1) := by decide +kernel
theorem dX7_allOf_1 : decode cX7_allOf 1 = .ok (.istore_n 2, 1) := by decide +kernel
theorem dX7_allOf_2 : decode cX7_allOf 2 = .ok (.iconst 0, 1) := by decide +kernel
theorem dX7_allOf_3 : decode cX7_allOf 3 = .ok (.istore_n 3, 1) := by decide +kernel
theorem dX7_allOf_4 : decode cX7_allOf 4 = .ok (.iload_n 3, 1) := by decide +kernel
theorem dX7_allOf_5 : decode cX7_allOf 5 = .ok (.bipush 9, 2) := by decide +kernel
theorem dX7_allOf_7 : decode cX7_allOf 7 = .ok (.if_icmp .ge 18, 3) := by decide +kernel
theorem dX7_allOf_10 : decode cX7_allOf 10 = .ok (.iload_n 2, 1) := by decide +kernel
theorem dX7_allOf_11 : decode cX7_allOf 11 = .ok (.aload_n 0, 1) := by decide +kernel
theorem dX7_allOf_12 : decode cX7_allOf 12 = .ok (.iload_n 3, 1) := by decide +kernel
theorem dX7_allOf_13 : decode cX7_allOf 13 = .ok (.iload_n 1, 1) := by decide +kernel
theorem dX7_allOf_14 : decode cX7_allOf 14 = .ok (.invokevirtual 72, 3) := by decide +kernel
theorem dX7_allOf_17 : decode cX7_allOf 17 = .ok (.iadd, 1) := by decide +kernel
theorem dX7_allOf_18 : decode cX7_allOf 18 = .ok (.istore_n 2, 1) := by decide +kernel
theorem dX7_allOf_19 : decode cX7_allOf 19 = .ok (.iinc 3 1, 3) := by decide +kernel
theorem dX7_allOf_22 : decode cX7_allOf 22 = .ok (.goto (-18), 3) := by decide +kernel
theorem dX7_allOf_25 : decode cX7_allOf 25 = .ok (.iload_n 2, 1) := by decide +kernel
theorem dX7_allOf_26 : decode cX7_allOf 26 = .ok (.ireturn, 1) := by decide +kernel
theorem dX7_allUnder_0 : decode cX7_allUnder 0 = .ok (.iconst 0, 1) := by decide +kernel
theorem dX7_allUnder_1 : decode cX7_allUnder 1 = .ok (.istore_n 1, 1) := by decide +kernel
theorem dX7_allUnder_2 : decode cX7_allUnder 2 = .ok (.iconst 0, 1) := by decide +kernel
theorem dX7_allUnder_3 : decode cX7_allUnder 3 = .ok (.istore_n 2, 1) := by decide +kernel
theorem dX7_allUnder_4 : decode cX7_allUnder 4 = .ok (.iload_n 2, 1) := by decide +kernel
theorem dX7_allUnder_5 : decode cX7_allUnder 5 = .ok (.bipush 16, 2) := by decide +kernel
theorem dX7_allUnder_7 : decode cX7_allUnder 7 = .ok (.if_icmp .ge 21, 3) := by decide +kernel
theorem dX7_allUnder_10 : decode cX7_allUnder 10 = .ok (.iload_n 1, 1) := by decide +kernel
theorem dX7_allUnder_11 : decode cX7_allUnder 11 = .ok (.aload_n 0, 1) := by decide +kernel
theorem dX7_allUnder_12 : decode cX7_allUnder 12 = .ok (.getfield 7, 3) := by decide +kernel
theorem dX7_allUnder_15 : decode cX7_allUnder 15 = .ok (.bipush 24, 2) := by decide +kernel
theorem dX7_allUnder_17 : decode cX7_allUnder 17 = .ok (.iload_n 2, 1) := by decide +kernel
theorem dX7_allUnder_18 : decode cX7_allUnder 18 = .ok (.iadd, 1) := by decide +kernel
theorem dX7_allUnder_19 : decode cX7_allUnder 19 = .ok (.iaload, 1) := by decide +kernel
theorem dX7_allUnder_20 : decode cX7_allUnder 20 = .ok (.iadd, 1) := by decide +kernel
theorem dX7_allUnder_21 : decode cX7_allUnder 21 = .ok (.istore_n 1, 1) := by decide +kernel
theorem dX7_allUnder_22 : decode cX7_allUnder 22 = .ok (.iinc 2 1, 3) := by decide +kernel
theorem dX7_allUnder_25 : decode cX7_allUnder 25 = .ok (.goto (-21), 3) := by decide +kernel
theorem dX7_allUnder_28 : decode cX7_allUnder 28 = .ok (.iload_n 1, 1) := by decide +kernel
theorem dX7_allUnder_29 : decode cX7_allUnder 29 = .ok (.ireturn, 1) := by decide +kernel
theorem gX7_feed_X7_in : GoodIn wsX7_feed (va_wsS RX7 68 yX7_in wsX7_in) := nw_gS nwl_X7_feed nwe_546 nwe_547 nwe_534 nwl_X7_in (by decide +kernel)
theorem gX7_feed_X7_error : GoodIn wsX7_feed (wsV RX7 76 RX7 yX7_error wsX7_error) := nw_gV nwl_X7_feed nwe_558 nwe_559 nwe_560 nwe_534 nwl_X7_error (by decide +kernel)
theorem dX7_feed_0 : decode cX7_feed 0 = .ok (.iload_n 3, 1) := by decide +kernel
theorem dX7_feed_1 : decode cX7_feed 1 = .ok (.iconst 1, 1) := by decide +kernel
theorem dX7_feed_2 : decode cX7_feed 2 = .ok (.bipush 8, 2) := by decide +kernel
theorem dX7_feed_4 : decode cX7_feed 4 = .ok (.invokestatic 68, 3) := by decide +kernel
theorem dX7_feed_7 : decode cX7_feed 7 = .ok (.ifCond .ne 9, 3) := by decide +kernel
theorem dX7_feed_10 : decode cX7_feed 10 = .ok (.aload_n 0, 1) := by decide +kernel
theorem dX7_feed_11 : decode cX7_feed 11 = .ok (.iconst 1, 1) := by decide +kernel
theorem dX7_feed_12 : decode cX7_feed 12 = .ok (.invokevirtual 76, 3) := by decide +kernel
theorem dX7_feed_15 : decode cX7_feed 15 = .ok (.ireturn, 1) := by decide +kernel
theorem dX7_feed_16 : decode cX7_feed 16 = .ok (.aload_n 0, 1) := by decide +kernel
theorem dX7_feed_17 : decode cX7_feed 17 = .ok (.getfield 7, 3) := by decide +kernel
theorem dX7_feed_20 : decode cX7_feed 20 = .ok (.iconst 4, 1) := by decide +kernel
theorem dX7_feed_21 : decode cX7_feed 21 = .ok (.iaload, 1) := by decide +kernel
theorem dX7_feed_22 : decode cX7_feed 22 = .ok (.iload_n 3, 1) := by decide +kernel
theorem dX7_feed_23 : decode cX7_feed 23 = .ok (.iadd, 1) := by decide +kernel
theorem dX7_feed_24 : decode cX7_feed 24 = .ok (.bipush 60, 2) := by decide +kernel
theorem dX7_feed_26 : decode cX7_feed 26 = .ok (.if_icmp .le 9, 3) := by decide +kernel
theorem dX7_feed_29 : decode cX7_feed 29 = .ok (.aload_n 0, 1) := by decide +kernel
theorem dX7_feed_30 : decode cX7_feed 30 = .ok (.iconst 4, 1) := by decide +kernel
theorem dX7_feed_31 : decode cX7_feed 31 = .ok (.invokevirtual 76, 3) := by decide +kernel
theorem dX7_feed_34 : decode cX7_feed 34 = .ok (.ireturn, 1) := by decide +kernel
theorem dX7_feed_35 : decode cX7_feed 35 = .ok (.iconst 0, 1) := by decide +kernel
theorem dX7_feed_36 : decode cX7_feed 36 = .ok (.istore 4, 2) := by decide +kernel
theorem dX7_feed_38 : decode cX7_feed 38 = .ok (.iload 4, 2) := by decide +kernel
theorem dX7_feed_40 : decode cX7_feed 40 = .ok (.iload_n 3, 1) := by decide +kernel
theorem dX7_feed_41 : decode cX7_feed 41 = .ok (.if_icmp .ge 46, 3) := by decide +kernel
theorem dX7_feed_44 : decode cX7_feed 44 = .ok (.aload_n 0, 1) := by decide +kernel
theorem dX7_feed_45 : decode cX7_feed 45 = .ok (.getfield 7, 3) := by decide +kernel
theorem dX7_feed_48 : decode cX7_feed 48 = .ok (.sipush 371, 3) := by decide +kernel
theorem dX7_feed_51 : decode cX7_feed 51 = .ok (.aload_n 0, 1) := by decide +kernel
theorem dX7_feed_52 : decode cX7_feed 52 = .ok (.getfield 7, 3) := by decide +kernel
theorem dX7_feed_55 : decode cX7_feed 55 = .ok (.iconst 4, 1) := by decide +kernel
theorem dX7_feed_56 : decode cX7_feed 56 = .ok (.iaload, 1) := by decide +kernel
theorem dX7_feed_57 : decode cX7_feed 57 = .ok (.iadd, 1) := by decide +kernel
theorem dX7_feed_58 : decode cX7_feed 58 = .ok (.lload_n 1, 1) := by decide +kernel
theorem dX7_feed_59 : decode cX7_feed 59 = .ok (.bipush 8, 2) := by decide +kernel
theorem dX7_feed_61 : decode cX7_feed 61 = .ok (.iload 4, 2) := by decide +kernel
theorem dX7_feed_63 : decode cX7_feed 63 = .ok (.imul, 1) := by decide +kernel
theorem dX7_feed_64 : decode cX7_feed 64 = .ok (.lshr, 1) := by decide +kernel
theorem dX7_feed_65 : decode cX7_feed 65 = .ok (.ldc2_w 80, 3) := by decide +kernel
theorem dX7_feed_68 : decode cX7_feed 68 = .ok (.land, 1) := by decide +kernel
theorem dX7_feed_69 : decode cX7_feed 69 = .ok (.l2i, 1) := by decide +kernel
theorem dX7_feed_70 : decode cX7_feed 70 = .ok (.iastore, 1) := by decide +kernel
theorem dX7_feed_71 : decode cX7_feed 71 = .ok (.aload_n 0, 1) := by decide +kernel
theorem dX7_feed_72 : decode cX7_feed 72 = .ok (.getfield 7, 3) := by decide +kernel
theorem dX7_feed_75 : decode cX7_feed 75 = .ok (.iconst 4, 1) := by decide +kernel
theorem dX7_feed_76 : decode cX7_feed 76 = .ok (.dup2, 1) := by decide +kernel
theorem dX7_feed_77 : decode cX7_feed 77 = .ok (.iaload, 1) := by decide +kernel
theorem dX7_feed_78 : decode cX7_feed 78 = .ok (.iconst 1, 1) := by decide +kernel
theorem dX7_feed_79 : decode cX7_feed 79 = .ok (.iadd, 1) := by decide +kernel
theorem dX7_feed_80 : decode cX7_feed 80 = .ok (.iastore, 1) := by decide +kernel
theorem dX7_feed_81 : decode cX7_feed 81 = .ok (.iinc 4 1, 3) := by decide +kernel
theorem dX7_feed_84 : decode cX7_feed 84 = .ok (.goto (-46), 3) := by decide +kernel
theorem dX7_feed_87 : decode cX7_feed 87 = .ok (.aload_n 0, 1) := by decide +kernel
theorem dX7_feed_88 : decode cX7_feed 88 = .ok (.getfield 7, 3) := by decide +kernel
theorem dX7_feed_91 : decode cX7_feed 91 = .ok (.iconst 4, 1) := by decide +kernel
theorem dX7_feed_92 : decode cX7_feed 92 = .ok (.iaload, 1) := by decide +kernel
theorem dX7_feed_93 : decode cX7_feed 93 = .ok (.ireturn, 1) := by decide +kernel
theorem dX7_look_0 : decode cX7_look 0 = .ok (.aload_n 0, 1) := by decide +kernel
theorem dX7_look_1 : decode cX7_look 1 = .ok (.getfield 82, 3) := by decide +kernel
theorem dX7_look_4 : decode cX7_look 4 = .ok (.aload_n 0, 1) := by decide +kernel
theorem dX7_look_5 : decode cX7_look 5 = .ok (.getfield 7, 3) := by decide +kernel
theorem dX7_look_8 : decode cX7_look 8 = .ok (.iconst 4, 1) := by decide +kernel
theorem dX7_look_9 : decode cX7_look 9 = .ok (.iaload, 1) := by decide +kernel
theorem dX7_look_10 : decode cX7_look 10 = .ok (.if_icmp .ge 19, 3) := by decide +kernel
theorem dX7_look_13 : decode cX7_look 13 = .ok (.aload_n 0, 1) := by decide +kernel
theorem dX7_look_14 : decode cX7_look 14 = .ok (.getfield 7, 3) := by decide +kernel
theorem dX7_look_17 : decode cX7_look 17 = .ok (.sipush 371, 3) := by decide +kernel
theorem dX7_look_20 : decode cX7_look 20 = .ok (.aload_n 0, 1) := by decide +kernel
theorem dX7_look_21 : decode cX7_look 21 = .ok (.getfield 82, 3) := by decide +kernel
theorem dX7_look_24 : decode cX7_look 24 = .ok (.iadd, 1) := by decide +kernel
theorem dX7_look_25 : decode cX7_look 25 = .ok (.iaload, 1) := by decide +kernel
theorem dX7_look_26 : decode cX7_look 26 = .ok (.goto 4, 3) := by decide +kernel
theorem dX7_look_29 : decode cX7_look 29 = .ok (.iconst (-1), 1) := by decide +kernel
theorem dX7_look_30 : decode cX7_look 30 = .ok (.ireturn, 1) := by decide +kernel
theorem dX7_isName_0 : decode cX7_isName 0 = .ok (.iload_n 1, 1) := by decide +kernel
theorem dX7_isName_1 : decode cX7_isName 1 = .ok (.bipush 104, 2) := by decide +kernel
theorem dX7_isName_3 : decode cX7_isName 3 = .ok (.if_icmp .ne 5, 3) := by decide +kernel
theorem dX7_isName_6 : decode cX7_isName 6 = .ok (.iconst 1, 1) := by decide +kernel
theorem dX7_isName_7 : decode cX7_isName 7 = .ok (.ireturn, 1) := by decide +kernel
theorem dX7_isName_8 : decode cX7_isName 8 = .ok (.aload_n 0, 1) := by decide +kernel
theorem dX7_isName_9 : decode cX7_isName 9 = .ok (.getfield 85, 3) := by decide +kernel
theorem dX7_isName_12 : decode cX7_isName 12 = .ok (.ifCond .ne 23, 3) := by decide +kernel
theorem dX7_isName_15 : decode cX7_isName 15 = .ok (.iload_n 1, 1) := by decide +kernel
theorem dX7_isName_16 : decode cX7_isName 16 = .ok (.bipush 102, 2) := by decide +kernel
theorem dX7_isName_18 : decode cX7_isName 18 = .ok (.if_icmp .eq 9, 3) := by decide +kernel
theorem dX7_isName_21 : decode cX7_isName 21 = .ok (.iload_n 1, 1) := by decide +kernel
theorem dX7_isName_22 : decode cX7_isName 22 = .ok (.bipush 109, 2) := by decide +kernel
theorem dX7_isName_24 : decode cX7_isName 24 = .ok (.if_icmp .ne 7, 3) := by decide +kernel
theorem dX7_isName_27 : decode cX7_isName 27 = .ok (.iconst 1, 1) := by decide +kernel
theorem dX7_isName_28 : decode cX7_isName 28 = .ok (.goto 24, 3) := by decide +kernel
theorem dX7_isName_31 : decode cX7_isName 31 = .ok (.iconst 0, 1) := by decide +kernel
theorem dX7_isName_32 : decode cX7_isName 32 = .ok (.goto 20, 3) := by decide +kernel
theorem dX7_isName_35 : decode cX7_isName 35 = .ok (.iload_n 1, 1) := by decide +kernel
theorem dX7_isName_36 : decode cX7_isName 36 = .ok (.bipush 117, 2) := by decide +kernel
theorem dX7_isName_38 : decode cX7_isName 38 = .ok (.if_icmp .eq 9, 3) := by decide +kernel
theorem dX7_isName_41 : decode cX7_isName 41 = .ok (.iload_n 1, 1) := by decide +kernel
theorem dX7_isName_42 : decode cX7_isName 42 = .ok (.bipush 97, 2) := by decide +kernel
theorem dX7_isName_44 : decode cX7_isName 44 = .ok (.if_icmp .ne 7, 3) := by decide +kernel
theorem dX7_isName_47 : decode cX7_isName 47 = .ok (.iconst 1, 1) := by decide +kernel
theorem dX7_isName_48 : decode cX7_isName 48 = .ok (.goto 4, 3) := by decide +kernel
theorem dX7_isName_51 : decode cX7_isName 51 = .ok (.iconst 0, 1) := by decide +kernel
theorem dX7_isName_52 : decode cX7_isName 52 = .ok (.ireturn, 1) := by decide +kernel
theorem dX7_step1_0 : decode cX7_step1 0 = .ok (.aload_n 0, 1) := by decide +kernel
theorem dX7_step1_1 : decode cX7_step1 1 = .ok (.getfield 22, 3) := by decide +kernel
theorem dX7_step1_4 : decode cX7_step1 4 = .ok (.iconst 2, 1) := by decide +kernel
theorem dX7_step1_5 : decode cX7_step1 5 = .ok (.aload_n 0, 1) := by decide +kernel
theorem dX7_step1_6 : decode cX7_step1 6 = .ok (.getfield 88, 3) := by decide +kernel
theorem dX7_step1_9 : decode cX7_step1 9 = .ok (.imul, 1) := by decide +kernel
theorem dX7_step1_10 : decode cX7_step1 10 = .ok (.iload_n 1, 1) := by decide +kernel
theorem dX7_step1_11 : decode cX7_step1 11 = .ok (.iastore, 1) := by decide +kernel
theorem dX7_step1_12 : decode cX7_step1 12 = .ok (.aload_n 0, 1) := by decide +kernel
theorem dX7_step1_13 : decode cX7_step1 13 = .ok (.getfield 22, 3) := by decide +kernel
theorem dX7_step1_16 : decode cX7_step1 16 = .ok (.iconst 2, 1) := by decide +kernel
theorem dX7_step1_17 : decode cX7_step1 17 = .ok (.aload_n 0, 1) := by decide +kernel
theorem dX7_step1_18 : decode cX7_step1 18 = .ok (.getfield 88, 3) := by decide +kernel
theorem dX7_step1_21 : decode cX7_step1 21 = .ok (.imul, 1) := by decide +kernel
theorem dX7_step1_22 : decode cX7_step1 22 = .ok (.iconst 1, 1) := by decide +kernel
theorem dX7_step1_23 : decode cX7_step1 23 = .ok (.iadd, 1) := by decide +kernel
theorem dX7_step1_24 : decode cX7_step1 24 = .ok (.iload_n 2, 1) := by decide +kernel
theorem dX7_step1_25 : decode cX7_step1 25 = .ok (.iastore, 1) := by decide +kernel
theorem dX7_step1_26 : decode cX7_step1 26 = .ok (.aload_n 0, 1) := by decide +kernel
theorem dX7_step1_27 : decode cX7_step1 27 = .ok (.dup, 1) := by decide +kernel
theorem dX7_step1_28 : decode cX7_step1 28 = .ok (.getfield 88, 3) := by decide +kernel
theorem dX7_step1_31 : decode cX7_step1 31 = .ok (.iconst 1, 1) := by decide +kernel
theorem dX7_step1_32 : decode cX7_step1 32 = .ok (.iadd, 1) := by decide +kernel
theorem dX7_step1_33 : decode cX7_step1 33 = .ok (.putfield 88, 3) := by decide +kernel
theorem dX7_step1_36 : decode cX7_step1 36 = .ok (.return_, 1) := by decide +kernel
theorem gX7_whole_X7_both : GoodIn wsX7_whole (wsV RX7 91 RX7 yX7_both wsX7_both) := nw_gV nwl_X7_whole nwe_601 nwe_602 nwe_603 nwe_534 nwl_X7_both (by decide +kernel)
theorem gX7_whole_X7_look : GoodIn wsX7_whole (wsV RX7 95 RX7 yX7_look wsX7_look) := nw_gV nwl_X7_whole nwe_572 nwe_573 nwe_574 nwe_534 nwl_X7_look (by decide +kernel)
theorem gX7_whole_X7_step1 : GoodIn wsX7_whole (wsV RX7 99 RX7 yX7_step1 wsX7_step1) := nw_gV nwl_X7_whole nwe_575 nwe_576 nwe_577 nwe_534 nwl_X7_step1 (by decide +kernel)
theorem dX7_whole_0 : decode cX7_whole 0 = .ok (.aload_n 0, 1) := by decide +kernel
theorem dX7_whole_1 : decode cX7_whole 1 = .ok (.invokevirtual 91, 3) := by decide +kernel
theorem dX7_whole_4 : decode cX7_whole 4 = .ok (.ifCond .ne 5, 3) := by decide +kernel
theorem dX7_whole_7 : decode cX7_whole 7 = .ok (.iconst 0, 1) := by decide +kernel
theorem dX7_whole_8 : decode cX7_whole 8 = .ok (.ireturn, 1) := by decide +kernel
theorem dX7_whole_9 : decode cX7_whole 9 = .ok (.aload_n 0, 1) := by decide +kernel
theorem dX7_whole_10 : decode cX7_whole 10 = .ok (.invokevirtual 95, 3) := by decide +kernel
theorem dX7_whole_13 : decode cX7_whole 13 = .ok (.bipush 124, 2) := by decide +kernel
theorem dX7_whole_15 : decode cX7_whole 15 = .ok (.if_icmp .ne 32, 3) := by decide +kernel
theorem dX7_whole_18 : decode cX7_whole 18 = .ok (.aload_n 0, 1) := by decide +kernel
theorem dX7_whole_19 : decode cX7_whole 19 = .ok (.dup, 1) := by decide +kernel
theorem dX7_whole_20 : decode cX7_whole 20 = .ok (.getfield 82, 3) := by decide +kernel
theorem dX7_whole_23 : decode cX7_whole 23 = .ok (.iconst 1, 1) := by decide +kernel
theorem dX7_whole_24 : decode cX7_whole 24 = .ok (.iadd, 1) := by decide +kernel
theorem dX7_whole_25 : decode cX7_whole 25 = .ok (.putfield 82, 3) := by decide +kernel
theorem dX7_whole_28 : decode cX7_whole 28 = .ok (.aload_n 0, 1) := by decide +kernel
theorem dX7_whole_29 : decode cX7_whole 29 = .ok (.invokevirtual 91, 3) := by decide +kernel
theorem dX7_whole_32 : decode cX7_whole 32 = .ok (.ifCond .ne 5, 3) := by decide +kernel
theorem dX7_whole_35 : decode cX7_whole 35 = .ok (.iconst 0, 1) := by decide +kernel
theorem dX7_whole_36 : decode cX7_whole 36 = .ok (.ireturn, 1) := by decide +kernel
theorem dX7_whole_37 : decode cX7_whole 37 = .ok (.aload_n 0, 1) := by decide +kernel
theorem dX7_whole_38 : decode cX7_whole 38 = .ok (.iconst 3, 1) := by decide +kernel
theorem dX7_whole_39 : decode cX7_whole 39 = .ok (.bipush 124, 2) := by decide +kernel
theorem dX7_whole_41 : decode cX7_whole 41 = .ok (.invokevirtual 99, 3) := by decide +kernel
theorem dX7_whole_44 : decode cX7_whole 44 = .ok (.goto (-35), 3) := by decide +kernel
theorem dX7_whole_47 : decode cX7_whole 47 = .ok (.iconst 1, 1) := by decide +kernel
theorem dX7_whole_48 : decode cX7_whole 48 = .ok (.ireturn, 1) := by decide +kernel
theorem gX7_both_X7_compared : GoodIn wsX7_both (wsV RX7 103 RX7 yX7_compared wsX7_compared) := nw_gV nwl_X7_both nwe_569 nwe_570 nwe_571 nwe_534 nwl_X7_compared (by decide +kernel)
theorem gX7_both_X7_look : GoodIn wsX7_both (wsV RX7 95 RX7 yX7_look wsX7_look) := nw_gV nwl_X7_both nwe_572 nwe_573 nwe_574 nwe_534 nwl_X7_look (by decide +kernel)
theorem gX7_both_X7_step1 : GoodIn wsX7_both (wsV RX7 99 RX7 yX7_step1 wsX7_step1) := nw_gV nwl_X7_both nwe_575 nwe_576 nwe_577 nwe_534 nwl_X7_step1 (by decide +kernel)
theorem dX7_both_0 : decode cX7_both 0 = .ok (.aload_n 0, 1) := by decide +kernel
theorem dX7_both_1 : decode cX7_both 1 = .ok (.invokevirtual 103, 3) := by decide +kernel
theorem dX7_both_4 : decode cX7_both 4 = .ok (.ifCond .ne 5, 3) := by decide +kernel
theorem dX7_both_7 : decode cX7_both 7 = .ok (.iconst 0, 1) := by decide +kernel
theorem dX7_both_8 : decode cX7_both 8 = .ok (.ireturn, 1) := by decide +kernel
theorem dX7_both_9 : decode cX7_both 9 = .ok (.aload_n 0, 1) := by decide +kernel
theorem dX7_both_10 : decode cX7_both 10 = .ok (.invokevirtual 95, 3) := by decide +kernel
theorem dX7_both_13 : decode cX7_both 13 = .ok (.bipush 38, 2) := by decide +kernel
theorem dX7_both_15 : decode cX7_both 15 = .ok (.if_icmp .ne 32, 3) := by decide +kernel
theorem dX7_both_18 : decode cX7_both 18 = .ok (.aload_n 0, 1) := by decide +kernel
theorem dX7_both_19 : decode cX7_both 19 = .ok (.dup, 1) := by decide +kernel
theorem dX7_both_20 : decode cX7_both 20 = .ok (.getfield 82, 3) := by decide +kernel
theorem dX7_both_23 : decode cX7_both 23 = .ok (.iconst 1, 1) := by decide +kernel
theorem dX7_both_24 : decode cX7_both 24 = .ok (.iadd, 1) := by decide +kernel
theorem dX7_both_25 : decode cX7_both 25 = .ok (.putfield 82, 3) := by decide +kernel
theorem dX7_both_28 : decode cX7_both 28 = .ok (.aload_n 0, 1) := by decide +kernel
theorem dX7_both_29 : decode cX7_both 29 = .ok (.invokevirtual 103, 3) := by decide +kernel
theorem dX7_both_32 : decode cX7_both 32 = .ok (.ifCond .ne 5, 3) := by decide +kernel
theorem dX7_both_35 : decode cX7_both 35 = .ok (.iconst 0, 1) := by decide +kernel
theorem dX7_both_36 : decode cX7_both 36 = .ok (.ireturn, 1) := by decide +kernel
theorem dX7_both_37 : decode cX7_both 37 = .ok (.aload_n 0, 1) := by decide +kernel
theorem dX7_both_38 : decode cX7_both 38 = .ok (.iconst 3, 1) := by decide +kernel
theorem dX7_both_39 : decode cX7_both 39 = .ok (.bipush 38, 2) := by decide +kernel
theorem dX7_both_41 : decode cX7_both 41 = .ok (.invokevirtual 99, 3) := by decide +kernel
theorem dX7_both_44 : decode cX7_both 44 = .ok (.goto (-35), 3) := by decide +kernel
theorem dX7_both_47 : decode cX7_both 47 = .ok (.iconst 1, 1) := by decide +kernel
theorem dX7_both_48 : decode cX7_both 48 = .ok (.ireturn, 1) := by decide +kernel
theorem gX7_compared_X7_sum : GoodIn wsX7_compared (wsV RX7 106 RX7 yX7_sum wsX7_sum) := nw_gV nwl_X7_compared nwe_579 nwe_580 nwe_581 nwe_534 nwl_X7_sum (by decide +kernel)
theorem gX7_compared_X7_look : GoodIn wsX7_compared (wsV RX7 95 RX7 yX7_look wsX7_look) := nw_gV nwl_X7_compared nwe_572 nwe_573 nwe_574 nwe_534 nwl_X7_look (by decide +kernel)
theorem gX7_compared_X7_step1 : GoodIn wsX7_compared (wsV RX7 99 RX7 yX7_step1 wsX7_step1) := nw_gV nwl_X7_compared nwe_575 nwe_576 nwe_577 nwe_534 nwl_X7_step1 (by decide +kernel)
theorem dX7_compared_0 : decode cX7_compared 0 = .ok (.aload_n 0, 1) := by decide +kernel
theorem dX7_compared_1 : decode cX7_compared 1 = .ok (.invokevirtual 106, 3) := by decide +kernel
theorem dX7_compared_4 : decode cX7_compared 4 = .ok (.ifCond .ne 5, 3) := by decide +kernel
theorem dX7_compared_7 : decode cX7_compared 7 = .ok (.iconst 0, 1) := by decide +kernel
theorem dX7_compared_8 : decode cX7_compared 8 = .ok (.ireturn, 1) := by decide +kernel
theorem dX7_compared_9 : decode cX7_compared 9 = .ok (.aload_n 0, 1) := by decide +kernel
theorem dX7_compared_10 : decode cX7_compared 10 = .ok (.invokevirtual 95, 3) := by decide +kernel
theorem dX7_compared_13 : decode cX7_compared 13 = .ok (.istore_n 1, 1) := by decide +kernel
theorem dX7_compared_14 : decode cX7_compared 14 = .ok (.iload_n 1, 1) := by decide +kernel
theorem dX7_compared_15 : decode cX7_compared 15 = .ok (.bipush 60, 2) := by decide +kernel
theorem dX7_compared_17 : decode cX7_compared 17 = .ok (.if_icmp .eq 17, 3) := by decide +kernel
theorem dX7_compared_20 : decode cX7_compared 20 = .ok (.iload_n 1, 1) := by decide +kernel
theorem dX7_compared_21 : decode cX7_compared 21 = .ok (.bipush 61, 2) := by decide +kernel
theorem dX7_compared_23 : decode cX7_compared 23 = .ok (.if_icmp .eq 11, 3) := by decide +kernel
theorem dX7_compared_26 : decode cX7_compared 26 = .ok (.iload_n 1, 1) := by decide +kernel
theorem dX7_compared_27 : decode cX7_compared 27 = .ok (.bipush 62, 2) := by decide +kernel
theorem dX7_compared_29 : decode cX7_compared 29 = .ok (.if_icmp .eq 5, 3) := by decide +kernel
theorem dX7_compared_32 : decode cX7_compared 32 = .ok (.iconst 1, 1) := by decide +kernel
theorem dX7_compared_33 : decode cX7_compared 33 = .ok (.ireturn, 1) := by decide +kernel
theorem dX7_compared_34 : decode cX7_compared 34 = .ok (.aload_n 0, 1) := by decide +kernel
theorem dX7_compared_35 : decode cX7_compared 35 = .ok (.dup, 1) := by decide +kernel
theorem dX7_compared_36 : decode cX7_compared 36 = .ok (.getfield 82, 3) := by decide +kernel
theorem dX7_compared_39 : decode cX7_compared 39 = .ok (.iconst 1, 1) := by decide +kernel
theorem dX7_compared_40 : decode cX7_compared 40 = .ok (.iadd, 1) := by decide +kernel
theorem dX7_compared_41 : decode cX7_compared 41 = .ok (.putfield 82, 3) := by decide +kernel
theorem dX7_compared_44 : decode cX7_compared 44 = .ok (.aload_n 0, 1) := by decide +kernel
theorem dX7_compared_45 : decode cX7_compared 45 = .ok (.invokevirtual 106, 3) := by decide +kernel
theorem dX7_compared_48 : decode cX7_compared 48 = .ok (.ifCond .ne 5, 3) := by decide +kernel
theorem dX7_compared_51 : decode cX7_compared 51 = .ok (.iconst 0, 1) := by decide +kernel
theorem dX7_compared_52 : decode cX7_compared 52 = .ok (.ireturn, 1) := by decide +kernel
theorem dX7_compared_53 : decode cX7_compared 53 = .ok (.aload_n 0, 1) := by decide +kernel
theorem dX7_compared_54 : decode cX7_compared 54 = .ok (.iconst 3, 1) := by decide +kernel
theorem dX7_compared_55 : decode cX7_compared 55 = .ok (.iload_n 1, 1) := by decide +kernel
theorem dX7_compared_56 : decode cX7_compared 56 = .ok (.invokevirtual 99, 3) := by decide +kernel
theorem dX7_compared_59 : decode cX7_compared 59 = .ok (.iconst 1, 1) := by decide +kernel
theorem dX7_compared_60 : decode cX7_compared 60 = .ok (.ireturn, 1) := by decide +kernel
theorem gX7_sum_X7_product : GoodIn wsX7_sum (wsV RX7 109 RX7 yX7_product wsX7_product) := nw_gV nwl_X7_sum nwe_597 nwe_598 nwe_599 nwe_534 nwl_X7_product (by decide +kernel)
theorem gX7_sum_X7_look : GoodIn wsX7_sum (wsV RX7 95 RX7 yX7_look wsX7_look) := nw_gV nwl_X7_sum nwe_572 nwe_573 nwe_574 nwe_534 nwl_X7_look (by decide +kernel)
theorem gX7_sum_X7_step1 : GoodIn wsX7_sum (wsV RX7 99 RX7 yX7_step1 wsX7_step1) := nw_gV nwl_X7_sum nwe_575 nwe_576 nwe_577 nwe_534 nwl_X7_step1 (by decide +kernel)
theorem dX7_sum_0 : decode cX7_sum 0 = .ok (.aload_n 0, 1) := by decide +kernel
theorem dX7_sum_1 : decode cX7_sum 1 = .ok (.invokevirtual 109, 3) := by decide +kernel
theorem dX7_sum_4 : decode cX7_sum 4 = .ok (.ifCond .ne 5, 3) := by decide +kernel
theorem dX7_sum_7 : decode cX7_sum 7 = .ok (.iconst 0, 1) := by decide +kernel
theorem dX7_sum_8 : decode cX7_sum 8 = .ok (.ireturn, 1) := by decide +kernel
theorem dX7_sum_9 : decode cX7_sum 9 = .ok (.aload_n 0, 1) := by decide +kernel
theorem dX7_sum_10 : decode cX7_sum 10 = .ok (.invokevirtual 95, 3) := by decide +kernel
theorem dX7_sum_13 : decode cX7_sum 13 = .ok (.bipush 43, 2) := by decide +kernel
theorem dX7_sum_15 : decode cX7_sum 15 = .ok (.if_icmp .eq 12, 3) := by decide +kernel
theorem dX7_sum_18 : decode cX7_sum 18 = .ok (.aload_n 0, 1) := by decide +kernel
theorem dX7_sum_19 : decode cX7_sum 19 = .ok (.invokevirtual 95, 3) := by decide +kernel
theorem dX7_sum_22 : decode cX7_sum 22 = .ok (.bipush 45, 2) := by decide +kernel
theorem dX7_sum_24 : decode cX7_sum 24 = .ok (.if_icmp .ne 36, 3) := by decide +kernel
theorem dX7_sum_27 : decode cX7_sum 27 = .ok (.aload_n 0, 1) := by decide +kernel
theorem dX7_sum_28 : decode cX7_sum 28 = .ok (.invokevirtual 95, 3) := by decide +kernel
theorem dX7_sum_31 : decode cX7_sum 31 = .ok (.istore_n 1, 1) := by decide +kernel
theorem dX7_sum_32 : decode cX7_sum 32 = .ok (.aload_n 0, 1) := by decide +kernel
theorem dX7_sum_33 : decode cX7_sum 33 = .ok (.dup, 1) := by decide +kernel
theorem dX7_sum_34 : decode cX7_sum 34 = .ok (.getfield 82, 3) := by decide +kernel
theorem dX7_sum_37 : decode cX7_sum 37 = .ok (.iconst 1, 1) := by decide +kernel
theorem dX7_sum_38 : decode cX7_sum 38 = .ok (.iadd, 1) := by decide +kernel
theorem dX7_sum_39 : decode cX7_sum 39 = .ok (.putfield 82, 3) := by decide +kernel
theorem dX7_sum_42 : decode cX7_sum 42 = .ok (.aload_n 0, 1) := by decide +kernel
theorem dX7_sum_43 : decode cX7_sum 43 = .ok (.invokevirtual 109, 3) := by decide +kernel
theorem dX7_sum_46 : decode cX7_sum 46 = .ok (.ifCond .ne 5, 3) := by decide +kernel
theorem dX7_sum_49 : decode cX7_sum 49 = .ok (.iconst 0, 1) := by decide +kernel
theorem dX7_sum_50 : decode cX7_sum 50 = .ok (.ireturn, 1) := by decide +kernel
theorem dX7_sum_51 : decode cX7_sum 51 = .ok (.aload_n 0, 1) := by decide +kernel
theorem dX7_sum_52 : decode cX7_sum 52 = .ok (.iconst 3, 1) := by decide +kernel
theorem dX7_sum_53 : decode cX7_sum 53 = .ok (.iload_n 1, 1) := by decide +kernel
theorem dX7_sum_54 : decode cX7_sum 54 = .ok (.invokevirtual 99, 3) := by decide +kernel
theorem dX7_sum_57 : decode cX7_sum 57 = .ok (.goto (-48), 3) := by decide +kernel
theorem dX7_sum_60 : decode cX7_sum 60 = .ok (.iconst 1, 1) := by decide +kernel
theorem dX7_sum_61 : decode cX7_sum 61 = .ok (.ireturn, 1) := by decide +kernel
theorem gX7_product_X7_one : GoodIn wsX7_product (wsV RX7 112 RX7 yX7_one wsX7_one) := nw_gV nwl_X7_product nwe_589 nwe_590 nwe_591 nwe_534 nwl_X7_one (by decide +kernel)
theorem gX7_product_X7_look : GoodIn wsX7_product (wsV RX7 95 RX7 yX7_look wsX7_look) := nw_gV nwl_X7_product nwe_572 nwe_573 nwe_574 nwe_534 nwl_X7_look (by decide +kernel)
theorem gX7_product_X7_step1 : GoodIn wsX7_product (wsV RX7 99 RX7 yX7_step1 wsX7_step1) := nw_gV nwl_X7_product nwe_575 nwe_576 nwe_577 nwe_534 nwl_X7_step1 (by decide +kernel)
theorem dX7_product_0 : decode cX7_product 0 = .ok (.aload_n 0, 1) := by decide +kernel
theorem dX7_product_1 : decode cX7_product 1 = .ok (.invokevirtual 112, 3) := by decide +kernel
theorem dX7_product_4 : decode cX7_product 4 = .ok (.ifCond .ne 5, 3) := by decide +kernel
theorem dX7_product_7 : decode cX7_product 7 = .ok (.iconst 0, 1) := by decide +kernel
theorem dX7_product_8 : decode cX7_product 8 = .ok (.ireturn, 1) := by decide +kernel
theorem dX7_product_9 : decode cX7_product 9 = .ok (.aload_n 0, 1) := by decide +kernel
theorem dX7_product_10 : decode cX7_product 10 = .ok (.invokevirtual 95, 3) := by decide +kernel
theorem dX7_product_13 : decode cX7_product 13 = .ok (.bipush 42, 2) := by decide +kernel
theorem dX7_product_15 : decode cX7_product 15 = .ok (.if_icmp .eq 21, 3) := by decide +kernel
theorem dX7_product_18 : decode cX7_product 18 = .ok (.aload_n 0, 1) := by decide +kernel
theorem dX7_product_19 : decode cX7_product 19 = .ok (.invokevirtual 95, 3) := by decide +kernel
theorem dX7_product_22 : decode cX7_product 22 = .ok (.bipush 47, 2) := by decide +kernel
theorem dX7_product_24 : decode cX7_product 24 = .ok (.if_icmp .eq 12, 3) := by decide +kernel
theorem dX7_product_27 : decode cX7_product 27 = .ok (.aload_n 0, 1) := by decide +kernel
theorem dX7_product_28 : decode cX7_product 28 = .ok (.invokevirtual 95, 3) := by decide +kernel
theorem dX7_product_31 : decode cX7_product 31 = .ok (.bipush 37, 2) := by decide +kernel
theorem dX7_product_33 : decode cX7_product 33 = .ok (.if_icmp .ne 36, 3) := by decide +kernel
theorem dX7_product_36 : decode cX7_product 36 = .ok (.aload_n 0, 1) := by decide +kernel
theorem dX7_product_37 : decode cX7_product 37 = .ok (.invokevirtual 95, 3) := by decide +kernel
theorem dX7_product_40 : decode cX7_product 40 = .ok (.istore_n 1, 1) := by decide +kernel
theorem dX7_product_41 : decode cX7_product 41 = .ok (.aload_n 0, 1) := by decide +kernel
theorem dX7_product_42 : decode cX7_product 42 = .ok (.dup, 1) := by decide +kernel
theorem dX7_product_43 : decode cX7_product 43 = .ok (.getfield 82, 3) := by decide +kernel
theorem dX7_product_46 : decode cX7_product 46 = .ok (.iconst 1, 1) := by decide +kernel
theorem dX7_product_47 : decode cX7_product 47 = .ok (.iadd, 1) := by decide +kernel
theorem dX7_product_48 : decode cX7_product 48 = .ok (.putfield 82, 3) := by decide +kernel
theorem dX7_product_51 : decode cX7_product 51 = .ok (.aload_n 0, 1) := by decide +kernel
theorem dX7_product_52 : decode cX7_product 52 = .ok (.invokevirtual 112, 3) := by decide +kernel
theorem dX7_product_55 : decode cX7_product 55 = .ok (.ifCond .ne 5, 3) := by decide +kernel
theorem dX7_product_58 : decode cX7_product 58 = .ok (.iconst 0, 1) := by decide +kernel
theorem dX7_product_59 : decode cX7_product 59 = .ok (.ireturn, 1) := by decide +kernel
theorem dX7_product_60 : decode cX7_product 60 = .ok (.aload_n 0, 1) := by decide +kernel
theorem dX7_product_61 : decode cX7_product 61 = .ok (.iconst 3, 1) := by decide +kernel
theorem dX7_product_62 : decode cX7_product 62 = .ok (.iload_n 1, 1) := by decide +kernel
theorem dX7_product_63 : decode cX7_product 63 = .ok (.invokevirtual 99, 3) := by decide +kernel
theorem dX7_product_66 : decode cX7_product 66 = .ok (.goto (-57), 3) := by decide +kernel
theorem dX7_product_69 : decode cX7_product 69 = .ok (.iconst 1, 1) := by decide +kernel
theorem dX7_product_70 : decode cX7_product 70 = .ok (.ireturn, 1) := by decide +kernel
theorem dX7_opens_0 : decode cX7_opens 0 = .ok (.aload_n 0, 1) := by decide +kernel
theorem dX7_opens_1 : decode cX7_opens 1 = .ok (.getfield 115, 3) := by decide +kernel
theorem dX7_opens_4 : decode cX7_opens 4 = .ok (.iconst 5, 1) := by decide +kernel
theorem dX7_opens_5 : decode cX7_opens 5 = .ok (.if_icmp .ne 5, 3) := by decide +kernel
theorem dX7_opens_8 : decode cX7_opens 8 = .ok (.iconst 0, 1) := by decide +kernel
theorem dX7_opens_9 : decode cX7_opens 9 = .ok (.ireturn, 1) := by decide +kernel
theorem dX7_opens_10 : decode cX7_opens 10 = .ok (.aload_n 0, 1) := by decide +kernel
theorem dX7_opens_11 : decode cX7_opens 11 = .ok (.dup, 1) := by decide +kernel
theorem dX7_opens_12 : decode cX7_opens 12 = .ok (.getfield 115, 3) := by decide +kernel
theorem dX7_opens_15 : decode cX7_opens 15 = .ok (.iconst 1, 1) := by decide +kernel
theorem dX7_opens_16 : decode cX7_opens 16 = .ok (.iadd, 1) := by decide +kernel
theorem dX7_opens_17 : decode cX7_opens 17 = .ok (.putfield 115, 3) := by decide +kernel
theorem dX7_opens_20 : decode cX7_opens 20 = .ok (.aload_n 0, 1) := by decide +kernel
theorem dX7_opens_21 : decode cX7_opens 21 = .ok (.dup, 1) := by decide +kernel
theorem dX7_opens_22 : decode cX7_opens 22 = .ok (.getfield 82, 3) := by decide +kernel
theorem dX7_opens_25 : decode cX7_opens 25 = .ok (.iconst 1, 1) := by decide +kernel
theorem dX7_opens_26 : decode cX7_opens 26 = .ok (.iadd, 1) := by decide +kernel
theorem dX7_opens_27 : decode cX7_opens 27 = .ok (.putfield 82, 3) := by decide +kernel
theorem dX7_opens_30 : decode cX7_opens 30 = .ok (.iconst 1, 1) := by decide +kernel
theorem dX7_opens_31 : decode cX7_opens 31 = .ok (.ireturn, 1) := by decide +kernel
theorem gX7_one_X7_look : GoodIn wsX7_one (wsV RX7 95 RX7 yX7_look wsX7_look) := nw_gV nwl_X7_one nwe_572 nwe_573 nwe_574 nwe_534 nwl_X7_look (by decide +kernel)
theorem gX7_one_X7_isName : GoodIn wsX7_one (wsV RX7 118 RX7 yX7_isName wsX7_isName) := nw_gV nwl_X7_one nwe_583 nwe_584 nwe_585 nwe_534 nwl_X7_isName (by decide +kernel)
theorem gX7_one_X7_step1 : GoodIn wsX7_one (wsV RX7 99 RX7 yX7_step1 wsX7_step1) := nw_gV nwl_X7_one nwe_575 nwe_576 nwe_577 nwe_534 nwl_X7_step1 (by decide +kernel)
theorem gX7_one_X7_in : GoodIn wsX7_one (va_wsS RX7 68 yX7_in wsX7_in) := nw_gS nwl_X7_one nwe_546 nwe_547 nwe_534 nwl_X7_in (by decide +kernel)
theorem gX7_one_X7_opens : GoodIn wsX7_one (wsV RX7 122 RX7 yX7_opens wsX7_opens) := nw_gV nwl_X7_one nwe_586 nwe_587 nwe_588 nwe_534 nwl_X7_opens (by decide +kernel)
theorem gX7_one_X7_one : GoodIn wsX7_one (wsV RX7 112 RX7 yX7_one wsX7_one) := nw_gV nwl_X7_one nwe_589 nwe_590 nwe_591 nwe_534 nwl_X7_one (by decide +kernel)
theorem gX7_one_X7_whole : GoodIn wsX7_one (wsV RX7 125 RX7 yX7_whole wsX7_whole) := nw_gV nwl_X7_one nwe_592 nwe_593 nwe_594 nwe_534 nwl_X7_whole (by decide +kernel)
theorem dX7_one_0 : decode cX7_one 0 = .ok (.aload_n 0, 1) := by decide +kernel
theorem dX7_one_1 : decode cX7_one 1 = .ok (.invokevirtual 95, 3) := by decide +kernel
theorem dX7_one_4 : decode cX7_one 4 = .ok (.istore_n 1, 1) := by decide +kernel
theorem dX7_one_5 : decode cX7_one 5 = .ok (.aload_n 0, 1) := by decide +kernel
theorem dX7_one_6 : decode cX7_one 6 = .ok (.iload_n 1, 1) := by decide +kernel
theorem dX7_one_7 : decode cX7_one 7 = .ok (.invokevirtual 118, 3) := by decide +kernel
theorem dX7_one_10 : decode cX7_one 10 = .ok (.ifCond .eq 21, 3) := by decide +kernel
theorem dX7_one_13 : decode cX7_one 13 = .ok (.aload_n 0, 1) := by decide +kernel
theorem dX7_one_14 : decode cX7_one 14 = .ok (.dup, 1) := by decide +kernel
theorem dX7_one_15 : decode cX7_one 15 = .ok (.getfield 82, 3) := by decide +kernel
theorem dX7_one_18 : decode cX7_one 18 = .ok (.iconst 1, 1) := by decide +kernel
theorem dX7_one_19 : decode cX7_one 19 = .ok (.iadd, 1) := by decide +kernel
theorem dX7_one_20 : decode cX7_one 20 = .ok (.putfield 82, 3) := by decide +kernel
theorem dX7_one_23 : decode cX7_one 23 = .ok (.aload_n 0, 1) := by decide +kernel
theorem dX7_one_24 : decode cX7_one 24 = .ok (.iconst 1, 1) := by decide +kernel
theorem dX7_one_25 : decode cX7_one 25 = .ok (.iload_n 1, 1) := by decide +kernel
theorem dX7_one_26 : decode cX7_one 26 = .ok (.invokevirtual 99, 3) := by decide +kernel
theorem dX7_one_29 : decode cX7_one 29 = .ok (.iconst 1, 1) := by decide +kernel
theorem dX7_one_30 : decode cX7_one 30 = .ok (.ireturn, 1) := by decide +kernel
theorem dX7_one_31 : decode cX7_one 31 = .ok (.iload_n 1, 1) := by decide +kernel
theorem dX7_one_32 : decode cX7_one 32 = .ok (.bipush 48, 2) := by decide +kernel
theorem dX7_one_34 : decode cX7_one 34 = .ok (.bipush 57, 2) := by decide +kernel
theorem dX7_one_36 : decode cX7_one 36 = .ok (.invokestatic 68, 3) := by decide +kernel
theorem dX7_one_39 : decode cX7_one 39 = .ok (.ifCond .eq 63, 3) := by decide +kernel
theorem dX7_one_42 : decode cX7_one 42 = .ok (.iconst 0, 1) := by decide +kernel
theorem dX7_one_43 : decode cX7_one 43 = .ok (.istore_n 2, 1) := by decide +kernel
theorem dX7_one_44 : decode cX7_one 44 = .ok (.iconst 0, 1) := by decide +kernel
theorem dX7_one_45 : decode cX7_one 45 = .ok (.istore_n 3, 1) := by decide +kernel
theorem dX7_one_46 : decode cX7_one 46 = .ok (.iload_n 3, 1) := by decide +kernel
theorem dX7_one_47 : decode cX7_one 47 = .ok (.iconst 4, 1) := by decide +kernel
theorem dX7_one_48 : decode cX7_one 48 = .ok (.if_icmp .ge 46, 3) := by decide +kernel
theorem dX7_one_51 : decode cX7_one 51 = .ok (.aload_n 0, 1) := by decide +kernel
theorem dX7_one_52 : decode cX7_one 52 = .ok (.invokevirtual 95, 3) := by decide +kernel
theorem dX7_one_55 : decode cX7_one 55 = .ok (.bipush 48, 2) := by decide +kernel
theorem dX7_one_57 : decode cX7_one 57 = .ok (.bipush 57, 2) := by decide +kernel
theorem dX7_one_59 : decode cX7_one 59 = .ok (.invokestatic 68, 3) := by decide +kernel
theorem dX7_one_62 : decode cX7_one 62 = .ok (.ifCond .eq 32, 3) := by decide +kernel
theorem dX7_one_65 : decode cX7_one 65 = .ok (.bipush 10, 2) := by decide +kernel
theorem dX7_one_67 : decode cX7_one 67 = .ok (.iload_n 2, 1) := by decide +kernel
theorem dX7_one_68 : decode cX7_one 68 = .ok (.imul, 1) := by decide +kernel
theorem dX7_one_69 : decode cX7_one 69 = .ok (.aload_n 0, 1) := by decide +kernel
theorem dX7_one_70 : decode cX7_one 70 = .ok (.invokevirtual 95, 3) := by decide +kernel
theorem dX7_one_73 : decode cX7_one 73 = .ok (.iadd, 1) := by decide +kernel
theorem dX7_one_74 : decode cX7_one 74 = .ok (.bipush 48, 2) := by decide +kernel
theorem dX7_one_76 : decode cX7_one 76 = .ok (.isub, 1) := by decide +kernel
theorem dX7_one_77 : decode cX7_one 77 = .ok (.istore_n 2, 1) := by decide +kernel
theorem dX7_one_78 : decode cX7_one 78 = .ok (.aload_n 0, 1) := by decide +kernel
theorem dX7_one_79 : decode cX7_one 79 = .ok (.dup, 1) := by decide +kernel
theorem dX7_one_80 : decode cX7_one 80 = .ok (.getfield 82, 3) := by decide +kernel
theorem dX7_one_83 : decode cX7_one 83 = .ok (.iconst 1, 1) := by decide +kernel
theorem dX7_one_84 : decode cX7_one 84 = .ok (.iadd, 1) := by decide +kernel
theorem dX7_one_85 : decode cX7_one 85 = .ok (.putfield 82, 3) := by decide +kernel
theorem dX7_one_88 : decode cX7_one 88 = .ok (.iinc 3 1, 3) := by decide +kernel
theorem dX7_one_91 : decode cX7_one 91 = .ok (.goto (-45), 3) := by decide +kernel
theorem dX7_one_94 : decode cX7_one 94 = .ok (.aload_n 0, 1) := by decide +kernel
theorem dX7_one_95 : decode cX7_one 95 = .ok (.iconst 0, 1) := by decide +kernel
theorem dX7_one_96 : decode cX7_one 96 = .ok (.iload_n 2, 1) := by decide +kernel
theorem dX7_one_97 : decode cX7_one 97 = .ok (.invokevirtual 99, 3) := by decide +kernel
theorem dX7_one_100 : decode cX7_one 100 = .ok (.iconst 1, 1) := by decide +kernel
theorem dX7_one_101 : decode cX7_one 101 = .ok (.ireturn, 1) := by decide +kernel
theorem dX7_one_102 : decode cX7_one 102 = .ok (.iload_n 1, 1) := by decide +kernel
theorem dX7_one_103 : decode cX7_one 103 = .ok (.bipush 33, 2) := by decide +kernel
theorem dX7_one_105 : decode cX7_one 105 = .ok (.if_icmp .ne 37, 3) := by decide +kernel
theorem dX7_one_108 : decode cX7_one 108 = .ok (.aload_n 0, 1) := by decide +kernel
theorem dX7_one_109 : decode cX7_one 109 = .ok (.invokevirtual 122, 3) := by decide +kernel
theorem dX7_one_112 : decode cX7_one 112 = .ok (.ifCond .eq 10, 3) := by decide +kernel
theorem dX7_one_115 : decode cX7_one 115 = .ok (.aload_n 0, 1) := by decide +kernel
theorem dX7_one_116 : decode cX7_one 116 = .ok (.invokevirtual 112, 3) := by decide +kernel
theorem dX7_one_119 : decode cX7_one 119 = .ok (.ifCond .ne 5, 3) := by decide +kernel
theorem dX7_one_122 : decode cX7_one 122 = .ok (.iconst 0, 1) := by decide +kernel
theorem dX7_one_123 : decode cX7_one 123 = .ok (.ireturn, 1) := by decide +kernel
theorem dX7_one_124 : decode cX7_one 124 = .ok (.aload_n 0, 1) := by decide +kernel
theorem dX7_one_125 : decode cX7_one 125 = .ok (.dup, 1) := by decide +kernel
theorem dX7_one_126 : decode cX7_one 126 = .ok (.getfield 115, 3) := by decide +kernel
theorem dX7_one_129 : decode cX7_one 129 = .ok (.iconst 1, 1) := by decide +kernel
theorem dX7_one_130 : decode cX7_one 130 = .ok (.isub, 1) := by decide +kernel
theorem dX7_one_131 : decode cX7_one 131 = .ok (.putfield 115, 3) := by decide +kernel
theorem dX7_one_134 : decode cX7_one 134 = .ok (.aload_n 0, 1) := by decide +kernel
theorem dX7_one_135 : decode cX7_one 135 = .ok (.iconst 2, 1) := by decide +kernel
theorem dX7_one_136 : decode cX7_one 136 = .ok (.iconst 0, 1) := by decide +kernel
theorem dX7_one_137 : decode cX7_one 137 = .ok (.invokevirtual 99, 3) := by decide +kernel
theorem dX7_one_140 : decode cX7_one 140 = .ok (.iconst 1, 1) := by decide +kernel
theorem dX7_one_141 : decode cX7_one 141 = .ok (.ireturn, 1) := by decide +kernel
theorem dX7_one_142 : decode cX7_one 142 = .ok (.iload_n 1, 1) := by decide +kernel
theorem dX7_one_143 : decode cX7_one 143 = .ok (.bipush 40, 2) := by decide +kernel
theorem dX7_one_145 : decode cX7_one 145 = .ok (.if_icmp .ne 26, 3) := by decide +kernel
theorem dX7_one_148 : decode cX7_one 148 = .ok (.aload_n 0, 1) := by decide +kernel
theorem dX7_one_149 : decode cX7_one 149 = .ok (.invokevirtual 122, 3) := by decide +kernel
theorem dX7_one_152 : decode cX7_one 152 = .ok (.ifCond .eq 19, 3) := by decide +kernel
theorem dX7_one_155 : decode cX7_one 155 = .ok (.aload_n 0, 1) := by decide +kernel
theorem dX7_one_156 : decode cX7_one 156 = .ok (.invokevirtual 125, 3) := by decide +kernel
theorem dX7_one_159 : decode cX7_one 159 = .ok (.ifCond .eq 12, 3) := by decide +kernel
theorem dX7_one_162 : decode cX7_one 162 = .ok (.aload_n 0, 1) := by decide +kernel
theorem dX7_one_163 : decode cX7_one 163 = .ok (.invokevirtual 95, 3) := by decide +kernel
theorem dX7_one_166 : decode cX7_one 166 = .ok (.bipush 41, 2) := by decide +kernel
theorem dX7_one_168 : decode cX7_one 168 = .ok (.if_icmp .eq 5, 3) := by decide +kernel
theorem dX7_one_171 : decode cX7_one 171 = .ok (.iconst 0, 1) := by decide +kernel
theorem dX7_one_172 : decode cX7_one 172 = .ok (.ireturn, 1) := by decide +kernel
theorem dX7_one_173 : decode cX7_one 173 = .ok (.aload_n 0, 1) := by decide +kernel
theorem dX7_one_174 : decode cX7_one 174 = .ok (.dup, 1) := by decide +kernel
theorem dX7_one_175 : decode cX7_one 175 = .ok (.getfield 82, 3) := by decide +kernel
theorem dX7_one_178 : decode cX7_one 178 = .ok (.iconst 1, 1) := by decide +kernel
theorem dX7_one_179 : decode cX7_one 179 = .ok (.iadd, 1) := by decide +kernel
theorem dX7_one_180 : decode cX7_one 180 = .ok (.putfield 82, 3) := by decide +kernel
theorem dX7_one_183 : decode cX7_one 183 = .ok (.aload_n 0, 1) := by decide +kernel
theorem dX7_one_184 : decode cX7_one 184 = .ok (.dup, 1) := by decide +kernel
theorem dX7_one_185 : decode cX7_one 185 = .ok (.getfield 115, 3) := by decide +kernel
theorem dX7_one_188 : decode cX7_one 188 = .ok (.iconst 1, 1) := by decide +kernel
theorem dX7_one_189 : decode cX7_one 189 = .ok (.isub, 1) := by decide +kernel
theorem dX7_one_190 : decode cX7_one 190 = .ok (.putfield 115, 3) := by decide +kernel
theorem dX7_one_193 : decode cX7_one 193 = .ok (.iconst 1, 1) := by decide +kernel
theorem dX7_one_194 : decode cX7_one 194 = .ok (.ireturn, 1) := by decide +kernel
theorem dX7_hasText_0 : decode cX7_hasText 0 = .ok (.aload_n 0, 1) := by decide +kernel
theorem dX7_hasText_1 : decode cX7_hasText 1 = .ok (.getfield 7, 3) := by decide +kernel
theorem dX7_hasText_4 : decode cX7_hasText 4 = .ok (.bipush 121, 2) := by decide +kernel
theorem dX7_hasText_6 : decode cX7_hasText 6 = .ok (.bipush 125, 2) := by decide +kernel
theorem dX7_hasText_8 : decode cX7_hasText 8 = .ok (.iload_n 1, 1) := by decide +kernel
theorem dX7_hasText_9 : decode cX7_hasText 9 = .ok (.imul, 1) := by decide +kernel
theorem dX7_hasText_10 : decode cX7_hasText 10 = .ok (.iadd, 1) := by decide +kernel
theorem dX7_hasText_11 : decode cX7_hasText 11 = .ok (.iaload, 1) := by decide +kernel
theorem dX7_hasText_12 : decode cX7_hasText 12 = .ok (.ifCond .le 7, 3) := by decide +kernel
theorem dX7_hasText_15 : decode cX7_hasText 15 = .ok (.iconst 1, 1) := by decide +kernel
theorem dX7_hasText_16 : decode cX7_hasText 16 = .ok (.goto 4, 3) := by decide +kernel
theorem dX7_hasText_19 : decode cX7_hasText 19 = .ok (.iconst 0, 1) := by decide +kernel
theorem dX7_hasText_20 : decode cX7_hasText 20 = .ok (.ireturn, 1) := by decide +kernel
theorem gX7_text_X7_in : GoodIn wsX7_text (va_wsS RX7 68 yX7_in wsX7_in) := nw_gS nwl_X7_text nwe_546 nwe_547 nwe_534 nwl_X7_in (by decide +kernel)
theorem gX7_text_X7_error : GoodIn wsX7_text (wsV RX7 76 RX7 yX7_error wsX7_error) := nw_gV nwl_X7_text nwe_558 nwe_559 nwe_560 nwe_534 nwl_X7_error (by decide +kernel)
theorem gX7_text_X7_whole : GoodIn wsX7_text (wsV RX7 125 RX7 yX7_whole wsX7_whole) := nw_gV nwl_X7_text nwe_592 nwe_593 nwe_594 nwe_534 nwl_X7_whole (by decide +kernel)
theorem dX7_text_0 : decode cX7_text 0 = .ok (.iload_n 1, 1) := by decide +kernel
theorem dX7_text_1 : decode cX7_text 1 = .ok (.iconst 0, 1) := by decide +kernel
theorem dX7_text_2 : decode cX7_text 2 = .ok (.iconst 1, 1) := by decide +kernel
theorem dX7_text_3 : decode cX7_text 3 = .ok (.invokestatic 68, 3) := by decide +kernel
theorem dX7_text_6 : decode cX7_text 6 = .ok (.ifCond .ne 9, 3) := by decide +kernel
theorem dX7_text_9 : decode cX7_text 9 = .ok (.aload_n 0, 1) := by decide +kernel
theorem dX7_text_10 : decode cX7_text 10 = .ok (.iconst 1, 1) := by decide +kernel
theorem dX7_text_11 : decode cX7_text 11 = .ok (.invokevirtual 76, 3) := by decide +kernel
theorem dX7_text_14 : decode cX7_text 14 = .ok (.ireturn, 1) := by decide +kernel
theorem dX7_text_15 : decode cX7_text 15 = .ok (.aload_n 0, 1) := by decide +kernel
theorem dX7_text_16 : decode cX7_text 16 = .ok (.iload_n 1, 1) := by decide +kernel
theorem dX7_text_17 : decode cX7_text 17 = .ok (.putfield 85, 3) := by decide +kernel
theorem dX7_text_20 : decode cX7_text 20 = .ok (.aload_n 0, 1) := by decide +kernel
theorem dX7_text_21 : decode cX7_text 21 = .ok (.iconst 0, 1) := by decide +kernel
theorem dX7_text_22 : decode cX7_text 22 = .ok (.putfield 82, 3) := by decide +kernel
theorem dX7_text_25 : decode cX7_text 25 = .ok (.aload_n 0, 1) := by decide +kernel
theorem dX7_text_26 : decode cX7_text 26 = .ok (.iconst 0, 1) := by decide +kernel
theorem dX7_text_27 : decode cX7_text 27 = .ok (.putfield 115, 3) := by decide +kernel
theorem dX7_text_30 : decode cX7_text 30 = .ok (.aload_n 0, 1) := by decide +kernel
theorem dX7_text_31 : decode cX7_text 31 = .ok (.iconst 0, 1) := by decide +kernel
theorem dX7_text_32 : decode cX7_text 32 = .ok (.putfield 88, 3) := by decide +kernel
theorem dX7_text_35 : decode cX7_text 35 = .ok (.aload_n 0, 1) := by decide +kernel
theorem dX7_text_36 : decode cX7_text 36 = .ok (.invokevirtual 125, 3) := by decide +kernel
theorem dX7_text_39 : decode cX7_text 39 = .ok (.ifCond .eq 20, 3) := by decide +kernel
theorem dX7_text_42 : decode cX7_text 42 = .ok (.aload_n 0, 1) := by decide +kernel
theorem dX7_text_43 : decode cX7_text 43 = .ok (.getfield 82, 3) := by decide +kernel
theorem dX7_text_46 : decode cX7_text 46 = .ok (.aload_n 0, 1) := by decide +kernel
theorem dX7_text_47 : decode cX7_text 47 = .ok (.getfield 7, 3) := by decide +kernel
theorem dX7_text_50 : decode cX7_text 50 = .ok (.iconst 4, 1) := by decide +kernel
theorem dX7_text_51 : decode cX7_text 51 = .ok (.iaload, 1) := by decide +kernel
theorem dX7_text_52 : decode cX7_text 52 = .ok (.if_icmp .ne 7, 3) := by decide +kernel
theorem dX7_text_55 : decode cX7_text 55 = .ok (.iconst 1, 1) := by decide +kernel
theorem dX7_text_56 : decode cX7_text 56 = .ok (.goto 4, 3) := by decide +kernel
theorem dX7_text_59 : decode cX7_text 59 = .ok (.iconst 0, 1) := by decide +kernel
theorem dX7_text_60 : decode cX7_text 60 = .ok (.istore_n 2, 1) := by decide +kernel
theorem dX7_text_61 : decode cX7_text 61 = .ok (.aload_n 0, 1) := by decide +kernel
theorem dX7_text_62 : decode cX7_text 62 = .ok (.getfield 7, 3) := by decide +kernel
theorem dX7_text_65 : decode cX7_text 65 = .ok (.iconst 4, 1) := by decide +kernel
theorem dX7_text_66 : decode cX7_text 66 = .ok (.iconst 0, 1) := by decide +kernel
theorem dX7_text_67 : decode cX7_text 67 = .ok (.iastore, 1) := by decide +kernel
theorem dX7_text_68 : decode cX7_text 68 = .ok (.iload_n 2, 1) := by decide +kernel
theorem dX7_text_69 : decode cX7_text 69 = .ok (.ifCond .ne 11, 3) := by decide +kernel
theorem dX7_text_72 : decode cX7_text 72 = .ok (.bipush (-10), 2) := by decide +kernel
theorem dX7_text_74 : decode cX7_text 74 = .ok (.aload_n 0, 1) := by decide +kernel
theorem dX7_text_75 : decode cX7_text 75 = .ok (.getfield 82, 3) := by decide +kernel
theorem dX7_text_78 : decode cX7_text 78 = .ok (.isub, 1) := by decide +kernel
theorem dX7_text_79 : decode cX7_text 79 = .ok (.ireturn, 1) := by decide +kernel
theorem dX7_text_80 : decode cX7_text 80 = .ok (.bipush 121, 2) := by decide +kernel
theorem dX7_text_82 : decode cX7_text 82 = .ok (.bipush 125, 2) := by decide +kernel
theorem dX7_text_84 : decode cX7_text 84 = .ok (.iload_n 1, 1) := by decide +kernel
theorem dX7_text_85 : decode cX7_text 85 = .ok (.imul, 1) := by decide +kernel
theorem dX7_text_86 : decode cX7_text 86 = .ok (.iadd, 1) := by decide +kernel
theorem dX7_text_87 : decode cX7_text 87 = .ok (.istore_n 3, 1) := by decide +kernel
theorem dX7_text_88 : decode cX7_text 88 = .ok (.aload_n 0, 1) := by decide +kernel
theorem dX7_text_89 : decode cX7_text 89 = .ok (.getfield 7, 3) := by decide +kernel
theorem dX7_text_92 : decode cX7_text 92 = .ok (.iload_n 3, 1) := by decide +kernel
theorem dX7_text_93 : decode cX7_text 93 = .ok (.aload_n 0, 1) := by decide +kernel
theorem dX7_text_94 : decode cX7_text 94 = .ok (.getfield 88, 3) := by decide +kernel
theorem dX7_text_97 : decode cX7_text 97 = .ok (.iastore, 1) := by decide +kernel
theorem dX7_text_98 : decode cX7_text 98 = .ok (.iconst 0, 1) := by decide +kernel
theorem dX7_text_99 : decode cX7_text 99 = .ok (.istore 4, 2) := by decide +kernel
theorem dX7_text_101 : decode cX7_text 101 = .ok (.iload 4, 2) := by decide +kernel
theorem dX7_text_103 : decode cX7_text 103 = .ok (.iconst 2, 1) := by decide +kernel
theorem dX7_text_104 : decode cX7_text 104 = .ok (.aload_n 0, 1) := by decide +kernel
theorem dX7_text_105 : decode cX7_text 105 = .ok (.getfield 88, 3) := by decide +kernel
theorem dX7_text_108 : decode cX7_text 108 = .ok (.imul, 1) := by decide +kernel
theorem dX7_text_109 : decode cX7_text 109 = .ok (.if_icmp .ge 27, 3) := by decide +kernel
theorem dX7_text_112 : decode cX7_text 112 = .ok (.aload_n 0, 1) := by decide +kernel
theorem dX7_text_113 : decode cX7_text 113 = .ok (.getfield 7, 3) := by decide +kernel
theorem dX7_text_116 : decode cX7_text 116 = .ok (.iload_n 3, 1) := by decide +kernel
theorem dX7_text_117 : decode cX7_text 117 = .ok (.iconst 1, 1) := by decide +kernel
theorem dX7_text_118 : decode cX7_text 118 = .ok (.iadd, 1) := by decide +kernel
theorem dX7_text_119 : decode cX7_text 119 = .ok (.iload 4, 2) := by decide +kernel
theorem dX7_text_121 : decode cX7_text 121 = .ok (.iadd, 1) := by decide +kernel
theorem dX7_text_122 : decode cX7_text 122 = .ok (.aload_n 0, 1) := by decide +kernel
theorem dX7_text_123 : decode cX7_text 123 = .ok (.getfield 22, 3) := by decide +kernel
theorem dX7_text_126 : decode cX7_text 126 = .ok (.iload 4, 2) := by decide +kernel
theorem dX7_text_128 : decode cX7_text 128 = .ok (.iaload, 1) := by decide +kernel
theorem dX7_text_129 : decode cX7_text 129 = .ok (.iastore, 1) := by decide +kernel
theorem dX7_text_130 : decode cX7_text 130 = .ok (.iinc 4 1, 3) := by decide +kernel
theorem dX7_text_133 : decode cX7_text 133 = .ok (.goto (-32), 3) := by decide +kernel
theorem dX7_text_136 : decode cX7_text 136 = .ok (.iconst 1, 1) := by decide +kernel
theorem dX7_text_137 : decode cX7_text 137 = .ok (.ireturn, 1) := by decide +kernel
theorem gX7_untell_X7_in : GoodIn wsX7_untell (va_wsS RX7 68 yX7_in wsX7_in) := nw_gS nwl_X7_untell nwe_546 nwe_547 nwe_534 nwl_X7_in (by decide +kernel)
theorem gX7_untell_X7_error : GoodIn wsX7_untell (wsV RX7 76 RX7 yX7_error wsX7_error) := nw_gV nwl_X7_untell nwe_558 nwe_559 nwe_560 nwe_534 nwl_X7_error (by decide +kernel)
theorem gX7_untell_X7_hasText : GoodIn wsX7_untell (wsV RX7 128 RX7 yX7_hasText wsX7_hasText) := nw_gV nwl_X7_untell nwe_608 nwe_609 nwe_610 nwe_534 nwl_X7_hasText (by decide +kernel)
theorem dX7_untell_0 : decode cX7_untell 0 = .ok (.iload_n 1, 1) := by decide +kernel
theorem dX7_untell_1 : decode cX7_untell 1 = .ok (.iconst 0, 1) := by decide +kernel
theorem dX7_untell_2 : decode cX7_untell 2 = .ok (.iconst 1, 1) := by decide +kernel
theorem dX7_untell_3 : decode cX7_untell 3 = .ok (.invokestatic 68, 3) := by decide +kernel
theorem dX7_untell_6 : decode cX7_untell 6 = .ok (.ifCond .ne 9, 3) := by decide +kernel
theorem dX7_untell_9 : decode cX7_untell 9 = .ok (.aload_n 0, 1) := by decide +kernel
theorem dX7_untell_10 : decode cX7_untell 10 = .ok (.iconst 1, 1) := by decide +kernel
theorem dX7_untell_11 : decode cX7_untell 11 = .ok (.invokevirtual 76, 3) := by decide +kernel
theorem dX7_untell_14 : decode cX7_untell 14 = .ok (.ireturn, 1) := by decide +kernel
theorem dX7_untell_15 : decode cX7_untell 15 = .ok (.aload_n 0, 1) := by decide +kernel
theorem dX7_untell_16 : decode cX7_untell 16 = .ok (.iload_n 1, 1) := by decide +kernel
theorem dX7_untell_17 : decode cX7_untell 17 = .ok (.invokevirtual 128, 3) := by decide +kernel
theorem dX7_untell_20 : decode cX7_untell 20 = .ok (.ifCond .eq 7, 3) := by decide +kernel
theorem dX7_untell_23 : decode cX7_untell 23 = .ok (.iconst 1, 1) := by decide +kernel
theorem dX7_untell_24 : decode cX7_untell 24 = .ok (.goto 4, 3) := by decide +kernel
theorem dX7_untell_27 : decode cX7_untell 27 = .ok (.iconst 0, 1) := by decide +kernel
theorem dX7_untell_28 : decode cX7_untell 28 = .ok (.istore_n 2, 1) := by decide +kernel
theorem dX7_untell_29 : decode cX7_untell 29 = .ok (.aload_n 0, 1) := by decide +kernel
theorem dX7_untell_30 : decode cX7_untell 30 = .ok (.getfield 7, 3) := by decide +kernel
theorem dX7_untell_33 : decode cX7_untell 33 = .ok (.bipush 121, 2) := by decide +kernel
theorem dX7_untell_35 : decode cX7_untell 35 = .ok (.bipush 125, 2) := by decide +kernel
theorem dX7_untell_37 : decode cX7_untell 37 = .ok (.iload_n 1, 1) := by decide +kernel
theorem dX7_untell_38 : decode cX7_untell 38 = .ok (.imul, 1) := by decide +kernel
theorem dX7_untell_39 : decode cX7_untell 39 = .ok (.iadd, 1) := by decide +kernel
theorem dX7_untell_40 : decode cX7_untell 40 = .ok (.iconst 0, 1) := by decide +kernel
theorem dX7_untell_41 : decode cX7_untell 41 = .ok (.iastore, 1) := by decide +kernel
theorem dX7_untell_42 : decode cX7_untell 42 = .ok (.iload_n 2, 1) := by decide +kernel
theorem dX7_untell_43 : decode cX7_untell 43 = .ok (.ireturn, 1) := by decide +kernel
theorem dX7_joined_0 : decode cX7_joined 0 = .ok (.iload_n 0, 1) := by decide +kernel
theorem dX7_joined_1 : decode cX7_joined 1 = .ok (.tableswitch 217 37 62 #[153, 203, 217, 217, 217, 127, 119, 217, 123, 217, 131, 217, 217, 217, 217, 217, 217, 217, 217, 217, 217, 217, 217, 170, 192, 181], 119) := by decide +kernel
theorem dX7_joined_120 : decode cX7_joined 120 = .ok (.iload_n 1, 1) := by decide +kernel
theorem dX7_joined_121 : decode cX7_joined 121 = .ok (.iload_n 2, 1) := by decide +kernel
theorem dX7_joined_122 : decode cX7_joined 122 = .ok (.iadd, 1) := by decide +kernel
theorem dX7_joined_123 : decode cX7_joined 123 = .ok (.ireturn, 1) := by decide +kernel
theorem dX7_joined_124 : decode cX7_joined 124 = .ok (.iload_n 1, 1) := by decide +kernel
theorem dX7_joined_125 : decode cX7_joined 125 = .ok (.iload_n 2, 1) := by decide +kernel
theorem dX7_joined_126 : decode cX7_joined 126 = .ok (.isub, 1) := by decide +kernel
theorem dX7_joined_127 : decode cX7_joined 127 = .ok (.ireturn, 1) := by decide +kernel
theorem dX7_joined_128 : decode cX7_joined 128 = .ok (.iload_n 1, 1) := by decide +kernel
theorem dX7_joined_129 : decode cX7_joined 129 = .ok (.iload_n 2, 1) := by decide +kernel
theorem dX7_joined_130 : decode cX7_joined 130 = .ok (.imul, 1) := by decide +kernel
theorem dX7_joined_131 : decode cX7_joined 131 = .ok (.ireturn, 1) := by decide +kernel
