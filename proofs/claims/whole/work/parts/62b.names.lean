theorem dX7_joined_132 : decode cX7_joined 132 = .ok (.iload_n 2, 1) := by decide +kernel
theorem dX7_joined_133 : decode cX7_joined 133 = .ok (.ifCond .ne 7, 3) := by decide +kernel
theorem dX7_joined_136 : decode cX7_joined 136 = .ok (.iconst 0, 1) := by decide +kernel
theorem dX7_joined_137 : decode cX7_joined 137 = .ok (.goto 16, 3) := by decide +kernel
theorem dX7_joined_140 : decode cX7_joined 140 = .ok (.iload_n 2, 1) := by decide +kernel
theorem dX7_joined_141 : decode cX7_joined 141 = .ok (.iconst (-1), 1) := by decide +kernel
theorem dX7_joined_142 : decode cX7_joined 142 = .ok (.if_icmp .ne 8, 3) := by decide +kernel
theorem dX7_joined_145 : decode cX7_joined 145 = .ok (.iload_n 1, 1) := by decide +kernel
theorem dX7_joined_146 : decode cX7_joined 146 = .ok (.ineg, 1) := by decide +kernel
theorem dX7_joined_147 : decode cX7_joined 147 = .ok (.goto 6, 3) := by decide +kernel
theorem dX7_joined_150 : decode cX7_joined 150 = .ok (.iload_n 1, 1) := by decide +kernel
theorem dX7_joined_151 : decode cX7_joined 151 = .ok (.iload_n 2, 1) := by decide +kernel
theorem dX7_joined_152 : decode cX7_joined 152 = .ok (.idiv, 1) := by decide +kernel
theorem dX7_joined_153 : decode cX7_joined 153 = .ok (.ireturn, 1) := by decide +kernel
theorem dX7_joined_154 : decode cX7_joined 154 = .ok (.iload_n 2, 1) := by decide +kernel
theorem dX7_joined_155 : decode cX7_joined 155 = .ok (.ifCond .eq 8, 3) := by decide +kernel
theorem dX7_joined_158 : decode cX7_joined 158 = .ok (.iload_n 2, 1) := by decide +kernel
theorem dX7_joined_159 : decode cX7_joined 159 = .ok (.iconst (-1), 1) := by decide +kernel
theorem dX7_joined_160 : decode cX7_joined 160 = .ok (.if_icmp .ne 7, 3) := by decide +kernel
theorem dX7_joined_163 : decode cX7_joined 163 = .ok (.iconst 0, 1) := by decide +kernel
theorem dX7_joined_164 : decode cX7_joined 164 = .ok (.goto 6, 3) := by decide +kernel
theorem dX7_joined_167 : decode cX7_joined 167 = .ok (.iload_n 1, 1) := by decide +kernel
theorem dX7_joined_168 : decode cX7_joined 168 = .ok (.iload_n 2, 1) := by decide +kernel
theorem dX7_joined_169 : decode cX7_joined 169 = .ok (.irem, 1) := by decide +kernel
theorem dX7_joined_170 : decode cX7_joined 170 = .ok (.ireturn, 1) := by decide +kernel
theorem dX7_joined_171 : decode cX7_joined 171 = .ok (.iload_n 1, 1) := by decide +kernel
theorem dX7_joined_172 : decode cX7_joined 172 = .ok (.iload_n 2, 1) := by decide +kernel
theorem dX7_joined_173 : decode cX7_joined 173 = .ok (.if_icmp .ge 7, 3) := by decide +kernel
theorem dX7_joined_176 : decode cX7_joined 176 = .ok (.iconst 1, 1) := by decide +kernel
theorem dX7_joined_177 : decode cX7_joined 177 = .ok (.goto 4, 3) := by decide +kernel
theorem dX7_joined_180 : decode cX7_joined 180 = .ok (.iconst 0, 1) := by decide +kernel
theorem dX7_joined_181 : decode cX7_joined 181 = .ok (.ireturn, 1) := by decide +kernel
theorem dX7_joined_182 : decode cX7_joined 182 = .ok (.iload_n 1, 1) := by decide +kernel
theorem dX7_joined_183 : decode cX7_joined 183 = .ok (.iload_n 2, 1) := by decide +kernel
theorem dX7_joined_184 : decode cX7_joined 184 = .ok (.if_icmp .le 7, 3) := by decide +kernel
theorem dX7_joined_187 : decode cX7_joined 187 = .ok (.iconst 1, 1) := by decide +kernel
theorem dX7_joined_188 : decode cX7_joined 188 = .ok (.goto 4, 3) := by decide +kernel
theorem dX7_joined_191 : decode cX7_joined 191 = .ok (.iconst 0, 1) := by decide +kernel
theorem dX7_joined_192 : decode cX7_joined 192 = .ok (.ireturn, 1) := by decide +kernel
theorem dX7_joined_193 : decode cX7_joined 193 = .ok (.iload_n 1, 1) := by decide +kernel
theorem dX7_joined_194 : decode cX7_joined 194 = .ok (.iload_n 2, 1) := by decide +kernel
theorem dX7_joined_195 : decode cX7_joined 195 = .ok (.if_icmp .ne 7, 3) := by decide +kernel
theorem dX7_joined_198 : decode cX7_joined 198 = .ok (.iconst 1, 1) := by decide +kernel
theorem dX7_joined_199 : decode cX7_joined 199 = .ok (.goto 4, 3) := by decide +kernel
theorem dX7_joined_202 : decode cX7_joined 202 = .ok (.iconst 0, 1) := by decide +kernel
theorem dX7_joined_203 : decode cX7_joined 203 = .ok (.ireturn, 1) := by decide +kernel
theorem dX7_joined_204 : decode cX7_joined 204 = .ok (.iload_n 1, 1) := by decide +kernel
theorem dX7_joined_205 : decode cX7_joined 205 = .ok (.ifCond .eq 11, 3) := by decide +kernel
theorem dX7_joined_208 : decode cX7_joined 208 = .ok (.iload_n 2, 1) := by decide +kernel
theorem dX7_joined_209 : decode cX7_joined 209 = .ok (.ifCond .eq 7, 3) := by decide +kernel
theorem dX7_joined_212 : decode cX7_joined 212 = .ok (.iconst 1, 1) := by decide +kernel
theorem dX7_joined_213 : decode cX7_joined 213 = .ok (.goto 4, 3) := by decide +kernel
theorem dX7_joined_216 : decode cX7_joined 216 = .ok (.iconst 0, 1) := by decide +kernel
theorem dX7_joined_217 : decode cX7_joined 217 = .ok (.ireturn, 1) := by decide +kernel
theorem dX7_joined_218 : decode cX7_joined 218 = .ok (.iload_n 1, 1) := by decide +kernel
theorem dX7_joined_219 : decode cX7_joined 219 = .ok (.ifCond .ne 7, 3) := by decide +kernel
theorem dX7_joined_222 : decode cX7_joined 222 = .ok (.iload_n 2, 1) := by decide +kernel
theorem dX7_joined_223 : decode cX7_joined 223 = .ok (.ifCond .eq 7, 3) := by decide +kernel
theorem dX7_joined_226 : decode cX7_joined 226 = .ok (.iconst 1, 1) := by decide +kernel
theorem dX7_joined_227 : decode cX7_joined 227 = .ok (.goto 4, 3) := by decide +kernel
theorem dX7_joined_230 : decode cX7_joined 230 = .ok (.iconst 0, 1) := by decide +kernel
theorem dX7_joined_231 : decode cX7_joined 231 = .ok (.ireturn, 1) := by decide +kernel
theorem gX7_worked_X7_joined : GoodIn wsX7_worked (va_wsS RX7 131 yX7_joined wsX7_joined) := nw_gS nwl_X7_worked nwe_613 nwe_614 nwe_534 nwl_X7_joined (by decide +kernel)
theorem dX7_worked_0 : decode cX7_worked 0 = .ok (.bipush 121, 2) := by decide +kernel
theorem dX7_worked_2 : decode cX7_worked 2 = .ok (.bipush 125, 2) := by decide +kernel
theorem dX7_worked_4 : decode cX7_worked 4 = .ok (.iload_n 1, 1) := by decide +kernel
theorem dX7_worked_5 : decode cX7_worked 5 = .ok (.imul, 1) := by decide +kernel
theorem dX7_worked_6 : decode cX7_worked 6 = .ok (.iadd, 1) := by decide +kernel
theorem dX7_worked_7 : decode cX7_worked 7 = .ok (.istore_n 2, 1) := by decide +kernel
theorem dX7_worked_8 : decode cX7_worked 8 = .ok (.iconst 0, 1) := by decide +kernel
theorem dX7_worked_9 : decode cX7_worked 9 = .ok (.istore_n 3, 1) := by decide +kernel
theorem dX7_worked_10 : decode cX7_worked 10 = .ok (.iconst 0, 1) := by decide +kernel
theorem dX7_worked_11 : decode cX7_worked 11 = .ok (.istore 4, 2) := by decide +kernel
theorem dX7_worked_13 : decode cX7_worked 13 = .ok (.iload 4, 2) := by decide +kernel
theorem dX7_worked_15 : decode cX7_worked 15 = .ok (.aload_n 0, 1) := by decide +kernel
theorem dX7_worked_16 : decode cX7_worked 16 = .ok (.getfield 7, 3) := by decide +kernel
theorem dX7_worked_19 : decode cX7_worked 19 = .ok (.iload_n 2, 1) := by decide +kernel
theorem dX7_worked_20 : decode cX7_worked 20 = .ok (.iaload, 1) := by decide +kernel
theorem dX7_worked_21 : decode cX7_worked 21 = .ok (.if_icmp .ge 142, 3) := by decide +kernel
theorem dX7_worked_24 : decode cX7_worked 24 = .ok (.aload_n 0, 1) := by decide +kernel
theorem dX7_worked_25 : decode cX7_worked 25 = .ok (.getfield 7, 3) := by decide +kernel
theorem dX7_worked_28 : decode cX7_worked 28 = .ok (.iload_n 2, 1) := by decide +kernel
theorem dX7_worked_29 : decode cX7_worked 29 = .ok (.iconst 1, 1) := by decide +kernel
theorem dX7_worked_30 : decode cX7_worked 30 = .ok (.iadd, 1) := by decide +kernel
theorem dX7_worked_31 : decode cX7_worked 31 = .ok (.iconst 2, 1) := by decide +kernel
theorem dX7_worked_32 : decode cX7_worked 32 = .ok (.iload 4, 2) := by decide +kernel
theorem dX7_worked_34 : decode cX7_worked 34 = .ok (.imul, 1) := by decide +kernel
theorem dX7_worked_35 : decode cX7_worked 35 = .ok (.iadd, 1) := by decide +kernel
theorem dX7_worked_36 : decode cX7_worked 36 = .ok (.iaload, 1) := by decide +kernel
theorem dX7_worked_37 : decode cX7_worked 37 = .ok (.istore 5, 2) := by decide +kernel
theorem dX7_worked_39 : decode cX7_worked 39 = .ok (.aload_n 0, 1) := by decide +kernel
theorem dX7_worked_40 : decode cX7_worked 40 = .ok (.getfield 7, 3) := by decide +kernel
theorem dX7_worked_43 : decode cX7_worked 43 = .ok (.iload_n 2, 1) := by decide +kernel
theorem dX7_worked_44 : decode cX7_worked 44 = .ok (.iconst 2, 1) := by decide +kernel
theorem dX7_worked_45 : decode cX7_worked 45 = .ok (.iadd, 1) := by decide +kernel
theorem dX7_worked_46 : decode cX7_worked 46 = .ok (.iconst 2, 1) := by decide +kernel
theorem dX7_worked_47 : decode cX7_worked 47 = .ok (.iload 4, 2) := by decide +kernel
theorem dX7_worked_49 : decode cX7_worked 49 = .ok (.imul, 1) := by decide +kernel
theorem dX7_worked_50 : decode cX7_worked 50 = .ok (.iadd, 1) := by decide +kernel
theorem dX7_worked_51 : decode cX7_worked 51 = .ok (.iaload, 1) := by decide +kernel
theorem dX7_worked_52 : decode cX7_worked 52 = .ok (.istore 6, 2) := by decide +kernel
theorem dX7_worked_54 : decode cX7_worked 54 = .ok (.iload 5, 2) := by decide +kernel
theorem dX7_worked_56 : decode cX7_worked 56 = .ok (.ifCond .eq 9, 3) := by decide +kernel
theorem dX7_worked_59 : decode cX7_worked 59 = .ok (.iload 5, 2) := by decide +kernel
theorem dX7_worked_61 : decode cX7_worked 61 = .ok (.iconst 1, 1) := by decide +kernel
theorem dX7_worked_62 : decode cX7_worked 62 = .ok (.if_icmp .ne 32, 3) := by decide +kernel
theorem dX7_worked_65 : decode cX7_worked 65 = .ok (.aload_n 0, 1) := by decide +kernel
theorem dX7_worked_66 : decode cX7_worked 66 = .ok (.getfield 28, 3) := by decide +kernel
theorem dX7_worked_69 : decode cX7_worked 69 = .ok (.iload_n 3, 1) := by decide +kernel
theorem dX7_worked_70 : decode cX7_worked 70 = .ok (.iload 5, 2) := by decide +kernel
theorem dX7_worked_72 : decode cX7_worked 72 = .ok (.ifCond .ne 8, 3) := by decide +kernel
theorem dX7_worked_75 : decode cX7_worked 75 = .ok (.iload 6, 2) := by decide +kernel
theorem dX7_worked_77 : decode cX7_worked 77 = .ok (.goto 10, 3) := by decide +kernel
theorem dX7_worked_80 : decode cX7_worked 80 = .ok (.aload_n 0, 1) := by decide +kernel
theorem dX7_worked_81 : decode cX7_worked 81 = .ok (.getfield 25, 3) := by decide +kernel
theorem dX7_worked_84 : decode cX7_worked 84 = .ok (.iload 6, 2) := by decide +kernel
theorem dX7_worked_86 : decode cX7_worked 86 = .ok (.iaload, 1) := by decide +kernel
theorem dX7_worked_87 : decode cX7_worked 87 = .ok (.iastore, 1) := by decide +kernel
theorem dX7_worked_88 : decode cX7_worked 88 = .ok (.iinc 3 1, 3) := by decide +kernel
theorem dX7_worked_91 : decode cX7_worked 91 = .ok (.goto 66, 3) := by decide +kernel
theorem dX7_worked_94 : decode cX7_worked 94 = .ok (.iload 5, 2) := by decide +kernel
theorem dX7_worked_96 : decode cX7_worked 96 = .ok (.iconst 2, 1) := by decide +kernel
theorem dX7_worked_97 : decode cX7_worked 97 = .ok (.if_icmp .ne 30, 3) := by decide +kernel
theorem dX7_worked_100 : decode cX7_worked 100 = .ok (.aload_n 0, 1) := by decide +kernel
theorem dX7_worked_101 : decode cX7_worked 101 = .ok (.getfield 28, 3) := by decide +kernel
theorem dX7_worked_104 : decode cX7_worked 104 = .ok (.iload_n 3, 1) := by decide +kernel
theorem dX7_worked_105 : decode cX7_worked 105 = .ok (.iconst 1, 1) := by decide +kernel
theorem dX7_worked_106 : decode cX7_worked 106 = .ok (.isub, 1) := by decide +kernel
theorem dX7_worked_107 : decode cX7_worked 107 = .ok (.aload_n 0, 1) := by decide +kernel
theorem dX7_worked_108 : decode cX7_worked 108 = .ok (.getfield 28, 3) := by decide +kernel
theorem dX7_worked_111 : decode cX7_worked 111 = .ok (.iload_n 3, 1) := by decide +kernel
theorem dX7_worked_112 : decode cX7_worked 112 = .ok (.iconst 1, 1) := by decide +kernel
theorem dX7_worked_113 : decode cX7_worked 113 = .ok (.isub, 1) := by decide +kernel
theorem dX7_worked_114 : decode cX7_worked 114 = .ok (.iaload, 1) := by decide +kernel
theorem dX7_worked_115 : decode cX7_worked 115 = .ok (.ifCond .ne 7, 3) := by decide +kernel
theorem dX7_worked_118 : decode cX7_worked 118 = .ok (.iconst 1, 1) := by decide +kernel
theorem dX7_worked_119 : decode cX7_worked 119 = .ok (.goto 4, 3) := by decide +kernel
theorem dX7_worked_122 : decode cX7_worked 122 = .ok (.iconst 0, 1) := by decide +kernel
theorem dX7_worked_123 : decode cX7_worked 123 = .ok (.iastore, 1) := by decide +kernel
theorem dX7_worked_124 : decode cX7_worked 124 = .ok (.goto 33, 3) := by decide +kernel
theorem dX7_worked_127 : decode cX7_worked 127 = .ok (.iinc 3 (-1), 3) := by decide +kernel
theorem dX7_worked_130 : decode cX7_worked 130 = .ok (.aload_n 0, 1) := by decide +kernel
theorem dX7_worked_131 : decode cX7_worked 131 = .ok (.getfield 28, 3) := by decide +kernel
theorem dX7_worked_134 : decode cX7_worked 134 = .ok (.iload_n 3, 1) := by decide +kernel
theorem dX7_worked_135 : decode cX7_worked 135 = .ok (.iconst 1, 1) := by decide +kernel
theorem dX7_worked_136 : decode cX7_worked 136 = .ok (.isub, 1) := by decide +kernel
theorem dX7_worked_137 : decode cX7_worked 137 = .ok (.iload 6, 2) := by decide +kernel
theorem dX7_worked_139 : decode cX7_worked 139 = .ok (.aload_n 0, 1) := by decide +kernel
theorem dX7_worked_140 : decode cX7_worked 140 = .ok (.getfield 28, 3) := by decide +kernel
theorem dX7_worked_143 : decode cX7_worked 143 = .ok (.iload_n 3, 1) := by decide +kernel
theorem dX7_worked_144 : decode cX7_worked 144 = .ok (.iconst 1, 1) := by decide +kernel
theorem dX7_worked_145 : decode cX7_worked 145 = .ok (.isub, 1) := by decide +kernel
theorem dX7_worked_146 : decode cX7_worked 146 = .ok (.iaload, 1) := by decide +kernel
theorem dX7_worked_147 : decode cX7_worked 147 = .ok (.aload_n 0, 1) := by decide +kernel
theorem dX7_worked_148 : decode cX7_worked 148 = .ok (.getfield 28, 3) := by decide +kernel
theorem dX7_worked_151 : decode cX7_worked 151 = .ok (.iload_n 3, 1) := by decide +kernel
theorem dX7_worked_152 : decode cX7_worked 152 = .ok (.iaload, 1) := by decide +kernel
theorem dX7_worked_153 : decode cX7_worked 153 = .ok (.invokestatic 131, 3) := by decide +kernel
theorem dX7_worked_156 : decode cX7_worked 156 = .ok (.iastore, 1) := by decide +kernel
theorem dX7_worked_157 : decode cX7_worked 157 = .ok (.iinc 4 1, 3) := by decide +kernel
theorem dX7_worked_160 : decode cX7_worked 160 = .ok (.goto (-147), 3) := by decide +kernel
theorem dX7_worked_163 : decode cX7_worked 163 = .ok (.aload_n 0, 1) := by decide +kernel
theorem dX7_worked_164 : decode cX7_worked 164 = .ok (.getfield 28, 3) := by decide +kernel
theorem dX7_worked_167 : decode cX7_worked 167 = .ok (.iconst 0, 1) := by decide +kernel
theorem dX7_worked_168 : decode cX7_worked 168 = .ok (.iaload, 1) := by decide +kernel
theorem dX7_worked_169 : decode cX7_worked 169 = .ok (.ireturn, 1) := by decide +kernel
theorem gX7_feedsTold_X7_hasText : GoodIn wsX7_feedsTold (wsV RX7 128 RX7 yX7_hasText wsX7_hasText) := nw_gV nwl_X7_feedsTold nwe_608 nwe_609 nwe_610 nwe_534 nwl_X7_hasText (by decide +kernel)
theorem gX7_feedsTold_X7_its : GoodIn wsX7_feedsTold (wsV RX7 72 RX7 yX7_its wsX7_its) := nw_gV nwl_X7_feedsTold nwe_552 nwe_553 nwe_554 nwe_534 nwl_X7_its (by decide +kernel)
theorem gX7_feedsTold_X7_worked : GoodIn wsX7_feedsTold (wsV RX7 135 RX7 yX7_worked wsX7_worked) := nw_gV nwl_X7_feedsTold nwe_616 nwe_617 nwe_618 nwe_534 nwl_X7_worked (by decide +kernel)
theorem dX7_feedsTold_0 : decode cX7_feedsTold 0 = .ok (.aload_n 0, 1) := by decide +kernel
theorem dX7_feedsTold_1 : decode cX7_feedsTold 1 = .ok (.iconst 0, 1) := by decide +kernel
theorem dX7_feedsTold_2 : decode cX7_feedsTold 2 = .ok (.invokevirtual 128, 3) := by decide +kernel
theorem dX7_feedsTold_5 : decode cX7_feedsTold 5 = .ok (.ifCond .ne 5, 3) := by decide +kernel
theorem dX7_feedsTold_8 : decode cX7_feedsTold 8 = .ok (.iconst 4, 1) := by decide +kernel
theorem dX7_feedsTold_9 : decode cX7_feedsTold 9 = .ok (.ireturn, 1) := by decide +kernel
theorem dX7_feedsTold_10 : decode cX7_feedsTold 10 = .ok (.aload_n 0, 1) := by decide +kernel
theorem dX7_feedsTold_11 : decode cX7_feedsTold 11 = .ok (.getfield 25, 3) := by decide +kernel
theorem dX7_feedsTold_14 : decode cX7_feedsTold 14 = .ok (.bipush 102, 2) := by decide +kernel
theorem dX7_feedsTold_16 : decode cX7_feedsTold 16 = .ok (.iload_n 2, 1) := by decide +kernel
theorem dX7_feedsTold_17 : decode cX7_feedsTold 17 = .ok (.iastore, 1) := by decide +kernel
theorem dX7_feedsTold_18 : decode cX7_feedsTold 18 = .ok (.aload_n 0, 1) := by decide +kernel
theorem dX7_feedsTold_19 : decode cX7_feedsTold 19 = .ok (.getfield 25, 3) := by decide +kernel
theorem dX7_feedsTold_22 : decode cX7_feedsTold 22 = .ok (.bipush 104, 2) := by decide +kernel
theorem dX7_feedsTold_24 : decode cX7_feedsTold 24 = .ok (.aload_n 0, 1) := by decide +kernel
theorem dX7_feedsTold_25 : decode cX7_feedsTold 25 = .ok (.getfield 7, 3) := by decide +kernel
theorem dX7_feedsTold_28 : decode cX7_feedsTold 28 = .ok (.iconst 3, 1) := by decide +kernel
theorem dX7_feedsTold_29 : decode cX7_feedsTold 29 = .ok (.iaload, 1) := by decide +kernel
theorem dX7_feedsTold_30 : decode cX7_feedsTold 30 = .ok (.iastore, 1) := by decide +kernel
theorem dX7_feedsTold_31 : decode cX7_feedsTold 31 = .ok (.aload_n 0, 1) := by decide +kernel
theorem dX7_feedsTold_32 : decode cX7_feedsTold 32 = .ok (.getfield 25, 3) := by decide +kernel
theorem dX7_feedsTold_35 : decode cX7_feedsTold 35 = .ok (.bipush 109, 2) := by decide +kernel
theorem dX7_feedsTold_37 : decode cX7_feedsTold 37 = .ok (.aload_n 0, 1) := by decide +kernel
theorem dX7_feedsTold_38 : decode cX7_feedsTold 38 = .ok (.iload_n 1, 1) := by decide +kernel
theorem dX7_feedsTold_39 : decode cX7_feedsTold 39 = .ok (.iconst 1, 1) := by decide +kernel
theorem dX7_feedsTold_40 : decode cX7_feedsTold 40 = .ok (.invokevirtual 72, 3) := by decide +kernel
theorem dX7_feedsTold_43 : decode cX7_feedsTold 43 = .ok (.iastore, 1) := by decide +kernel
theorem dX7_feedsTold_44 : decode cX7_feedsTold 44 = .ok (.aload_n 0, 1) := by decide +kernel
theorem dX7_feedsTold_45 : decode cX7_feedsTold 45 = .ok (.iconst 0, 1) := by decide +kernel
theorem dX7_feedsTold_46 : decode cX7_feedsTold 46 = .ok (.invokevirtual 135, 3) := by decide +kernel
theorem dX7_feedsTold_49 : decode cX7_feedsTold 49 = .ok (.ireturn, 1) := by decide +kernel
theorem gX7_feeds_X7_its : GoodIn wsX7_feeds (wsV RX7 72 RX7 yX7_its wsX7_its) := nw_gV nwl_X7_feeds nwe_552 nwe_553 nwe_554 nwe_534 nwl_X7_its (by decide +kernel)
theorem gX7_feeds_X7_feedsTold : GoodIn wsX7_feeds (wsV RX7 138 RX7 yX7_feedsTold wsX7_feedsTold) := nw_gV nwl_X7_feeds nwe_619 nwe_620 nwe_621 nwe_534 nwl_X7_feedsTold (by decide +kernel)
theorem gX7_feeds_X7_held : GoodIn wsX7_feeds (va_wsS RX7 141 yX7_held wsX7_held) := nw_gS nwl_X7_feeds nwe_622 nwe_623 nwe_534 nwl_X7_held (by decide +kernel)
theorem dX7_feeds_0 : decode cX7_feeds 0 = .ok (.aload_n 0, 1) := by decide +kernel
theorem dX7_feeds_1 : decode cX7_feeds 1 = .ok (.iload_n 1, 1) := by decide +kernel
theorem dX7_feeds_2 : decode cX7_feeds 2 = .ok (.iconst 1, 1) := by decide +kernel
theorem dX7_feeds_3 : decode cX7_feeds 3 = .ok (.invokevirtual 72, 3) := by decide +kernel
theorem dX7_feeds_6 : decode cX7_feeds 6 = .ok (.iconst 2, 1) := by decide +kernel
theorem dX7_feeds_7 : decode cX7_feeds 7 = .ok (.idiv, 1) := by decide +kernel
theorem dX7_feeds_8 : decode cX7_feeds 8 = .ok (.istore_n 3, 1) := by decide +kernel
theorem dX7_feeds_9 : decode cX7_feeds 9 = .ok (.iconst 4, 1) := by decide +kernel
theorem dX7_feeds_10 : decode cX7_feeds 10 = .ok (.istore 4, 2) := by decide +kernel
theorem dX7_feeds_12 : decode cX7_feeds 12 = .ok (.aload_n 0, 1) := by decide +kernel
theorem dX7_feeds_13 : decode cX7_feeds 13 = .ok (.iload_n 1, 1) := by decide +kernel
theorem dX7_feeds_14 : decode cX7_feeds 14 = .ok (.iconst 0, 1) := by decide +kernel
theorem dX7_feeds_15 : decode cX7_feeds 15 = .ok (.invokevirtual 72, 3) := by decide +kernel
theorem dX7_feeds_18 : decode cX7_feeds 18 = .ok (.tableswitch 83 1 6 #[38, 46, 83, 54, 62, 72], 38) := by decide +kernel
theorem dX7_feeds_56 : decode cX7_feeds 56 = .ok (.iconst 4, 1) := by decide +kernel
theorem dX7_feeds_57 : decode cX7_feeds 57 = .ok (.iload_n 3, 1) := by decide +kernel
theorem dX7_feeds_58 : decode cX7_feeds 58 = .ok (.isub, 1) := by decide +kernel
theorem dX7_feeds_59 : decode cX7_feeds 59 = .ok (.istore 4, 2) := by decide +kernel
theorem dX7_feeds_61 : decode cX7_feeds 61 = .ok (.goto 40, 3) := by decide +kernel
theorem dX7_feeds_64 : decode cX7_feeds 64 = .ok (.iconst 4, 1) := by decide +kernel
theorem dX7_feeds_65 : decode cX7_feeds 65 = .ok (.iload_n 3, 1) := by decide +kernel
theorem dX7_feeds_66 : decode cX7_feeds 66 = .ok (.iadd, 1) := by decide +kernel
theorem dX7_feeds_67 : decode cX7_feeds 67 = .ok (.istore 4, 2) := by decide +kernel
theorem dX7_feeds_69 : decode cX7_feeds 69 = .ok (.goto 32, 3) := by decide +kernel
theorem dX7_feeds_72 : decode cX7_feeds 72 = .ok (.iconst 2, 1) := by decide +kernel
theorem dX7_feeds_73 : decode cX7_feeds 73 = .ok (.iload_n 3, 1) := by decide +kernel
theorem dX7_feeds_74 : decode cX7_feeds 74 = .ok (.isub, 1) := by decide +kernel
theorem dX7_feeds_75 : decode cX7_feeds 75 = .ok (.istore 4, 2) := by decide +kernel
theorem dX7_feeds_77 : decode cX7_feeds 77 = .ok (.goto 24, 3) := by decide +kernel
theorem dX7_feeds_80 : decode cX7_feeds 80 = .ok (.iconst 2, 1) := by decide +kernel
theorem dX7_feeds_81 : decode cX7_feeds 81 = .ok (.iconst 4, 1) := by decide +kernel
theorem dX7_feeds_82 : decode cX7_feeds 82 = .ok (.iload_n 3, 1) := by decide +kernel
theorem dX7_feeds_83 : decode cX7_feeds 83 = .ok (.iadd, 1) := by decide +kernel
theorem dX7_feeds_84 : decode cX7_feeds 84 = .ok (.imul, 1) := by decide +kernel
theorem dX7_feeds_85 : decode cX7_feeds 85 = .ok (.istore 4, 2) := by decide +kernel
theorem dX7_feeds_87 : decode cX7_feeds 87 = .ok (.goto 14, 3) := by decide +kernel
theorem dX7_feeds_90 : decode cX7_feeds 90 = .ok (.aload_n 0, 1) := by decide +kernel
theorem dX7_feeds_91 : decode cX7_feeds 91 = .ok (.iload_n 1, 1) := by decide +kernel
theorem dX7_feeds_92 : decode cX7_feeds 92 = .ok (.iload_n 2, 1) := by decide +kernel
theorem dX7_feeds_93 : decode cX7_feeds 93 = .ok (.invokevirtual 138, 3) := by decide +kernel
theorem dX7_feeds_96 : decode cX7_feeds 96 = .ok (.istore 4, 2) := by decide +kernel
theorem dX7_feeds_98 : decode cX7_feeds 98 = .ok (.goto 3, 3) := by decide +kernel
theorem dX7_feeds_101 : decode cX7_feeds 101 = .ok (.iload 4, 2) := by decide +kernel
theorem dX7_feeds_103 : decode cX7_feeds 103 = .ok (.iconst 0, 1) := by decide +kernel
theorem dX7_feeds_104 : decode cX7_feeds 104 = .ok (.bipush 9, 2) := by decide +kernel
theorem dX7_feeds_106 : decode cX7_feeds 106 = .ok (.invokestatic 141, 3) := by decide +kernel
theorem dX7_feeds_109 : decode cX7_feeds 109 = .ok (.ireturn, 1) := by decide +kernel
theorem gX7_hides_X7_its : GoodIn wsX7_hides (wsV RX7 72 RX7 yX7_its wsX7_its) := nw_gV nwl_X7_hides nwe_552 nwe_553 nwe_554 nwe_534 nwl_X7_its (by decide +kernel)
theorem dX7_hides_0 : decode cX7_hides 0 = .ok (.aload_n 0, 1) := by decide +kernel
theorem dX7_hides_1 : decode cX7_hides 1 = .ok (.iload_n 1, 1) := by decide +kernel
theorem dX7_hides_2 : decode cX7_hides 2 = .ok (.iconst 0, 1) := by decide +kernel
theorem dX7_hides_3 : decode cX7_hides 3 = .ok (.invokevirtual 72, 3) := by decide +kernel
theorem dX7_hides_6 : decode cX7_hides 6 = .ok (.iconst 3, 1) := by decide +kernel
theorem dX7_hides_7 : decode cX7_hides 7 = .ok (.if_icmp .ne 17, 3) := by decide +kernel
theorem dX7_hides_10 : decode cX7_hides 10 = .ok (.iload_n 2, 1) := by decide +kernel
theorem dX7_hides_11 : decode cX7_hides 11 = .ok (.aload_n 0, 1) := by decide +kernel
theorem dX7_hides_12 : decode cX7_hides 12 = .ok (.iload_n 1, 1) := by decide +kernel
theorem dX7_hides_13 : decode cX7_hides 13 = .ok (.iconst 1, 1) := by decide +kernel
theorem dX7_hides_14 : decode cX7_hides 14 = .ok (.invokevirtual 72, 3) := by decide +kernel
theorem dX7_hides_17 : decode cX7_hides 17 = .ok (.imul, 1) := by decide +kernel
theorem dX7_hides_18 : decode cX7_hides 18 = .ok (.bipush 9, 2) := by decide +kernel
theorem dX7_hides_20 : decode cX7_hides 20 = .ok (.idiv, 1) := by decide +kernel
theorem dX7_hides_21 : decode cX7_hides 21 = .ok (.goto 4, 3) := by decide +kernel
theorem dX7_hides_24 : decode cX7_hides 24 = .ok (.iconst 0, 1) := by decide +kernel
theorem dX7_hides_25 : decode cX7_hides 25 = .ok (.ireturn, 1) := by decide +kernel
theorem gX7_smell_X7_hasText : GoodIn wsX7_smell (wsV RX7 128 RX7 yX7_hasText wsX7_hasText) := nw_gV nwl_X7_smell nwe_608 nwe_609 nwe_610 nwe_534 nwl_X7_hasText (by decide +kernel)
theorem gX7_smell_X7_worked : GoodIn wsX7_smell (wsV RX7 135 RX7 yX7_worked wsX7_worked) := nw_gV nwl_X7_smell nwe_616 nwe_617 nwe_618 nwe_534 nwl_X7_worked (by decide +kernel)
theorem dX7_smell_0 : decode cX7_smell 0 = .ok (.aload_n 0, 1) := by decide +kernel
theorem dX7_smell_1 : decode cX7_smell 1 = .ok (.iconst 1, 1) := by decide +kernel
theorem dX7_smell_2 : decode cX7_smell 2 = .ok (.invokevirtual 128, 3) := by decide +kernel
theorem dX7_smell_5 : decode cX7_smell 5 = .ok (.ifCond .ne 13, 3) := by decide +kernel
theorem dX7_smell_8 : decode cX7_smell 8 = .ok (.aload_n 0, 1) := by decide +kernel
theorem dX7_smell_9 : decode cX7_smell 9 = .ok (.getfield 7, 3) := by decide +kernel
theorem dX7_smell_12 : decode cX7_smell 12 = .ok (.bipush 24, 2) := by decide +kernel
theorem dX7_smell_14 : decode cX7_smell 14 = .ok (.iload_n 1, 1) := by decide +kernel
theorem dX7_smell_15 : decode cX7_smell 15 = .ok (.iadd, 1) := by decide +kernel
theorem dX7_smell_16 : decode cX7_smell 16 = .ok (.iaload, 1) := by decide +kernel
theorem dX7_smell_17 : decode cX7_smell 17 = .ok (.ireturn, 1) := by decide +kernel
theorem dX7_smell_18 : decode cX7_smell 18 = .ok (.aload_n 0, 1) := by decide +kernel
theorem dX7_smell_19 : decode cX7_smell 19 = .ok (.getfield 25, 3) := by decide +kernel
theorem dX7_smell_22 : decode cX7_smell 22 = .ok (.bipush 117, 2) := by decide +kernel
theorem dX7_smell_24 : decode cX7_smell 24 = .ok (.aload_n 0, 1) := by decide +kernel
theorem dX7_smell_25 : decode cX7_smell 25 = .ok (.getfield 7, 3) := by decide +kernel
theorem dX7_smell_28 : decode cX7_smell 28 = .ok (.bipush 24, 2) := by decide +kernel
theorem dX7_smell_30 : decode cX7_smell 30 = .ok (.iload_n 1, 1) := by decide +kernel
theorem dX7_smell_31 : decode cX7_smell 31 = .ok (.iadd, 1) := by decide +kernel
theorem dX7_smell_32 : decode cX7_smell 32 = .ok (.iaload, 1) := by decide +kernel
theorem dX7_smell_33 : decode cX7_smell 33 = .ok (.iastore, 1) := by decide +kernel
theorem dX7_smell_34 : decode cX7_smell 34 = .ok (.aload_n 0, 1) := by decide +kernel
theorem dX7_smell_35 : decode cX7_smell 35 = .ok (.getfield 25, 3) := by decide +kernel
theorem dX7_smell_38 : decode cX7_smell 38 = .ok (.bipush 97, 2) := by decide +kernel
theorem dX7_smell_40 : decode cX7_smell 40 = .ok (.iload_n 1, 1) := by decide +kernel
theorem dX7_smell_41 : decode cX7_smell 41 = .ok (.iastore, 1) := by decide +kernel
theorem dX7_smell_42 : decode cX7_smell 42 = .ok (.aload_n 0, 1) := by decide +kernel
theorem dX7_smell_43 : decode cX7_smell 43 = .ok (.getfield 25, 3) := by decide +kernel
theorem dX7_smell_46 : decode cX7_smell 46 = .ok (.bipush 104, 2) := by decide +kernel
theorem dX7_smell_48 : decode cX7_smell 48 = .ok (.aload_n 0, 1) := by decide +kernel
theorem dX7_smell_49 : decode cX7_smell 49 = .ok (.getfield 7, 3) := by decide +kernel
theorem dX7_smell_52 : decode cX7_smell 52 = .ok (.iconst 3, 1) := by decide +kernel
theorem dX7_smell_53 : decode cX7_smell 53 = .ok (.iaload, 1) := by decide +kernel
theorem dX7_smell_54 : decode cX7_smell 54 = .ok (.iastore, 1) := by decide +kernel
theorem dX7_smell_55 : decode cX7_smell 55 = .ok (.aload_n 0, 1) := by decide +kernel
theorem dX7_smell_56 : decode cX7_smell 56 = .ok (.iconst 1, 1) := by decide +kernel
theorem dX7_smell_57 : decode cX7_smell 57 = .ok (.invokevirtual 135, 3) := by decide +kernel
theorem dX7_smell_60 : decode cX7_smell 60 = .ok (.ireturn, 1) := by decide +kernel
theorem dX7_next_0 : decode cX7_next 0 = .ok (.iload_n 1, 1) := by decide +kernel
theorem dX7_next_1 : decode cX7_next 1 = .ok (.tableswitch 89 0 3 #[31, 44, 59, 75], 31) := by decide +kernel
theorem dX7_next_32 : decode cX7_next 32 = .ok (.iload_n 0, 1) := by decide +kernel
theorem dX7_next_33 : decode cX7_next 33 = .ok (.iconst 4, 1) := by decide +kernel
theorem dX7_next_34 : decode cX7_next 34 = .ok (.if_icmp .ge 7, 3) := by decide +kernel
theorem dX7_next_37 : decode cX7_next 37 = .ok (.iconst (-1), 1) := by decide +kernel
theorem dX7_next_38 : decode cX7_next 38 = .ok (.goto 6, 3) := by decide +kernel
theorem dX7_next_41 : decode cX7_next 41 = .ok (.iload_n 0, 1) := by decide +kernel
theorem dX7_next_42 : decode cX7_next 42 = .ok (.iconst 4, 1) := by decide +kernel
theorem dX7_next_43 : decode cX7_next 43 = .ok (.isub, 1) := by decide +kernel
theorem dX7_next_44 : decode cX7_next 44 = .ok (.ireturn, 1) := by decide +kernel
theorem dX7_next_45 : decode cX7_next 45 = .ok (.iload_n 0, 1) := by decide +kernel
theorem dX7_next_46 : decode cX7_next 46 = .ok (.iconst 4, 1) := by decide +kernel
theorem dX7_next_47 : decode cX7_next 47 = .ok (.irem, 1) := by decide +kernel
theorem dX7_next_48 : decode cX7_next 48 = .ok (.iconst 3, 1) := by decide +kernel
theorem dX7_next_49 : decode cX7_next 49 = .ok (.if_icmp .ne 7, 3) := by decide +kernel
theorem dX7_next_52 : decode cX7_next 52 = .ok (.iconst (-1), 1) := by decide +kernel
theorem dX7_next_53 : decode cX7_next 53 = .ok (.goto 6, 3) := by decide +kernel
theorem dX7_next_56 : decode cX7_next 56 = .ok (.iload_n 0, 1) := by decide +kernel
theorem dX7_next_57 : decode cX7_next 57 = .ok (.iconst 1, 1) := by decide +kernel
theorem dX7_next_58 : decode cX7_next 58 = .ok (.iadd, 1) := by decide +kernel
theorem dX7_next_59 : decode cX7_next 59 = .ok (.ireturn, 1) := by decide +kernel
theorem dX7_next_60 : decode cX7_next 60 = .ok (.iload_n 0, 1) := by decide +kernel
theorem dX7_next_61 : decode cX7_next 61 = .ok (.iconst 4, 1) := by decide +kernel
theorem dX7_next_62 : decode cX7_next 62 = .ok (.iadd, 1) := by decide +kernel
theorem dX7_next_63 : decode cX7_next 63 = .ok (.bipush 16, 2) := by decide +kernel
theorem dX7_next_65 : decode cX7_next 65 = .ok (.if_icmp .ge 9, 3) := by decide +kernel
theorem dX7_next_68 : decode cX7_next 68 = .ok (.iload_n 0, 1) := by decide +kernel
theorem dX7_next_69 : decode cX7_next 69 = .ok (.iconst 4, 1) := by decide +kernel
theorem dX7_next_70 : decode cX7_next 70 = .ok (.iadd, 1) := by decide +kernel
theorem dX7_next_71 : decode cX7_next 71 = .ok (.goto 4, 3) := by decide +kernel
theorem dX7_next_74 : decode cX7_next 74 = .ok (.iconst (-1), 1) := by decide +kernel
theorem dX7_next_75 : decode cX7_next 75 = .ok (.ireturn, 1) := by decide +kernel
theorem dX7_next_76 : decode cX7_next 76 = .ok (.iload_n 0, 1) := by decide +kernel
theorem dX7_next_77 : decode cX7_next 77 = .ok (.iconst 4, 1) := by decide +kernel
theorem dX7_next_78 : decode cX7_next 78 = .ok (.irem, 1) := by decide +kernel
theorem dX7_next_79 : decode cX7_next 79 = .ok (.ifCond .ne 7, 3) := by decide +kernel
theorem dX7_next_82 : decode cX7_next 82 = .ok (.iconst (-1), 1) := by decide +kernel
theorem dX7_next_83 : decode cX7_next 83 = .ok (.goto 6, 3) := by decide +kernel
theorem dX7_next_86 : decode cX7_next 86 = .ok (.iload_n 0, 1) := by decide +kernel
theorem dX7_next_87 : decode cX7_next 87 = .ok (.iconst 1, 1) := by decide +kernel
theorem dX7_next_88 : decode cX7_next 88 = .ok (.isub, 1) := by decide +kernel
theorem dX7_next_89 : decode cX7_next 89 = .ok (.ireturn, 1) := by decide +kernel
theorem dX7_next_90 : decode cX7_next 90 = .ok (.iload_n 0, 1) := by decide +kernel
theorem dX7_next_91 : decode cX7_next 91 = .ok (.ireturn, 1) := by decide +kernel
theorem gX7_bySmell_X7_smell : GoodIn wsX7_bySmell (wsV RX7 144 RX7 yX7_smell wsX7_smell) := nw_gV nwl_X7_bySmell nwe_629 nwe_630 nwe_631 nwe_534 nwl_X7_smell (by decide +kernel)
theorem gX7_bySmell_X7_next : GoodIn wsX7_bySmell (va_wsS RX7 147 yX7_next wsX7_next) := nw_gS nwl_X7_bySmell nwe_632 nwe_633 nwe_534 nwl_X7_next (by decide +kernel)
theorem dX7_bySmell_0 : decode cX7_bySmell 0 = .ok (.aload_n 0, 1) := by decide +kernel
theorem dX7_bySmell_1 : decode cX7_bySmell 1 = .ok (.getfield 7, 3) := by decide +kernel
theorem dX7_bySmell_4 : decode cX7_bySmell 4 = .ok (.iconst 2, 1) := by decide +kernel
theorem dX7_bySmell_5 : decode cX7_bySmell 5 = .ok (.iaload, 1) := by decide +kernel
theorem dX7_bySmell_6 : decode cX7_bySmell 6 = .ok (.istore_n 1, 1) := by decide +kernel
theorem dX7_bySmell_7 : decode cX7_bySmell 7 = .ok (.aload_n 0, 1) := by decide +kernel
theorem dX7_bySmell_8 : decode cX7_bySmell 8 = .ok (.iload_n 1, 1) := by decide +kernel
theorem dX7_bySmell_9 : decode cX7_bySmell 9 = .ok (.invokevirtual 144, 3) := by decide +kernel
theorem dX7_bySmell_12 : decode cX7_bySmell 12 = .ok (.istore_n 2, 1) := by decide +kernel
theorem dX7_bySmell_13 : decode cX7_bySmell 13 = .ok (.iconst 0, 1) := by decide +kernel
theorem dX7_bySmell_14 : decode cX7_bySmell 14 = .ok (.istore_n 3, 1) := by decide +kernel
theorem dX7_bySmell_15 : decode cX7_bySmell 15 = .ok (.iload_n 3, 1) := by decide +kernel
theorem dX7_bySmell_16 : decode cX7_bySmell 16 = .ok (.iconst 4, 1) := by decide +kernel
theorem dX7_bySmell_17 : decode cX7_bySmell 17 = .ok (.if_icmp .ge 59, 3) := by decide +kernel
theorem dX7_bySmell_20 : decode cX7_bySmell 20 = .ok (.aload_n 0, 1) := by decide +kernel
theorem dX7_bySmell_21 : decode cX7_bySmell 21 = .ok (.getfield 7, 3) := by decide +kernel
theorem dX7_bySmell_24 : decode cX7_bySmell 24 = .ok (.iconst 2, 1) := by decide +kernel
theorem dX7_bySmell_25 : decode cX7_bySmell 25 = .ok (.iaload, 1) := by decide +kernel
theorem dX7_bySmell_26 : decode cX7_bySmell 26 = .ok (.iload_n 3, 1) := by decide +kernel
theorem dX7_bySmell_27 : decode cX7_bySmell 27 = .ok (.invokestatic 147, 3) := by decide +kernel
theorem dX7_bySmell_30 : decode cX7_bySmell 30 = .ok (.istore 4, 2) := by decide +kernel
theorem dX7_bySmell_32 : decode cX7_bySmell 32 = .ok (.iload 4, 2) := by decide +kernel
theorem dX7_bySmell_34 : decode cX7_bySmell 34 = .ok (.iconst (-1), 1) := by decide +kernel
theorem dX7_bySmell_35 : decode cX7_bySmell 35 = .ok (.if_icmp .eq 35, 3) := by decide +kernel
theorem dX7_bySmell_38 : decode cX7_bySmell 38 = .ok (.aload_n 0, 1) := by decide +kernel
theorem dX7_bySmell_39 : decode cX7_bySmell 39 = .ok (.iload 4, 2) := by decide +kernel
theorem dX7_bySmell_41 : decode cX7_bySmell 41 = .ok (.invokevirtual 144, 3) := by decide +kernel
theorem dX7_bySmell_44 : decode cX7_bySmell 44 = .ok (.istore 5, 2) := by decide +kernel
theorem dX7_bySmell_46 : decode cX7_bySmell 46 = .ok (.iload 5, 2) := by decide +kernel
theorem dX7_bySmell_48 : decode cX7_bySmell 48 = .ok (.iload_n 2, 1) := by decide +kernel
theorem dX7_bySmell_49 : decode cX7_bySmell 49 = .ok (.if_icmp .gt 15, 3) := by decide +kernel
theorem dX7_bySmell_52 : decode cX7_bySmell 52 = .ok (.iload 5, 2) := by decide +kernel
theorem dX7_bySmell_54 : decode cX7_bySmell 54 = .ok (.iload_n 2, 1) := by decide +kernel
theorem dX7_bySmell_55 : decode cX7_bySmell 55 = .ok (.if_icmp .ne 15, 3) := by decide +kernel
theorem dX7_bySmell_58 : decode cX7_bySmell 58 = .ok (.iload 4, 2) := by decide +kernel
theorem dX7_bySmell_60 : decode cX7_bySmell 60 = .ok (.iload_n 1, 1) := by decide +kernel
theorem dX7_bySmell_61 : decode cX7_bySmell 61 = .ok (.if_icmp .ge 9, 3) := by decide +kernel
theorem dX7_bySmell_64 : decode cX7_bySmell 64 = .ok (.iload 4, 2) := by decide +kernel
theorem dX7_bySmell_66 : decode cX7_bySmell 66 = .ok (.istore_n 1, 1) := by decide +kernel
theorem dX7_bySmell_67 : decode cX7_bySmell 67 = .ok (.iload 5, 2) := by decide +kernel
theorem dX7_bySmell_69 : decode cX7_bySmell 69 = .ok (.istore_n 2, 1) := by decide +kernel
theorem dX7_bySmell_70 : decode cX7_bySmell 70 = .ok (.iinc 3 1, 3) := by decide +kernel
theorem dX7_bySmell_73 : decode cX7_bySmell 73 = .ok (.goto (-58), 3) := by decide +kernel
theorem dX7_bySmell_76 : decode cX7_bySmell 76 = .ok (.iload_n 1, 1) := by decide +kernel
theorem dX7_bySmell_77 : decode cX7_bySmell 77 = .ok (.ireturn, 1) := by decide +kernel
theorem gX7_whoHas_X7_its : GoodIn wsX7_whoHas (wsV RX7 72 RX7 yX7_its wsX7_its) := nw_gV nwl_X7_whoHas nwe_552 nwe_553 nwe_554 nwe_534 nwl_X7_its (by decide +kernel)
theorem dX7_whoHas_0 : decode cX7_whoHas 0 = .ok (.iconst 0, 1) := by decide +kernel
theorem dX7_whoHas_1 : decode cX7_whoHas 1 = .ok (.istore_n 1, 1) := by decide +kernel
theorem dX7_whoHas_2 : decode cX7_whoHas 2 = .ok (.aload_n 0, 1) := by decide +kernel
theorem dX7_whoHas_3 : decode cX7_whoHas 3 = .ok (.iload_n 1, 1) := by decide +kernel
theorem dX7_whoHas_4 : decode cX7_whoHas 4 = .ok (.iconst 4, 1) := by decide +kernel
theorem dX7_whoHas_5 : decode cX7_whoHas 5 = .ok (.invokevirtual 72, 3) := by decide +kernel
theorem dX7_whoHas_8 : decode cX7_whoHas 8 = .ok (.aload_n 0, 1) := by decide +kernel
theorem dX7_whoHas_9 : decode cX7_whoHas 9 = .ok (.getfield 7, 3) := by decide +kernel
theorem dX7_whoHas_12 : decode cX7_whoHas 12 = .ok (.iconst 0, 1) := by decide +kernel
theorem dX7_whoHas_13 : decode cX7_whoHas 13 = .ok (.iaload, 1) := by decide +kernel
theorem dX7_whoHas_14 : decode cX7_whoHas 14 = .ok (.bipush 9, 2) := by decide +kernel
theorem dX7_whoHas_16 : decode cX7_whoHas 16 = .ok (.irem, 1) := by decide +kernel
theorem dX7_whoHas_17 : decode cX7_whoHas 17 = .ok (.if_icmp .eq 9, 3) := by decide +kernel
theorem dX7_whoHas_20 : decode cX7_whoHas 20 = .ok (.iinc 1 1, 3) := by decide +kernel
theorem dX7_whoHas_23 : decode cX7_whoHas 23 = .ok (.goto (-21), 3) := by decide +kernel
theorem dX7_whoHas_26 : decode cX7_whoHas 26 = .ok (.iload_n 1, 1) := by decide +kernel
theorem dX7_whoHas_27 : decode cX7_whoHas 27 = .ok (.ireturn, 1) := by decide +kernel
theorem gX7_digs_X7_held : GoodIn wsX7_digs (va_wsS RX7 141 yX7_held wsX7_held) := nw_gS nwl_X7_digs nwe_622 nwe_623 nwe_534 nwl_X7_held (by decide +kernel)
theorem gX7_digs_X7_its : GoodIn wsX7_digs (wsV RX7 72 RX7 yX7_its wsX7_its) := nw_gV nwl_X7_digs nwe_552 nwe_553 nwe_554 nwe_534 nwl_X7_its (by decide +kernel)
theorem gX7_digs_X7_next : GoodIn wsX7_digs (va_wsS RX7 147 yX7_next wsX7_next) := nw_gS nwl_X7_digs nwe_632 nwe_633 nwe_534 nwl_X7_next (by decide +kernel)
theorem gX7_digs_X7_bySmell : GoodIn wsX7_digs (wsV RX7 150 RX7 yX7_bySmell wsX7_bySmell) := nw_gV nwl_X7_digs nwe_635 nwe_636 nwe_637 nwe_534 nwl_X7_bySmell (by decide +kernel)
theorem dX7_digs_0 : decode cX7_digs 0 = .ok (.iconst 0, 1) := by decide +kernel
theorem dX7_digs_1 : decode cX7_digs 1 = .ok (.istore_n 2, 1) := by decide +kernel
theorem dX7_digs_2 : decode cX7_digs 2 = .ok (.iconst 0, 1) := by decide +kernel
theorem dX7_digs_3 : decode cX7_digs 3 = .ok (.istore_n 3, 1) := by decide +kernel
theorem dX7_digs_4 : decode cX7_digs 4 = .ok (.iload_n 3, 1) := by decide +kernel
theorem dX7_digs_5 : decode cX7_digs 5 = .ok (.bipush 16, 2) := by decide +kernel
theorem dX7_digs_7 : decode cX7_digs 7 = .ok (.if_icmp .ge 48, 3) := by decide +kernel
theorem dX7_digs_10 : decode cX7_digs 10 = .ok (.aload_n 0, 1) := by decide +kernel
theorem dX7_digs_11 : decode cX7_digs 11 = .ok (.getfield 7, 3) := by decide +kernel
theorem dX7_digs_14 : decode cX7_digs 14 = .ok (.bipush 24, 2) := by decide +kernel
theorem dX7_digs_16 : decode cX7_digs 16 = .ok (.iload_n 3, 1) := by decide +kernel
theorem dX7_digs_17 : decode cX7_digs 17 = .ok (.iadd, 1) := by decide +kernel
theorem dX7_digs_18 : decode cX7_digs 18 = .ok (.aload_n 0, 1) := by decide +kernel
theorem dX7_digs_19 : decode cX7_digs 19 = .ok (.getfield 7, 3) := by decide +kernel
theorem dX7_digs_22 : decode cX7_digs 22 = .ok (.bipush 24, 2) := by decide +kernel
theorem dX7_digs_24 : decode cX7_digs 24 = .ok (.iload_n 3, 1) := by decide +kernel
theorem dX7_digs_25 : decode cX7_digs 25 = .ok (.iadd, 1) := by decide +kernel
theorem dX7_digs_26 : decode cX7_digs 26 = .ok (.iaload, 1) := by decide +kernel
theorem dX7_digs_27 : decode cX7_digs 27 = .ok (.aload_n 0, 1) := by decide +kernel
theorem dX7_digs_28 : decode cX7_digs 28 = .ok (.getfield 7, 3) := by decide +kernel
theorem dX7_digs_31 : decode cX7_digs 31 = .ok (.iconst 1, 1) := by decide +kernel
theorem dX7_digs_32 : decode cX7_digs 32 = .ok (.iaload, 1) := by decide +kernel
theorem dX7_digs_33 : decode cX7_digs 33 = .ok (.iadd, 1) := by decide +kernel
theorem dX7_digs_34 : decode cX7_digs 34 = .ok (.iconst 0, 1) := by decide +kernel
theorem dX7_digs_35 : decode cX7_digs 35 = .ok (.sipush 999, 3) := by decide +kernel
theorem dX7_digs_38 : decode cX7_digs 38 = .ok (.invokestatic 141, 3) := by decide +kernel
theorem dX7_digs_41 : decode cX7_digs 41 = .ok (.iastore, 1) := by decide +kernel
theorem dX7_digs_42 : decode cX7_digs 42 = .ok (.aload_n 0, 1) := by decide +kernel
theorem dX7_digs_43 : decode cX7_digs 43 = .ok (.getfield 31, 3) := by decide +kernel
theorem dX7_digs_46 : decode cX7_digs 46 = .ok (.iload_n 3, 1) := by decide +kernel
theorem dX7_digs_47 : decode cX7_digs 47 = .ok (.iconst 0, 1) := by decide +kernel
theorem dX7_digs_48 : decode cX7_digs 48 = .ok (.iastore, 1) := by decide +kernel
theorem dX7_digs_49 : decode cX7_digs 49 = .ok (.iinc 3 1, 3) := by decide +kernel
theorem dX7_digs_52 : decode cX7_digs 52 = .ok (.goto (-48), 3) := by decide +kernel
theorem dX7_digs_55 : decode cX7_digs 55 = .ok (.iconst 0, 1) := by decide +kernel
theorem dX7_digs_56 : decode cX7_digs 56 = .ok (.istore_n 3, 1) := by decide +kernel
theorem dX7_digs_57 : decode cX7_digs 57 = .ok (.iload_n 3, 1) := by decide +kernel
theorem dX7_digs_58 : decode cX7_digs 58 = .ok (.aload_n 0, 1) := by decide +kernel
theorem dX7_digs_59 : decode cX7_digs 59 = .ok (.getfield 7, 3) := by decide +kernel
theorem dX7_digs_62 : decode cX7_digs 62 = .ok (.iconst 3, 1) := by decide +kernel
theorem dX7_digs_63 : decode cX7_digs 63 = .ok (.iaload, 1) := by decide +kernel
theorem dX7_digs_64 : decode cX7_digs 64 = .ok (.if_icmp .ge 140, 3) := by decide +kernel
theorem dX7_digs_67 : decode cX7_digs 67 = .ok (.iload_n 3, 1) := by decide +kernel
theorem dX7_digs_68 : decode cX7_digs 68 = .ok (.iconst 4, 1) := by decide +kernel
theorem dX7_digs_69 : decode cX7_digs 69 = .ok (.if_icmp .ge 14, 3) := by decide +kernel
theorem dX7_digs_72 : decode cX7_digs 72 = .ok (.aload_n 0, 1) := by decide +kernel
theorem dX7_digs_73 : decode cX7_digs 73 = .ok (.iload_n 1, 1) := by decide +kernel
theorem dX7_digs_74 : decode cX7_digs 74 = .ok (.iconst 5, 1) := by decide +kernel
theorem dX7_digs_75 : decode cX7_digs 75 = .ok (.iload_n 3, 1) := by decide +kernel
theorem dX7_digs_76 : decode cX7_digs 76 = .ok (.iadd, 1) := by decide +kernel
theorem dX7_digs_77 : decode cX7_digs 77 = .ok (.invokevirtual 72, 3) := by decide +kernel
theorem dX7_digs_80 : decode cX7_digs 80 = .ok (.goto 4, 3) := by decide +kernel
theorem dX7_digs_83 : decode cX7_digs 83 = .ok (.iconst 4, 1) := by decide +kernel
theorem dX7_digs_84 : decode cX7_digs 84 = .ok (.istore 4, 2) := by decide +kernel
theorem dX7_digs_86 : decode cX7_digs 86 = .ok (.iload 4, 2) := by decide +kernel
theorem dX7_digs_88 : decode cX7_digs 88 = .ok (.iconst 4, 1) := by decide +kernel
theorem dX7_digs_89 : decode cX7_digs 89 = .ok (.if_icmp .ne 7, 3) := by decide +kernel
theorem dX7_digs_92 : decode cX7_digs 92 = .ok (.iconst (-1), 1) := by decide +kernel
theorem dX7_digs_93 : decode cX7_digs 93 = .ok (.goto 14, 3) := by decide +kernel
theorem dX7_digs_96 : decode cX7_digs 96 = .ok (.aload_n 0, 1) := by decide +kernel
theorem dX7_digs_97 : decode cX7_digs 97 = .ok (.getfield 7, 3) := by decide +kernel
theorem dX7_digs_100 : decode cX7_digs 100 = .ok (.iconst 2, 1) := by decide +kernel
theorem dX7_digs_101 : decode cX7_digs 101 = .ok (.iaload, 1) := by decide +kernel
theorem dX7_digs_102 : decode cX7_digs 102 = .ok (.iload 4, 2) := by decide +kernel
theorem dX7_digs_104 : decode cX7_digs 104 = .ok (.invokestatic 147, 3) := by decide +kernel
theorem dX7_digs_107 : decode cX7_digs 107 = .ok (.istore 5, 2) := by decide +kernel
theorem dX7_digs_109 : decode cX7_digs 109 = .ok (.aload_n 0, 1) := by decide +kernel
theorem dX7_digs_110 : decode cX7_digs 110 = .ok (.getfield 7, 3) := by decide +kernel
theorem dX7_digs_113 : decode cX7_digs 113 = .ok (.iconst 2, 1) := by decide +kernel
theorem dX7_digs_114 : decode cX7_digs 114 = .ok (.iload 5, 2) := by decide +kernel
theorem dX7_digs_116 : decode cX7_digs 116 = .ok (.iconst (-1), 1) := by decide +kernel
theorem dX7_digs_117 : decode cX7_digs 117 = .ok (.if_icmp .ne 10, 3) := by decide +kernel
theorem dX7_digs_120 : decode cX7_digs 120 = .ok (.aload_n 0, 1) := by decide +kernel
theorem dX7_digs_121 : decode cX7_digs 121 = .ok (.invokevirtual 150, 3) := by decide +kernel
theorem dX7_digs_124 : decode cX7_digs 124 = .ok (.goto 5, 3) := by decide +kernel
theorem dX7_digs_127 : decode cX7_digs 127 = .ok (.iload 5, 2) := by decide +kernel
theorem dX7_digs_129 : decode cX7_digs 129 = .ok (.iastore, 1) := by decide +kernel
theorem dX7_digs_130 : decode cX7_digs 130 = .ok (.aload_n 0, 1) := by decide +kernel
theorem dX7_digs_131 : decode cX7_digs 131 = .ok (.getfield 7, 3) := by decide +kernel
theorem dX7_digs_134 : decode cX7_digs 134 = .ok (.bipush 24, 2) := by decide +kernel
theorem dX7_digs_136 : decode cX7_digs 136 = .ok (.aload_n 0, 1) := by decide +kernel
theorem dX7_digs_137 : decode cX7_digs 137 = .ok (.getfield 7, 3) := by decide +kernel
theorem dX7_digs_140 : decode cX7_digs 140 = .ok (.iconst 2, 1) := by decide +kernel
theorem dX7_digs_141 : decode cX7_digs 141 = .ok (.iaload, 1) := by decide +kernel
theorem dX7_digs_142 : decode cX7_digs 142 = .ok (.iadd, 1) := by decide +kernel
theorem dX7_digs_143 : decode cX7_digs 143 = .ok (.iaload, 1) := by decide +kernel
theorem dX7_digs_144 : decode cX7_digs 144 = .ok (.iconst 0, 1) := by decide +kernel
theorem dX7_digs_145 : decode cX7_digs 145 = .ok (.iconst 2, 1) := by decide +kernel
theorem dX7_digs_146 : decode cX7_digs 146 = .ok (.aload_n 0, 1) := by decide +kernel
theorem dX7_digs_147 : decode cX7_digs 147 = .ok (.getfield 7, 3) := by decide +kernel
theorem dX7_digs_150 : decode cX7_digs 150 = .ok (.iconst 3, 1) := by decide +kernel
theorem dX7_digs_151 : decode cX7_digs 151 = .ok (.iaload, 1) := by decide +kernel
theorem dX7_digs_152 : decode cX7_digs 152 = .ok (.iadd, 1) := by decide +kernel
theorem dX7_digs_153 : decode cX7_digs 153 = .ok (.invokestatic 141, 3) := by decide +kernel
theorem dX7_digs_156 : decode cX7_digs 156 = .ok (.istore 6, 2) := by decide +kernel
theorem dX7_digs_158 : decode cX7_digs 158 = .ok (.aload_n 0, 1) := by decide +kernel
theorem dX7_digs_159 : decode cX7_digs 159 = .ok (.getfield 7, 3) := by decide +kernel
theorem dX7_digs_162 : decode cX7_digs 162 = .ok (.bipush 24, 2) := by decide +kernel
theorem dX7_digs_164 : decode cX7_digs 164 = .ok (.aload_n 0, 1) := by decide +kernel
theorem dX7_digs_165 : decode cX7_digs 165 = .ok (.getfield 7, 3) := by decide +kernel
theorem dX7_digs_168 : decode cX7_digs 168 = .ok (.iconst 2, 1) := by decide +kernel
theorem dX7_digs_169 : decode cX7_digs 169 = .ok (.iaload, 1) := by decide +kernel
theorem dX7_digs_170 : decode cX7_digs 170 = .ok (.iadd, 1) := by decide +kernel
theorem dX7_digs_171 : decode cX7_digs 171 = .ok (.dup2, 1) := by decide +kernel
theorem dX7_digs_172 : decode cX7_digs 172 = .ok (.iaload, 1) := by decide +kernel
theorem dX7_digs_173 : decode cX7_digs 173 = .ok (.iload 6, 2) := by decide +kernel
theorem dX7_digs_175 : decode cX7_digs 175 = .ok (.isub, 1) := by decide +kernel
theorem dX7_digs_176 : decode cX7_digs 176 = .ok (.iastore, 1) := by decide +kernel
theorem dX7_digs_177 : decode cX7_digs 177 = .ok (.aload_n 0, 1) := by decide +kernel
theorem dX7_digs_178 : decode cX7_digs 178 = .ok (.getfield 31, 3) := by decide +kernel
theorem dX7_digs_181 : decode cX7_digs 181 = .ok (.aload_n 0, 1) := by decide +kernel
theorem dX7_digs_182 : decode cX7_digs 182 = .ok (.getfield 7, 3) := by decide +kernel
theorem dX7_digs_185 : decode cX7_digs 185 = .ok (.iconst 2, 1) := by decide +kernel
theorem dX7_digs_186 : decode cX7_digs 186 = .ok (.iaload, 1) := by decide +kernel
theorem dX7_digs_187 : decode cX7_digs 187 = .ok (.dup2, 1) := by decide +kernel
theorem dX7_digs_188 : decode cX7_digs 188 = .ok (.iaload, 1) := by decide +kernel
theorem dX7_digs_189 : decode cX7_digs 189 = .ok (.iload 6, 2) := by decide +kernel
theorem dX7_digs_191 : decode cX7_digs 191 = .ok (.iadd, 1) := by decide +kernel
theorem dX7_digs_192 : decode cX7_digs 192 = .ok (.iastore, 1) := by decide +kernel
theorem dX7_digs_193 : decode cX7_digs 193 = .ok (.iload_n 2, 1) := by decide +kernel
theorem dX7_digs_194 : decode cX7_digs 194 = .ok (.iload 6, 2) := by decide +kernel
theorem dX7_digs_196 : decode cX7_digs 196 = .ok (.iadd, 1) := by decide +kernel
theorem dX7_digs_197 : decode cX7_digs 197 = .ok (.istore_n 2, 1) := by decide +kernel
theorem dX7_digs_198 : decode cX7_digs 198 = .ok (.iinc 3 1, 3) := by decide +kernel
theorem dX7_digs_201 : decode cX7_digs 201 = .ok (.goto (-144), 3) := by decide +kernel
theorem dX7_digs_204 : decode cX7_digs 204 = .ok (.iload_n 2, 1) := by decide +kernel
theorem dX7_digs_205 : decode cX7_digs 205 = .ok (.ireturn, 1) := by decide +kernel
theorem gX7_gets_X7_its : GoodIn wsX7_gets (wsV RX7 72 RX7 yX7_its wsX7_its) := nw_gV nwl_X7_gets nwe_552 nwe_553 nwe_554 nwe_534 nwl_X7_its (by decide +kernel)
theorem gX7_gets_X7_held : GoodIn wsX7_gets (va_wsS RX7 141 yX7_held wsX7_held) := nw_gS nwl_X7_gets nwe_622 nwe_623 nwe_534 nwl_X7_held (by decide +kernel)
theorem gX7_gets_X7_lays1 : GoodIn wsX7_gets (wsV RX7 59 RX7 yX7_lays1 wsX7_lays1) := nw_gV nwl_X7_gets nwe_531 nwe_532 nwe_533 nwe_534 nwl_X7_lays1 (by decide +kernel)
theorem dX7_gets_0 : decode cX7_gets 0 = .ok (.aload_n 0, 1) := by decide +kernel
theorem dX7_gets_1 : decode cX7_gets 1 = .ok (.iload_n 1, 1) := by decide +kernel
theorem dX7_gets_2 : decode cX7_gets 2 = .ok (.iconst 2, 1) := by decide +kernel
theorem dX7_gets_3 : decode cX7_gets 3 = .ok (.aload_n 0, 1) := by decide +kernel
theorem dX7_gets_4 : decode cX7_gets 4 = .ok (.iload_n 1, 1) := by decide +kernel
theorem dX7_gets_5 : decode cX7_gets 5 = .ok (.iconst 2, 1) := by decide +kernel
theorem dX7_gets_6 : decode cX7_gets 6 = .ok (.invokevirtual 72, 3) := by decide +kernel
theorem dX7_gets_9 : decode cX7_gets 9 = .ok (.iload_n 2, 1) := by decide +kernel
theorem dX7_gets_10 : decode cX7_gets 10 = .ok (.iadd, 1) := by decide +kernel
theorem dX7_gets_11 : decode cX7_gets 11 = .ok (.iconst 0, 1) := by decide +kernel
theorem dX7_gets_12 : decode cX7_gets 12 = .ok (.ldc 153, 2) := by decide +kernel
theorem dX7_gets_14 : decode cX7_gets 14 = .ok (.invokestatic 141, 3) := by decide +kernel
theorem dX7_gets_17 : decode cX7_gets 17 = .ok (.invokevirtual 59, 3) := by decide +kernel
theorem dX7_gets_20 : decode cX7_gets 20 = .ok (.return_, 1) := by decide +kernel
theorem gX7_day_X7_whoHas : GoodIn wsX7_day (wsV RX7 154 RX7 yX7_whoHas wsX7_whoHas) := nw_gV nwl_X7_day nwe_641 nwe_642 nwe_643 nwe_534 nwl_X7_whoHas (by decide +kernel)
theorem gX7_day_X7_digs : GoodIn wsX7_day (wsV RX7 157 RX7 yX7_digs wsX7_digs) := nw_gV nwl_X7_day nwe_644 nwe_645 nwe_646 nwe_534 nwl_X7_digs (by decide +kernel)
theorem gX7_day_X7_hides : GoodIn wsX7_day (wsV RX7 160 RX7 yX7_hides wsX7_hides) := nw_gV nwl_X7_day nwe_647 nwe_648 nwe_649 nwe_534 nwl_X7_hides (by decide +kernel)
theorem gX7_day_X7_its : GoodIn wsX7_day (wsV RX7 72 RX7 yX7_its wsX7_its) := nw_gV nwl_X7_day nwe_552 nwe_553 nwe_554 nwe_534 nwl_X7_its (by decide +kernel)
theorem gX7_day_X7_held : GoodIn wsX7_day (va_wsS RX7 141 yX7_held wsX7_held) := nw_gS nwl_X7_day nwe_622 nwe_623 nwe_534 nwl_X7_held (by decide +kernel)
theorem gX7_day_X7_lays1 : GoodIn wsX7_day (wsV RX7 59 RX7 yX7_lays1 wsX7_lays1) := nw_gV nwl_X7_day nwe_531 nwe_532 nwe_533 nwe_534 nwl_X7_lays1 (by decide +kernel)
theorem gX7_day_X7_gets : GoodIn wsX7_day (wsV RX7 163 RX7 yX7_gets wsX7_gets) := nw_gV nwl_X7_day nwe_650 nwe_651 nwe_652 nwe_534 nwl_X7_gets (by decide +kernel)
theorem gX7_day_X7_feeds : GoodIn wsX7_day (wsV RX7 166 RX7 yX7_feeds wsX7_feeds) := nw_gV nwl_X7_day nwe_653 nwe_654 nwe_655 nwe_534 nwl_X7_feeds (by decide +kernel)
theorem dX7_day_0 : decode cX7_day 0 = .ok (.aload_n 0, 1) := by decide +kernel
theorem dX7_day_1 : decode cX7_day 1 = .ok (.invokevirtual 154, 3) := by decide +kernel
theorem dX7_day_4 : decode cX7_day 4 = .ok (.istore_n 1, 1) := by decide +kernel
theorem dX7_day_5 : decode cX7_day 5 = .ok (.aload_n 0, 1) := by decide +kernel
theorem dX7_day_6 : decode cX7_day 6 = .ok (.iload_n 1, 1) := by decide +kernel
theorem dX7_day_7 : decode cX7_day 7 = .ok (.invokevirtual 157, 3) := by decide +kernel
theorem dX7_day_10 : decode cX7_day 10 = .ok (.istore_n 2, 1) := by decide +kernel
theorem dX7_day_11 : decode cX7_day 11 = .ok (.aload_n 0, 1) := by decide +kernel
theorem dX7_day_12 : decode cX7_day 12 = .ok (.iload_n 1, 1) := by decide +kernel
theorem dX7_day_13 : decode cX7_day 13 = .ok (.iload_n 2, 1) := by decide +kernel
theorem dX7_day_14 : decode cX7_day 14 = .ok (.invokevirtual 160, 3) := by decide +kernel
theorem dX7_day_17 : decode cX7_day 17 = .ok (.istore_n 3, 1) := by decide +kernel
theorem dX7_day_18 : decode cX7_day 18 = .ok (.iload_n 2, 1) := by decide +kernel
theorem dX7_day_19 : decode cX7_day 19 = .ok (.iload_n 3, 1) := by decide +kernel
theorem dX7_day_20 : decode cX7_day 20 = .ok (.isub, 1) := by decide +kernel
theorem dX7_day_21 : decode cX7_day 21 = .ok (.istore 4, 2) := by decide +kernel
theorem dX7_day_23 : decode cX7_day 23 = .ok (.aload_n 0, 1) := by decide +kernel
theorem dX7_day_24 : decode cX7_day 24 = .ok (.iload_n 1, 1) := by decide +kernel
theorem dX7_day_25 : decode cX7_day 25 = .ok (.iconst 3, 1) := by decide +kernel
theorem dX7_day_26 : decode cX7_day 26 = .ok (.aload_n 0, 1) := by decide +kernel
theorem dX7_day_27 : decode cX7_day 27 = .ok (.iload_n 1, 1) := by decide +kernel
theorem dX7_day_28 : decode cX7_day 28 = .ok (.iconst 3, 1) := by decide +kernel
theorem dX7_day_29 : decode cX7_day 29 = .ok (.invokevirtual 72, 3) := by decide +kernel
theorem dX7_day_32 : decode cX7_day 32 = .ok (.iload_n 3, 1) := by decide +kernel
theorem dX7_day_33 : decode cX7_day 33 = .ok (.iadd, 1) := by decide +kernel
theorem dX7_day_34 : decode cX7_day 34 = .ok (.iconst 0, 1) := by decide +kernel
theorem dX7_day_35 : decode cX7_day 35 = .ok (.ldc 153, 2) := by decide +kernel
theorem dX7_day_37 : decode cX7_day 37 = .ok (.invokestatic 141, 3) := by decide +kernel
theorem dX7_day_40 : decode cX7_day 40 = .ok (.invokevirtual 59, 3) := by decide +kernel
theorem dX7_day_43 : decode cX7_day 43 = .ok (.iconst 0, 1) := by decide +kernel
theorem dX7_day_44 : decode cX7_day 44 = .ok (.istore 5, 2) := by decide +kernel
theorem dX7_day_46 : decode cX7_day 46 = .ok (.iload 5, 2) := by decide +kernel
theorem dX7_day_48 : decode cX7_day 48 = .ok (.bipush 9, 2) := by decide +kernel
theorem dX7_day_50 : decode cX7_day 50 = .ok (.if_icmp .ge 38, 3) := by decide +kernel
theorem dX7_day_53 : decode cX7_day 53 = .ok (.aload_n 0, 1) := by decide +kernel
theorem dX7_day_54 : decode cX7_day 54 = .ok (.iload 5, 2) := by decide +kernel
theorem dX7_day_56 : decode cX7_day 56 = .ok (.iload 4, 2) := by decide +kernel
theorem dX7_day_58 : decode cX7_day 58 = .ok (.bipush 9, 2) := by decide +kernel
theorem dX7_day_60 : decode cX7_day 60 = .ok (.idiv, 1) := by decide +kernel
theorem dX7_day_61 : decode cX7_day 61 = .ok (.iload 5, 2) := by decide +kernel
theorem dX7_day_63 : decode cX7_day 63 = .ok (.iload_n 1, 1) := by decide +kernel
theorem dX7_day_64 : decode cX7_day 64 = .ok (.if_icmp .ne 13, 3) := by decide +kernel
theorem dX7_day_67 : decode cX7_day 67 = .ok (.iload 4, 2) := by decide +kernel
theorem dX7_day_69 : decode cX7_day 69 = .ok (.bipush 9, 2) := by decide +kernel
theorem dX7_day_71 : decode cX7_day 71 = .ok (.irem, 1) := by decide +kernel
theorem dX7_day_72 : decode cX7_day 72 = .ok (.iload_n 3, 1) := by decide +kernel
theorem dX7_day_73 : decode cX7_day 73 = .ok (.iadd, 1) := by decide +kernel
theorem dX7_day_74 : decode cX7_day 74 = .ok (.goto 4, 3) := by decide +kernel
theorem dX7_day_77 : decode cX7_day 77 = .ok (.iconst 0, 1) := by decide +kernel
theorem dX7_day_78 : decode cX7_day 78 = .ok (.iadd, 1) := by decide +kernel
theorem dX7_day_79 : decode cX7_day 79 = .ok (.invokevirtual 163, 3) := by decide +kernel
theorem dX7_day_82 : decode cX7_day 82 = .ok (.iinc 5 1, 3) := by decide +kernel
theorem dX7_day_85 : decode cX7_day 85 = .ok (.goto (-39), 3) := by decide +kernel
theorem dX7_day_88 : decode cX7_day 88 = .ok (.aload_n 0, 1) := by decide +kernel
theorem dX7_day_89 : decode cX7_day 89 = .ok (.getfield 7, 3) := by decide +kernel
theorem dX7_day_92 : decode cX7_day 92 = .ok (.iconst 3, 1) := by decide +kernel
theorem dX7_day_93 : decode cX7_day 93 = .ok (.bipush 9, 2) := by decide +kernel
theorem dX7_day_95 : decode cX7_day 95 = .ok (.aload_n 0, 1) := by decide +kernel
theorem dX7_day_96 : decode cX7_day 96 = .ok (.getfield 34, 3) := by decide +kernel
theorem dX7_day_99 : decode cX7_day 99 = .ok (.iconst (-1), 1) := by decide +kernel
theorem dX7_day_100 : decode cX7_day 100 = .ok (.if_icmp .ne 12, 3) := by decide +kernel
theorem dX7_day_103 : decode cX7_day 103 = .ok (.aload_n 0, 1) := by decide +kernel
theorem dX7_day_104 : decode cX7_day 104 = .ok (.iload_n 1, 1) := by decide +kernel
theorem dX7_day_105 : decode cX7_day 105 = .ok (.iload_n 2, 1) := by decide +kernel
theorem dX7_day_106 : decode cX7_day 106 = .ok (.invokevirtual 166, 3) := by decide +kernel
theorem dX7_day_109 : decode cX7_day 109 = .ok (.goto 7, 3) := by decide +kernel
theorem dX7_day_112 : decode cX7_day 112 = .ok (.aload_n 0, 1) := by decide +kernel
theorem dX7_day_113 : decode cX7_day 113 = .ok (.getfield 34, 3) := by decide +kernel
theorem dX7_day_116 : decode cX7_day 116 = .ok (.isub, 1) := by decide +kernel
theorem dX7_day_117 : decode cX7_day 117 = .ok (.iastore, 1) := by decide +kernel
theorem dX7_day_118 : decode cX7_day 118 = .ok (.aload_n 0, 1) := by decide +kernel
theorem dX7_day_119 : decode cX7_day 119 = .ok (.getfield 7, 3) := by decide +kernel
theorem dX7_day_122 : decode cX7_day 122 = .ok (.iconst 0, 1) := by decide +kernel
theorem dX7_day_123 : decode cX7_day 123 = .ok (.dup2, 1) := by decide +kernel
theorem dX7_day_124 : decode cX7_day 124 = .ok (.iaload, 1) := by decide +kernel
theorem dX7_day_125 : decode cX7_day 125 = .ok (.iconst 1, 1) := by decide +kernel
theorem dX7_day_126 : decode cX7_day 126 = .ok (.iadd, 1) := by decide +kernel
theorem dX7_day_127 : decode cX7_day 127 = .ok (.iastore, 1) := by decide +kernel
theorem dX7_day_128 : decode cX7_day 128 = .ok (.iload_n 2, 1) := by decide +kernel
theorem dX7_day_129 : decode cX7_day 129 = .ok (.ireturn, 1) := by decide +kernel
theorem gX7_go_X7_day : GoodIn wsX7_go (wsV RX7 169 RX7 yX7_day wsX7_day) := nw_gV nwl_X7_go nwe_657 nwe_658 nwe_659 nwe_534 nwl_X7_day (by decide +kernel)
theorem dX7_go_0 : decode cX7_go 0 = .ok (.iconst 0, 1) := by decide +kernel
theorem dX7_go_1 : decode cX7_go 1 = .ok (.istore_n 2, 1) := by decide +kernel
theorem dX7_go_2 : decode cX7_go 2 = .ok (.iconst 0, 1) := by decide +kernel
theorem dX7_go_3 : decode cX7_go 3 = .ok (.istore_n 3, 1) := by decide +kernel
theorem dX7_go_4 : decode cX7_go 4 = .ok (.iload_n 3, 1) := by decide +kernel
theorem dX7_go_5 : decode cX7_go 5 = .ok (.iload_n 1, 1) := by decide +kernel
theorem dX7_go_6 : decode cX7_go 6 = .ok (.if_icmp .ge 16, 3) := by decide +kernel
theorem dX7_go_9 : decode cX7_go 9 = .ok (.iload_n 2, 1) := by decide +kernel
theorem dX7_go_10 : decode cX7_go 10 = .ok (.aload_n 0, 1) := by decide +kernel
theorem dX7_go_11 : decode cX7_go 11 = .ok (.invokevirtual 169, 3) := by decide +kernel
theorem dX7_go_14 : decode cX7_go 14 = .ok (.iadd, 1) := by decide +kernel
theorem dX7_go_15 : decode cX7_go 15 = .ok (.istore_n 2, 1) := by decide +kernel
theorem dX7_go_16 : decode cX7_go 16 = .ok (.iinc 3 1, 3) := by decide +kernel
theorem dX7_go_19 : decode cX7_go 19 = .ok (.goto (-15), 3) := by decide +kernel
theorem dX7_go_22 : decode cX7_go 22 = .ok (.iload_n 2, 1) := by decide +kernel
theorem dX7_go_23 : decode cX7_go 23 = .ok (.ireturn, 1) := by decide +kernel
theorem gX7_oak_X7_isOak : GoodIn wsX7_oak (va_wsS RX7 172 yX7_isOak wsX7_isOak) := nw_gS nwl_X7_oak nwe_662 nwe_663 nwe_534 nwl_X7_isOak (by decide +kernel)
theorem gX7_oak_X7_in : GoodIn wsX7_oak (va_wsS RX7 68 yX7_in wsX7_in) := nw_gS nwl_X7_oak nwe_546 nwe_547 nwe_534 nwl_X7_in (by decide +kernel)
theorem gX7_oak_X7_error : GoodIn wsX7_oak (wsV RX7 76 RX7 yX7_error wsX7_error) := nw_gV nwl_X7_oak nwe_558 nwe_559 nwe_560 nwe_534 nwl_X7_error (by decide +kernel)
theorem gX7_oak_X7_change1 : GoodIn wsX7_oak (wsV RX7 175 RX7 yX7_change1 wsX7_change1) := nw_gV nwl_X7_oak nwe_664 nwe_665 nwe_666 nwe_534 nwl_X7_change1 (by decide +kernel)
theorem dX7_oak_0 : decode cX7_oak 0 = .ok (.iload_n 1, 1) := by decide +kernel
theorem dX7_oak_1 : decode cX7_oak 1 = .ok (.invokestatic 172, 3) := by decide +kernel
theorem dX7_oak_4 : decode cX7_oak 4 = .ok (.ifCond .eq 32, 3) := by decide +kernel
theorem dX7_oak_7 : decode cX7_oak 7 = .ok (.iload_n 2, 1) := by decide +kernel
theorem dX7_oak_8 : decode cX7_oak 8 = .ok (.iconst 0, 1) := by decide +kernel
theorem dX7_oak_9 : decode cX7_oak 9 = .ok (.iconst 1, 1) := by decide +kernel
theorem dX7_oak_10 : decode cX7_oak 10 = .ok (.invokestatic 68, 3) := by decide +kernel
theorem dX7_oak_13 : decode cX7_oak 13 = .ok (.ifCond .eq 23, 3) := by decide +kernel
theorem dX7_oak_16 : decode cX7_oak 16 = .ok (.iload_n 3, 1) := by decide +kernel
theorem dX7_oak_17 : decode cX7_oak 17 = .ok (.iconst 0, 1) := by decide +kernel
theorem dX7_oak_18 : decode cX7_oak 18 = .ok (.iload_n 2, 1) := by decide +kernel
theorem dX7_oak_19 : decode cX7_oak 19 = .ok (.ifCond .ne 8, 3) := by decide +kernel
theorem dX7_oak_22 : decode cX7_oak 22 = .ok (.bipush 8, 2) := by decide +kernel
theorem dX7_oak_24 : decode cX7_oak 24 = .ok (.goto 6, 3) := by decide +kernel
theorem dX7_oak_27 : decode cX7_oak 27 = .ok (.sipush 999, 3) := by decide +kernel
theorem dX7_oak_30 : decode cX7_oak 30 = .ok (.invokestatic 68, 3) := by decide +kernel
theorem dX7_oak_33 : decode cX7_oak 33 = .ok (.ifCond .ne 9, 3) := by decide +kernel
theorem dX7_oak_36 : decode cX7_oak 36 = .ok (.aload_n 0, 1) := by decide +kernel
theorem dX7_oak_37 : decode cX7_oak 37 = .ok (.iconst 1, 1) := by decide +kernel
theorem dX7_oak_38 : decode cX7_oak 38 = .ok (.invokevirtual 76, 3) := by decide +kernel
theorem dX7_oak_41 : decode cX7_oak 41 = .ok (.ireturn, 1) := by decide +kernel
theorem dX7_oak_42 : decode cX7_oak 42 = .ok (.aload_n 0, 1) := by decide +kernel
theorem dX7_oak_43 : decode cX7_oak 43 = .ok (.bipush 8, 2) := by decide +kernel
theorem dX7_oak_45 : decode cX7_oak 45 = .ok (.bipush 16, 2) := by decide +kernel
theorem dX7_oak_47 : decode cX7_oak 47 = .ok (.iload_n 2, 1) := by decide +kernel
theorem dX7_oak_48 : decode cX7_oak 48 = .ok (.imul, 1) := by decide +kernel
theorem dX7_oak_49 : decode cX7_oak 49 = .ok (.iadd, 1) := by decide +kernel
theorem dX7_oak_50 : decode cX7_oak 50 = .ok (.iload_n 1, 1) := by decide +kernel
theorem dX7_oak_51 : decode cX7_oak 51 = .ok (.iadd, 1) := by decide +kernel
theorem dX7_oak_52 : decode cX7_oak 52 = .ok (.iload_n 3, 1) := by decide +kernel
theorem dX7_oak_53 : decode cX7_oak 53 = .ok (.invokevirtual 175, 3) := by decide +kernel
theorem dX7_oak_56 : decode cX7_oak 56 = .ok (.ireturn, 1) := by decide +kernel
theorem gX7_oakIs_X7_isOak : GoodIn wsX7_oakIs (va_wsS RX7 172 yX7_isOak wsX7_isOak) := nw_gS nwl_X7_oakIs nwe_662 nwe_663 nwe_534 nwl_X7_isOak (by decide +kernel)
theorem gX7_oakIs_X7_in : GoodIn wsX7_oakIs (va_wsS RX7 68 yX7_in wsX7_in) := nw_gS nwl_X7_oakIs nwe_546 nwe_547 nwe_534 nwl_X7_in (by decide +kernel)
theorem gX7_oakIs_X7_error : GoodIn wsX7_oakIs (wsV RX7 76 RX7 yX7_error wsX7_error) := nw_gV nwl_X7_oakIs nwe_558 nwe_559 nwe_560 nwe_534 nwl_X7_error (by decide +kernel)
theorem gX7_oakIs_X7_smell : GoodIn wsX7_oakIs (wsV RX7 144 RX7 yX7_smell wsX7_smell) := nw_gV nwl_X7_oakIs nwe_629 nwe_630 nwe_631 nwe_534 nwl_X7_smell (by decide +kernel)
theorem dX7_oakIs_0 : decode cX7_oakIs 0 = .ok (.iload_n 1, 1) := by decide +kernel
theorem dX7_oakIs_1 : decode cX7_oakIs 1 = .ok (.invokestatic 172, 3) := by decide +kernel
theorem dX7_oakIs_4 : decode cX7_oakIs 4 = .ok (.ifCond .eq 12, 3) := by decide +kernel
theorem dX7_oakIs_7 : decode cX7_oakIs 7 = .ok (.iload_n 2, 1) := by decide +kernel
theorem dX7_oakIs_8 : decode cX7_oakIs 8 = .ok (.iconst 0, 1) := by decide +kernel
theorem dX7_oakIs_9 : decode cX7_oakIs 9 = .ok (.iconst 2, 1) := by decide +kernel
theorem dX7_oakIs_10 : decode cX7_oakIs 10 = .ok (.invokestatic 68, 3) := by decide +kernel
theorem dX7_oakIs_13 : decode cX7_oakIs 13 = .ok (.ifCond .ne 9, 3) := by decide +kernel
theorem dX7_oakIs_16 : decode cX7_oakIs 16 = .ok (.aload_n 0, 1) := by decide +kernel
theorem dX7_oakIs_17 : decode cX7_oakIs 17 = .ok (.iconst 1, 1) := by decide +kernel
theorem dX7_oakIs_18 : decode cX7_oakIs 18 = .ok (.invokevirtual 76, 3) := by decide +kernel
theorem dX7_oakIs_21 : decode cX7_oakIs 21 = .ok (.ireturn, 1) := by decide +kernel
theorem dX7_oakIs_22 : decode cX7_oakIs 22 = .ok (.iload_n 2, 1) := by decide +kernel
theorem dX7_oakIs_23 : decode cX7_oakIs 23 = .ok (.iconst 2, 1) := by decide +kernel
theorem dX7_oakIs_24 : decode cX7_oakIs 24 = .ok (.if_icmp .ne 11, 3) := by decide +kernel
theorem dX7_oakIs_27 : decode cX7_oakIs 27 = .ok (.aload_n 0, 1) := by decide +kernel
theorem dX7_oakIs_28 : decode cX7_oakIs 28 = .ok (.iload_n 1, 1) := by decide +kernel
theorem dX7_oakIs_29 : decode cX7_oakIs 29 = .ok (.invokevirtual 144, 3) := by decide +kernel
theorem dX7_oakIs_32 : decode cX7_oakIs 32 = .ok (.goto 17, 3) := by decide +kernel
theorem dX7_oakIs_35 : decode cX7_oakIs 35 = .ok (.aload_n 0, 1) := by decide +kernel
theorem dX7_oakIs_36 : decode cX7_oakIs 36 = .ok (.getfield 7, 3) := by decide +kernel
theorem dX7_oakIs_39 : decode cX7_oakIs 39 = .ok (.bipush 8, 2) := by decide +kernel
theorem dX7_oakIs_41 : decode cX7_oakIs 41 = .ok (.bipush 16, 2) := by decide +kernel
theorem dX7_oakIs_43 : decode cX7_oakIs 43 = .ok (.iload_n 2, 1) := by decide +kernel
theorem dX7_oakIs_44 : decode cX7_oakIs 44 = .ok (.imul, 1) := by decide +kernel
theorem dX7_oakIs_45 : decode cX7_oakIs 45 = .ok (.iadd, 1) := by decide +kernel
theorem dX7_oakIs_46 : decode cX7_oakIs 46 = .ok (.iload_n 1, 1) := by decide +kernel
theorem dX7_oakIs_47 : decode cX7_oakIs 47 = .ok (.iadd, 1) := by decide +kernel
theorem dX7_oakIs_48 : decode cX7_oakIs 48 = .ok (.iaload, 1) := by decide +kernel
theorem dX7_oakIs_49 : decode cX7_oakIs 49 = .ok (.ireturn, 1) := by decide +kernel
theorem gX7_rain_X7_in : GoodIn wsX7_rain (va_wsS RX7 68 yX7_in wsX7_in) := nw_gS nwl_X7_rain nwe_546 nwe_547 nwe_534 nwl_X7_in (by decide +kernel)
theorem gX7_rain_X7_change1 : GoodIn wsX7_rain (wsV RX7 175 RX7 yX7_change1 wsX7_change1) := nw_gV nwl_X7_rain nwe_664 nwe_665 nwe_666 nwe_534 nwl_X7_change1 (by decide +kernel)
theorem gX7_rain_X7_error : GoodIn wsX7_rain (wsV RX7 76 RX7 yX7_error wsX7_error) := nw_gV nwl_X7_rain nwe_558 nwe_559 nwe_560 nwe_534 nwl_X7_error (by decide +kernel)
theorem dX7_rain_0 : decode cX7_rain 0 = .ok (.iload_n 1, 1) := by decide +kernel
theorem dX7_rain_1 : decode cX7_rain 1 = .ok (.iconst 0, 1) := by decide +kernel
theorem dX7_rain_2 : decode cX7_rain 2 = .ok (.bipush 9, 2) := by decide +kernel
theorem dX7_rain_4 : decode cX7_rain 4 = .ok (.invokestatic 68, 3) := by decide +kernel
theorem dX7_rain_7 : decode cX7_rain 7 = .ok (.ifCond .eq 12, 3) := by decide +kernel
theorem dX7_rain_10 : decode cX7_rain 10 = .ok (.aload_n 0, 1) := by decide +kernel
theorem dX7_rain_11 : decode cX7_rain 11 = .ok (.iconst 1, 1) := by decide +kernel
theorem dX7_rain_12 : decode cX7_rain 12 = .ok (.iload_n 1, 1) := by decide +kernel
theorem dX7_rain_13 : decode cX7_rain 13 = .ok (.invokevirtual 175, 3) := by decide +kernel
theorem dX7_rain_16 : decode cX7_rain 16 = .ok (.goto 8, 3) := by decide +kernel
theorem dX7_rain_19 : decode cX7_rain 19 = .ok (.aload_n 0, 1) := by decide +kernel
theorem dX7_rain_20 : decode cX7_rain 20 = .ok (.iconst 1, 1) := by decide +kernel
theorem dX7_rain_21 : decode cX7_rain 21 = .ok (.invokevirtual 76, 3) := by decide +kernel
theorem dX7_rain_24 : decode cX7_rain 24 = .ok (.ireturn, 1) := by decide +kernel
theorem gX7_farmer_X7_isFarmer : GoodIn wsX7_farmer (va_wsS RX7 178 yX7_isFarmer wsX7_isFarmer) := nw_gS nwl_X7_farmer nwe_670 nwe_671 nwe_534 nwl_X7_isFarmer (by decide +kernel)
theorem gX7_farmer_X7_in : GoodIn wsX7_farmer (va_wsS RX7 68 yX7_in wsX7_in) := nw_gS nwl_X7_farmer nwe_546 nwe_547 nwe_534 nwl_X7_in (by decide +kernel)
theorem gX7_farmer_X7_error : GoodIn wsX7_farmer (wsV RX7 76 RX7 yX7_error wsX7_error) := nw_gV nwl_X7_farmer nwe_558 nwe_559 nwe_560 nwe_534 nwl_X7_error (by decide +kernel)
theorem gX7_farmer_X7_its : GoodIn wsX7_farmer (wsV RX7 72 RX7 yX7_its wsX7_its) := nw_gV nwl_X7_farmer nwe_552 nwe_553 nwe_554 nwe_534 nwl_X7_its (by decide +kernel)
theorem gX7_farmer_X7_lays1 : GoodIn wsX7_farmer (wsV RX7 59 RX7 yX7_lays1 wsX7_lays1) := nw_gV nwl_X7_farmer nwe_531 nwe_532 nwe_533 nwe_534 nwl_X7_lays1 (by decide +kernel)
theorem dX7_farmer_0 : decode cX7_farmer 0 = .ok (.iload_n 1, 1) := by decide +kernel
theorem dX7_farmer_1 : decode cX7_farmer 1 = .ok (.invokestatic 178, 3) := by decide +kernel
theorem dX7_farmer_4 : decode cX7_farmer 4 = .ok (.ifCond .eq 13, 3) := by decide +kernel
theorem dX7_farmer_7 : decode cX7_farmer 7 = .ok (.iload_n 2, 1) := by decide +kernel
theorem dX7_farmer_8 : decode cX7_farmer 8 = .ok (.iconst 0, 1) := by decide +kernel
theorem dX7_farmer_9 : decode cX7_farmer 9 = .ok (.bipush 69, 2) := by decide +kernel
theorem dX7_farmer_11 : decode cX7_farmer 11 = .ok (.invokestatic 68, 3) := by decide +kernel
theorem dX7_farmer_14 : decode cX7_farmer 14 = .ok (.ifCond .ne 9, 3) := by decide +kernel
theorem dX7_farmer_17 : decode cX7_farmer 17 = .ok (.aload_n 0, 1) := by decide +kernel
theorem dX7_farmer_18 : decode cX7_farmer 18 = .ok (.iconst 1, 1) := by decide +kernel
theorem dX7_farmer_19 : decode cX7_farmer 19 = .ok (.invokevirtual 76, 3) := by decide +kernel
theorem dX7_farmer_22 : decode cX7_farmer 22 = .ok (.ireturn, 1) := by decide +kernel
theorem dX7_farmer_23 : decode cX7_farmer 23 = .ok (.bipush 10, 2) := by decide +kernel
theorem dX7_farmer_25 : decode cX7_farmer 25 = .ok (.aload_n 0, 1) := by decide +kernel
theorem dX7_farmer_26 : decode cX7_farmer 26 = .ok (.iload_n 1, 1) := by decide +kernel
theorem dX7_farmer_27 : decode cX7_farmer 27 = .ok (.iconst 0, 1) := by decide +kernel
theorem dX7_farmer_28 : decode cX7_farmer 28 = .ok (.invokevirtual 72, 3) := by decide +kernel
theorem dX7_farmer_31 : decode cX7_farmer 31 = .ok (.imul, 1) := by decide +kernel
theorem dX7_farmer_32 : decode cX7_farmer 32 = .ok (.aload_n 0, 1) := by decide +kernel
theorem dX7_farmer_33 : decode cX7_farmer 33 = .ok (.iload_n 1, 1) := by decide +kernel
theorem dX7_farmer_34 : decode cX7_farmer 34 = .ok (.iconst 1, 1) := by decide +kernel
theorem dX7_farmer_35 : decode cX7_farmer 35 = .ok (.invokevirtual 72, 3) := by decide +kernel
theorem dX7_farmer_38 : decode cX7_farmer 38 = .ok (.iadd, 1) := by decide +kernel
theorem dX7_farmer_39 : decode cX7_farmer 39 = .ok (.istore_n 3, 1) := by decide +kernel
theorem dX7_farmer_40 : decode cX7_farmer 40 = .ok (.aload_n 0, 1) := by decide +kernel
theorem dX7_farmer_41 : decode cX7_farmer 41 = .ok (.iload_n 1, 1) := by decide +kernel
theorem dX7_farmer_42 : decode cX7_farmer 42 = .ok (.iconst 0, 1) := by decide +kernel
theorem dX7_farmer_43 : decode cX7_farmer 43 = .ok (.iload_n 2, 1) := by decide +kernel
theorem dX7_farmer_44 : decode cX7_farmer 44 = .ok (.bipush 10, 2) := by decide +kernel
theorem dX7_farmer_46 : decode cX7_farmer 46 = .ok (.idiv, 1) := by decide +kernel
theorem dX7_farmer_47 : decode cX7_farmer 47 = .ok (.invokevirtual 59, 3) := by decide +kernel
theorem dX7_farmer_50 : decode cX7_farmer 50 = .ok (.aload_n 0, 1) := by decide +kernel
theorem dX7_farmer_51 : decode cX7_farmer 51 = .ok (.iload_n 1, 1) := by decide +kernel
theorem dX7_farmer_52 : decode cX7_farmer 52 = .ok (.iconst 1, 1) := by decide +kernel
theorem dX7_farmer_53 : decode cX7_farmer 53 = .ok (.iload_n 2, 1) := by decide +kernel
theorem dX7_farmer_54 : decode cX7_farmer 54 = .ok (.bipush 10, 2) := by decide +kernel
theorem dX7_farmer_56 : decode cX7_farmer 56 = .ok (.irem, 1) := by decide +kernel
theorem dX7_farmer_57 : decode cX7_farmer 57 = .ok (.invokevirtual 59, 3) := by decide +kernel
theorem dX7_farmer_60 : decode cX7_farmer 60 = .ok (.iload_n 3, 1) := by decide +kernel
theorem dX7_farmer_61 : decode cX7_farmer 61 = .ok (.ireturn, 1) := by decide +kernel
theorem gX7_farmerIs_X7_isFarmer : GoodIn wsX7_farmerIs (va_wsS RX7 178 yX7_isFarmer wsX7_isFarmer) := nw_gS nwl_X7_farmerIs nwe_670 nwe_671 nwe_534 nwl_X7_isFarmer (by decide +kernel)
theorem gX7_farmerIs_X7_in : GoodIn wsX7_farmerIs (va_wsS RX7 68 yX7_in wsX7_in) := nw_gS nwl_X7_farmerIs nwe_546 nwe_547 nwe_534 nwl_X7_in (by decide +kernel)
theorem gX7_farmerIs_X7_its : GoodIn wsX7_farmerIs (wsV RX7 72 RX7 yX7_its wsX7_its) := nw_gV nwl_X7_farmerIs nwe_552 nwe_553 nwe_554 nwe_534 nwl_X7_its (by decide +kernel)
theorem gX7_farmerIs_X7_error : GoodIn wsX7_farmerIs (wsV RX7 76 RX7 yX7_error wsX7_error) := nw_gV nwl_X7_farmerIs nwe_558 nwe_559 nwe_560 nwe_534 nwl_X7_error (by decide +kernel)
theorem dX7_farmerIs_0 : decode cX7_farmerIs 0 = .ok (.iload_n 1, 1) := by decide +kernel
theorem dX7_farmerIs_1 : decode cX7_farmerIs 1 = .ok (.invokestatic 178, 3) := by decide +kernel
theorem dX7_farmerIs_4 : decode cX7_farmerIs 4 = .ok (.ifCond .eq 22, 3) := by decide +kernel
theorem dX7_farmerIs_7 : decode cX7_farmerIs 7 = .ok (.iload_n 2, 1) := by decide +kernel
theorem dX7_farmerIs_8 : decode cX7_farmerIs 8 = .ok (.iconst 0, 1) := by decide +kernel
theorem dX7_farmerIs_9 : decode cX7_farmerIs 9 = .ok (.bipush 8, 2) := by decide +kernel
theorem dX7_farmerIs_11 : decode cX7_farmerIs 11 = .ok (.invokestatic 68, 3) := by decide +kernel
theorem dX7_farmerIs_14 : decode cX7_farmerIs 14 = .ok (.ifCond .eq 12, 3) := by decide +kernel
theorem dX7_farmerIs_17 : decode cX7_farmerIs 17 = .ok (.aload_n 0, 1) := by decide +kernel
theorem dX7_farmerIs_18 : decode cX7_farmerIs 18 = .ok (.iload_n 1, 1) := by decide +kernel
theorem dX7_farmerIs_19 : decode cX7_farmerIs 19 = .ok (.iload_n 2, 1) := by decide +kernel
theorem dX7_farmerIs_20 : decode cX7_farmerIs 20 = .ok (.invokevirtual 72, 3) := by decide +kernel
theorem dX7_farmerIs_23 : decode cX7_farmerIs 23 = .ok (.goto 8, 3) := by decide +kernel
theorem dX7_farmerIs_26 : decode cX7_farmerIs 26 = .ok (.aload_n 0, 1) := by decide +kernel
theorem dX7_farmerIs_27 : decode cX7_farmerIs 27 = .ok (.iconst 1, 1) := by decide +kernel
theorem dX7_farmerIs_28 : decode cX7_farmerIs 28 = .ok (.invokevirtual 76, 3) := by decide +kernel
theorem dX7_farmerIs_31 : decode cX7_farmerIs 31 = .ok (.ireturn, 1) := by decide +kernel
theorem dX7_isUnder_0 : decode cX7_isUnder 0 = .ok (.iload_n 1, 1) := by decide +kernel
theorem dX7_isUnder_1 : decode cX7_isUnder 1 = .ok (.ifCond .eq 28, 3) := by decide +kernel
theorem dX7_isUnder_4 : decode cX7_isUnder 4 = .ok (.iload_n 0, 1) := by decide +kernel
theorem dX7_isUnder_5 : decode cX7_isUnder 5 = .ok (.iload_n 1, 1) := by decide +kernel
theorem dX7_isUnder_6 : decode cX7_isUnder 6 = .ok (.if_icmp .eq 23, 3) := by decide +kernel
theorem dX7_isUnder_9 : decode cX7_isUnder 9 = .ok (.iload_n 1, 1) := by decide +kernel
theorem dX7_isUnder_10 : decode cX7_isUnder 10 = .ok (.iconst 1, 1) := by decide +kernel
theorem dX7_isUnder_11 : decode cX7_isUnder 11 = .ok (.if_icmp .ne 8, 3) := by decide +kernel
theorem dX7_isUnder_14 : decode cX7_isUnder 14 = .ok (.iload_n 0, 1) := by decide +kernel
theorem dX7_isUnder_15 : decode cX7_isUnder 15 = .ok (.iconst 4, 1) := by decide +kernel
theorem dX7_isUnder_16 : decode cX7_isUnder 16 = .ok (.if_icmp .eq 13, 3) := by decide +kernel
theorem dX7_isUnder_19 : decode cX7_isUnder 19 = .ok (.iload_n 1, 1) := by decide +kernel
theorem dX7_isUnder_20 : decode cX7_isUnder 20 = .ok (.iconst 2, 1) := by decide +kernel
theorem dX7_isUnder_21 : decode cX7_isUnder 21 = .ok (.if_icmp .ne 12, 3) := by decide +kernel
theorem dX7_isUnder_24 : decode cX7_isUnder 24 = .ok (.iload_n 0, 1) := by decide +kernel
theorem dX7_isUnder_25 : decode cX7_isUnder 25 = .ok (.iconst 5, 1) := by decide +kernel
theorem dX7_isUnder_26 : decode cX7_isUnder 26 = .ok (.if_icmp .ne 7, 3) := by decide +kernel
theorem dX7_isUnder_29 : decode cX7_isUnder 29 = .ok (.iconst 1, 1) := by decide +kernel
theorem dX7_isUnder_30 : decode cX7_isUnder 30 = .ok (.goto 4, 3) := by decide +kernel
theorem dX7_isUnder_33 : decode cX7_isUnder 33 = .ok (.iconst 0, 1) := by decide +kernel
theorem dX7_isUnder_34 : decode cX7_isUnder 34 = .ok (.ireturn, 1) := by decide +kernel
theorem gX7_as_X7_isFarmer : GoodIn wsX7_as (va_wsS RX7 178 yX7_isFarmer wsX7_isFarmer) := nw_gS nwl_X7_as nwe_670 nwe_671 nwe_534 nwl_X7_isFarmer (by decide +kernel)
theorem gX7_as_X7_in : GoodIn wsX7_as (va_wsS RX7 68 yX7_in wsX7_in) := nw_gS nwl_X7_as nwe_546 nwe_547 nwe_534 nwl_X7_in (by decide +kernel)
theorem gX7_as_X7_error : GoodIn wsX7_as (wsV RX7 76 RX7 yX7_error wsX7_error) := nw_gV nwl_X7_as nwe_558 nwe_559 nwe_560 nwe_534 nwl_X7_error (by decide +kernel)
