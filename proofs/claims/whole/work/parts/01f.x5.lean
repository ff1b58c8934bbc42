set_option maxRecDepth 20000 in
theorem ggX5_init_X3_init : GoodIn wsX5_init wsX3_init := goodIn_r _ [26, 27, 2, 3, 28, 29, 30, 31, 4, 32, 33, 34, 35, 36, 37, 38, 39, 40, 41, 42, 66, 67, 64, 65] (by decide +kernel) (by decide +kernel)
set_option maxRecDepth 20000 in
theorem gX5_init_X3_init_n38 : GoodIn wsX5_init (wsX3_init) := ggX5_init_X3_init
set_option maxRecDepth 20000 in
theorem ggX5_init_J7_fill_53178 : GoodIn wsX5_init wsJ7_fill_53178 := goodIn_r _ [46] (by decide +kernel) (by decide +kernel)
set_option maxRecDepth 20000 in
theorem gX5_init_J7_fill_53178 : GoodIn wsX5_init (va_wsS RX5 68 yJ7_fill_53178 wsJ7_fill_53178) := goodIn_app (goodIn_of _ (by decide +kernel)) ggX5_init_J7_fill_53178
theorem dX5_init_0 : decode cX5_init 0 = .ok (.aload_n 0, 1) := by decide +kernel
theorem dX5_init_1 : decode cX5_init 1 = .ok (.invokespecial 3, 3) := by decide +kernel
theorem dX5_init_4 : decode cX5_init 4 = .ok (.aload_n 0, 1) := by decide +kernel
theorem dX5_init_5 : decode cX5_init 5 = .ok (.bipush 16, 2) := by decide +kernel
theorem dX5_init_7 : decode cX5_init 7 = .ok (.newarray .int, 2) := by decide +kernel
theorem dX5_init_9 : decode cX5_init 9 = .ok (.putfield 9, 3) := by decide +kernel
theorem dX5_init_12 : decode cX5_init 12 = .ok (.aload_n 0, 1) := by decide +kernel
theorem dX5_init_13 : decode cX5_init 13 = .ok (.bipush 16, 2) := by decide +kernel
theorem dX5_init_15 : decode cX5_init 15 = .ok (.newarray .int, 2) := by decide +kernel
theorem dX5_init_17 : decode cX5_init 17 = .ok (.putfield 15, 3) := by decide +kernel
theorem dX5_init_20 : decode cX5_init 20 = .ok (.aload_n 0, 1) := by decide +kernel
theorem dX5_init_21 : decode cX5_init 21 = .ok (.bipush 9, 2) := by decide +kernel
theorem dX5_init_23 : decode cX5_init 23 = .ok (.newarray .int, 2) := by decide +kernel
theorem dX5_init_25 : decode cX5_init 25 = .ok (.putfield 18, 3) := by decide +kernel
theorem dX5_init_28 : decode cX5_init 28 = .ok (.aload_n 0, 1) := by decide +kernel
theorem dX5_init_29 : decode cX5_init 29 = .ok (.bipush 9, 2) := by decide +kernel
theorem dX5_init_31 : decode cX5_init 31 = .ok (.newarray .int, 2) := by decide +kernel
theorem dX5_init_33 : decode cX5_init 33 = .ok (.putfield 21, 3) := by decide +kernel
theorem dX5_init_36 : decode cX5_init 36 = .ok (.aload_n 0, 1) := by decide +kernel
theorem dX5_init_37 : decode cX5_init 37 = .ok (.bipush 9, 2) := by decide +kernel
theorem dX5_init_39 : decode cX5_init 39 = .ok (.newarray .int, 2) := by decide +kernel
theorem dX5_init_41 : decode cX5_init 41 = .ok (.putfield 24, 3) := by decide +kernel
theorem dX5_init_44 : decode cX5_init 44 = .ok (.aload_n 0, 1) := by decide +kernel
theorem dX5_init_45 : decode cX5_init 45 = .ok (.bipush 9, 2) := by decide +kernel
theorem dX5_init_47 : decode cX5_init 47 = .ok (.newarray .int, 2) := by decide +kernel
theorem dX5_init_49 : decode cX5_init 49 = .ok (.putfield 27, 3) := by decide +kernel
theorem dX5_init_52 : decode cX5_init 52 = .ok (.aload_n 0, 1) := by decide +kernel
theorem dX5_init_53 : decode cX5_init 53 = .ok (.bipush 9, 2) := by decide +kernel
theorem dX5_init_55 : decode cX5_init 55 = .ok (.newarray .int, 2) := by decide +kernel
theorem dX5_init_57 : decode cX5_init 57 = .ok (.putfield 30, 3) := by decide +kernel
theorem dX5_init_60 : decode cX5_init 60 = .ok (.aload_n 0, 1) := by decide +kernel
theorem dX5_init_61 : decode cX5_init 61 = .ok (.bipush 36, 2) := by decide +kernel
theorem dX5_init_63 : decode cX5_init 63 = .ok (.newarray .int, 2) := by decide +kernel
theorem dX5_init_65 : decode cX5_init 65 = .ok (.putfield 33, 3) := by decide +kernel
theorem dX5_init_68 : decode cX5_init 68 = .ok (.aload_n 0, 1) := by decide +kernel
theorem dX5_init_69 : decode cX5_init 69 = .ok (.new 36, 3) := by decide +kernel
theorem dX5_init_72 : decode cX5_init 72 = .ok (.dup, 1) := by decide +kernel
theorem dX5_init_73 : decode cX5_init 73 = .ok (.invokespecial 38, 3) := by decide +kernel
theorem dX5_init_76 : decode cX5_init 76 = .ok (.putfield 39, 3) := by decide +kernel
theorem dX5_init_79 : decode cX5_init 79 = .ok (.aload_n 0, 1) := by decide +kernel
theorem dX5_init_80 : decode cX5_init 80 = .ok (.new 36, 3) := by decide +kernel
theorem dX5_init_83 : decode cX5_init 83 = .ok (.dup, 1) := by decide +kernel
theorem dX5_init_84 : decode cX5_init 84 = .ok (.invokespecial 38, 3) := by decide +kernel
theorem dX5_init_87 : decode cX5_init 87 = .ok (.putfield 43, 3) := by decide +kernel
theorem dX5_init_90 : decode cX5_init 90 = .ok (.aload_n 0, 1) := by decide +kernel
theorem dX5_init_91 : decode cX5_init 91 = .ok (.iconst 1, 1) := by decide +kernel
theorem dX5_init_92 : decode cX5_init 92 = .ok (.putfield 46, 3) := by decide +kernel
theorem dX5_init_95 : decode cX5_init 95 = .ok (.aload_n 0, 1) := by decide +kernel
theorem dX5_init_96 : decode cX5_init 96 = .ok (.iconst 0, 1) := by decide +kernel
theorem dX5_init_97 : decode cX5_init 97 = .ok (.putfield 50, 3) := by decide +kernel
theorem dX5_init_100 : decode cX5_init 100 = .ok (.aload_n 0, 1) := by decide +kernel
theorem dX5_init_101 : decode cX5_init 101 = .ok (.iconst 5, 1) := by decide +kernel
theorem dX5_init_102 : decode cX5_init 102 = .ok (.putfield 53, 3) := by decide +kernel
theorem dX5_init_105 : decode cX5_init 105 = .ok (.aload_n 0, 1) := by decide +kernel
theorem dX5_init_106 : decode cX5_init 106 = .ok (.iconst 0, 1) := by decide +kernel
theorem dX5_init_107 : decode cX5_init 107 = .ok (.putfield 56, 3) := by decide +kernel
theorem dX5_init_110 : decode cX5_init 110 = .ok (.aload_n 0, 1) := by decide +kernel
theorem dX5_init_111 : decode cX5_init 111 = .ok (.iconst 1, 1) := by decide +kernel
theorem dX5_init_112 : decode cX5_init 112 = .ok (.putfield 59, 3) := by decide +kernel
theorem dX5_init_115 : decode cX5_init 115 = .ok (.aload_n 0, 1) := by decide +kernel
theorem dX5_init_116 : decode cX5_init 116 = .ok (.bipush 16, 2) := by decide +kernel
theorem dX5_init_118 : decode cX5_init 118 = .ok (.newarray .int, 2) := by decide +kernel
theorem dX5_init_120 : decode cX5_init 120 = .ok (.putfield 62, 3) := by decide +kernel
theorem dX5_init_123 : decode cX5_init 123 = .ok (.aload_n 0, 1) := by decide +kernel
theorem dX5_init_124 : decode cX5_init 124 = .ok (.bipush 16, 2) := by decide +kernel
theorem dX5_init_126 : decode cX5_init 126 = .ok (.newarray .int, 2) := by decide +kernel
theorem dX5_init_128 : decode cX5_init 128 = .ok (.putfield 65, 3) := by decide +kernel
theorem dX5_init_131 : decode cX5_init 131 = .ok (.iconst 0, 1) := by decide +kernel
theorem dX5_init_132 : decode cX5_init 132 = .ok (.istore_n 1, 1) := by decide +kernel
theorem dX5_init_133 : decode cX5_init 133 = .ok (.iload_n 1, 1) := by decide +kernel
theorem dX5_init_134 : decode cX5_init 134 = .ok (.bipush 16, 2) := by decide +kernel
theorem dX5_init_136 : decode cX5_init 136 = .ok (.if_icmp .ge 19, 3) := by decide +kernel
theorem dX5_init_139 : decode cX5_init 139 = .ok (.aload_n 0, 1) := by decide +kernel
theorem dX5_init_140 : decode cX5_init 140 = .ok (.getfield 9, 3) := by decide +kernel
theorem dX5_init_143 : decode cX5_init 143 = .ok (.iload_n 1, 1) := by decide +kernel
theorem dX5_init_144 : decode cX5_init 144 = .ok (.iload_n 1, 1) := by decide +kernel
theorem dX5_init_145 : decode cX5_init 145 = .ok (.bipush 9, 2) := by decide +kernel
theorem dX5_init_147 : decode cX5_init 147 = .ok (.irem, 1) := by decide +kernel
theorem dX5_init_148 : decode cX5_init 148 = .ok (.iastore, 1) := by decide +kernel
theorem dX5_init_149 : decode cX5_init 149 = .ok (.iinc 1 1, 3) := by decide +kernel
theorem dX5_init_152 : decode cX5_init 152 = .ok (.goto (-19), 3) := by decide +kernel
theorem dX5_init_155 : decode cX5_init 155 = .ok (.iconst 0, 1) := by decide +kernel
theorem dX5_init_156 : decode cX5_init 156 = .ok (.istore_n 1, 1) := by decide +kernel
theorem dX5_init_157 : decode cX5_init 157 = .ok (.iload_n 1, 1) := by decide +kernel
theorem dX5_init_158 : decode cX5_init 158 = .ok (.bipush 9, 2) := by decide +kernel
theorem dX5_init_160 : decode cX5_init 160 = .ok (.if_icmp .ge 16, 3) := by decide +kernel
theorem dX5_init_163 : decode cX5_init 163 = .ok (.aload_n 0, 1) := by decide +kernel
theorem dX5_init_164 : decode cX5_init 164 = .ok (.getfield 30, 3) := by decide +kernel
theorem dX5_init_167 : decode cX5_init 167 = .ok (.iload_n 1, 1) := by decide +kernel
theorem dX5_init_168 : decode cX5_init 168 = .ok (.iload_n 1, 1) := by decide +kernel
theorem dX5_init_169 : decode cX5_init 169 = .ok (.iastore, 1) := by decide +kernel
theorem dX5_init_170 : decode cX5_init 170 = .ok (.iinc 1 1, 3) := by decide +kernel
theorem dX5_init_173 : decode cX5_init 173 = .ok (.goto (-16), 3) := by decide +kernel
theorem dX5_init_176 : decode cX5_init 176 = .ok (.aload_n 0, 1) := by decide +kernel
theorem dX5_init_177 : decode cX5_init 177 = .ok (.getfield 33, 3) := by decide +kernel
theorem dX5_init_180 : decode cX5_init 180 = .ok (.iconst 4, 1) := by decide +kernel
theorem dX5_init_181 : decode cX5_init 181 = .ok (.invokestatic 68, 3) := by decide +kernel
theorem dX5_init_184 : decode cX5_init 184 = .ok (.return_, 1) := by decide +kernel
set_option maxRecDepth 20000 in
theorem ggX5_takeFrom_X1_takeFrom : GoodIn wsX5_takeFrom wsX1_takeFrom := goodIn_r _ [23, 24, 25, 26, 27, 28, 29, 30, 3, 4, 5, 58, 59] (by decide +kernel) (by decide +kernel)
set_option maxRecDepth 20000 in
theorem gX5_takeFrom_X1_takeFrom : GoodIn wsX5_takeFrom (wsV RX5 84 RX1 yX1_takeFrom wsX1_takeFrom) := goodIn_app (goodIn_of _ (by decide +kernel)) ggX5_takeFrom_X1_takeFrom
set_option maxRecDepth 20000 in
theorem ggX5_takeFrom_X5_takeWoodFrom : GoodIn wsX5_takeFrom wsX5_takeWoodFrom := goodIn_r _ [35, 36, 2, 3, 4, 5, 37, 38, 39, 40, 41, 42, 43, 44, 45, 46, 47, 48, 49, 50, 51, 52, 53, 54, 55] (by decide +kernel) (by decide +kernel)
set_option maxRecDepth 20000 in
theorem gX5_takeFrom_X5_takeWoodFrom : GoodIn wsX5_takeFrom (wsV RX5 90 RX5 yX5_takeWoodFrom wsX5_takeWoodFrom) := goodIn_app (goodIn_of _ (by decide +kernel)) ggX5_takeFrom_X5_takeWoodFrom
theorem dX5_takeFrom_0 : decode cX5_takeFrom 0 = .ok (.aload_n 1, 1) := by decide +kernel
theorem dX5_takeFrom_1 : decode cX5_takeFrom 1 = .ok (.getfield 9, 3) := by decide +kernel
theorem dX5_takeFrom_4 : decode cX5_takeFrom 4 = .ok (.iconst 0, 1) := by decide +kernel
theorem dX5_takeFrom_5 : decode cX5_takeFrom 5 = .ok (.aload_n 0, 1) := by decide +kernel
theorem dX5_takeFrom_6 : decode cX5_takeFrom 6 = .ok (.getfield 9, 3) := by decide +kernel
theorem dX5_takeFrom_9 : decode cX5_takeFrom 9 = .ok (.iconst 0, 1) := by decide +kernel
theorem dX5_takeFrom_10 : decode cX5_takeFrom 10 = .ok (.bipush 16, 2) := by decide +kernel
theorem dX5_takeFrom_12 : decode cX5_takeFrom 12 = .ok (.invokestatic 74, 3) := by decide +kernel
theorem dX5_takeFrom_15 : decode cX5_takeFrom 15 = .ok (.aload_n 1, 1) := by decide +kernel
theorem dX5_takeFrom_16 : decode cX5_takeFrom 16 = .ok (.getfield 18, 3) := by decide +kernel
theorem dX5_takeFrom_19 : decode cX5_takeFrom 19 = .ok (.iconst 0, 1) := by decide +kernel
theorem dX5_takeFrom_20 : decode cX5_takeFrom 20 = .ok (.aload_n 0, 1) := by decide +kernel
theorem dX5_takeFrom_21 : decode cX5_takeFrom 21 = .ok (.getfield 18, 3) := by decide +kernel
theorem dX5_takeFrom_24 : decode cX5_takeFrom 24 = .ok (.iconst 0, 1) := by decide +kernel
theorem dX5_takeFrom_25 : decode cX5_takeFrom 25 = .ok (.bipush 9, 2) := by decide +kernel
theorem dX5_takeFrom_27 : decode cX5_takeFrom 27 = .ok (.invokestatic 74, 3) := by decide +kernel
theorem dX5_takeFrom_30 : decode cX5_takeFrom 30 = .ok (.aload_n 1, 1) := by decide +kernel
theorem dX5_takeFrom_31 : decode cX5_takeFrom 31 = .ok (.getfield 21, 3) := by decide +kernel
theorem dX5_takeFrom_34 : decode cX5_takeFrom 34 = .ok (.iconst 0, 1) := by decide +kernel
theorem dX5_takeFrom_35 : decode cX5_takeFrom 35 = .ok (.aload_n 0, 1) := by decide +kernel
theorem dX5_takeFrom_36 : decode cX5_takeFrom 36 = .ok (.getfield 21, 3) := by decide +kernel
theorem dX5_takeFrom_39 : decode cX5_takeFrom 39 = .ok (.iconst 0, 1) := by decide +kernel
theorem dX5_takeFrom_40 : decode cX5_takeFrom 40 = .ok (.bipush 9, 2) := by decide +kernel
theorem dX5_takeFrom_42 : decode cX5_takeFrom 42 = .ok (.invokestatic 74, 3) := by decide +kernel
theorem dX5_takeFrom_45 : decode cX5_takeFrom 45 = .ok (.aload_n 1, 1) := by decide +kernel
theorem dX5_takeFrom_46 : decode cX5_takeFrom 46 = .ok (.getfield 24, 3) := by decide +kernel
theorem dX5_takeFrom_49 : decode cX5_takeFrom 49 = .ok (.iconst 0, 1) := by decide +kernel
theorem dX5_takeFrom_50 : decode cX5_takeFrom 50 = .ok (.aload_n 0, 1) := by decide +kernel
theorem dX5_takeFrom_51 : decode cX5_takeFrom 51 = .ok (.getfield 24, 3) := by decide +kernel
theorem dX5_takeFrom_54 : decode cX5_takeFrom 54 = .ok (.iconst 0, 1) := by decide +kernel
theorem dX5_takeFrom_55 : decode cX5_takeFrom 55 = .ok (.bipush 9, 2) := by decide +kernel
theorem dX5_takeFrom_57 : decode cX5_takeFrom 57 = .ok (.invokestatic 74, 3) := by decide +kernel
theorem dX5_takeFrom_60 : decode cX5_takeFrom 60 = .ok (.aload_n 1, 1) := by decide +kernel
theorem dX5_takeFrom_61 : decode cX5_takeFrom 61 = .ok (.getfield 27, 3) := by decide +kernel
theorem dX5_takeFrom_64 : decode cX5_takeFrom 64 = .ok (.iconst 0, 1) := by decide +kernel
theorem dX5_takeFrom_65 : decode cX5_takeFrom 65 = .ok (.aload_n 0, 1) := by decide +kernel
theorem dX5_takeFrom_66 : decode cX5_takeFrom 66 = .ok (.getfield 27, 3) := by decide +kernel
theorem dX5_takeFrom_69 : decode cX5_takeFrom 69 = .ok (.iconst 0, 1) := by decide +kernel
theorem dX5_takeFrom_70 : decode cX5_takeFrom 70 = .ok (.bipush 9, 2) := by decide +kernel
theorem dX5_takeFrom_72 : decode cX5_takeFrom 72 = .ok (.invokestatic 74, 3) := by decide +kernel
theorem dX5_takeFrom_75 : decode cX5_takeFrom 75 = .ok (.aload_n 1, 1) := by decide +kernel
theorem dX5_takeFrom_76 : decode cX5_takeFrom 76 = .ok (.getfield 30, 3) := by decide +kernel
theorem dX5_takeFrom_79 : decode cX5_takeFrom 79 = .ok (.iconst 0, 1) := by decide +kernel
theorem dX5_takeFrom_80 : decode cX5_takeFrom 80 = .ok (.aload_n 0, 1) := by decide +kernel
theorem dX5_takeFrom_81 : decode cX5_takeFrom 81 = .ok (.getfield 30, 3) := by decide +kernel
theorem dX5_takeFrom_84 : decode cX5_takeFrom 84 = .ok (.iconst 0, 1) := by decide +kernel
theorem dX5_takeFrom_85 : decode cX5_takeFrom 85 = .ok (.bipush 9, 2) := by decide +kernel
theorem dX5_takeFrom_87 : decode cX5_takeFrom 87 = .ok (.invokestatic 74, 3) := by decide +kernel
theorem dX5_takeFrom_90 : decode cX5_takeFrom 90 = .ok (.aload_n 1, 1) := by decide +kernel
theorem dX5_takeFrom_91 : decode cX5_takeFrom 91 = .ok (.getfield 33, 3) := by decide +kernel
theorem dX5_takeFrom_94 : decode cX5_takeFrom 94 = .ok (.iconst 0, 1) := by decide +kernel
theorem dX5_takeFrom_95 : decode cX5_takeFrom 95 = .ok (.aload_n 0, 1) := by decide +kernel
theorem dX5_takeFrom_96 : decode cX5_takeFrom 96 = .ok (.getfield 33, 3) := by decide +kernel
theorem dX5_takeFrom_99 : decode cX5_takeFrom 99 = .ok (.iconst 0, 1) := by decide +kernel
theorem dX5_takeFrom_100 : decode cX5_takeFrom 100 = .ok (.bipush 36, 2) := by decide +kernel
theorem dX5_takeFrom_102 : decode cX5_takeFrom 102 = .ok (.invokestatic 74, 3) := by decide +kernel
theorem dX5_takeFrom_105 : decode cX5_takeFrom 105 = .ok (.aload_n 0, 1) := by decide +kernel
theorem dX5_takeFrom_106 : decode cX5_takeFrom 106 = .ok (.getfield 39, 3) := by decide +kernel
theorem dX5_takeFrom_109 : decode cX5_takeFrom 109 = .ok (.getfield 80, 3) := by decide +kernel
theorem dX5_takeFrom_112 : decode cX5_takeFrom 112 = .ok (.aload_n 1, 1) := by decide +kernel
theorem dX5_takeFrom_113 : decode cX5_takeFrom 113 = .ok (.getfield 39, 3) := by decide +kernel
theorem dX5_takeFrom_116 : decode cX5_takeFrom 116 = .ok (.getfield 80, 3) := by decide +kernel
theorem dX5_takeFrom_119 : decode cX5_takeFrom 119 = .ok (.invokevirtual 84, 3) := by decide +kernel
theorem dX5_takeFrom_122 : decode cX5_takeFrom 122 = .ok (.aload_n 0, 1) := by decide +kernel
theorem dX5_takeFrom_123 : decode cX5_takeFrom 123 = .ok (.getfield 43, 3) := by decide +kernel
theorem dX5_takeFrom_126 : decode cX5_takeFrom 126 = .ok (.getfield 80, 3) := by decide +kernel
theorem dX5_takeFrom_129 : decode cX5_takeFrom 129 = .ok (.aload_n 1, 1) := by decide +kernel
theorem dX5_takeFrom_130 : decode cX5_takeFrom 130 = .ok (.getfield 43, 3) := by decide +kernel
theorem dX5_takeFrom_133 : decode cX5_takeFrom 133 = .ok (.getfield 80, 3) := by decide +kernel
theorem dX5_takeFrom_136 : decode cX5_takeFrom 136 = .ok (.invokevirtual 84, 3) := by decide +kernel
theorem dX5_takeFrom_139 : decode cX5_takeFrom 139 = .ok (.aload_n 0, 1) := by decide +kernel
theorem dX5_takeFrom_140 : decode cX5_takeFrom 140 = .ok (.aload_n 1, 1) := by decide +kernel
theorem dX5_takeFrom_141 : decode cX5_takeFrom 141 = .ok (.getfield 46, 3) := by decide +kernel
theorem dX5_takeFrom_144 : decode cX5_takeFrom 144 = .ok (.putfield 46, 3) := by decide +kernel
theorem dX5_takeFrom_147 : decode cX5_takeFrom 147 = .ok (.aload_n 0, 1) := by decide +kernel
theorem dX5_takeFrom_148 : decode cX5_takeFrom 148 = .ok (.aload_n 1, 1) := by decide +kernel
theorem dX5_takeFrom_149 : decode cX5_takeFrom 149 = .ok (.getfield 53, 3) := by decide +kernel
theorem dX5_takeFrom_152 : decode cX5_takeFrom 152 = .ok (.putfield 53, 3) := by decide +kernel
theorem dX5_takeFrom_155 : decode cX5_takeFrom 155 = .ok (.aload_n 0, 1) := by decide +kernel
theorem dX5_takeFrom_156 : decode cX5_takeFrom 156 = .ok (.aload_n 1, 1) := by decide +kernel
theorem dX5_takeFrom_157 : decode cX5_takeFrom 157 = .ok (.getfield 56, 3) := by decide +kernel
theorem dX5_takeFrom_160 : decode cX5_takeFrom 160 = .ok (.putfield 56, 3) := by decide +kernel
theorem dX5_takeFrom_163 : decode cX5_takeFrom 163 = .ok (.aload_n 0, 1) := by decide +kernel
theorem dX5_takeFrom_164 : decode cX5_takeFrom 164 = .ok (.aload_n 1, 1) := by decide +kernel
theorem dX5_takeFrom_165 : decode cX5_takeFrom 165 = .ok (.getfield 59, 3) := by decide +kernel
theorem dX5_takeFrom_168 : decode cX5_takeFrom 168 = .ok (.putfield 59, 3) := by decide +kernel
theorem dX5_takeFrom_171 : decode cX5_takeFrom 171 = .ok (.aload_n 0, 1) := by decide +kernel
theorem dX5_takeFrom_172 : decode cX5_takeFrom 172 = .ok (.aload_n 1, 1) := by decide +kernel
theorem dX5_takeFrom_173 : decode cX5_takeFrom 173 = .ok (.invokevirtual 90, 3) := by decide +kernel
theorem dX5_takeFrom_176 : decode cX5_takeFrom 176 = .ok (.return_, 1) := by decide +kernel
theorem dX5_takeWoodFrom_0 : decode cX5_takeWoodFrom 0 = .ok (.aload_n 1, 1) := by decide +kernel
theorem dX5_takeWoodFrom_1 : decode cX5_takeWoodFrom 1 = .ok (.getfield 15, 3) := by decide +kernel
theorem dX5_takeWoodFrom_4 : decode cX5_takeWoodFrom 4 = .ok (.iconst 0, 1) := by decide +kernel
theorem dX5_takeWoodFrom_5 : decode cX5_takeWoodFrom 5 = .ok (.aload_n 0, 1) := by decide +kernel
theorem dX5_takeWoodFrom_6 : decode cX5_takeWoodFrom 6 = .ok (.getfield 15, 3) := by decide +kernel
theorem dX5_takeWoodFrom_9 : decode cX5_takeWoodFrom 9 = .ok (.iconst 0, 1) := by decide +kernel
theorem dX5_takeWoodFrom_10 : decode cX5_takeWoodFrom 10 = .ok (.bipush 16, 2) := by decide +kernel
theorem dX5_takeWoodFrom_12 : decode cX5_takeWoodFrom 12 = .ok (.invokestatic 74, 3) := by decide +kernel
theorem dX5_takeWoodFrom_15 : decode cX5_takeWoodFrom 15 = .ok (.aload_n 1, 1) := by decide +kernel
theorem dX5_takeWoodFrom_16 : decode cX5_takeWoodFrom 16 = .ok (.getfield 62, 3) := by decide +kernel
theorem dX5_takeWoodFrom_19 : decode cX5_takeWoodFrom 19 = .ok (.iconst 0, 1) := by decide +kernel
theorem dX5_takeWoodFrom_20 : decode cX5_takeWoodFrom 20 = .ok (.aload_n 0, 1) := by decide +kernel
theorem dX5_takeWoodFrom_21 : decode cX5_takeWoodFrom 21 = .ok (.getfield 62, 3) := by decide +kernel
theorem dX5_takeWoodFrom_24 : decode cX5_takeWoodFrom 24 = .ok (.iconst 0, 1) := by decide +kernel
theorem dX5_takeWoodFrom_25 : decode cX5_takeWoodFrom 25 = .ok (.bipush 16, 2) := by decide +kernel
theorem dX5_takeWoodFrom_27 : decode cX5_takeWoodFrom 27 = .ok (.invokestatic 74, 3) := by decide +kernel
theorem dX5_takeWoodFrom_30 : decode cX5_takeWoodFrom 30 = .ok (.aload_n 0, 1) := by decide +kernel
theorem dX5_takeWoodFrom_31 : decode cX5_takeWoodFrom 31 = .ok (.aload_n 1, 1) := by decide +kernel
theorem dX5_takeWoodFrom_32 : decode cX5_takeWoodFrom 32 = .ok (.getfield 50, 3) := by decide +kernel
theorem dX5_takeWoodFrom_35 : decode cX5_takeWoodFrom 35 = .ok (.putfield 50, 3) := by decide +kernel
theorem dX5_takeWoodFrom_38 : decode cX5_takeWoodFrom 38 = .ok (.return_, 1) := by decide +kernel
theorem dX5_textOf_0 : decode cX5_textOf 0 = .ok (.iload_n 1, 1) := by decide +kernel
theorem dX5_textOf_1 : decode cX5_textOf 1 = .ok (.ifCond .ne 10, 3) := by decide +kernel
theorem dX5_textOf_4 : decode cX5_textOf 4 = .ok (.aload_n 0, 1) := by decide +kernel
theorem dX5_textOf_5 : decode cX5_textOf 5 = .ok (.getfield 39, 3) := by decide +kernel
theorem dX5_textOf_8 : decode cX5_textOf 8 = .ok (.goto 7, 3) := by decide +kernel
theorem dX5_textOf_11 : decode cX5_textOf 11 = .ok (.aload_n 0, 1) := by decide +kernel
theorem dX5_textOf_12 : decode cX5_textOf 12 = .ok (.getfield 43, 3) := by decide +kernel
theorem dX5_textOf_15 : decode cX5_textOf 15 = .ok (.areturn, 1) := by decide +kernel
set_option maxRecDepth 20000 in
theorem ggX5_ofFarmer_X5_within4 : GoodIn wsX5_ofFarmer wsX5_within4 := goodIn_r _ [10, 11, 12, 13, 14, 15, 16, 17] (by decide +kernel) (by decide +kernel)
set_option maxRecDepth 20000 in
theorem gX5_ofFarmer_X5_within4 : GoodIn wsX5_ofFarmer (va_wsS RX5 94 yX5_within4 wsX5_within4) := goodIn_app (goodIn_of _ (by decide +kernel)) ggX5_ofFarmer_X5_within4
theorem dX5_ofFarmer_0 : decode cX5_ofFarmer 0 = .ok (.iload_n 2, 1) := by decide +kernel
theorem dX5_ofFarmer_1 : decode cX5_ofFarmer 1 = .ok (.tableswitch 70 0 4 #[35, 42, 49, 56, 63], 35) := by decide +kernel
theorem dX5_ofFarmer_36 : decode cX5_ofFarmer 36 = .ok (.aload_n 0, 1) := by decide +kernel
theorem dX5_ofFarmer_37 : decode cX5_ofFarmer 37 = .ok (.getfield 18, 3) := by decide +kernel
theorem dX5_ofFarmer_40 : decode cX5_ofFarmer 40 = .ok (.iload_n 1, 1) := by decide +kernel
theorem dX5_ofFarmer_41 : decode cX5_ofFarmer 41 = .ok (.iaload, 1) := by decide +kernel
theorem dX5_ofFarmer_42 : decode cX5_ofFarmer 42 = .ok (.ireturn, 1) := by decide +kernel
theorem dX5_ofFarmer_43 : decode cX5_ofFarmer 43 = .ok (.aload_n 0, 1) := by decide +kernel
theorem dX5_ofFarmer_44 : decode cX5_ofFarmer 44 = .ok (.getfield 21, 3) := by decide +kernel
theorem dX5_ofFarmer_47 : decode cX5_ofFarmer 47 = .ok (.iload_n 1, 1) := by decide +kernel
theorem dX5_ofFarmer_48 : decode cX5_ofFarmer 48 = .ok (.iaload, 1) := by decide +kernel
theorem dX5_ofFarmer_49 : decode cX5_ofFarmer 49 = .ok (.ireturn, 1) := by decide +kernel
theorem dX5_ofFarmer_50 : decode cX5_ofFarmer 50 = .ok (.aload_n 0, 1) := by decide +kernel
theorem dX5_ofFarmer_51 : decode cX5_ofFarmer 51 = .ok (.getfield 24, 3) := by decide +kernel
theorem dX5_ofFarmer_54 : decode cX5_ofFarmer 54 = .ok (.iload_n 1, 1) := by decide +kernel
theorem dX5_ofFarmer_55 : decode cX5_ofFarmer 55 = .ok (.iaload, 1) := by decide +kernel
theorem dX5_ofFarmer_56 : decode cX5_ofFarmer 56 = .ok (.ireturn, 1) := by decide +kernel
theorem dX5_ofFarmer_57 : decode cX5_ofFarmer 57 = .ok (.aload_n 0, 1) := by decide +kernel
theorem dX5_ofFarmer_58 : decode cX5_ofFarmer 58 = .ok (.getfield 27, 3) := by decide +kernel
theorem dX5_ofFarmer_61 : decode cX5_ofFarmer 61 = .ok (.iload_n 1, 1) := by decide +kernel
theorem dX5_ofFarmer_62 : decode cX5_ofFarmer 62 = .ok (.iaload, 1) := by decide +kernel
theorem dX5_ofFarmer_63 : decode cX5_ofFarmer 63 = .ok (.ireturn, 1) := by decide +kernel
theorem dX5_ofFarmer_64 : decode cX5_ofFarmer 64 = .ok (.aload_n 0, 1) := by decide +kernel
theorem dX5_ofFarmer_65 : decode cX5_ofFarmer 65 = .ok (.getfield 30, 3) := by decide +kernel
theorem dX5_ofFarmer_68 : decode cX5_ofFarmer 68 = .ok (.iload_n 1, 1) := by decide +kernel
theorem dX5_ofFarmer_69 : decode cX5_ofFarmer 69 = .ok (.iaload, 1) := by decide +kernel
theorem dX5_ofFarmer_70 : decode cX5_ofFarmer 70 = .ok (.ireturn, 1) := by decide +kernel
theorem dX5_ofFarmer_71 : decode cX5_ofFarmer 71 = .ok (.aload_n 0, 1) := by decide +kernel
theorem dX5_ofFarmer_72 : decode cX5_ofFarmer 72 = .ok (.getfield 33, 3) := by decide +kernel
theorem dX5_ofFarmer_75 : decode cX5_ofFarmer 75 = .ok (.iconst 4, 1) := by decide +kernel
theorem dX5_ofFarmer_76 : decode cX5_ofFarmer 76 = .ok (.iload_n 1, 1) := by decide +kernel
theorem dX5_ofFarmer_77 : decode cX5_ofFarmer 77 = .ok (.imul, 1) := by decide +kernel
theorem dX5_ofFarmer_78 : decode cX5_ofFarmer 78 = .ok (.iload_n 2, 1) := by decide +kernel
theorem dX5_ofFarmer_79 : decode cX5_ofFarmer 79 = .ok (.iconst 5, 1) := by decide +kernel
theorem dX5_ofFarmer_80 : decode cX5_ofFarmer 80 = .ok (.isub, 1) := by decide +kernel
theorem dX5_ofFarmer_81 : decode cX5_ofFarmer 81 = .ok (.invokestatic 94, 3) := by decide +kernel
theorem dX5_ofFarmer_84 : decode cX5_ofFarmer 84 = .ok (.iadd, 1) := by decide +kernel
theorem dX5_ofFarmer_85 : decode cX5_ofFarmer 85 = .ok (.iaload, 1) := by decide +kernel
theorem dX5_ofFarmer_86 : decode cX5_ofFarmer 86 = .ok (.ireturn, 1) := by decide +kernel
theorem dX5_changeTurns_0 : decode cX5_changeTurns 0 = .ok (.aload_n 0, 1) := by decide +kernel
theorem dX5_changeTurns_1 : decode cX5_changeTurns 1 = .ok (.getfield 30, 3) := by decide +kernel
theorem dX5_changeTurns_4 : decode cX5_changeTurns 4 = .ok (.iload_n 1, 1) := by decide +kernel
theorem dX5_changeTurns_5 : decode cX5_changeTurns 5 = .ok (.iaload, 1) := by decide +kernel
theorem dX5_changeTurns_6 : decode cX5_changeTurns 6 = .ok (.istore_n 3, 1) := by decide +kernel
theorem dX5_changeTurns_7 : decode cX5_changeTurns 7 = .ok (.aload_n 0, 1) := by decide +kernel
theorem dX5_changeTurns_8 : decode cX5_changeTurns 8 = .ok (.getfield 30, 3) := by decide +kernel
theorem dX5_changeTurns_11 : decode cX5_changeTurns 11 = .ok (.iload_n 1, 1) := by decide +kernel
theorem dX5_changeTurns_12 : decode cX5_changeTurns 12 = .ok (.aload_n 0, 1) := by decide +kernel
theorem dX5_changeTurns_13 : decode cX5_changeTurns 13 = .ok (.getfield 30, 3) := by decide +kernel
theorem dX5_changeTurns_16 : decode cX5_changeTurns 16 = .ok (.iload_n 2, 1) := by decide +kernel
theorem dX5_changeTurns_17 : decode cX5_changeTurns 17 = .ok (.iaload, 1) := by decide +kernel
theorem dX5_changeTurns_18 : decode cX5_changeTurns 18 = .ok (.iastore, 1) := by decide +kernel
theorem dX5_changeTurns_19 : decode cX5_changeTurns 19 = .ok (.aload_n 0, 1) := by decide +kernel
theorem dX5_changeTurns_20 : decode cX5_changeTurns 20 = .ok (.getfield 30, 3) := by decide +kernel
theorem dX5_changeTurns_23 : decode cX5_changeTurns 23 = .ok (.iload_n 2, 1) := by decide +kernel
theorem dX5_changeTurns_24 : decode cX5_changeTurns 24 = .ok (.iload_n 3, 1) := by decide +kernel
theorem dX5_changeTurns_25 : decode cX5_changeTurns 25 = .ok (.iastore, 1) := by decide +kernel
theorem dX5_changeTurns_26 : decode cX5_changeTurns 26 = .ok (.return_, 1) := by decide +kernel
theorem dX5_whoHasIt_0 : decode cX5_whoHasIt 0 = .ok (.aload_n 0, 1) := by decide +kernel
theorem dX5_whoHasIt_1 : decode cX5_whoHasIt 1 = .ok (.getfield 56, 3) := by decide +kernel
theorem dX5_whoHasIt_4 : decode cX5_whoHasIt 4 = .ok (.bipush 9, 2) := by decide +kernel
theorem dX5_whoHasIt_6 : decode cX5_whoHasIt 6 = .ok (.irem, 1) := by decide +kernel
theorem dX5_whoHasIt_7 : decode cX5_whoHasIt 7 = .ok (.istore_n 1, 1) := by decide +kernel
theorem dX5_whoHasIt_8 : decode cX5_whoHasIt 8 = .ok (.iconst 0, 1) := by decide +kernel
theorem dX5_whoHasIt_9 : decode cX5_whoHasIt 9 = .ok (.istore_n 2, 1) := by decide +kernel
theorem dX5_whoHasIt_10 : decode cX5_whoHasIt 10 = .ok (.iload_n 2, 1) := by decide +kernel
theorem dX5_whoHasIt_11 : decode cX5_whoHasIt 11 = .ok (.bipush 8, 2) := by decide +kernel
theorem dX5_whoHasIt_13 : decode cX5_whoHasIt 13 = .ok (.if_icmp .ge 19, 3) := by decide +kernel
theorem dX5_whoHasIt_16 : decode cX5_whoHasIt 16 = .ok (.aload_n 0, 1) := by decide +kernel
theorem dX5_whoHasIt_17 : decode cX5_whoHasIt 17 = .ok (.getfield 30, 3) := by decide +kernel
theorem dX5_whoHasIt_20 : decode cX5_whoHasIt 20 = .ok (.iload_n 2, 1) := by decide +kernel
theorem dX5_whoHasIt_21 : decode cX5_whoHasIt 21 = .ok (.iaload, 1) := by decide +kernel
theorem dX5_whoHasIt_22 : decode cX5_whoHasIt 22 = .ok (.iload_n 1, 1) := by decide +kernel
theorem dX5_whoHasIt_23 : decode cX5_whoHasIt 23 = .ok (.if_icmp .eq 9, 3) := by decide +kernel
theorem dX5_whoHasIt_26 : decode cX5_whoHasIt 26 = .ok (.iinc 2 1, 3) := by decide +kernel
theorem dX5_whoHasIt_29 : decode cX5_whoHasIt 29 = .ok (.goto (-19), 3) := by decide +kernel
theorem dX5_whoHasIt_32 : decode cX5_whoHasIt 32 = .ok (.iload_n 2, 1) := by decide +kernel
theorem dX5_whoHasIt_33 : decode cX5_whoHasIt 33 = .ok (.ireturn, 1) := by decide +kernel
theorem dX5_richestOak_0 : decode cX5_richestOak 0 = .ok (.iconst 0, 1) := by decide +kernel
theorem dX5_richestOak_1 : decode cX5_richestOak 1 = .ok (.istore_n 1, 1) := by decide +kernel
theorem dX5_richestOak_2 : decode cX5_richestOak 2 = .ok (.iconst 1, 1) := by decide +kernel
theorem dX5_richestOak_3 : decode cX5_richestOak 3 = .ok (.istore_n 2, 1) := by decide +kernel
theorem dX5_richestOak_4 : decode cX5_richestOak 4 = .ok (.iload_n 2, 1) := by decide +kernel
theorem dX5_richestOak_5 : decode cX5_richestOak 5 = .ok (.bipush 16, 2) := by decide +kernel
theorem dX5_richestOak_7 : decode cX5_richestOak 7 = .ok (.if_icmp .ge 26, 3) := by decide +kernel
theorem dX5_richestOak_10 : decode cX5_richestOak 10 = .ok (.aload_n 0, 1) := by decide +kernel
theorem dX5_richestOak_11 : decode cX5_richestOak 11 = .ok (.getfield 15, 3) := by decide +kernel
theorem dX5_richestOak_14 : decode cX5_richestOak 14 = .ok (.iload_n 2, 1) := by decide +kernel
theorem dX5_richestOak_15 : decode cX5_richestOak 15 = .ok (.iaload, 1) := by decide +kernel
theorem dX5_richestOak_16 : decode cX5_richestOak 16 = .ok (.aload_n 0, 1) := by decide +kernel
theorem dX5_richestOak_17 : decode cX5_richestOak 17 = .ok (.getfield 15, 3) := by decide +kernel
theorem dX5_richestOak_20 : decode cX5_richestOak 20 = .ok (.iload_n 1, 1) := by decide +kernel
theorem dX5_richestOak_21 : decode cX5_richestOak 21 = .ok (.iaload, 1) := by decide +kernel
theorem dX5_richestOak_22 : decode cX5_richestOak 22 = .ok (.if_icmp .le 5, 3) := by decide +kernel
theorem dX5_richestOak_25 : decode cX5_richestOak 25 = .ok (.iload_n 2, 1) := by decide +kernel
theorem dX5_richestOak_26 : decode cX5_richestOak 26 = .ok (.istore_n 1, 1) := by decide +kernel
theorem dX5_richestOak_27 : decode cX5_richestOak 27 = .ok (.iinc 2 1, 3) := by decide +kernel
theorem dX5_richestOak_30 : decode cX5_richestOak 30 = .ok (.goto (-26), 3) := by decide +kernel
theorem dX5_richestOak_33 : decode cX5_richestOak 33 = .ok (.iload_n 1, 1) := by decide +kernel
theorem dX5_richestOak_34 : decode cX5_richestOak 34 = .ok (.ireturn, 1) := by decide +kernel
theorem dX5_dugFor_0 : decode cX5_dugFor 0 = .ok (.iconst 0, 1) := by decide +kernel
theorem dX5_dugFor_1 : decode cX5_dugFor 1 = .ok (.istore_n 2, 1) := by decide +kernel
theorem dX5_dugFor_2 : decode cX5_dugFor 2 = .ok (.iconst 0, 1) := by decide +kernel
theorem dX5_dugFor_3 : decode cX5_dugFor 3 = .ok (.istore_n 3, 1) := by decide +kernel
theorem dX5_dugFor_4 : decode cX5_dugFor 4 = .ok (.iload_n 3, 1) := by decide +kernel
theorem dX5_dugFor_5 : decode cX5_dugFor 5 = .ok (.bipush 16, 2) := by decide +kernel
theorem dX5_dugFor_7 : decode cX5_dugFor 7 = .ok (.if_icmp .ge 32, 3) := by decide +kernel
theorem dX5_dugFor_10 : decode cX5_dugFor 10 = .ok (.iload_n 2, 1) := by decide +kernel
theorem dX5_dugFor_11 : decode cX5_dugFor 11 = .ok (.aload_n 0, 1) := by decide +kernel
theorem dX5_dugFor_12 : decode cX5_dugFor 12 = .ok (.getfield 9, 3) := by decide +kernel
theorem dX5_dugFor_15 : decode cX5_dugFor 15 = .ok (.iload_n 3, 1) := by decide +kernel
theorem dX5_dugFor_16 : decode cX5_dugFor 16 = .ok (.iaload, 1) := by decide +kernel
theorem dX5_dugFor_17 : decode cX5_dugFor 17 = .ok (.iload_n 1, 1) := by decide +kernel
theorem dX5_dugFor_18 : decode cX5_dugFor 18 = .ok (.if_icmp .ne 12, 3) := by decide +kernel
theorem dX5_dugFor_21 : decode cX5_dugFor 21 = .ok (.aload_n 0, 1) := by decide +kernel
theorem dX5_dugFor_22 : decode cX5_dugFor 22 = .ok (.getfield 65, 3) := by decide +kernel
theorem dX5_dugFor_25 : decode cX5_dugFor 25 = .ok (.iload_n 3, 1) := by decide +kernel
theorem dX5_dugFor_26 : decode cX5_dugFor 26 = .ok (.iaload, 1) := by decide +kernel
theorem dX5_dugFor_27 : decode cX5_dugFor 27 = .ok (.goto 4, 3) := by decide +kernel
theorem dX5_dugFor_30 : decode cX5_dugFor 30 = .ok (.iconst 0, 1) := by decide +kernel
theorem dX5_dugFor_31 : decode cX5_dugFor 31 = .ok (.iadd, 1) := by decide +kernel
theorem dX5_dugFor_32 : decode cX5_dugFor 32 = .ok (.istore_n 2, 1) := by decide +kernel
theorem dX5_dugFor_33 : decode cX5_dugFor 33 = .ok (.iinc 3 1, 3) := by decide +kernel
theorem dX5_dugFor_36 : decode cX5_dugFor 36 = .ok (.goto (-32), 3) := by decide +kernel
theorem dX5_dugFor_39 : decode cX5_dugFor 39 = .ok (.iload_n 2, 1) := by decide +kernel
theorem dX5_dugFor_40 : decode cX5_dugFor 40 = .ok (.ireturn, 1) := by decide +kernel
theorem dX5_drawRain_0 : decode cX5_drawRain 0 = .ok (.aload_n 0, 1) := by decide +kernel
theorem dX5_drawRain_1 : decode cX5_drawRain 1 = .ok (.aload_n 0, 1) := by decide +kernel
theorem dX5_drawRain_2 : decode cX5_drawRain 2 = .ok (.getfield 59, 3) := by decide +kernel
theorem dX5_drawRain_5 : decode cX5_drawRain 5 = .ok (.ldc 98, 2) := by decide +kernel
theorem dX5_drawRain_7 : decode cX5_drawRain 7 = .ok (.imul, 1) := by decide +kernel
theorem dX5_drawRain_8 : decode cX5_drawRain 8 = .ok (.sipush 12345, 3) := by decide +kernel
theorem dX5_drawRain_11 : decode cX5_drawRain 11 = .ok (.iadd, 1) := by decide +kernel
theorem dX5_drawRain_12 : decode cX5_drawRain 12 = .ok (.putfield 59, 3) := by decide +kernel
theorem dX5_drawRain_15 : decode cX5_drawRain 15 = .ok (.aload_n 0, 1) := by decide +kernel
theorem dX5_drawRain_16 : decode cX5_drawRain 16 = .ok (.aload_n 0, 1) := by decide +kernel
theorem dX5_drawRain_17 : decode cX5_drawRain 17 = .ok (.getfield 59, 3) := by decide +kernel
theorem dX5_drawRain_20 : decode cX5_drawRain 20 = .ok (.bipush 8, 2) := by decide +kernel
theorem dX5_drawRain_22 : decode cX5_drawRain 22 = .ok (.iushr, 1) := by decide +kernel
theorem dX5_drawRain_23 : decode cX5_drawRain 23 = .ok (.bipush 10, 2) := by decide +kernel
theorem dX5_drawRain_25 : decode cX5_drawRain 25 = .ok (.irem, 1) := by decide +kernel
theorem dX5_drawRain_26 : decode cX5_drawRain 26 = .ok (.putfield 46, 3) := by decide +kernel
theorem dX5_drawRain_29 : decode cX5_drawRain 29 = .ok (.return_, 1) := by decide +kernel
set_option maxRecDepth 20000 in
theorem ggX5_goOn_X5_oneDay : GoodIn wsX5_goOn wsX5_oneDay := goodIn_r _ [5, 6, 7, 8, 9, 10, 4, 11, 12, 13, 14, 15, 16, 17, 18, 19, 20, 21, 22, 23, 24, 25, 26, 27, 28, 29, 30, 31, 32, 33, 34, 35, 36, 37, 38, 39, 40, 41, 42, 43, 44, 45, 46, 47, 48, 49, 50, 51, 52, 53, 54, 55, 56, 57, 58, 59, 60, 61, 62, 63, 64, 65, 66, 67, 68, 69, 70, 71, 72, 73, 74, 75, 76, 77, 78, 79, 80, 81, 82, 83, 84, 85, 86, 87, 88, 89, 90, 91, 92, 93, 94, 95, 96, 97, 98, 99, 100, 101, 102, 103, 104, 105, 106, 107, 108, 109, 110, 111, 112, 113, 114, 115, 116, 117, 118, 119] (by decide +kernel) (by decide +kernel)
set_option maxRecDepth 20000 in
theorem gX5_goOn_X5_oneDay : GoodIn wsX5_goOn (wsV RX5 99 RX5 yX5_oneDay wsX5_oneDay) := goodIn_app (goodIn_of _ (by decide +kernel)) ggX5_goOn_X5_oneDay
theorem dX5_goOn_0 : decode cX5_goOn 0 = .ok (.iconst 0, 1) := by decide +kernel
theorem dX5_goOn_1 : decode cX5_goOn 1 = .ok (.istore_n 2, 1) := by decide +kernel
theorem dX5_goOn_2 : decode cX5_goOn 2 = .ok (.iconst 0, 1) := by decide +kernel
theorem dX5_goOn_3 : decode cX5_goOn 3 = .ok (.istore_n 3, 1) := by decide +kernel
theorem dX5_goOn_4 : decode cX5_goOn 4 = .ok (.iload_n 3, 1) := by decide +kernel
theorem dX5_goOn_5 : decode cX5_goOn 5 = .ok (.iload_n 1, 1) := by decide +kernel
theorem dX5_goOn_6 : decode cX5_goOn 6 = .ok (.if_icmp .ge 17, 3) := by decide +kernel
theorem dX5_goOn_9 : decode cX5_goOn 9 = .ok (.iload_n 2, 1) := by decide +kernel
theorem dX5_goOn_10 : decode cX5_goOn 10 = .ok (.aload_n 0, 1) := by decide +kernel
theorem dX5_goOn_11 : decode cX5_goOn 11 = .ok (.iconst (-1), 1) := by decide +kernel
theorem dX5_goOn_12 : decode cX5_goOn 12 = .ok (.invokevirtual 99, 3) := by decide +kernel
theorem dX5_goOn_15 : decode cX5_goOn 15 = .ok (.iadd, 1) := by decide +kernel
theorem dX5_goOn_16 : decode cX5_goOn 16 = .ok (.istore_n 2, 1) := by decide +kernel
theorem dX5_goOn_17 : decode cX5_goOn 17 = .ok (.iinc 3 1, 3) := by decide +kernel
theorem dX5_goOn_20 : decode cX5_goOn 20 = .ok (.goto (-16), 3) := by decide +kernel
theorem dX5_goOn_23 : decode cX5_goOn 23 = .ok (.iload_n 2, 1) := by decide +kernel
theorem dX5_goOn_24 : decode cX5_goOn 24 = .ok (.ireturn, 1) := by decide +kernel
set_option maxRecDepth 20000 in
theorem ggX5_oneDay_X5_whoHasIt : GoodIn wsX5_oneDay wsX5_whoHasIt := goodIn_r _ [7, 2, 8, 95, 96, 97, 98, 99, 100, 101, 102, 103, 104, 105, 106, 107, 108, 109, 110, 111] (by decide +kernel) (by decide +kernel)
set_option maxRecDepth 20000 in
theorem gX5_oneDay_X5_whoHasIt : GoodIn wsX5_oneDay (wsV RX5 102 RX5 yX5_whoHasIt wsX5_whoHasIt) := goodIn_app (goodIn_of _ (by decide +kernel)) ggX5_oneDay_X5_whoHasIt
set_option maxRecDepth 20000 in
theorem ggX5_oneDay_X5_morning : GoodIn wsX5_oneDay wsX5_morning := goodIn_r _ [12, 13, 14, 15, 16, 17, 18, 19, 20, 21, 22, 6, 23, 24, 1, 25, 26, 27, 28, 29, 30, 31, 32, 33, 34, 35, 36, 37, 38, 39, 40, 41, 42, 43, 44, 45, 46, 47, 48, 49, 95, 96, 97, 98, 99, 100, 101, 102, 103, 104, 105, 106, 107, 108, 109, 110, 111, 112, 113, 114, 115] (by decide +kernel) (by decide +kernel)
set_option maxRecDepth 20000 in
theorem gX5_oneDay_X5_morning : GoodIn wsX5_oneDay (wsV RX5 106 RX5 yX5_morning wsX5_morning) := goodIn_app (goodIn_of _ (by decide +kernel)) ggX5_oneDay_X5_morning
set_option maxRecDepth 20000 in
theorem ggX5_oneDay_X5_hours : GoodIn wsX5_oneDay wsX5_hours := goodIn_r _ [53, 54, 1, 55, 56, 13, 15, 16, 17, 18, 19, 57, 58, 59, 60, 61, 62, 6, 63, 64, 65, 66, 67, 68, 69, 70, 20, 21, 22, 23, 24, 25, 26, 27, 28, 29, 30, 31, 32, 33, 34, 35, 36, 37, 38, 39, 40, 41, 42, 43, 44, 45, 46, 47, 48, 49, 95, 96, 97, 98, 99, 100, 101, 102, 103, 104, 105, 106, 107, 108, 109, 110, 111, 112, 113, 114, 115] (by decide +kernel) (by decide +kernel)
set_option maxRecDepth 20000 in
theorem gX5_oneDay_X5_hours : GoodIn wsX5_oneDay (wsV RX5 109 RX5 yX5_hours wsX5_hours) := goodIn_app (goodIn_of _ (by decide +kernel)) ggX5_oneDay_X5_hours
set_option maxRecDepth 20000 in
theorem ggX5_oneDay_X5_partOut : GoodIn wsX5_oneDay wsX5_partOut := goodIn_r _ [74, 75, 76, 77, 78, 15, 16, 17, 18, 79, 80, 81, 6, 82, 83, 95, 96, 97, 98, 99, 100, 101, 102, 103, 104, 105, 106, 107, 108, 109, 110, 111] (by decide +kernel) (by decide +kernel)
set_option maxRecDepth 20000 in
theorem gX5_oneDay_X5_partOut : GoodIn wsX5_oneDay (wsV RX5 112 RX5 yX5_partOut wsX5_partOut) := goodIn_app (goodIn_of _ (by decide +kernel)) ggX5_oneDay_X5_partOut
set_option maxRecDepth 20000 in
theorem ggX5_oneDay_X5_feedsOf : GoodIn wsX5_oneDay wsX5_feedsOf := goodIn_r _ [87, 76, 75, 88, 1, 89, 90, 6, 91, 15, 16, 17, 18, 92, 93, 94, 25, 26, 27, 28, 29, 30, 31, 32, 33, 34, 35, 36, 37, 38, 39, 40, 41, 42, 43, 44, 45, 46, 47, 48, 49, 95, 96, 97, 98, 99, 100, 101, 102, 103, 104, 105, 106, 107, 108, 109, 110, 111, 112, 113, 114, 115] (by decide +kernel) (by decide +kernel)
set_option maxRecDepth 20000 in
theorem gX5_oneDay_X5_feedsOf : GoodIn wsX5_oneDay (wsV RX5 116 RX5 yX5_feedsOf wsX5_feedsOf) := goodIn_app (goodIn_of _ (by decide +kernel)) ggX5_oneDay_X5_feedsOf
theorem dX5_oneDay_0 : decode cX5_oneDay 0 = .ok (.aload_n 0, 1) := by decide +kernel
theorem dX5_oneDay_1 : decode cX5_oneDay 1 = .ok (.invokevirtual 102, 3) := by decide +kernel
theorem dX5_oneDay_4 : decode cX5_oneDay 4 = .ok (.istore_n 2, 1) := by decide +kernel
theorem dX5_oneDay_5 : decode cX5_oneDay 5 = .ok (.aload_n 0, 1) := by decide +kernel
theorem dX5_oneDay_6 : decode cX5_oneDay 6 = .ok (.invokevirtual 106, 3) := by decide +kernel
theorem dX5_oneDay_9 : decode cX5_oneDay 9 = .ok (.aload_n 0, 1) := by decide +kernel
theorem dX5_oneDay_10 : decode cX5_oneDay 10 = .ok (.iload_n 2, 1) := by decide +kernel
theorem dX5_oneDay_11 : decode cX5_oneDay 11 = .ok (.invokevirtual 109, 3) := by decide +kernel
theorem dX5_oneDay_14 : decode cX5_oneDay 14 = .ok (.istore_n 3, 1) := by decide +kernel
theorem dX5_oneDay_15 : decode cX5_oneDay 15 = .ok (.aload_n 0, 1) := by decide +kernel
theorem dX5_oneDay_16 : decode cX5_oneDay 16 = .ok (.iload_n 2, 1) := by decide +kernel
theorem dX5_oneDay_17 : decode cX5_oneDay 17 = .ok (.iload_n 3, 1) := by decide +kernel
theorem dX5_oneDay_18 : decode cX5_oneDay 18 = .ok (.invokevirtual 112, 3) := by decide +kernel
theorem dX5_oneDay_21 : decode cX5_oneDay 21 = .ok (.aload_n 0, 1) := by decide +kernel
theorem dX5_oneDay_22 : decode cX5_oneDay 22 = .ok (.bipush 9, 2) := by decide +kernel
theorem dX5_oneDay_24 : decode cX5_oneDay 24 = .ok (.iload_n 1, 1) := by decide +kernel
theorem dX5_oneDay_25 : decode cX5_oneDay 25 = .ok (.iconst (-1), 1) := by decide +kernel
theorem dX5_oneDay_26 : decode cX5_oneDay 26 = .ok (.if_icmp .ne 12, 3) := by decide +kernel
theorem dX5_oneDay_29 : decode cX5_oneDay 29 = .ok (.aload_n 0, 1) := by decide +kernel
theorem dX5_oneDay_30 : decode cX5_oneDay 30 = .ok (.iload_n 2, 1) := by decide +kernel
theorem dX5_oneDay_31 : decode cX5_oneDay 31 = .ok (.iload_n 3, 1) := by decide +kernel
theorem dX5_oneDay_32 : decode cX5_oneDay 32 = .ok (.invokevirtual 116, 3) := by decide +kernel
theorem dX5_oneDay_35 : decode cX5_oneDay 35 = .ok (.goto 4, 3) := by decide +kernel
theorem dX5_oneDay_38 : decode cX5_oneDay 38 = .ok (.iload_n 1, 1) := by decide +kernel
theorem dX5_oneDay_39 : decode cX5_oneDay 39 = .ok (.isub, 1) := by decide +kernel
theorem dX5_oneDay_40 : decode cX5_oneDay 40 = .ok (.putfield 53, 3) := by decide +kernel
theorem dX5_oneDay_43 : decode cX5_oneDay 43 = .ok (.aload_n 0, 1) := by decide +kernel
theorem dX5_oneDay_44 : decode cX5_oneDay 44 = .ok (.dup, 1) := by decide +kernel
theorem dX5_oneDay_45 : decode cX5_oneDay 45 = .ok (.getfield 56, 3) := by decide +kernel
theorem dX5_oneDay_48 : decode cX5_oneDay 48 = .ok (.iconst 1, 1) := by decide +kernel
theorem dX5_oneDay_49 : decode cX5_oneDay 49 = .ok (.iadd, 1) := by decide +kernel
theorem dX5_oneDay_50 : decode cX5_oneDay 50 = .ok (.putfield 56, 3) := by decide +kernel
theorem dX5_oneDay_53 : decode cX5_oneDay 53 = .ok (.iload_n 3, 1) := by decide +kernel
theorem dX5_oneDay_54 : decode cX5_oneDay 54 = .ok (.ireturn, 1) := by decide +kernel
set_option maxRecDepth 20000 in
theorem ggX5_morning_X5_smellOf : GoodIn wsX5_morning wsX5_smellOf := goodIn_r _ [12, 13, 1, 14, 15, 16, 17, 18, 19, 20, 21, 22, 23, 24, 25, 26, 27, 28, 29, 30, 31, 32, 33, 34, 35, 36, 37, 38, 39, 40, 41, 42, 43, 44, 45, 46, 47, 48, 49, 50, 51, 52, 53, 54, 55, 56, 57, 58, 59, 60] (by decide +kernel) (by decide +kernel)
set_option maxRecDepth 20000 in
theorem gX5_morning_X5_smellOf : GoodIn wsX5_morning (wsV RX5 125 RX5 yX5_smellOf wsX5_smellOf) := goodIn_app (goodIn_of _ (by decide +kernel)) ggX5_morning_X5_smellOf
theorem dX5_morning_0 : decode cX5_morning 0 = .ok (.iconst 0, 1) := by decide +kernel
theorem dX5_morning_1 : decode cX5_morning 1 = .ok (.istore_n 1, 1) := by decide +kernel
theorem dX5_morning_2 : decode cX5_morning 2 = .ok (.iload_n 1, 1) := by decide +kernel
theorem dX5_morning_3 : decode cX5_morning 3 = .ok (.bipush 16, 2) := by decide +kernel
theorem dX5_morning_5 : decode cX5_morning 5 = .ok (.if_icmp .ge 43, 3) := by decide +kernel
theorem dX5_morning_8 : decode cX5_morning 8 = .ok (.aload_n 0, 1) := by decide +kernel
theorem dX5_morning_9 : decode cX5_morning 9 = .ok (.getfield 15, 3) := by decide +kernel
theorem dX5_morning_12 : decode cX5_morning 12 = .ok (.iload_n 1, 1) := by decide +kernel
theorem dX5_morning_13 : decode cX5_morning 13 = .ok (.sipush 999, 3) := by decide +kernel
theorem dX5_morning_16 : decode cX5_morning 16 = .ok (.aload_n 0, 1) := by decide +kernel
theorem dX5_morning_17 : decode cX5_morning 17 = .ok (.getfield 15, 3) := by decide +kernel
theorem dX5_morning_20 : decode cX5_morning 20 = .ok (.iload_n 1, 1) := by decide +kernel
theorem dX5_morning_21 : decode cX5_morning 21 = .ok (.iaload, 1) := by decide +kernel
theorem dX5_morning_22 : decode cX5_morning 22 = .ok (.aload_n 0, 1) := by decide +kernel
theorem dX5_morning_23 : decode cX5_morning 23 = .ok (.getfield 46, 3) := by decide +kernel
theorem dX5_morning_26 : decode cX5_morning 26 = .ok (.iadd, 1) := by decide +kernel
theorem dX5_morning_27 : decode cX5_morning 27 = .ok (.invokestatic 120, 3) := by decide +kernel
theorem dX5_morning_30 : decode cX5_morning 30 = .ok (.iastore, 1) := by decide +kernel
theorem dX5_morning_31 : decode cX5_morning 31 = .ok (.aload_n 0, 1) := by decide +kernel
theorem dX5_morning_32 : decode cX5_morning 32 = .ok (.getfield 62, 3) := by decide +kernel
theorem dX5_morning_35 : decode cX5_morning 35 = .ok (.iload_n 1, 1) := by decide +kernel
theorem dX5_morning_36 : decode cX5_morning 36 = .ok (.aload_n 0, 1) := by decide +kernel
theorem dX5_morning_37 : decode cX5_morning 37 = .ok (.iload_n 1, 1) := by decide +kernel
theorem dX5_morning_38 : decode cX5_morning 38 = .ok (.invokevirtual 125, 3) := by decide +kernel
theorem dX5_morning_41 : decode cX5_morning 41 = .ok (.iastore, 1) := by decide +kernel
theorem dX5_morning_42 : decode cX5_morning 42 = .ok (.iinc 1 1, 3) := by decide +kernel
theorem dX5_morning_45 : decode cX5_morning 45 = .ok (.goto (-43), 3) := by decide +kernel
theorem dX5_morning_48 : decode cX5_morning 48 = .ok (.return_, 1) := by decide +kernel
set_option maxRecDepth 20000 in
theorem ggX5_hours_J7_fill_53178 : GoodIn wsX5_hours wsJ7_fill_53178 := goodIn_r _ [14] (by decide +kernel) (by decide +kernel)
set_option maxRecDepth 20000 in
theorem gX5_hours_J7_fill_53178 : GoodIn wsX5_hours (va_wsS RX5 68 yJ7_fill_53178 wsJ7_fill_53178) := goodIn_app (goodIn_of _ (by decide +kernel)) ggX5_hours_J7_fill_53178
set_option maxRecDepth 20000 in
theorem ggX5_hours_X5_beside : GoodIn wsX5_hours wsX5_beside := goodIn_r _ [18] (by decide +kernel) (by decide +kernel)
set_option maxRecDepth 20000 in
theorem gX5_hours_X5_beside : GoodIn wsX5_hours (va_wsS RX5 128 yX5_beside wsX5_beside) := goodIn_app (goodIn_of _ (by decide +kernel)) ggX5_hours_X5_beside
set_option maxRecDepth 20000 in
theorem ggX5_hours_X5_bestSmell : GoodIn wsX5_hours wsX5_bestSmell := goodIn_r _ [22, 3, 23, 24, 8, 25, 10, 56, 57, 58, 59, 60, 61, 62, 63, 64, 65, 66, 67, 68, 69, 70, 71, 72] (by decide +kernel) (by decide +kernel)
set_option maxRecDepth 20000 in
theorem gX5_hours_X5_bestSmell : GoodIn wsX5_hours (wsV RX5 131 RX5 yX5_bestSmell wsX5_bestSmell) := goodIn_app (goodIn_of _ (by decide +kernel)) ggX5_hours_X5_bestSmell
set_option maxRecDepth 20000 in
theorem ggX5_hours_X5_smellOf : GoodIn wsX5_hours wsX5_smellOf := goodIn_r _ [29, 30, 5, 2, 31, 32, 33, 34, 35, 36, 37, 38, 39, 40, 41, 42, 43, 44, 45, 46, 47, 48, 49, 50, 51, 52, 53, 54, 55, 56, 57, 58, 59, 60, 61, 62, 63, 64, 65, 66, 67, 68, 69, 70, 71, 72, 73, 74, 75, 76] (by decide +kernel) (by decide +kernel)
set_option maxRecDepth 20000 in
theorem gX5_hours_X5_smellOf : GoodIn wsX5_hours (wsV RX5 125 RX5 yX5_smellOf wsX5_smellOf) := goodIn_app (goodIn_of _ (by decide +kernel)) ggX5_hours_X5_smellOf
theorem dX5_hours_0 : decode cX5_hours 0 = .ok (.aload_n 0, 1) := by decide +kernel
theorem dX5_hours_1 : decode cX5_hours 1 = .ok (.getfield 65, 3) := by decide +kernel
theorem dX5_hours_4 : decode cX5_hours 4 = .ok (.iconst 0, 1) := by decide +kernel
theorem dX5_hours_5 : decode cX5_hours 5 = .ok (.invokestatic 68, 3) := by decide +kernel
theorem dX5_hours_8 : decode cX5_hours 8 = .ok (.iconst 0, 1) := by decide +kernel
theorem dX5_hours_9 : decode cX5_hours 9 = .ok (.istore_n 2, 1) := by decide +kernel
theorem dX5_hours_10 : decode cX5_hours 10 = .ok (.iconst 0, 1) := by decide +kernel
theorem dX5_hours_11 : decode cX5_hours 11 = .ok (.istore_n 3, 1) := by decide +kernel
theorem dX5_hours_12 : decode cX5_hours 12 = .ok (.iload_n 3, 1) := by decide +kernel
theorem dX5_hours_13 : decode cX5_hours 13 = .ok (.aload_n 0, 1) := by decide +kernel
theorem dX5_hours_14 : decode cX5_hours 14 = .ok (.getfield 53, 3) := by decide +kernel
theorem dX5_hours_17 : decode cX5_hours 17 = .ok (.if_icmp .ge 125, 3) := by decide +kernel
theorem dX5_hours_20 : decode cX5_hours 20 = .ok (.iload_n 3, 1) := by decide +kernel
theorem dX5_hours_21 : decode cX5_hours 21 = .ok (.iconst 4, 1) := by decide +kernel
theorem dX5_hours_22 : decode cX5_hours 22 = .ok (.if_icmp .ge 23, 3) := by decide +kernel
theorem dX5_hours_25 : decode cX5_hours 25 = .ok (.aload_n 0, 1) := by decide +kernel
theorem dX5_hours_26 : decode cX5_hours 26 = .ok (.getfield 50, 3) := by decide +kernel
theorem dX5_hours_29 : decode cX5_hours 29 = .ok (.aload_n 0, 1) := by decide +kernel
theorem dX5_hours_30 : decode cX5_hours 30 = .ok (.getfield 33, 3) := by decide +kernel
theorem dX5_hours_33 : decode cX5_hours 33 = .ok (.iconst 4, 1) := by decide +kernel
theorem dX5_hours_34 : decode cX5_hours 34 = .ok (.iload_n 1, 1) := by decide +kernel
theorem dX5_hours_35 : decode cX5_hours 35 = .ok (.imul, 1) := by decide +kernel
theorem dX5_hours_36 : decode cX5_hours 36 = .ok (.iload_n 3, 1) := by decide +kernel
theorem dX5_hours_37 : decode cX5_hours 37 = .ok (.iadd, 1) := by decide +kernel
theorem dX5_hours_38 : decode cX5_hours 38 = .ok (.iaload, 1) := by decide +kernel
theorem dX5_hours_39 : decode cX5_hours 39 = .ok (.invokestatic 128, 3) := by decide +kernel
theorem dX5_hours_42 : decode cX5_hours 42 = .ok (.goto 4, 3) := by decide +kernel
theorem dX5_hours_45 : decode cX5_hours 45 = .ok (.iconst (-1), 1) := by decide +kernel
theorem dX5_hours_46 : decode cX5_hours 46 = .ok (.istore 4, 2) := by decide +kernel
theorem dX5_hours_48 : decode cX5_hours 48 = .ok (.aload_n 0, 1) := by decide +kernel
theorem dX5_hours_49 : decode cX5_hours 49 = .ok (.iload 4, 2) := by decide +kernel
theorem dX5_hours_51 : decode cX5_hours 51 = .ok (.ifCond .lt 8, 3) := by decide +kernel
theorem dX5_hours_54 : decode cX5_hours 54 = .ok (.iload 4, 2) := by decide +kernel
theorem dX5_hours_56 : decode cX5_hours 56 = .ok (.goto 7, 3) := by decide +kernel
theorem dX5_hours_59 : decode cX5_hours 59 = .ok (.aload_n 0, 1) := by decide +kernel
theorem dX5_hours_60 : decode cX5_hours 60 = .ok (.invokevirtual 131, 3) := by decide +kernel
theorem dX5_hours_63 : decode cX5_hours 63 = .ok (.putfield 50, 3) := by decide +kernel
theorem dX5_hours_66 : decode cX5_hours 66 = .ok (.iconst 2, 1) := by decide +kernel
theorem dX5_hours_67 : decode cX5_hours 67 = .ok (.aload_n 0, 1) := by decide +kernel
theorem dX5_hours_68 : decode cX5_hours 68 = .ok (.getfield 53, 3) := by decide +kernel
theorem dX5_hours_71 : decode cX5_hours 71 = .ok (.iadd, 1) := by decide +kernel
theorem dX5_hours_72 : decode cX5_hours 72 = .ok (.aload_n 0, 1) := by decide +kernel
theorem dX5_hours_73 : decode cX5_hours 73 = .ok (.getfield 15, 3) := by decide +kernel
theorem dX5_hours_76 : decode cX5_hours 76 = .ok (.aload_n 0, 1) := by decide +kernel
theorem dX5_hours_77 : decode cX5_hours 77 = .ok (.getfield 50, 3) := by decide +kernel
theorem dX5_hours_80 : decode cX5_hours 80 = .ok (.iaload, 1) := by decide +kernel
theorem dX5_hours_81 : decode cX5_hours 81 = .ok (.invokestatic 120, 3) := by decide +kernel
theorem dX5_hours_84 : decode cX5_hours 84 = .ok (.istore 5, 2) := by decide +kernel
theorem dX5_hours_86 : decode cX5_hours 86 = .ok (.aload_n 0, 1) := by decide +kernel
theorem dX5_hours_87 : decode cX5_hours 87 = .ok (.getfield 15, 3) := by decide +kernel
theorem dX5_hours_90 : decode cX5_hours 90 = .ok (.aload_n 0, 1) := by decide +kernel
theorem dX5_hours_91 : decode cX5_hours 91 = .ok (.getfield 50, 3) := by decide +kernel
theorem dX5_hours_94 : decode cX5_hours 94 = .ok (.dup2, 1) := by decide +kernel
theorem dX5_hours_95 : decode cX5_hours 95 = .ok (.iaload, 1) := by decide +kernel
theorem dX5_hours_96 : decode cX5_hours 96 = .ok (.iload 5, 2) := by decide +kernel
theorem dX5_hours_98 : decode cX5_hours 98 = .ok (.isub, 1) := by decide +kernel
theorem dX5_hours_99 : decode cX5_hours 99 = .ok (.iastore, 1) := by decide +kernel
theorem dX5_hours_100 : decode cX5_hours 100 = .ok (.aload_n 0, 1) := by decide +kernel
theorem dX5_hours_101 : decode cX5_hours 101 = .ok (.getfield 65, 3) := by decide +kernel
theorem dX5_hours_104 : decode cX5_hours 104 = .ok (.aload_n 0, 1) := by decide +kernel
theorem dX5_hours_105 : decode cX5_hours 105 = .ok (.getfield 50, 3) := by decide +kernel
theorem dX5_hours_108 : decode cX5_hours 108 = .ok (.dup2, 1) := by decide +kernel
theorem dX5_hours_109 : decode cX5_hours 109 = .ok (.iaload, 1) := by decide +kernel
theorem dX5_hours_110 : decode cX5_hours 110 = .ok (.iload 5, 2) := by decide +kernel
theorem dX5_hours_112 : decode cX5_hours 112 = .ok (.iadd, 1) := by decide +kernel
theorem dX5_hours_113 : decode cX5_hours 113 = .ok (.iastore, 1) := by decide +kernel
theorem dX5_hours_114 : decode cX5_hours 114 = .ok (.iload_n 2, 1) := by decide +kernel
theorem dX5_hours_115 : decode cX5_hours 115 = .ok (.iload 5, 2) := by decide +kernel
theorem dX5_hours_117 : decode cX5_hours 117 = .ok (.iadd, 1) := by decide +kernel
theorem dX5_hours_118 : decode cX5_hours 118 = .ok (.istore_n 2, 1) := by decide +kernel
theorem dX5_hours_119 : decode cX5_hours 119 = .ok (.aload_n 0, 1) := by decide +kernel
theorem dX5_hours_120 : decode cX5_hours 120 = .ok (.getfield 62, 3) := by decide +kernel
theorem dX5_hours_123 : decode cX5_hours 123 = .ok (.aload_n 0, 1) := by decide +kernel
theorem dX5_hours_124 : decode cX5_hours 124 = .ok (.getfield 50, 3) := by decide +kernel
theorem dX5_hours_127 : decode cX5_hours 127 = .ok (.aload_n 0, 1) := by decide +kernel
theorem dX5_hours_128 : decode cX5_hours 128 = .ok (.aload_n 0, 1) := by decide +kernel
theorem dX5_hours_129 : decode cX5_hours 129 = .ok (.getfield 50, 3) := by decide +kernel
theorem dX5_hours_132 : decode cX5_hours 132 = .ok (.invokevirtual 125, 3) := by decide +kernel
theorem dX5_hours_135 : decode cX5_hours 135 = .ok (.iastore, 1) := by decide +kernel
theorem dX5_hours_136 : decode cX5_hours 136 = .ok (.iinc 3 1, 3) := by decide +kernel
theorem dX5_hours_139 : decode cX5_hours 139 = .ok (.goto (-127), 3) := by decide +kernel
theorem dX5_hours_142 : decode cX5_hours 142 = .ok (.iload_n 2, 1) := by decide +kernel
theorem dX5_hours_143 : decode cX5_hours 143 = .ok (.ireturn, 1) := by decide +kernel
set_option maxRecDepth 20000 in
theorem ggX5_smellOf_X3_isThere : GoodIn wsX5_smellOf wsX3_isThere := goodIn_r _ [8, 9, 10, 46, 47, 48, 49] (by decide +kernel) (by decide +kernel)
set_option maxRecDepth 20000 in
theorem gX5_smellOf_X3_isThere : GoodIn wsX5_smellOf (wsV RX5 134 RX3 yX3_isThere wsX3_isThere) := goodIn_app (goodIn_of _ (by decide +kernel)) ggX5_smellOf_X3_isThere
set_option maxRecDepth 20000 in
theorem ggX5_smellOf_X3_value : GoodIn wsX5_smellOf wsX3_value := goodIn_r _ [14, 9, 10, 15, 16, 17, 18, 19, 20, 21, 22, 23, 24, 7, 25, 26, 27, 28, 46, 47, 48, 49] (by decide +kernel) (by decide +kernel)
set_option maxRecDepth 20000 in
theorem gX5_smellOf_X3_value : GoodIn wsX5_smellOf (wsV RX5 138 RX3 yX3_value wsX3_value) := goodIn_app (goodIn_of _ (by decide +kernel)) ggX5_smellOf_X3_value
theorem dX5_smellOf_0 : decode cX5_smellOf 0 = .ok (.aload_n 0, 1) := by decide +kernel
theorem dX5_smellOf_1 : decode cX5_smellOf 1 = .ok (.getfield 43, 3) := by decide +kernel
theorem dX5_smellOf_4 : decode cX5_smellOf 4 = .ok (.invokevirtual 134, 3) := by decide +kernel
theorem dX5_smellOf_7 : decode cX5_smellOf 7 = .ok (.ifCond .eq 24, 3) := by decide +kernel
theorem dX5_smellOf_10 : decode cX5_smellOf 10 = .ok (.aload_n 0, 1) := by decide +kernel
theorem dX5_smellOf_11 : decode cX5_smellOf 11 = .ok (.getfield 43, 3) := by decide +kernel
theorem dX5_smellOf_14 : decode cX5_smellOf 14 = .ok (.aload_n 0, 1) := by decide +kernel
theorem dX5_smellOf_15 : decode cX5_smellOf 15 = .ok (.getfield 15, 3) := by decide +kernel
theorem dX5_smellOf_18 : decode cX5_smellOf 18 = .ok (.iload_n 1, 1) := by decide +kernel
theorem dX5_smellOf_19 : decode cX5_smellOf 19 = .ok (.iaload, 1) := by decide +kernel
theorem dX5_smellOf_20 : decode cX5_smellOf 20 = .ok (.iload_n 1, 1) := by decide +kernel
theorem dX5_smellOf_21 : decode cX5_smellOf 21 = .ok (.aload_n 0, 1) := by decide +kernel
theorem dX5_smellOf_22 : decode cX5_smellOf 22 = .ok (.getfield 53, 3) := by decide +kernel
theorem dX5_smellOf_25 : decode cX5_smellOf 25 = .ok (.invokevirtual 138, 3) := by decide +kernel
theorem dX5_smellOf_28 : decode cX5_smellOf 28 = .ok (.goto 9, 3) := by decide +kernel
theorem dX5_smellOf_31 : decode cX5_smellOf 31 = .ok (.aload_n 0, 1) := by decide +kernel
theorem dX5_smellOf_32 : decode cX5_smellOf 32 = .ok (.getfield 15, 3) := by decide +kernel
theorem dX5_smellOf_35 : decode cX5_smellOf 35 = .ok (.iload_n 1, 1) := by decide +kernel
theorem dX5_smellOf_36 : decode cX5_smellOf 36 = .ok (.iaload, 1) := by decide +kernel
theorem dX5_smellOf_37 : decode cX5_smellOf 37 = .ok (.ireturn, 1) := by decide +kernel
theorem dX5_bestSmell_0 : decode cX5_bestSmell 0 = .ok (.iconst (-1), 1) := by decide +kernel
theorem dX5_bestSmell_1 : decode cX5_bestSmell 1 = .ok (.istore_n 1, 1) := by decide +kernel
theorem dX5_bestSmell_2 : decode cX5_bestSmell 2 = .ok (.iconst 0, 1) := by decide +kernel
theorem dX5_bestSmell_3 : decode cX5_bestSmell 3 = .ok (.istore_n 2, 1) := by decide +kernel
theorem dX5_bestSmell_4 : decode cX5_bestSmell 4 = .ok (.iload_n 2, 1) := by decide +kernel
theorem dX5_bestSmell_5 : decode cX5_bestSmell 5 = .ok (.bipush 16, 2) := by decide +kernel
theorem dX5_bestSmell_7 : decode cX5_bestSmell 7 = .ok (.if_icmp .ge 67, 3) := by decide +kernel
theorem dX5_bestSmell_10 : decode cX5_bestSmell 10 = .ok (.iload_n 2, 1) := by decide +kernel
theorem dX5_bestSmell_11 : decode cX5_bestSmell 11 = .ok (.iconst 4, 1) := by decide +kernel
theorem dX5_bestSmell_12 : decode cX5_bestSmell 12 = .ok (.idiv, 1) := by decide +kernel
theorem dX5_bestSmell_13 : decode cX5_bestSmell 13 = .ok (.aload_n 0, 1) := by decide +kernel
theorem dX5_bestSmell_14 : decode cX5_bestSmell 14 = .ok (.getfield 50, 3) := by decide +kernel
theorem dX5_bestSmell_17 : decode cX5_bestSmell 17 = .ok (.iconst 4, 1) := by decide +kernel
theorem dX5_bestSmell_18 : decode cX5_bestSmell 18 = .ok (.idiv, 1) := by decide +kernel
theorem dX5_bestSmell_19 : decode cX5_bestSmell 19 = .ok (.isub, 1) := by decide +kernel
theorem dX5_bestSmell_20 : decode cX5_bestSmell 20 = .ok (.invokestatic 142, 3) := by decide +kernel
theorem dX5_bestSmell_23 : decode cX5_bestSmell 23 = .ok (.istore_n 3, 1) := by decide +kernel
theorem dX5_bestSmell_24 : decode cX5_bestSmell 24 = .ok (.iload_n 2, 1) := by decide +kernel
theorem dX5_bestSmell_25 : decode cX5_bestSmell 25 = .ok (.iconst 4, 1) := by decide +kernel
theorem dX5_bestSmell_26 : decode cX5_bestSmell 26 = .ok (.irem, 1) := by decide +kernel
theorem dX5_bestSmell_27 : decode cX5_bestSmell 27 = .ok (.aload_n 0, 1) := by decide +kernel
theorem dX5_bestSmell_28 : decode cX5_bestSmell 28 = .ok (.getfield 50, 3) := by decide +kernel
theorem dX5_bestSmell_31 : decode cX5_bestSmell 31 = .ok (.iconst 4, 1) := by decide +kernel
theorem dX5_bestSmell_32 : decode cX5_bestSmell 32 = .ok (.irem, 1) := by decide +kernel
theorem dX5_bestSmell_33 : decode cX5_bestSmell 33 = .ok (.isub, 1) := by decide +kernel
theorem dX5_bestSmell_34 : decode cX5_bestSmell 34 = .ok (.invokestatic 142, 3) := by decide +kernel
theorem dX5_bestSmell_37 : decode cX5_bestSmell 37 = .ok (.istore 4, 2) := by decide +kernel
theorem dX5_bestSmell_39 : decode cX5_bestSmell 39 = .ok (.iload_n 3, 1) := by decide +kernel
theorem dX5_bestSmell_40 : decode cX5_bestSmell 40 = .ok (.iload 4, 2) := by decide +kernel
theorem dX5_bestSmell_42 : decode cX5_bestSmell 42 = .ok (.iadd, 1) := by decide +kernel
theorem dX5_bestSmell_43 : decode cX5_bestSmell 43 = .ok (.iconst 1, 1) := by decide +kernel
theorem dX5_bestSmell_44 : decode cX5_bestSmell 44 = .ok (.if_icmp .gt 24, 3) := by decide +kernel
theorem dX5_bestSmell_47 : decode cX5_bestSmell 47 = .ok (.iload_n 1, 1) := by decide +kernel
theorem dX5_bestSmell_48 : decode cX5_bestSmell 48 = .ok (.ifCond .lt 18, 3) := by decide +kernel
theorem dX5_bestSmell_51 : decode cX5_bestSmell 51 = .ok (.aload_n 0, 1) := by decide +kernel
theorem dX5_bestSmell_52 : decode cX5_bestSmell 52 = .ok (.getfield 62, 3) := by decide +kernel
theorem dX5_bestSmell_55 : decode cX5_bestSmell 55 = .ok (.iload_n 2, 1) := by decide +kernel
theorem dX5_bestSmell_56 : decode cX5_bestSmell 56 = .ok (.iaload, 1) := by decide +kernel
theorem dX5_bestSmell_57 : decode cX5_bestSmell 57 = .ok (.aload_n 0, 1) := by decide +kernel
theorem dX5_bestSmell_58 : decode cX5_bestSmell 58 = .ok (.getfield 62, 3) := by decide +kernel
theorem dX5_bestSmell_61 : decode cX5_bestSmell 61 = .ok (.iload_n 1, 1) := by decide +kernel
theorem dX5_bestSmell_62 : decode cX5_bestSmell 62 = .ok (.iaload, 1) := by decide +kernel
theorem dX5_bestSmell_63 : decode cX5_bestSmell 63 = .ok (.if_icmp .le 5, 3) := by decide +kernel
theorem dX5_bestSmell_66 : decode cX5_bestSmell 66 = .ok (.iload_n 2, 1) := by decide +kernel
theorem dX5_bestSmell_67 : decode cX5_bestSmell 67 = .ok (.istore_n 1, 1) := by decide +kernel
theorem dX5_bestSmell_68 : decode cX5_bestSmell 68 = .ok (.iinc 2 1, 3) := by decide +kernel
theorem dX5_bestSmell_71 : decode cX5_bestSmell 71 = .ok (.goto (-67), 3) := by decide +kernel
theorem dX5_bestSmell_74 : decode cX5_bestSmell 74 = .ok (.iload_n 1, 1) := by decide +kernel
theorem dX5_bestSmell_75 : decode cX5_bestSmell 75 = .ok (.ifCond .ge 10, 3) := by decide +kernel
theorem dX5_bestSmell_78 : decode cX5_bestSmell 78 = .ok (.aload_n 0, 1) := by decide +kernel
theorem dX5_bestSmell_79 : decode cX5_bestSmell 79 = .ok (.getfield 50, 3) := by decide +kernel
theorem dX5_bestSmell_82 : decode cX5_bestSmell 82 = .ok (.goto 4, 3) := by decide +kernel
theorem dX5_bestSmell_85 : decode cX5_bestSmell 85 = .ok (.iload_n 1, 1) := by decide +kernel
theorem dX5_bestSmell_86 : decode cX5_bestSmell 86 = .ok (.ireturn, 1) := by decide +kernel
set_option maxRecDepth 20000 in
theorem ggX5_partOut_X5_toPurse : GoodIn wsX5_partOut wsX5_toPurse := goodIn_r _ [13, 14, 4, 5, 6, 7, 8, 15, 16, 17, 18, 19, 20, 21, 22, 23, 24, 25, 26, 27, 28, 29, 30, 31] (by decide +kernel) (by decide +kernel)
set_option maxRecDepth 20000 in
theorem gX5_partOut_X5_toPurse : GoodIn wsX5_partOut (wsV RX5 145 RX5 yX5_toPurse wsX5_toPurse) := goodIn_app (goodIn_of _ (by decide +kernel)) ggX5_partOut_X5_toPurse
theorem dX5_partOut_0 : decode cX5_partOut 0 = .ok (.aload_n 0, 1) := by decide +kernel
theorem dX5_partOut_1 : decode cX5_partOut 1 = .ok (.getfield 18, 3) := by decide +kernel
theorem dX5_partOut_4 : decode cX5_partOut 4 = .ok (.iload_n 1, 1) := by decide +kernel
theorem dX5_partOut_5 : decode cX5_partOut 5 = .ok (.iaload, 1) := by decide +kernel
theorem dX5_partOut_6 : decode cX5_partOut 6 = .ok (.iconst 3, 1) := by decide +kernel
theorem dX5_partOut_7 : decode cX5_partOut 7 = .ok (.if_icmp .ne 17, 3) := by decide +kernel
theorem dX5_partOut_10 : decode cX5_partOut 10 = .ok (.iload_n 2, 1) := by decide +kernel
theorem dX5_partOut_11 : decode cX5_partOut 11 = .ok (.aload_n 0, 1) := by decide +kernel
theorem dX5_partOut_12 : decode cX5_partOut 12 = .ok (.getfield 21, 3) := by decide +kernel
theorem dX5_partOut_15 : decode cX5_partOut 15 = .ok (.iload_n 1, 1) := by decide +kernel
theorem dX5_partOut_16 : decode cX5_partOut 16 = .ok (.iaload, 1) := by decide +kernel
theorem dX5_partOut_17 : decode cX5_partOut 17 = .ok (.imul, 1) := by decide +kernel
theorem dX5_partOut_18 : decode cX5_partOut 18 = .ok (.bipush 9, 2) := by decide +kernel
theorem dX5_partOut_20 : decode cX5_partOut 20 = .ok (.idiv, 1) := by decide +kernel
theorem dX5_partOut_21 : decode cX5_partOut 21 = .ok (.goto 4, 3) := by decide +kernel
theorem dX5_partOut_24 : decode cX5_partOut 24 = .ok (.iconst 0, 1) := by decide +kernel
theorem dX5_partOut_25 : decode cX5_partOut 25 = .ok (.istore_n 3, 1) := by decide +kernel
theorem dX5_partOut_26 : decode cX5_partOut 26 = .ok (.iload_n 2, 1) := by decide +kernel
theorem dX5_partOut_27 : decode cX5_partOut 27 = .ok (.iload_n 3, 1) := by decide +kernel
theorem dX5_partOut_28 : decode cX5_partOut 28 = .ok (.isub, 1) := by decide +kernel
theorem dX5_partOut_29 : decode cX5_partOut 29 = .ok (.istore 4, 2) := by decide +kernel
theorem dX5_partOut_31 : decode cX5_partOut 31 = .ok (.iload 4, 2) := by decide +kernel
theorem dX5_partOut_33 : decode cX5_partOut 33 = .ok (.bipush 9, 2) := by decide +kernel
theorem dX5_partOut_35 : decode cX5_partOut 35 = .ok (.idiv, 1) := by decide +kernel
theorem dX5_partOut_36 : decode cX5_partOut 36 = .ok (.istore 5, 2) := by decide +kernel
theorem dX5_partOut_38 : decode cX5_partOut 38 = .ok (.iconst 0, 1) := by decide +kernel
theorem dX5_partOut_39 : decode cX5_partOut 39 = .ok (.istore 6, 2) := by decide +kernel
theorem dX5_partOut_41 : decode cX5_partOut 41 = .ok (.iload 6, 2) := by decide +kernel
theorem dX5_partOut_43 : decode cX5_partOut 43 = .ok (.bipush 9, 2) := by decide +kernel
theorem dX5_partOut_45 : decode cX5_partOut 45 = .ok (.if_icmp .ge 17, 3) := by decide +kernel
theorem dX5_partOut_48 : decode cX5_partOut 48 = .ok (.aload_n 0, 1) := by decide +kernel
theorem dX5_partOut_49 : decode cX5_partOut 49 = .ok (.iload 6, 2) := by decide +kernel
theorem dX5_partOut_51 : decode cX5_partOut 51 = .ok (.iload 5, 2) := by decide +kernel
theorem dX5_partOut_53 : decode cX5_partOut 53 = .ok (.invokevirtual 145, 3) := by decide +kernel
theorem dX5_partOut_56 : decode cX5_partOut 56 = .ok (.iinc 6 1, 3) := by decide +kernel
theorem dX5_partOut_59 : decode cX5_partOut 59 = .ok (.goto (-18), 3) := by decide +kernel
theorem dX5_partOut_62 : decode cX5_partOut 62 = .ok (.aload_n 0, 1) := by decide +kernel
theorem dX5_partOut_63 : decode cX5_partOut 63 = .ok (.iload_n 1, 1) := by decide +kernel
theorem dX5_partOut_64 : decode cX5_partOut 64 = .ok (.iload_n 3, 1) := by decide +kernel
theorem dX5_partOut_65 : decode cX5_partOut 65 = .ok (.iload 4, 2) := by decide +kernel
theorem dX5_partOut_67 : decode cX5_partOut 67 = .ok (.bipush 9, 2) := by decide +kernel
theorem dX5_partOut_69 : decode cX5_partOut 69 = .ok (.irem, 1) := by decide +kernel
theorem dX5_partOut_70 : decode cX5_partOut 70 = .ok (.iadd, 1) := by decide +kernel
theorem dX5_partOut_71 : decode cX5_partOut 71 = .ok (.invokevirtual 145, 3) := by decide +kernel
theorem dX5_partOut_74 : decode cX5_partOut 74 = .ok (.aload_n 0, 1) := by decide +kernel
theorem dX5_partOut_75 : decode cX5_partOut 75 = .ok (.getfield 27, 3) := by decide +kernel
theorem dX5_partOut_78 : decode cX5_partOut 78 = .ok (.iload_n 1, 1) := by decide +kernel
theorem dX5_partOut_79 : decode cX5_partOut 79 = .ok (.ldc 148, 2) := by decide +kernel
theorem dX5_partOut_81 : decode cX5_partOut 81 = .ok (.aload_n 0, 1) := by decide +kernel
theorem dX5_partOut_82 : decode cX5_partOut 82 = .ok (.getfield 27, 3) := by decide +kernel
theorem dX5_partOut_85 : decode cX5_partOut 85 = .ok (.iload_n 1, 1) := by decide +kernel
theorem dX5_partOut_86 : decode cX5_partOut 86 = .ok (.iaload, 1) := by decide +kernel
theorem dX5_partOut_87 : decode cX5_partOut 87 = .ok (.iload_n 3, 1) := by decide +kernel
theorem dX5_partOut_88 : decode cX5_partOut 88 = .ok (.iadd, 1) := by decide +kernel
theorem dX5_partOut_89 : decode cX5_partOut 89 = .ok (.invokestatic 120, 3) := by decide +kernel
theorem dX5_partOut_92 : decode cX5_partOut 92 = .ok (.iastore, 1) := by decide +kernel
theorem dX5_partOut_93 : decode cX5_partOut 93 = .ok (.return_, 1) := by decide +kernel
theorem dX5_toPurse_0 : decode cX5_toPurse 0 = .ok (.aload_n 0, 1) := by decide +kernel
theorem dX5_toPurse_1 : decode cX5_toPurse 1 = .ok (.getfield 24, 3) := by decide +kernel
theorem dX5_toPurse_4 : decode cX5_toPurse 4 = .ok (.iload_n 1, 1) := by decide +kernel
theorem dX5_toPurse_5 : decode cX5_toPurse 5 = .ok (.ldc 148, 2) := by decide +kernel
theorem dX5_toPurse_7 : decode cX5_toPurse 7 = .ok (.aload_n 0, 1) := by decide +kernel
theorem dX5_toPurse_8 : decode cX5_toPurse 8 = .ok (.getfield 24, 3) := by decide +kernel
theorem dX5_toPurse_11 : decode cX5_toPurse 11 = .ok (.iload_n 1, 1) := by decide +kernel
theorem dX5_toPurse_12 : decode cX5_toPurse 12 = .ok (.iaload, 1) := by decide +kernel
theorem dX5_toPurse_13 : decode cX5_toPurse 13 = .ok (.iload_n 2, 1) := by decide +kernel
theorem dX5_toPurse_14 : decode cX5_toPurse 14 = .ok (.iadd, 1) := by decide +kernel
theorem dX5_toPurse_15 : decode cX5_toPurse 15 = .ok (.invokestatic 120, 3) := by decide +kernel
theorem dX5_toPurse_18 : decode cX5_toPurse 18 = .ok (.iastore, 1) := by decide +kernel
theorem dX5_toPurse_19 : decode cX5_toPurse 19 = .ok (.return_, 1) := by decide +kernel
set_option maxRecDepth 20000 in
theorem ggX5_feedsOf_X5_held : GoodIn wsX5_feedsOf wsX5_held := goodIn_r _ [8, 9, 10, 11, 12, 13, 14, 15] (by decide +kernel) (by decide +kernel)
set_option maxRecDepth 20000 in
theorem gX5_feedsOf_X5_held : GoodIn wsX5_feedsOf (va_wsS RX5 149 yX5_held wsX5_held) := goodIn_app (goodIn_of _ (by decide +kernel)) ggX5_feedsOf_X5_held
set_option maxRecDepth 20000 in
theorem ggX5_feedsOf_X3_isThere : GoodIn wsX5_feedsOf wsX3_isThere := goodIn_r _ [20, 21, 22, 58, 59, 60, 61] (by decide +kernel) (by decide +kernel)
set_option maxRecDepth 20000 in
theorem gX5_feedsOf_X3_isThere : GoodIn wsX5_feedsOf (wsV RX5 134 RX3 yX3_isThere wsX3_isThere) := goodIn_app (goodIn_of _ (by decide +kernel)) ggX5_feedsOf_X3_isThere
set_option maxRecDepth 20000 in
theorem ggX5_feedsOf_X3_value : GoodIn wsX5_feedsOf wsX3_value := goodIn_r _ [26, 21, 22, 27, 28, 29, 30, 31, 32, 33, 34, 35, 36, 19, 37, 38, 39, 40, 58, 59, 60, 61] (by decide +kernel) (by decide +kernel)
set_option maxRecDepth 20000 in
theorem gX5_feedsOf_X3_value : GoodIn wsX5_feedsOf (wsV RX5 138 RX3 yX3_value wsX3_value) := goodIn_app (goodIn_of _ (by decide +kernel)) ggX5_feedsOf_X3_value
theorem dX5_feedsOf_0 : decode cX5_feedsOf 0 = .ok (.aload_n 0, 1) := by decide +kernel
theorem dX5_feedsOf_1 : decode cX5_feedsOf 1 = .ok (.getfield 21, 3) := by decide +kernel
theorem dX5_feedsOf_4 : decode cX5_feedsOf 4 = .ok (.iload_n 1, 1) := by decide +kernel
theorem dX5_feedsOf_5 : decode cX5_feedsOf 5 = .ok (.iaload, 1) := by decide +kernel
theorem dX5_feedsOf_6 : decode cX5_feedsOf 6 = .ok (.istore_n 3, 1) := by decide +kernel
theorem dX5_feedsOf_7 : decode cX5_feedsOf 7 = .ok (.aload_n 0, 1) := by decide +kernel
theorem dX5_feedsOf_8 : decode cX5_feedsOf 8 = .ok (.getfield 18, 3) := by decide +kernel
theorem dX5_feedsOf_11 : decode cX5_feedsOf 11 = .ok (.iload_n 1, 1) := by decide +kernel
theorem dX5_feedsOf_12 : decode cX5_feedsOf 12 = .ok (.iaload, 1) := by decide +kernel
theorem dX5_feedsOf_13 : decode cX5_feedsOf 13 = .ok (.tableswitch 110 1 6 #[39, 48, 110, 57, 68, 79], 39) := by decide +kernel
theorem dX5_feedsOf_52 : decode cX5_feedsOf 52 = .ok (.iconst 4, 1) := by decide +kernel
theorem dX5_feedsOf_53 : decode cX5_feedsOf 53 = .ok (.iload_n 3, 1) := by decide +kernel
theorem dX5_feedsOf_54 : decode cX5_feedsOf 54 = .ok (.iconst 2, 1) := by decide +kernel
theorem dX5_feedsOf_55 : decode cX5_feedsOf 55 = .ok (.idiv, 1) := by decide +kernel
theorem dX5_feedsOf_56 : decode cX5_feedsOf 56 = .ok (.isub, 1) := by decide +kernel
theorem dX5_feedsOf_57 : decode cX5_feedsOf 57 = .ok (.invokestatic 149, 3) := by decide +kernel
theorem dX5_feedsOf_60 : decode cX5_feedsOf 60 = .ok (.ireturn, 1) := by decide +kernel
theorem dX5_feedsOf_61 : decode cX5_feedsOf 61 = .ok (.iconst 4, 1) := by decide +kernel
theorem dX5_feedsOf_62 : decode cX5_feedsOf 62 = .ok (.iload_n 3, 1) := by decide +kernel
theorem dX5_feedsOf_63 : decode cX5_feedsOf 63 = .ok (.iconst 2, 1) := by decide +kernel
theorem dX5_feedsOf_64 : decode cX5_feedsOf 64 = .ok (.idiv, 1) := by decide +kernel
theorem dX5_feedsOf_65 : decode cX5_feedsOf 65 = .ok (.iadd, 1) := by decide +kernel
theorem dX5_feedsOf_66 : decode cX5_feedsOf 66 = .ok (.invokestatic 149, 3) := by decide +kernel
theorem dX5_feedsOf_69 : decode cX5_feedsOf 69 = .ok (.ireturn, 1) := by decide +kernel
theorem dX5_feedsOf_70 : decode cX5_feedsOf 70 = .ok (.iconst 4, 1) := by decide +kernel
theorem dX5_feedsOf_71 : decode cX5_feedsOf 71 = .ok (.iload_n 3, 1) := by decide +kernel
theorem dX5_feedsOf_72 : decode cX5_feedsOf 72 = .ok (.iconst 2, 1) := by decide +kernel
theorem dX5_feedsOf_73 : decode cX5_feedsOf 73 = .ok (.idiv, 1) := by decide +kernel
theorem dX5_feedsOf_74 : decode cX5_feedsOf 74 = .ok (.isub, 1) := by decide +kernel
theorem dX5_feedsOf_75 : decode cX5_feedsOf 75 = .ok (.iconst 2, 1) := by decide +kernel
theorem dX5_feedsOf_76 : decode cX5_feedsOf 76 = .ok (.isub, 1) := by decide +kernel
theorem dX5_feedsOf_77 : decode cX5_feedsOf 77 = .ok (.invokestatic 149, 3) := by decide +kernel
theorem dX5_feedsOf_80 : decode cX5_feedsOf 80 = .ok (.ireturn, 1) := by decide +kernel
theorem dX5_feedsOf_81 : decode cX5_feedsOf 81 = .ok (.iconst 2, 1) := by decide +kernel
theorem dX5_feedsOf_82 : decode cX5_feedsOf 82 = .ok (.iconst 4, 1) := by decide +kernel
theorem dX5_feedsOf_83 : decode cX5_feedsOf 83 = .ok (.iload_n 3, 1) := by decide +kernel
theorem dX5_feedsOf_84 : decode cX5_feedsOf 84 = .ok (.iconst 2, 1) := by decide +kernel
theorem dX5_feedsOf_85 : decode cX5_feedsOf 85 = .ok (.idiv, 1) := by decide +kernel
theorem dX5_feedsOf_86 : decode cX5_feedsOf 86 = .ok (.iadd, 1) := by decide +kernel
theorem dX5_feedsOf_87 : decode cX5_feedsOf 87 = .ok (.imul, 1) := by decide +kernel
theorem dX5_feedsOf_88 : decode cX5_feedsOf 88 = .ok (.invokestatic 149, 3) := by decide +kernel
theorem dX5_feedsOf_91 : decode cX5_feedsOf 91 = .ok (.ireturn, 1) := by decide +kernel
theorem dX5_feedsOf_92 : decode cX5_feedsOf 92 = .ok (.aload_n 0, 1) := by decide +kernel
theorem dX5_feedsOf_93 : decode cX5_feedsOf 93 = .ok (.getfield 39, 3) := by decide +kernel
theorem dX5_feedsOf_96 : decode cX5_feedsOf 96 = .ok (.invokevirtual 134, 3) := by decide +kernel
theorem dX5_feedsOf_99 : decode cX5_feedsOf 99 = .ok (.ifCond .eq 22, 3) := by decide +kernel
theorem dX5_feedsOf_102 : decode cX5_feedsOf 102 = .ok (.aload_n 0, 1) := by decide +kernel
theorem dX5_feedsOf_103 : decode cX5_feedsOf 103 = .ok (.getfield 39, 3) := by decide +kernel
theorem dX5_feedsOf_106 : decode cX5_feedsOf 106 = .ok (.iload_n 2, 1) := by decide +kernel
theorem dX5_feedsOf_107 : decode cX5_feedsOf 107 = .ok (.aload_n 0, 1) := by decide +kernel
theorem dX5_feedsOf_108 : decode cX5_feedsOf 108 = .ok (.getfield 53, 3) := by decide +kernel
theorem dX5_feedsOf_111 : decode cX5_feedsOf 111 = .ok (.iload_n 3, 1) := by decide +kernel
theorem dX5_feedsOf_112 : decode cX5_feedsOf 112 = .ok (.invokevirtual 138, 3) := by decide +kernel
theorem dX5_feedsOf_115 : decode cX5_feedsOf 115 = .ok (.invokestatic 149, 3) := by decide +kernel
theorem dX5_feedsOf_118 : decode cX5_feedsOf 118 = .ok (.goto 4, 3) := by decide +kernel
theorem dX5_feedsOf_121 : decode cX5_feedsOf 121 = .ok (.iconst 4, 1) := by decide +kernel
theorem dX5_feedsOf_122 : decode cX5_feedsOf 122 = .ok (.ireturn, 1) := by decide +kernel
theorem dX5_feedsOf_123 : decode cX5_feedsOf 123 = .ok (.iconst 4, 1) := by decide +kernel
theorem dX5_feedsOf_124 : decode cX5_feedsOf 124 = .ok (.ireturn, 1) := by decide +kernel
theorem dX5_held_0 : decode cX5_held 0 = .ok (.iconst 0, 1) := by decide +kernel
theorem dX5_held_1 : decode cX5_held 1 = .ok (.bipush 9, 2) := by decide +kernel
theorem dX5_held_3 : decode cX5_held 3 = .ok (.iload_n 0, 1) := by decide +kernel
theorem dX5_held_4 : decode cX5_held 4 = .ok (.invokestatic 120, 3) := by decide +kernel
theorem dX5_held_7 : decode cX5_held 7 = .ok (.invokestatic 152, 3) := by decide +kernel
theorem dX5_held_10 : decode cX5_held 10 = .ok (.ireturn, 1) := by decide +kernel
theorem dX5_within4_0 : decode cX5_within4 0 = .ok (.iconst 0, 1) := by decide +kernel
theorem dX5_within4_1 : decode cX5_within4 1 = .ok (.iconst 3, 1) := by decide +kernel
theorem dX5_within4_2 : decode cX5_within4 2 = .ok (.iload_n 0, 1) := by decide +kernel
theorem dX5_within4_3 : decode cX5_within4 3 = .ok (.invokestatic 120, 3) := by decide +kernel
theorem dX5_within4_6 : decode cX5_within4 6 = .ok (.invokestatic 152, 3) := by decide +kernel
theorem dX5_within4_9 : decode cX5_within4 9 = .ok (.ireturn, 1) := by decide +kernel
theorem dX5_beside_0 : decode cX5_beside 0 = .ok (.iload_n 1, 1) := by decide +kernel
theorem dX5_beside_1 : decode cX5_beside 1 = .ok (.tableswitch 87 0 3 #[31, 44, 59, 73], 31) := by decide +kernel
theorem dX5_beside_32 : decode cX5_beside 32 = .ok (.iload_n 0, 1) := by decide +kernel
theorem dX5_beside_33 : decode cX5_beside 33 = .ok (.iconst 4, 1) := by decide +kernel
theorem dX5_beside_34 : decode cX5_beside 34 = .ok (.if_icmp .lt 9, 3) := by decide +kernel
theorem dX5_beside_37 : decode cX5_beside 37 = .ok (.iload_n 0, 1) := by decide +kernel
theorem dX5_beside_38 : decode cX5_beside 38 = .ok (.iconst 4, 1) := by decide +kernel
theorem dX5_beside_39 : decode cX5_beside 39 = .ok (.isub, 1) := by decide +kernel
theorem dX5_beside_40 : decode cX5_beside 40 = .ok (.goto 4, 3) := by decide +kernel
theorem dX5_beside_43 : decode cX5_beside 43 = .ok (.iconst (-1), 1) := by decide +kernel
theorem dX5_beside_44 : decode cX5_beside 44 = .ok (.ireturn, 1) := by decide +kernel
theorem dX5_beside_45 : decode cX5_beside 45 = .ok (.iload_n 0, 1) := by decide +kernel
theorem dX5_beside_46 : decode cX5_beside 46 = .ok (.iconst 4, 1) := by decide +kernel
theorem dX5_beside_47 : decode cX5_beside 47 = .ok (.irem, 1) := by decide +kernel
theorem dX5_beside_48 : decode cX5_beside 48 = .ok (.iconst 3, 1) := by decide +kernel
theorem dX5_beside_49 : decode cX5_beside 49 = .ok (.if_icmp .ge 9, 3) := by decide +kernel
theorem dX5_beside_52 : decode cX5_beside 52 = .ok (.iload_n 0, 1) := by decide +kernel
theorem dX5_beside_53 : decode cX5_beside 53 = .ok (.iconst 1, 1) := by decide +kernel
theorem dX5_beside_54 : decode cX5_beside 54 = .ok (.iadd, 1) := by decide +kernel
theorem dX5_beside_55 : decode cX5_beside 55 = .ok (.goto 4, 3) := by decide +kernel
theorem dX5_beside_58 : decode cX5_beside 58 = .ok (.iconst (-1), 1) := by decide +kernel
theorem dX5_beside_59 : decode cX5_beside 59 = .ok (.ireturn, 1) := by decide +kernel
theorem dX5_beside_60 : decode cX5_beside 60 = .ok (.iload_n 0, 1) := by decide +kernel
theorem dX5_beside_61 : decode cX5_beside 61 = .ok (.bipush 12, 2) := by decide +kernel
theorem dX5_beside_63 : decode cX5_beside 63 = .ok (.if_icmp .ge 9, 3) := by decide +kernel
theorem dX5_beside_66 : decode cX5_beside 66 = .ok (.iload_n 0, 1) := by decide +kernel
theorem dX5_beside_67 : decode cX5_beside 67 = .ok (.iconst 4, 1) := by decide +kernel
theorem dX5_beside_68 : decode cX5_beside 68 = .ok (.iadd, 1) := by decide +kernel
theorem dX5_beside_69 : decode cX5_beside 69 = .ok (.goto 4, 3) := by decide +kernel
theorem dX5_beside_72 : decode cX5_beside 72 = .ok (.iconst (-1), 1) := by decide +kernel
theorem dX5_beside_73 : decode cX5_beside 73 = .ok (.ireturn, 1) := by decide +kernel
theorem dX5_beside_74 : decode cX5_beside 74 = .ok (.iload_n 0, 1) := by decide +kernel
theorem dX5_beside_75 : decode cX5_beside 75 = .ok (.iconst 4, 1) := by decide +kernel
theorem dX5_beside_76 : decode cX5_beside 76 = .ok (.irem, 1) := by decide +kernel
theorem dX5_beside_77 : decode cX5_beside 77 = .ok (.ifCond .le 9, 3) := by decide +kernel
theorem dX5_beside_80 : decode cX5_beside 80 = .ok (.iload_n 0, 1) := by decide +kernel
theorem dX5_beside_81 : decode cX5_beside 81 = .ok (.iconst 1, 1) := by decide +kernel
theorem dX5_beside_82 : decode cX5_beside 82 = .ok (.isub, 1) := by decide +kernel
theorem dX5_beside_83 : decode cX5_beside 83 = .ok (.goto 4, 3) := by decide +kernel
theorem dX5_beside_86 : decode cX5_beside 86 = .ok (.iconst (-1), 1) := by decide +kernel
theorem dX5_beside_87 : decode cX5_beside 87 = .ok (.ireturn, 1) := by decide +kernel
theorem dX5_beside_88 : decode cX5_beside 88 = .ok (.iconst (-1), 1) := by decide +kernel
theorem dX5_beside_89 : decode cX5_beside 89 = .ok (.ireturn, 1) := by decide +kernel
