theorem dX5_same_0 : decode cX5_same 0 = .ok (.iconst (-1), 1) := by decide +kernel
theorem dX5_same_1 : decode cX5_same 1 = .ok (.istore_n 2, 1) := by decide +kernel
theorem dX5_same_2 : decode cX5_same 2 = .ok (.aload_n 0, 1) := by decide +kernel
theorem dX5_same_3 : decode cX5_same 3 = .ok (.getfield 7, 3) := by decide +kernel
theorem dX5_same_6 : decode cX5_same 6 = .ok (.iconst 0, 1) := by decide +kernel
theorem dX5_same_7 : decode cX5_same 7 = .ok (.iaload, 1) := by decide +kernel
theorem dX5_same_8 : decode cX5_same 8 = .ok (.iconst 2, 1) := by decide +kernel
theorem dX5_same_9 : decode cX5_same 9 = .ok (.idiv, 1) := by decide +kernel
theorem dX5_same_10 : decode cX5_same 10 = .ok (.istore_n 3, 1) := by decide +kernel
theorem dX5_same_11 : decode cX5_same 11 = .ok (.iload_n 3, 1) := by decide +kernel
theorem dX5_same_12 : decode cX5_same 12 = .ok (.bipush 16, 2) := by decide +kernel
theorem dX5_same_14 : decode cX5_same 14 = .ok (.isub, 1) := by decide +kernel
theorem dX5_same_15 : decode cX5_same 15 = .ok (.iconst 1, 1) := by decide +kernel
theorem dX5_same_16 : decode cX5_same 16 = .ok (.iadd, 1) := by decide +kernel
theorem dX5_same_17 : decode cX5_same 17 = .ok (.istore 4, 2) := by decide +kernel
theorem dX5_same_19 : decode cX5_same 19 = .ok (.iload 4, 2) := by decide +kernel
theorem dX5_same_21 : decode cX5_same 21 = .ok (.iload_n 3, 1) := by decide +kernel
theorem dX5_same_22 : decode cX5_same 22 = .ok (.if_icmp .gt 86, 3) := by decide +kernel
theorem dX5_same_25 : decode cX5_same 25 = .ok (.aload_n 0, 1) := by decide +kernel
theorem dX5_same_26 : decode cX5_same 26 = .ok (.iload 4, 2) := by decide +kernel
theorem dX5_same_28 : decode cX5_same 28 = .ok (.invokevirtual 77, 3) := by decide +kernel
theorem dX5_same_31 : decode cX5_same 31 = .ok (.istore 5, 2) := by decide +kernel
theorem dX5_same_33 : decode cX5_same 33 = .ok (.iconst 0, 1) := by decide +kernel
theorem dX5_same_34 : decode cX5_same 34 = .ok (.istore 6, 2) := by decide +kernel
theorem dX5_same_36 : decode cX5_same 36 = .ok (.iload 6, 2) := by decide +kernel
theorem dX5_same_38 : decode cX5_same 38 = .ok (.iconst 5, 1) := by decide +kernel
theorem dX5_same_39 : decode cX5_same 39 = .ok (.if_icmp .ge 51, 3) := by decide +kernel
theorem dX5_same_42 : decode cX5_same 42 = .ok (.iload 5, 2) := by decide +kernel
theorem dX5_same_44 : decode cX5_same 44 = .ok (.ifCond .eq 46, 3) := by decide +kernel
theorem dX5_same_47 : decode cX5_same 47 = .ok (.aload_n 0, 1) := by decide +kernel
theorem dX5_same_48 : decode cX5_same 48 = .ok (.getfield 7, 3) := by decide +kernel
theorem dX5_same_51 : decode cX5_same 51 = .ok (.iload_n 1, 1) := by decide +kernel
theorem dX5_same_52 : decode cX5_same 52 = .ok (.iload 6, 2) := by decide +kernel
theorem dX5_same_54 : decode cX5_same 54 = .ok (.iadd, 1) := by decide +kernel
theorem dX5_same_55 : decode cX5_same 55 = .ok (.iaload, 1) := by decide +kernel
theorem dX5_same_56 : decode cX5_same 56 = .ok (.aload_n 0, 1) := by decide +kernel
theorem dX5_same_57 : decode cX5_same 57 = .ok (.getfield 7, 3) := by decide +kernel
theorem dX5_same_60 : decode cX5_same 60 = .ok (.bipush 83, 2) := by decide +kernel
theorem dX5_same_62 : decode cX5_same 62 = .ok (.iconst 5, 1) := by decide +kernel
theorem dX5_same_63 : decode cX5_same 63 = .ok (.iload 4, 2) := by decide +kernel
theorem dX5_same_65 : decode cX5_same 65 = .ok (.bipush 16, 2) := by decide +kernel
theorem dX5_same_67 : decode cX5_same 67 = .ok (.irem, 1) := by decide +kernel
theorem dX5_same_68 : decode cX5_same 68 = .ok (.imul, 1) := by decide +kernel
theorem dX5_same_69 : decode cX5_same 69 = .ok (.iadd, 1) := by decide +kernel
theorem dX5_same_70 : decode cX5_same 70 = .ok (.iload 6, 2) := by decide +kernel
theorem dX5_same_72 : decode cX5_same 72 = .ok (.iadd, 1) := by decide +kernel
theorem dX5_same_73 : decode cX5_same 73 = .ok (.iaload, 1) := by decide +kernel
theorem dX5_same_74 : decode cX5_same 74 = .ok (.if_icmp .ne 7, 3) := by decide +kernel
theorem dX5_same_77 : decode cX5_same 77 = .ok (.iconst 1, 1) := by decide +kernel
theorem dX5_same_78 : decode cX5_same 78 = .ok (.goto 4, 3) := by decide +kernel
theorem dX5_same_81 : decode cX5_same 81 = .ok (.iconst 0, 1) := by decide +kernel
theorem dX5_same_82 : decode cX5_same 82 = .ok (.istore 5, 2) := by decide +kernel
theorem dX5_same_84 : decode cX5_same 84 = .ok (.iinc 6 1, 3) := by decide +kernel
theorem dX5_same_87 : decode cX5_same 87 = .ok (.goto (-51), 3) := by decide +kernel
theorem dX5_same_90 : decode cX5_same 90 = .ok (.iload 5, 2) := by decide +kernel
theorem dX5_same_92 : decode cX5_same 92 = .ok (.ifCond .eq 8, 3) := by decide +kernel
theorem dX5_same_95 : decode cX5_same 95 = .ok (.iload 4, 2) := by decide +kernel
theorem dX5_same_97 : decode cX5_same 97 = .ok (.goto 4, 3) := by decide +kernel
theorem dX5_same_100 : decode cX5_same 100 = .ok (.iload_n 2, 1) := by decide +kernel
theorem dX5_same_101 : decode cX5_same 101 = .ok (.istore_n 2, 1) := by decide +kernel
theorem dX5_same_102 : decode cX5_same 102 = .ok (.iinc 4 1, 3) := by decide +kernel
theorem dX5_same_105 : decode cX5_same 105 = .ok (.goto (-86), 3) := by decide +kernel
theorem dX5_same_108 : decode cX5_same 108 = .ok (.iload_n 2, 1) := by decide +kernel
theorem dX5_same_109 : decode cX5_same 109 = .ok (.ireturn, 1) := by decide +kernel
set_option maxRecDepth 20000 in
theorem ggX5_looks_X5_failsTry : GoodIn wsX5_looks wsX5_failsTry := goodIn_r _ [6, 1, 18, 19, 20, 21, 22, 23, 24, 25, 26, 27] (by decide +kernel) (by decide +kernel)
set_option maxRecDepth 20000 in
theorem gX5_looks_X5_failsTry : GoodIn wsX5_looks (wsV RX5 67 RX5 yX5_failsTry wsX5_failsTry) := goodIn_app (goodIn_of _ (by decide +kernel)) ggX5_looks_X5_failsTry
set_option maxRecDepth 20000 in
theorem ggX5_looks_X5_same : GoodIn wsX5_looks wsX5_same := goodIn_r _ [10, 1, 11, 12, 13, 5, 14, 15, 16, 17, 18, 19, 20, 21, 22, 23, 24, 25, 26, 27] (by decide +kernel) (by decide +kernel)
set_option maxRecDepth 20000 in
theorem gX5_looks_X5_same : GoodIn wsX5_looks (wsV RX5 80 RX5 yX5_same wsX5_same) := goodIn_app (goodIn_of _ (by decide +kernel)) ggX5_looks_X5_same
theorem dX5_looks_0 : decode cX5_looks 0 = .ok (.bipush 15, 2) := by decide +kernel
theorem dX5_looks_2 : decode cX5_looks 2 = .ok (.bipush 17, 2) := by decide +kernel
theorem dX5_looks_4 : decode cX5_looks 4 = .ok (.iload_n 1, 1) := by decide +kernel
theorem dX5_looks_5 : decode cX5_looks 5 = .ok (.imul, 1) := by decide +kernel
theorem dX5_looks_6 : decode cX5_looks 6 = .ok (.iadd, 1) := by decide +kernel
theorem dX5_looks_7 : decode cX5_looks 7 = .ok (.istore_n 2, 1) := by decide +kernel
theorem dX5_looks_8 : decode cX5_looks 8 = .ok (.aload_n 0, 1) := by decide +kernel
theorem dX5_looks_9 : decode cX5_looks 9 = .ok (.getfield 7, 3) := by decide +kernel
theorem dX5_looks_12 : decode cX5_looks 12 = .ok (.iload_n 2, 1) := by decide +kernel
theorem dX5_looks_13 : decode cX5_looks 13 = .ok (.iconst 2, 1) := by decide +kernel
theorem dX5_looks_14 : decode cX5_looks 14 = .ok (.iadd, 1) := by decide +kernel
theorem dX5_looks_15 : decode cX5_looks 15 = .ok (.iaload, 1) := by decide +kernel
theorem dX5_looks_16 : decode cX5_looks 16 = .ok (.istore_n 3, 1) := by decide +kernel
theorem dX5_looks_17 : decode cX5_looks 17 = .ok (.iload_n 3, 1) := by decide +kernel
theorem dX5_looks_18 : decode cX5_looks 18 = .ok (.iconst 5, 1) := by decide +kernel
theorem dX5_looks_19 : decode cX5_looks 19 = .ok (.if_icmp .ge 45, 3) := by decide +kernel
theorem dX5_looks_22 : decode cX5_looks 22 = .ok (.aload_n 0, 1) := by decide +kernel
theorem dX5_looks_23 : decode cX5_looks 23 = .ok (.getfield 7, 3) := by decide +kernel
theorem dX5_looks_26 : decode cX5_looks 26 = .ok (.iload_n 2, 1) := by decide +kernel
theorem dX5_looks_27 : decode cX5_looks 27 = .ok (.bipush 7, 2) := by decide +kernel
theorem dX5_looks_29 : decode cX5_looks 29 = .ok (.iadd, 1) := by decide +kernel
theorem dX5_looks_30 : decode cX5_looks 30 = .ok (.iload_n 3, 1) := by decide +kernel
theorem dX5_looks_31 : decode cX5_looks 31 = .ok (.iadd, 1) := by decide +kernel
theorem dX5_looks_32 : decode cX5_looks 32 = .ok (.aload_n 0, 1) := by decide +kernel
theorem dX5_looks_33 : decode cX5_looks 33 = .ok (.getfield 7, 3) := by decide +kernel
theorem dX5_looks_36 : decode cX5_looks 36 = .ok (.bipush 7, 2) := by decide +kernel
theorem dX5_looks_38 : decode cX5_looks 38 = .ok (.iload_n 3, 1) := by decide +kernel
theorem dX5_looks_39 : decode cX5_looks 39 = .ok (.iadd, 1) := by decide +kernel
theorem dX5_looks_40 : decode cX5_looks 40 = .ok (.iaload, 1) := by decide +kernel
theorem dX5_looks_41 : decode cX5_looks 41 = .ok (.iastore, 1) := by decide +kernel
theorem dX5_looks_42 : decode cX5_looks 42 = .ok (.aload_n 0, 1) := by decide +kernel
theorem dX5_looks_43 : decode cX5_looks 43 = .ok (.getfield 7, 3) := by decide +kernel
theorem dX5_looks_46 : decode cX5_looks 46 = .ok (.iload_n 2, 1) := by decide +kernel
theorem dX5_looks_47 : decode cX5_looks 47 = .ok (.iconst 2, 1) := by decide +kernel
theorem dX5_looks_48 : decode cX5_looks 48 = .ok (.iadd, 1) := by decide +kernel
theorem dX5_looks_49 : decode cX5_looks 49 = .ok (.dup2, 1) := by decide +kernel
theorem dX5_looks_50 : decode cX5_looks 50 = .ok (.iaload, 1) := by decide +kernel
theorem dX5_looks_51 : decode cX5_looks 51 = .ok (.iconst 1, 1) := by decide +kernel
theorem dX5_looks_52 : decode cX5_looks 52 = .ok (.iadd, 1) := by decide +kernel
theorem dX5_looks_53 : decode cX5_looks 53 = .ok (.iastore, 1) := by decide +kernel
theorem dX5_looks_54 : decode cX5_looks 54 = .ok (.aload_n 0, 1) := by decide +kernel
theorem dX5_looks_55 : decode cX5_looks 55 = .ok (.getfield 7, 3) := by decide +kernel
theorem dX5_looks_58 : decode cX5_looks 58 = .ok (.bipush 7, 2) := by decide +kernel
theorem dX5_looks_60 : decode cX5_looks 60 = .ok (.iload_n 3, 1) := by decide +kernel
theorem dX5_looks_61 : decode cX5_looks 61 = .ok (.iadd, 1) := by decide +kernel
theorem dX5_looks_62 : decode cX5_looks 62 = .ok (.iaload, 1) := by decide +kernel
theorem dX5_looks_63 : decode cX5_looks 63 = .ok (.ireturn, 1) := by decide +kernel
theorem dX5_looks_64 : decode cX5_looks 64 = .ok (.aload_n 0, 1) := by decide +kernel
theorem dX5_looks_65 : decode cX5_looks 65 = .ok (.getfield 7, 3) := by decide +kernel
theorem dX5_looks_68 : decode cX5_looks 68 = .ok (.iload_n 2, 1) := by decide +kernel
theorem dX5_looks_69 : decode cX5_looks 69 = .ok (.iaload, 1) := by decide +kernel
theorem dX5_looks_70 : decode cX5_looks 70 = .ok (.iconst 1, 1) := by decide +kernel
theorem dX5_looks_71 : decode cX5_looks 71 = .ok (.if_icmp .ne 28, 3) := by decide +kernel
theorem dX5_looks_74 : decode cX5_looks 74 = .ok (.aload_n 0, 1) := by decide +kernel
theorem dX5_looks_75 : decode cX5_looks 75 = .ok (.getfield 7, 3) := by decide +kernel
theorem dX5_looks_78 : decode cX5_looks 78 = .ok (.iload_n 2, 1) := by decide +kernel
theorem dX5_looks_79 : decode cX5_looks 79 = .ok (.iconst 1, 1) := by decide +kernel
theorem dX5_looks_80 : decode cX5_looks 80 = .ok (.iadd, 1) := by decide +kernel
theorem dX5_looks_81 : decode cX5_looks 81 = .ok (.iaload, 1) := by decide +kernel
theorem dX5_looks_82 : decode cX5_looks 82 = .ok (.aload_n 0, 1) := by decide +kernel
theorem dX5_looks_83 : decode cX5_looks 83 = .ok (.getfield 7, 3) := by decide +kernel
theorem dX5_looks_86 : decode cX5_looks 86 = .ok (.iconst 0, 1) := by decide +kernel
theorem dX5_looks_87 : decode cX5_looks 87 = .ok (.iaload, 1) := by decide +kernel
theorem dX5_looks_88 : decode cX5_looks 88 = .ok (.if_icmp .eq 11, 3) := by decide +kernel
theorem dX5_looks_91 : decode cX5_looks 91 = .ok (.aload_n 0, 1) := by decide +kernel
theorem dX5_looks_92 : decode cX5_looks 92 = .ok (.iload_n 1, 1) := by decide +kernel
theorem dX5_looks_93 : decode cX5_looks 93 = .ok (.invokevirtual 67, 3) := by decide +kernel
theorem dX5_looks_96 : decode cX5_looks 96 = .ok (.bipush 100, 2) := by decide +kernel
theorem dX5_looks_98 : decode cX5_looks 98 = .ok (.ireturn, 1) := by decide +kernel
theorem dX5_looks_99 : decode cX5_looks 99 = .ok (.iconst 0, 1) := by decide +kernel
theorem dX5_looks_100 : decode cX5_looks 100 = .ok (.istore 4, 2) := by decide +kernel
theorem dX5_looks_102 : decode cX5_looks 102 = .ok (.iload 4, 2) := by decide +kernel
theorem dX5_looks_104 : decode cX5_looks 104 = .ok (.iconst 5, 1) := by decide +kernel
theorem dX5_looks_105 : decode cX5_looks 105 = .ok (.if_icmp .ge 33, 3) := by decide +kernel
theorem dX5_looks_108 : decode cX5_looks 108 = .ok (.aload_n 0, 1) := by decide +kernel
theorem dX5_looks_109 : decode cX5_looks 109 = .ok (.getfield 7, 3) := by decide +kernel
theorem dX5_looks_112 : decode cX5_looks 112 = .ok (.iload_n 2, 1) := by decide +kernel
theorem dX5_looks_113 : decode cX5_looks 113 = .ok (.bipush 12, 2) := by decide +kernel
theorem dX5_looks_115 : decode cX5_looks 115 = .ok (.iadd, 1) := by decide +kernel
theorem dX5_looks_116 : decode cX5_looks 116 = .ok (.iload 4, 2) := by decide +kernel
theorem dX5_looks_118 : decode cX5_looks 118 = .ok (.iadd, 1) := by decide +kernel
theorem dX5_looks_119 : decode cX5_looks 119 = .ok (.aload_n 0, 1) := by decide +kernel
theorem dX5_looks_120 : decode cX5_looks 120 = .ok (.getfield 7, 3) := by decide +kernel
theorem dX5_looks_123 : decode cX5_looks 123 = .ok (.iload_n 2, 1) := by decide +kernel
theorem dX5_looks_124 : decode cX5_looks 124 = .ok (.bipush 7, 2) := by decide +kernel
theorem dX5_looks_126 : decode cX5_looks 126 = .ok (.iadd, 1) := by decide +kernel
theorem dX5_looks_127 : decode cX5_looks 127 = .ok (.iload 4, 2) := by decide +kernel
theorem dX5_looks_129 : decode cX5_looks 129 = .ok (.iadd, 1) := by decide +kernel
theorem dX5_looks_130 : decode cX5_looks 130 = .ok (.iaload, 1) := by decide +kernel
theorem dX5_looks_131 : decode cX5_looks 131 = .ok (.iastore, 1) := by decide +kernel
theorem dX5_looks_132 : decode cX5_looks 132 = .ok (.iinc 4 1, 3) := by decide +kernel
theorem dX5_looks_135 : decode cX5_looks 135 = .ok (.goto (-33), 3) := by decide +kernel
theorem dX5_looks_138 : decode cX5_looks 138 = .ok (.aload_n 0, 1) := by decide +kernel
theorem dX5_looks_139 : decode cX5_looks 139 = .ok (.getfield 7, 3) := by decide +kernel
theorem dX5_looks_142 : decode cX5_looks 142 = .ok (.iload_n 2, 1) := by decide +kernel
theorem dX5_looks_143 : decode cX5_looks 143 = .ok (.bipush 6, 2) := by decide +kernel
theorem dX5_looks_145 : decode cX5_looks 145 = .ok (.iadd, 1) := by decide +kernel
theorem dX5_looks_146 : decode cX5_looks 146 = .ok (.iconst 1, 1) := by decide +kernel
theorem dX5_looks_147 : decode cX5_looks 147 = .ok (.iastore, 1) := by decide +kernel
theorem dX5_looks_148 : decode cX5_looks 148 = .ok (.aload_n 0, 1) := by decide +kernel
theorem dX5_looks_149 : decode cX5_looks 149 = .ok (.getfield 7, 3) := by decide +kernel
theorem dX5_looks_152 : decode cX5_looks 152 = .ok (.iload_n 2, 1) := by decide +kernel
theorem dX5_looks_153 : decode cX5_looks 153 = .ok (.iconst 1, 1) := by decide +kernel
theorem dX5_looks_154 : decode cX5_looks 154 = .ok (.iadd, 1) := by decide +kernel
theorem dX5_looks_155 : decode cX5_looks 155 = .ok (.iconst (-1), 1) := by decide +kernel
theorem dX5_looks_156 : decode cX5_looks 156 = .ok (.iastore, 1) := by decide +kernel
theorem dX5_looks_157 : decode cX5_looks 157 = .ok (.aload_n 0, 1) := by decide +kernel
theorem dX5_looks_158 : decode cX5_looks 158 = .ok (.getfield 7, 3) := by decide +kernel
theorem dX5_looks_161 : decode cX5_looks 161 = .ok (.iload_n 2, 1) := by decide +kernel
theorem dX5_looks_162 : decode cX5_looks 162 = .ok (.iconst 3, 1) := by decide +kernel
theorem dX5_looks_163 : decode cX5_looks 163 = .ok (.iadd, 1) := by decide +kernel
theorem dX5_looks_164 : decode cX5_looks 164 = .ok (.iconst 0, 1) := by decide +kernel
theorem dX5_looks_165 : decode cX5_looks 165 = .ok (.iastore, 1) := by decide +kernel
theorem dX5_looks_166 : decode cX5_looks 166 = .ok (.aload_n 0, 1) := by decide +kernel
theorem dX5_looks_167 : decode cX5_looks 167 = .ok (.getfield 7, 3) := by decide +kernel
theorem dX5_looks_170 : decode cX5_looks 170 = .ok (.iload_n 2, 1) := by decide +kernel
theorem dX5_looks_171 : decode cX5_looks 171 = .ok (.iconst 5, 1) := by decide +kernel
theorem dX5_looks_172 : decode cX5_looks 172 = .ok (.iadd, 1) := by decide +kernel
theorem dX5_looks_173 : decode cX5_looks 173 = .ok (.dup2, 1) := by decide +kernel
theorem dX5_looks_174 : decode cX5_looks 174 = .ok (.iaload, 1) := by decide +kernel
theorem dX5_looks_175 : decode cX5_looks 175 = .ok (.iconst 1, 1) := by decide +kernel
theorem dX5_looks_176 : decode cX5_looks 176 = .ok (.iadd, 1) := by decide +kernel
theorem dX5_looks_177 : decode cX5_looks 177 = .ok (.iastore, 1) := by decide +kernel
theorem dX5_looks_178 : decode cX5_looks 178 = .ok (.aload_n 0, 1) := by decide +kernel
theorem dX5_looks_179 : decode cX5_looks 179 = .ok (.getfield 7, 3) := by decide +kernel
theorem dX5_looks_182 : decode cX5_looks 182 = .ok (.iconst 2, 1) := by decide +kernel
theorem dX5_looks_183 : decode cX5_looks 183 = .ok (.dup2, 1) := by decide +kernel
theorem dX5_looks_184 : decode cX5_looks 184 = .ok (.iaload, 1) := by decide +kernel
theorem dX5_looks_185 : decode cX5_looks 185 = .ok (.aload_n 0, 1) := by decide +kernel
theorem dX5_looks_186 : decode cX5_looks 186 = .ok (.iload_n 2, 1) := by decide +kernel
theorem dX5_looks_187 : decode cX5_looks 187 = .ok (.bipush 12, 2) := by decide +kernel
theorem dX5_looks_189 : decode cX5_looks 189 = .ok (.iadd, 1) := by decide +kernel
theorem dX5_looks_190 : decode cX5_looks 190 = .ok (.invokevirtual 80, 3) := by decide +kernel
theorem dX5_looks_193 : decode cX5_looks 193 = .ok (.iconst (-1), 1) := by decide +kernel
theorem dX5_looks_194 : decode cX5_looks 194 = .ok (.if_icmp .ne 7, 3) := by decide +kernel
theorem dX5_looks_197 : decode cX5_looks 197 = .ok (.iconst 1, 1) := by decide +kernel
theorem dX5_looks_198 : decode cX5_looks 198 = .ok (.goto 4, 3) := by decide +kernel
theorem dX5_looks_201 : decode cX5_looks 201 = .ok (.iconst 0, 1) := by decide +kernel
theorem dX5_looks_202 : decode cX5_looks 202 = .ok (.iadd, 1) := by decide +kernel
theorem dX5_looks_203 : decode cX5_looks 203 = .ok (.iastore, 1) := by decide +kernel
theorem dX5_looks_204 : decode cX5_looks 204 = .ok (.bipush 101, 2) := by decide +kernel
theorem dX5_looks_206 : decode cX5_looks 206 = .ok (.ireturn, 1) := by decide +kernel
set_option maxRecDepth 20000 in
theorem ggX5_look_X5_isReader : GoodIn wsX5_look wsX5_isReader := goodIn_r _ [5, 6, 7, 4, 8] (by decide +kernel) (by decide +kernel)
set_option maxRecDepth 20000 in
theorem gX5_look_X5_isReader : GoodIn wsX5_look (va_wsS RX5 60 yX5_isReader wsX5_isReader) := goodIn_app (goodIn_of _ (by decide +kernel)) ggX5_look_X5_isReader
set_option maxRecDepth 20000 in
theorem ggX5_look_X5_fails : GoodIn wsX5_look wsX5_fails := goodIn_r _ [12, 1, 44, 45, 46, 47, 48, 49, 50, 51, 52, 53] (by decide +kernel) (by decide +kernel)
set_option maxRecDepth 20000 in
theorem gX5_look_X5_fails : GoodIn wsX5_look (wsV RX5 33 RX5 yX5_fails wsX5_fails) := goodIn_app (goodIn_of _ (by decide +kernel)) ggX5_look_X5_fails
set_option maxRecDepth 20000 in
theorem ggX5_look_X5_ofReading : GoodIn wsX5_look wsX5_ofReading := goodIn_r _ [16, 17, 18, 19, 20, 4, 21, 44, 45, 46, 47, 48, 49, 50, 51, 52, 53] (by decide +kernel) (by decide +kernel)
set_option maxRecDepth 20000 in
theorem gX5_look_X5_ofReading : GoodIn wsX5_look (wsV RX5 71 RX5 yX5_ofReading wsX5_ofReading) := goodIn_app (goodIn_of _ (by decide +kernel)) ggX5_look_X5_ofReading
set_option maxRecDepth 20000 in
theorem ggX5_look_X5_saves : GoodIn wsX5_look wsX5_saves := goodIn_r _ [25, 26, 27, 17, 44, 45, 46, 47, 48, 49, 50, 51, 52, 53] (by decide +kernel) (by decide +kernel)
set_option maxRecDepth 20000 in
theorem gX5_look_X5_saves : GoodIn wsX5_look (wsV RX5 48 RX5 yX5_saves wsX5_saves) := goodIn_app (goodIn_of _ (by decide +kernel)) ggX5_look_X5_saves
set_option maxRecDepth 20000 in
theorem ggX5_look_X5_looks : GoodIn wsX5_look wsX5_looks := goodIn_r _ [31, 17, 32, 33, 34, 4, 35, 36, 37, 38, 39, 40, 41, 42, 43, 6, 7, 8, 44, 45, 46, 47, 48, 49, 50, 51, 52, 53] (by decide +kernel) (by decide +kernel)
set_option maxRecDepth 20000 in
theorem gX5_look_X5_looks : GoodIn wsX5_look (wsV RX5 83 RX5 yX5_looks wsX5_looks) := goodIn_app (goodIn_of _ (by decide +kernel)) ggX5_look_X5_looks
theorem dX5_look_0 : decode cX5_look 0 = .ok (.aload_n 0, 1) := by decide +kernel
theorem dX5_look_1 : decode cX5_look 1 = .ok (.iconst 0, 1) := by decide +kernel
theorem dX5_look_2 : decode cX5_look 2 = .ok (.putfield 22, 3) := by decide +kernel
theorem dX5_look_5 : decode cX5_look 5 = .ok (.iload_n 1, 1) := by decide +kernel
theorem dX5_look_6 : decode cX5_look 6 = .ok (.invokestatic 60, 3) := by decide +kernel
theorem dX5_look_9 : decode cX5_look 9 = .ok (.ifCond .ne 9, 3) := by decide +kernel
theorem dX5_look_12 : decode cX5_look 12 = .ok (.aload_n 0, 1) := by decide +kernel
theorem dX5_look_13 : decode cX5_look 13 = .ok (.iconst 1, 1) := by decide +kernel
theorem dX5_look_14 : decode cX5_look 14 = .ok (.invokevirtual 33, 3) := by decide +kernel
theorem dX5_look_17 : decode cX5_look 17 = .ok (.ireturn, 1) := by decide +kernel
theorem dX5_look_18 : decode cX5_look 18 = .ok (.aload_n 0, 1) := by decide +kernel
theorem dX5_look_19 : decode cX5_look 19 = .ok (.iload_n 1, 1) := by decide +kernel
theorem dX5_look_20 : decode cX5_look 20 = .ok (.invokevirtual 71, 3) := by decide +kernel
theorem dX5_look_23 : decode cX5_look 23 = .ok (.iconst 1, 1) := by decide +kernel
theorem dX5_look_24 : decode cX5_look 24 = .ok (.if_icmp .eq 9, 3) := by decide +kernel
theorem dX5_look_27 : decode cX5_look 27 = .ok (.aload_n 0, 1) := by decide +kernel
theorem dX5_look_28 : decode cX5_look 28 = .ok (.iconst 2, 1) := by decide +kernel
theorem dX5_look_29 : decode cX5_look 29 = .ok (.invokevirtual 33, 3) := by decide +kernel
theorem dX5_look_32 : decode cX5_look 32 = .ok (.ireturn, 1) := by decide +kernel
theorem dX5_look_33 : decode cX5_look 33 = .ok (.aload_n 0, 1) := by decide +kernel
theorem dX5_look_34 : decode cX5_look 34 = .ok (.invokevirtual 48, 3) := by decide +kernel
theorem dX5_look_37 : decode cX5_look 37 = .ok (.aload_n 0, 1) := by decide +kernel
theorem dX5_look_38 : decode cX5_look 38 = .ok (.iload_n 1, 1) := by decide +kernel
theorem dX5_look_39 : decode cX5_look 39 = .ok (.invokevirtual 83, 3) := by decide +kernel
theorem dX5_look_42 : decode cX5_look 42 = .ok (.ireturn, 1) := by decide +kernel
set_option maxRecDepth 20000 in
theorem ggX5_set_X5_in : GoodIn wsX5_set wsX5_in := goodIn_r _ [6] (by decide +kernel) (by decide +kernel)
set_option maxRecDepth 20000 in
theorem gX5_set_X5_in : GoodIn wsX5_set (va_wsS RX5 26 yX5_in wsX5_in) := goodIn_app (goodIn_of _ (by decide +kernel)) ggX5_set_X5_in
set_option maxRecDepth 20000 in
theorem ggX5_set_X5_fails : GoodIn wsX5_set wsX5_fails := goodIn_r _ [10, 1, 17, 18, 19, 20, 21, 22, 23, 24, 25, 26] (by decide +kernel) (by decide +kernel)
set_option maxRecDepth 20000 in
theorem gX5_set_X5_fails : GoodIn wsX5_set (wsV RX5 33 RX5 yX5_fails wsX5_fails) := goodIn_app (goodIn_of _ (by decide +kernel)) ggX5_set_X5_fails
set_option maxRecDepth 20000 in
theorem ggX5_set_X5_saves : GoodIn wsX5_set wsX5_saves := goodIn_r _ [14, 15, 16, 2, 17, 18, 19, 20, 21, 22, 23, 24, 25, 26] (by decide +kernel) (by decide +kernel)
set_option maxRecDepth 20000 in
theorem gX5_set_X5_saves : GoodIn wsX5_set (wsV RX5 48 RX5 yX5_saves wsX5_saves) := goodIn_app (goodIn_of _ (by decide +kernel)) ggX5_set_X5_saves
theorem dX5_set_0 : decode cX5_set 0 = .ok (.aload_n 0, 1) := by decide +kernel
theorem dX5_set_1 : decode cX5_set 1 = .ok (.iconst 0, 1) := by decide +kernel
theorem dX5_set_2 : decode cX5_set 2 = .ok (.putfield 22, 3) := by decide +kernel
theorem dX5_set_5 : decode cX5_set 5 = .ok (.iload_n 1, 1) := by decide +kernel
theorem dX5_set_6 : decode cX5_set 6 = .ok (.iconst 1, 1) := by decide +kernel
theorem dX5_set_7 : decode cX5_set 7 = .ok (.bipush 20, 2) := by decide +kernel
theorem dX5_set_9 : decode cX5_set 9 = .ok (.invokestatic 26, 3) := by decide +kernel
theorem dX5_set_12 : decode cX5_set 12 = .ok (.ifCond .ne 9, 3) := by decide +kernel
theorem dX5_set_15 : decode cX5_set 15 = .ok (.aload_n 0, 1) := by decide +kernel
theorem dX5_set_16 : decode cX5_set 16 = .ok (.iconst 1, 1) := by decide +kernel
theorem dX5_set_17 : decode cX5_set 17 = .ok (.invokevirtual 33, 3) := by decide +kernel
theorem dX5_set_20 : decode cX5_set 20 = .ok (.ireturn, 1) := by decide +kernel
theorem dX5_set_21 : decode cX5_set 21 = .ok (.aload_n 0, 1) := by decide +kernel
theorem dX5_set_22 : decode cX5_set 22 = .ok (.invokevirtual 48, 3) := by decide +kernel
theorem dX5_set_25 : decode cX5_set 25 = .ok (.aload_n 0, 1) := by decide +kernel
theorem dX5_set_26 : decode cX5_set 26 = .ok (.getfield 7, 3) := by decide +kernel
theorem dX5_set_29 : decode cX5_set 29 = .ok (.iconst 1, 1) := by decide +kernel
theorem dX5_set_30 : decode cX5_set 30 = .ok (.iaload, 1) := by decide +kernel
theorem dX5_set_31 : decode cX5_set 31 = .ok (.istore_n 2, 1) := by decide +kernel
theorem dX5_set_32 : decode cX5_set 32 = .ok (.aload_n 0, 1) := by decide +kernel
theorem dX5_set_33 : decode cX5_set 33 = .ok (.getfield 7, 3) := by decide +kernel
theorem dX5_set_36 : decode cX5_set 36 = .ok (.iconst 1, 1) := by decide +kernel
theorem dX5_set_37 : decode cX5_set 37 = .ok (.iload_n 1, 1) := by decide +kernel
theorem dX5_set_38 : decode cX5_set 38 = .ok (.iastore, 1) := by decide +kernel
theorem dX5_set_39 : decode cX5_set 39 = .ok (.iload_n 2, 1) := by decide +kernel
theorem dX5_set_40 : decode cX5_set 40 = .ok (.ireturn, 1) := by decide +kernel
set_option maxRecDepth 20000 in
theorem ggX5_append_X5_in : GoodIn wsX5_append wsX5_in := goodIn_r _ [7] (by decide +kernel) (by decide +kernel)
set_option maxRecDepth 20000 in
theorem gX5_append_X5_in : GoodIn wsX5_append (va_wsS RX5 26 yX5_in wsX5_in) := goodIn_app (goodIn_of _ (by decide +kernel)) ggX5_append_X5_in
set_option maxRecDepth 20000 in
theorem ggX5_append_X5_fails : GoodIn wsX5_append wsX5_fails := goodIn_r _ [11, 1, 12, 13, 14, 15, 16, 17, 18, 19, 20, 21] (by decide +kernel) (by decide +kernel)
set_option maxRecDepth 20000 in
theorem gX5_append_X5_fails : GoodIn wsX5_append (wsV RX5 33 RX5 yX5_fails wsX5_fails) := goodIn_app (goodIn_of _ (by decide +kernel)) ggX5_append_X5_fails
theorem dX5_append_0 : decode cX5_append 0 = .ok (.aload_n 0, 1) := by decide +kernel
theorem dX5_append_1 : decode cX5_append 1 = .ok (.iconst 0, 1) := by decide +kernel
theorem dX5_append_2 : decode cX5_append 2 = .ok (.putfield 22, 3) := by decide +kernel
theorem dX5_append_5 : decode cX5_append 5 = .ok (.iload_n 1, 1) := by decide +kernel
theorem dX5_append_6 : decode cX5_append 6 = .ok (.bipush 33, 2) := by decide +kernel
theorem dX5_append_8 : decode cX5_append 8 = .ok (.bipush 126, 2) := by decide +kernel
theorem dX5_append_10 : decode cX5_append 10 = .ok (.invokestatic 26, 3) := by decide +kernel
theorem dX5_append_13 : decode cX5_append 13 = .ok (.ifCond .ne 9, 3) := by decide +kernel
theorem dX5_append_16 : decode cX5_append 16 = .ok (.aload_n 0, 1) := by decide +kernel
theorem dX5_append_17 : decode cX5_append 17 = .ok (.iconst 1, 1) := by decide +kernel
theorem dX5_append_18 : decode cX5_append 18 = .ok (.invokevirtual 33, 3) := by decide +kernel
theorem dX5_append_21 : decode cX5_append 21 = .ok (.ireturn, 1) := by decide +kernel
theorem dX5_append_22 : decode cX5_append 22 = .ok (.aload_n 0, 1) := by decide +kernel
theorem dX5_append_23 : decode cX5_append 23 = .ok (.getfield 86, 3) := by decide +kernel
theorem dX5_append_26 : decode cX5_append 26 = .ok (.bipush 60, 2) := by decide +kernel
theorem dX5_append_28 : decode cX5_append 28 = .ok (.if_icmp .ne 9, 3) := by decide +kernel
theorem dX5_append_31 : decode cX5_append 31 = .ok (.aload_n 0, 1) := by decide +kernel
theorem dX5_append_32 : decode cX5_append 32 = .ok (.iconst 2, 1) := by decide +kernel
theorem dX5_append_33 : decode cX5_append 33 = .ok (.invokevirtual 33, 3) := by decide +kernel
theorem dX5_append_36 : decode cX5_append 36 = .ok (.ireturn, 1) := by decide +kernel
theorem dX5_append_37 : decode cX5_append 37 = .ok (.aload_n 0, 1) := by decide +kernel
theorem dX5_append_38 : decode cX5_append 38 = .ok (.getfield 16, 3) := by decide +kernel
theorem dX5_append_41 : decode cX5_append 41 = .ok (.aload_n 0, 1) := by decide +kernel
theorem dX5_append_42 : decode cX5_append 42 = .ok (.getfield 86, 3) := by decide +kernel
theorem dX5_append_45 : decode cX5_append 45 = .ok (.iload_n 1, 1) := by decide +kernel
theorem dX5_append_46 : decode cX5_append 46 = .ok (.iastore, 1) := by decide +kernel
theorem dX5_append_47 : decode cX5_append 47 = .ok (.aload_n 0, 1) := by decide +kernel
theorem dX5_append_48 : decode cX5_append 48 = .ok (.dup, 1) := by decide +kernel
theorem dX5_append_49 : decode cX5_append 49 = .ok (.getfield 86, 3) := by decide +kernel
theorem dX5_append_52 : decode cX5_append 52 = .ok (.iconst 1, 1) := by decide +kernel
theorem dX5_append_53 : decode cX5_append 53 = .ok (.iadd, 1) := by decide +kernel
theorem dX5_append_54 : decode cX5_append 54 = .ok (.putfield 86, 3) := by decide +kernel
theorem dX5_append_57 : decode cX5_append 57 = .ok (.aload_n 0, 1) := by decide +kernel
theorem dX5_append_58 : decode cX5_append 58 = .ok (.getfield 86, 3) := by decide +kernel
theorem dX5_append_61 : decode cX5_append 61 = .ok (.ireturn, 1) := by decide +kernel
theorem dX5_clearBuffer_0 : decode cX5_clearBuffer 0 = .ok (.aload_n 0, 1) := by decide +kernel
theorem dX5_clearBuffer_1 : decode cX5_clearBuffer 1 = .ok (.iconst 0, 1) := by decide +kernel
theorem dX5_clearBuffer_2 : decode cX5_clearBuffer 2 = .ok (.putfield 22, 3) := by decide +kernel
theorem dX5_clearBuffer_5 : decode cX5_clearBuffer 5 = .ok (.aload_n 0, 1) := by decide +kernel
theorem dX5_clearBuffer_6 : decode cX5_clearBuffer 6 = .ok (.getfield 86, 3) := by decide +kernel
theorem dX5_clearBuffer_9 : decode cX5_clearBuffer 9 = .ok (.istore_n 1, 1) := by decide +kernel
theorem dX5_clearBuffer_10 : decode cX5_clearBuffer 10 = .ok (.aload_n 0, 1) := by decide +kernel
theorem dX5_clearBuffer_11 : decode cX5_clearBuffer 11 = .ok (.iconst 0, 1) := by decide +kernel
theorem dX5_clearBuffer_12 : decode cX5_clearBuffer 12 = .ok (.putfield 86, 3) := by decide +kernel
theorem dX5_clearBuffer_15 : decode cX5_clearBuffer 15 = .ok (.iload_n 1, 1) := by decide +kernel
theorem dX5_clearBuffer_16 : decode cX5_clearBuffer 16 = .ok (.ireturn, 1) := by decide +kernel
set_option maxRecDepth 20000 in
theorem ggX5_isAt_X5_in : GoodIn wsX5_isAt wsX5_in := goodIn_r _ [7] (by decide +kernel) (by decide +kernel)
set_option maxRecDepth 20000 in
theorem gX5_isAt_X5_in : GoodIn wsX5_isAt (va_wsS RX5 26 yX5_in wsX5_in) := goodIn_app (goodIn_of _ (by decide +kernel)) ggX5_isAt_X5_in
theorem dX5_isAt_0 : decode cX5_isAt 0 = .ok (.aload_n 0, 1) := by decide +kernel
theorem dX5_isAt_1 : decode cX5_isAt 1 = .ok (.getfield 89, 3) := by decide +kernel
theorem dX5_isAt_4 : decode cX5_isAt 4 = .ok (.aload_n 0, 1) := by decide +kernel
theorem dX5_isAt_5 : decode cX5_isAt 5 = .ok (.getfield 86, 3) := by decide +kernel
theorem dX5_isAt_8 : decode cX5_isAt 8 = .ok (.if_icmp .ge 24, 3) := by decide +kernel
theorem dX5_isAt_11 : decode cX5_isAt 11 = .ok (.aload_n 0, 1) := by decide +kernel
theorem dX5_isAt_12 : decode cX5_isAt 12 = .ok (.getfield 16, 3) := by decide +kernel
theorem dX5_isAt_15 : decode cX5_isAt 15 = .ok (.aload_n 0, 1) := by decide +kernel
theorem dX5_isAt_16 : decode cX5_isAt 16 = .ok (.getfield 89, 3) := by decide +kernel
theorem dX5_isAt_19 : decode cX5_isAt 19 = .ok (.iaload, 1) := by decide +kernel
theorem dX5_isAt_20 : decode cX5_isAt 20 = .ok (.iload_n 1, 1) := by decide +kernel
theorem dX5_isAt_21 : decode cX5_isAt 21 = .ok (.iload_n 2, 1) := by decide +kernel
theorem dX5_isAt_22 : decode cX5_isAt 22 = .ok (.invokestatic 26, 3) := by decide +kernel
theorem dX5_isAt_25 : decode cX5_isAt 25 = .ok (.ifCond .eq 7, 3) := by decide +kernel
theorem dX5_isAt_28 : decode cX5_isAt 28 = .ok (.iconst 1, 1) := by decide +kernel
theorem dX5_isAt_29 : decode cX5_isAt 29 = .ok (.goto 4, 3) := by decide +kernel
theorem dX5_isAt_32 : decode cX5_isAt 32 = .ok (.iconst 0, 1) := by decide +kernel
theorem dX5_isAt_33 : decode cX5_isAt 33 = .ok (.ireturn, 1) := by decide +kernel
theorem dX5_stops_0 : decode cX5_stops 0 = .ok (.aload_n 0, 1) := by decide +kernel
theorem dX5_stops_1 : decode cX5_stops 1 = .ok (.aload_n 0, 1) := by decide +kernel
theorem dX5_stops_2 : decode cX5_stops 2 = .ok (.getfield 89, 3) := by decide +kernel
theorem dX5_stops_5 : decode cX5_stops 5 = .ok (.aload_n 0, 1) := by decide +kernel
theorem dX5_stops_6 : decode cX5_stops 6 = .ok (.getfield 86, 3) := by decide +kernel
theorem dX5_stops_9 : decode cX5_stops 9 = .ok (.if_icmp .ge 7, 3) := by decide +kernel
theorem dX5_stops_12 : decode cX5_stops 12 = .ok (.iconst 1, 1) := by decide +kernel
theorem dX5_stops_13 : decode cX5_stops 13 = .ok (.goto 4, 3) := by decide +kernel
theorem dX5_stops_16 : decode cX5_stops 16 = .ok (.iconst 0, 1) := by decide +kernel
theorem dX5_stops_17 : decode cX5_stops 17 = .ok (.putfield 92, 3) := by decide +kernel
theorem dX5_stops_20 : decode cX5_stops 20 = .ok (.iconst 0, 1) := by decide +kernel
theorem dX5_stops_21 : decode cX5_stops 21 = .ok (.ireturn, 1) := by decide +kernel
set_option maxRecDepth 20000 in
theorem ggX5_isDigit_X5_isAt : GoodIn wsX5_isDigit wsX5_isAt := goodIn_r _ [6, 1, 7, 8, 9, 10, 5, 11, 17, 18, 19, 20, 21, 22, 23, 24, 25, 26] (by decide +kernel) (by decide +kernel)
set_option maxRecDepth 20000 in
theorem gX5_isDigit_X5_isAt : GoodIn wsX5_isDigit (wsV RX5 96 RX5 yX5_isAt wsX5_isAt) := goodIn_app (goodIn_of _ (by decide +kernel)) ggX5_isDigit_X5_isAt
set_option maxRecDepth 20000 in
theorem ggX5_isDigit_X5_stops : GoodIn wsX5_isDigit wsX5_stops := goodIn_r _ [15, 1, 7, 16, 17, 18, 19, 20, 21, 22, 23, 24, 25, 26] (by decide +kernel) (by decide +kernel)
set_option maxRecDepth 20000 in
theorem gX5_isDigit_X5_stops : GoodIn wsX5_isDigit (wsV RX5 100 RX5 yX5_stops wsX5_stops) := goodIn_app (goodIn_of _ (by decide +kernel)) ggX5_isDigit_X5_stops
theorem dX5_isDigit_0 : decode cX5_isDigit 0 = .ok (.aload_n 0, 1) := by decide +kernel
theorem dX5_isDigit_1 : decode cX5_isDigit 1 = .ok (.bipush 48, 2) := by decide +kernel
theorem dX5_isDigit_3 : decode cX5_isDigit 3 = .ok (.iload_n 1, 1) := by decide +kernel
theorem dX5_isDigit_4 : decode cX5_isDigit 4 = .ok (.invokevirtual 96, 3) := by decide +kernel
theorem dX5_isDigit_7 : decode cX5_isDigit 7 = .ok (.ifCond .ne 8, 3) := by decide +kernel
theorem dX5_isDigit_10 : decode cX5_isDigit 10 = .ok (.aload_n 0, 1) := by decide +kernel
theorem dX5_isDigit_11 : decode cX5_isDigit 11 = .ok (.invokevirtual 100, 3) := by decide +kernel
theorem dX5_isDigit_14 : decode cX5_isDigit 14 = .ok (.ireturn, 1) := by decide +kernel
theorem dX5_isDigit_15 : decode cX5_isDigit 15 = .ok (.aload_n 0, 1) := by decide +kernel
theorem dX5_isDigit_16 : decode cX5_isDigit 16 = .ok (.dup, 1) := by decide +kernel
theorem dX5_isDigit_17 : decode cX5_isDigit 17 = .ok (.getfield 89, 3) := by decide +kernel
theorem dX5_isDigit_20 : decode cX5_isDigit 20 = .ok (.iconst 1, 1) := by decide +kernel
theorem dX5_isDigit_21 : decode cX5_isDigit 21 = .ok (.iadd, 1) := by decide +kernel
theorem dX5_isDigit_22 : decode cX5_isDigit 22 = .ok (.putfield 89, 3) := by decide +kernel
theorem dX5_isDigit_25 : decode cX5_isDigit 25 = .ok (.iconst 1, 1) := by decide +kernel
theorem dX5_isDigit_26 : decode cX5_isDigit 26 = .ok (.ireturn, 1) := by decide +kernel
set_option maxRecDepth 20000 in
theorem ggX5_isPart_X5_stops : GoodIn wsX5_isPart wsX5_stops := goodIn_r _ [9, 2, 10, 11, 23, 24, 25, 26, 27, 28, 29, 30, 31, 32] (by decide +kernel) (by decide +kernel)
set_option maxRecDepth 20000 in
theorem gX5_isPart_X5_stops : GoodIn wsX5_isPart (wsV RX5 100 RX5 yX5_stops wsX5_stops) := goodIn_app (goodIn_of _ (by decide +kernel)) ggX5_isPart_X5_stops
set_option maxRecDepth 20000 in
theorem ggX5_isPart_X5_isDigit : GoodIn wsX5_isPart wsX5_isDigit := goodIn_r _ [15, 2, 16, 17, 18, 8, 19, 10, 1, 20, 21, 22, 5, 6, 7, 9, 11, 23, 24, 25, 26, 27, 28, 29, 30, 31, 32] (by decide +kernel) (by decide +kernel)
set_option maxRecDepth 20000 in
theorem gX5_isPart_X5_isDigit : GoodIn wsX5_isPart (wsV RX5 103 RX5 yX5_isDigit wsX5_isDigit) := goodIn_app (goodIn_of _ (by decide +kernel)) ggX5_isPart_X5_isDigit
theorem dX5_isPart_0 : decode cX5_isPart 0 = .ok (.aload_n 0, 1) := by decide +kernel
theorem dX5_isPart_1 : decode cX5_isPart 1 = .ok (.getfield 16, 3) := by decide +kernel
theorem dX5_isPart_4 : decode cX5_isPart 4 = .ok (.aload_n 0, 1) := by decide +kernel
theorem dX5_isPart_5 : decode cX5_isPart 5 = .ok (.getfield 89, 3) := by decide +kernel
theorem dX5_isPart_8 : decode cX5_isPart 8 = .ok (.iaload, 1) := by decide +kernel
theorem dX5_isPart_9 : decode cX5_isPart 9 = .ok (.istore_n 1, 1) := by decide +kernel
theorem dX5_isPart_10 : decode cX5_isPart 10 = .ok (.iload_n 1, 1) := by decide +kernel
theorem dX5_isPart_11 : decode cX5_isPart 11 = .ok (.bipush 99, 2) := by decide +kernel
theorem dX5_isPart_13 : decode cX5_isPart 13 = .ok (.if_icmp .eq 32, 3) := by decide +kernel
theorem dX5_isPart_16 : decode cX5_isPart 16 = .ok (.iload_n 1, 1) := by decide +kernel
theorem dX5_isPart_17 : decode cX5_isPart 17 = .ok (.bipush 100, 2) := by decide +kernel
theorem dX5_isPart_19 : decode cX5_isPart 19 = .ok (.if_icmp .eq 26, 3) := by decide +kernel
theorem dX5_isPart_22 : decode cX5_isPart 22 = .ok (.iload_n 1, 1) := by decide +kernel
theorem dX5_isPart_23 : decode cX5_isPart 23 = .ok (.bipush 119, 2) := by decide +kernel
theorem dX5_isPart_25 : decode cX5_isPart 25 = .ok (.if_icmp .eq 20, 3) := by decide +kernel
theorem dX5_isPart_28 : decode cX5_isPart 28 = .ok (.iload_n 1, 1) := by decide +kernel
theorem dX5_isPart_29 : decode cX5_isPart 29 = .ok (.bipush 98, 2) := by decide +kernel
theorem dX5_isPart_31 : decode cX5_isPart 31 = .ok (.if_icmp .eq 14, 3) := by decide +kernel
theorem dX5_isPart_34 : decode cX5_isPart 34 = .ok (.iload_n 1, 1) := by decide +kernel
theorem dX5_isPart_35 : decode cX5_isPart 35 = .ok (.bipush 108, 2) := by decide +kernel
theorem dX5_isPart_37 : decode cX5_isPart 37 = .ok (.if_icmp .eq 8, 3) := by decide +kernel
theorem dX5_isPart_40 : decode cX5_isPart 40 = .ok (.aload_n 0, 1) := by decide +kernel
theorem dX5_isPart_41 : decode cX5_isPart 41 = .ok (.invokevirtual 100, 3) := by decide +kernel
theorem dX5_isPart_44 : decode cX5_isPart 44 = .ok (.ireturn, 1) := by decide +kernel
theorem dX5_isPart_45 : decode cX5_isPart 45 = .ok (.aload_n 0, 1) := by decide +kernel
theorem dX5_isPart_46 : decode cX5_isPart 46 = .ok (.dup, 1) := by decide +kernel
theorem dX5_isPart_47 : decode cX5_isPart 47 = .ok (.getfield 89, 3) := by decide +kernel
theorem dX5_isPart_50 : decode cX5_isPart 50 = .ok (.iconst 1, 1) := by decide +kernel
theorem dX5_isPart_51 : decode cX5_isPart 51 = .ok (.iadd, 1) := by decide +kernel
theorem dX5_isPart_52 : decode cX5_isPart 52 = .ok (.putfield 89, 3) := by decide +kernel
theorem dX5_isPart_55 : decode cX5_isPart 55 = .ok (.aload_n 0, 1) := by decide +kernel
theorem dX5_isPart_56 : decode cX5_isPart 56 = .ok (.iload_n 1, 1) := by decide +kernel
theorem dX5_isPart_57 : decode cX5_isPart 57 = .ok (.bipush 119, 2) := by decide +kernel
theorem dX5_isPart_59 : decode cX5_isPart 59 = .ok (.if_icmp .ne 8, 3) := by decide +kernel
theorem dX5_isPart_62 : decode cX5_isPart 62 = .ok (.bipush 52, 2) := by decide +kernel
theorem dX5_isPart_64 : decode cX5_isPart 64 = .ok (.goto 22, 3) := by decide +kernel
theorem dX5_isPart_67 : decode cX5_isPart 67 = .ok (.iload_n 1, 1) := by decide +kernel
theorem dX5_isPart_68 : decode cX5_isPart 68 = .ok (.bipush 99, 2) := by decide +kernel
theorem dX5_isPart_70 : decode cX5_isPart 70 = .ok (.if_icmp .eq 9, 3) := by decide +kernel
theorem dX5_isPart_73 : decode cX5_isPart 73 = .ok (.iload_n 1, 1) := by decide +kernel
theorem dX5_isPart_74 : decode cX5_isPart 74 = .ok (.bipush 100, 2) := by decide +kernel
theorem dX5_isPart_76 : decode cX5_isPart 76 = .ok (.if_icmp .ne 8, 3) := by decide +kernel
theorem dX5_isPart_79 : decode cX5_isPart 79 = .ok (.bipush 50, 2) := by decide +kernel
theorem dX5_isPart_81 : decode cX5_isPart 81 = .ok (.goto 5, 3) := by decide +kernel
theorem dX5_isPart_84 : decode cX5_isPart 84 = .ok (.bipush 51, 2) := by decide +kernel
theorem dX5_isPart_86 : decode cX5_isPart 86 = .ok (.invokevirtual 103, 3) := by decide +kernel
theorem dX5_isPart_89 : decode cX5_isPart 89 = .ok (.ifCond .ne 5, 3) := by decide +kernel
theorem dX5_isPart_92 : decode cX5_isPart 92 = .ok (.iconst 0, 1) := by decide +kernel
theorem dX5_isPart_93 : decode cX5_isPart 93 = .ok (.ireturn, 1) := by decide +kernel
theorem dX5_isPart_94 : decode cX5_isPart 94 = .ok (.aload_n 0, 1) := by decide +kernel
theorem dX5_isPart_95 : decode cX5_isPart 95 = .ok (.getfield 19, 3) := by decide +kernel
theorem dX5_isPart_98 : decode cX5_isPart 98 = .ok (.iconst 3, 1) := by decide +kernel
theorem dX5_isPart_99 : decode cX5_isPart 99 = .ok (.aload_n 0, 1) := by decide +kernel
theorem dX5_isPart_100 : decode cX5_isPart 100 = .ok (.getfield 106, 3) := by decide +kernel
theorem dX5_isPart_103 : decode cX5_isPart 103 = .ok (.imul, 1) := by decide +kernel
theorem dX5_isPart_104 : decode cX5_isPart 104 = .ok (.iload_n 1, 1) := by decide +kernel
theorem dX5_isPart_105 : decode cX5_isPart 105 = .ok (.iastore, 1) := by decide +kernel
theorem dX5_isPart_106 : decode cX5_isPart 106 = .ok (.aload_n 0, 1) := by decide +kernel
theorem dX5_isPart_107 : decode cX5_isPart 107 = .ok (.getfield 19, 3) := by decide +kernel
theorem dX5_isPart_110 : decode cX5_isPart 110 = .ok (.iconst 3, 1) := by decide +kernel
theorem dX5_isPart_111 : decode cX5_isPart 111 = .ok (.aload_n 0, 1) := by decide +kernel
theorem dX5_isPart_112 : decode cX5_isPart 112 = .ok (.getfield 106, 3) := by decide +kernel
theorem dX5_isPart_115 : decode cX5_isPart 115 = .ok (.imul, 1) := by decide +kernel
theorem dX5_isPart_116 : decode cX5_isPart 116 = .ok (.iconst 1, 1) := by decide +kernel
theorem dX5_isPart_117 : decode cX5_isPart 117 = .ok (.iadd, 1) := by decide +kernel
theorem dX5_isPart_118 : decode cX5_isPart 118 = .ok (.aload_n 0, 1) := by decide +kernel
theorem dX5_isPart_119 : decode cX5_isPart 119 = .ok (.getfield 16, 3) := by decide +kernel
theorem dX5_isPart_122 : decode cX5_isPart 122 = .ok (.aload_n 0, 1) := by decide +kernel
theorem dX5_isPart_123 : decode cX5_isPart 123 = .ok (.getfield 89, 3) := by decide +kernel
theorem dX5_isPart_126 : decode cX5_isPart 126 = .ok (.iconst 1, 1) := by decide +kernel
theorem dX5_isPart_127 : decode cX5_isPart 127 = .ok (.isub, 1) := by decide +kernel
theorem dX5_isPart_128 : decode cX5_isPart 128 = .ok (.iaload, 1) := by decide +kernel
theorem dX5_isPart_129 : decode cX5_isPart 129 = .ok (.bipush 48, 2) := by decide +kernel
theorem dX5_isPart_131 : decode cX5_isPart 131 = .ok (.isub, 1) := by decide +kernel
theorem dX5_isPart_132 : decode cX5_isPart 132 = .ok (.iastore, 1) := by decide +kernel
theorem dX5_isPart_133 : decode cX5_isPart 133 = .ok (.iload_n 1, 1) := by decide +kernel
theorem dX5_isPart_134 : decode cX5_isPart 134 = .ok (.bipush 119, 2) := by decide +kernel
theorem dX5_isPart_136 : decode cX5_isPart 136 = .ok (.if_icmp .ne 68, 3) := by decide +kernel
theorem dX5_isPart_139 : decode cX5_isPart 139 = .ok (.aload_n 0, 1) := by decide +kernel
theorem dX5_isPart_140 : decode cX5_isPart 140 = .ok (.bipush 57, 2) := by decide +kernel
theorem dX5_isPart_142 : decode cX5_isPart 142 = .ok (.invokevirtual 103, 3) := by decide +kernel
theorem dX5_isPart_145 : decode cX5_isPart 145 = .ok (.ifCond .eq 12, 3) := by decide +kernel
theorem dX5_isPart_148 : decode cX5_isPart 148 = .ok (.aload_n 0, 1) := by decide +kernel
theorem dX5_isPart_149 : decode cX5_isPart 149 = .ok (.bipush 57, 2) := by decide +kernel
theorem dX5_isPart_151 : decode cX5_isPart 151 = .ok (.invokevirtual 103, 3) := by decide +kernel
theorem dX5_isPart_154 : decode cX5_isPart 154 = .ok (.ifCond .ne 5, 3) := by decide +kernel
theorem dX5_isPart_157 : decode cX5_isPart 157 = .ok (.iconst 0, 1) := by decide +kernel
theorem dX5_isPart_158 : decode cX5_isPart 158 = .ok (.ireturn, 1) := by decide +kernel
theorem dX5_isPart_159 : decode cX5_isPart 159 = .ok (.aload_n 0, 1) := by decide +kernel
theorem dX5_isPart_160 : decode cX5_isPart 160 = .ok (.getfield 19, 3) := by decide +kernel
theorem dX5_isPart_163 : decode cX5_isPart 163 = .ok (.iconst 3, 1) := by decide +kernel
theorem dX5_isPart_164 : decode cX5_isPart 164 = .ok (.aload_n 0, 1) := by decide +kernel
theorem dX5_isPart_165 : decode cX5_isPart 165 = .ok (.getfield 106, 3) := by decide +kernel
theorem dX5_isPart_168 : decode cX5_isPart 168 = .ok (.imul, 1) := by decide +kernel
theorem dX5_isPart_169 : decode cX5_isPart 169 = .ok (.iconst 2, 1) := by decide +kernel
theorem dX5_isPart_170 : decode cX5_isPart 170 = .ok (.iadd, 1) := by decide +kernel
theorem dX5_isPart_171 : decode cX5_isPart 171 = .ok (.bipush 10, 2) := by decide +kernel
theorem dX5_isPart_173 : decode cX5_isPart 173 = .ok (.aload_n 0, 1) := by decide +kernel
theorem dX5_isPart_174 : decode cX5_isPart 174 = .ok (.getfield 16, 3) := by decide +kernel
theorem dX5_isPart_177 : decode cX5_isPart 177 = .ok (.aload_n 0, 1) := by decide +kernel
theorem dX5_isPart_178 : decode cX5_isPart 178 = .ok (.getfield 89, 3) := by decide +kernel
theorem dX5_isPart_181 : decode cX5_isPart 181 = .ok (.iconst 2, 1) := by decide +kernel
theorem dX5_isPart_182 : decode cX5_isPart 182 = .ok (.isub, 1) := by decide +kernel
theorem dX5_isPart_183 : decode cX5_isPart 183 = .ok (.iaload, 1) := by decide +kernel
theorem dX5_isPart_184 : decode cX5_isPart 184 = .ok (.bipush 48, 2) := by decide +kernel
theorem dX5_isPart_186 : decode cX5_isPart 186 = .ok (.isub, 1) := by decide +kernel
theorem dX5_isPart_187 : decode cX5_isPart 187 = .ok (.imul, 1) := by decide +kernel
theorem dX5_isPart_188 : decode cX5_isPart 188 = .ok (.aload_n 0, 1) := by decide +kernel
theorem dX5_isPart_189 : decode cX5_isPart 189 = .ok (.getfield 16, 3) := by decide +kernel
theorem dX5_isPart_192 : decode cX5_isPart 192 = .ok (.aload_n 0, 1) := by decide +kernel
theorem dX5_isPart_193 : decode cX5_isPart 193 = .ok (.getfield 89, 3) := by decide +kernel
theorem dX5_isPart_196 : decode cX5_isPart 196 = .ok (.iconst 1, 1) := by decide +kernel
theorem dX5_isPart_197 : decode cX5_isPart 197 = .ok (.isub, 1) := by decide +kernel
theorem dX5_isPart_198 : decode cX5_isPart 198 = .ok (.iaload, 1) := by decide +kernel
theorem dX5_isPart_199 : decode cX5_isPart 199 = .ok (.iadd, 1) := by decide +kernel
theorem dX5_isPart_200 : decode cX5_isPart 200 = .ok (.bipush 48, 2) := by decide +kernel
theorem dX5_isPart_202 : decode cX5_isPart 202 = .ok (.isub, 1) := by decide +kernel
theorem dX5_isPart_203 : decode cX5_isPart 203 = .ok (.iastore, 1) := by decide +kernel
theorem dX5_isPart_204 : decode cX5_isPart 204 = .ok (.iconst 1, 1) := by decide +kernel
theorem dX5_isPart_205 : decode cX5_isPart 205 = .ok (.ireturn, 1) := by decide +kernel
set_option maxRecDepth 20000 in
theorem ggX5_isText_X5_isPart : GoodIn wsX5_isText wsX5_isPart := goodIn_r _ [9, 10, 1, 11, 2, 12, 13, 14, 8, 15, 4, 3, 16, 17, 18, 19, 20, 21, 22, 23, 24, 25, 26, 27, 28, 29, 30, 31, 32, 33, 34, 35, 36] (by decide +kernel) (by decide +kernel)
set_option maxRecDepth 20000 in
theorem gX5_isText_X5_isPart : GoodIn wsX5_isText (wsV RX5 109 RX5 yX5_isPart wsX5_isPart) := goodIn_app (goodIn_of _ (by decide +kernel)) ggX5_isText_X5_isPart
theorem dX5_isText_0 : decode cX5_isText 0 = .ok (.aload_n 0, 1) := by decide +kernel
theorem dX5_isText_1 : decode cX5_isText 1 = .ok (.iconst 0, 1) := by decide +kernel
theorem dX5_isText_2 : decode cX5_isText 2 = .ok (.putfield 89, 3) := by decide +kernel
theorem dX5_isText_5 : decode cX5_isText 5 = .ok (.aload_n 0, 1) := by decide +kernel
theorem dX5_isText_6 : decode cX5_isText 6 = .ok (.iconst 0, 1) := by decide +kernel
theorem dX5_isText_7 : decode cX5_isText 7 = .ok (.putfield 106, 3) := by decide +kernel
theorem dX5_isText_10 : decode cX5_isText 10 = .ok (.aload_n 0, 1) := by decide +kernel
theorem dX5_isText_11 : decode cX5_isText 11 = .ok (.iconst 0, 1) := by decide +kernel
theorem dX5_isText_12 : decode cX5_isText 12 = .ok (.putfield 92, 3) := by decide +kernel
theorem dX5_isText_15 : decode cX5_isText 15 = .ok (.aload_n 0, 1) := by decide +kernel
theorem dX5_isText_16 : decode cX5_isText 16 = .ok (.getfield 89, 3) := by decide +kernel
theorem dX5_isText_19 : decode cX5_isText 19 = .ok (.aload_n 0, 1) := by decide +kernel
theorem dX5_isText_20 : decode cX5_isText 20 = .ok (.getfield 86, 3) := by decide +kernel
theorem dX5_isText_23 : decode cX5_isText 23 = .ok (.if_icmp .ge 25, 3) := by decide +kernel
theorem dX5_isText_26 : decode cX5_isText 26 = .ok (.aload_n 0, 1) := by decide +kernel
theorem dX5_isText_27 : decode cX5_isText 27 = .ok (.invokevirtual 109, 3) := by decide +kernel
theorem dX5_isText_30 : decode cX5_isText 30 = .ok (.ifCond .ne 5, 3) := by decide +kernel
theorem dX5_isText_33 : decode cX5_isText 33 = .ok (.iconst 0, 1) := by decide +kernel
theorem dX5_isText_34 : decode cX5_isText 34 = .ok (.ireturn, 1) := by decide +kernel
theorem dX5_isText_35 : decode cX5_isText 35 = .ok (.aload_n 0, 1) := by decide +kernel
theorem dX5_isText_36 : decode cX5_isText 36 = .ok (.dup, 1) := by decide +kernel
theorem dX5_isText_37 : decode cX5_isText 37 = .ok (.getfield 106, 3) := by decide +kernel
theorem dX5_isText_40 : decode cX5_isText 40 = .ok (.iconst 1, 1) := by decide +kernel
theorem dX5_isText_41 : decode cX5_isText 41 = .ok (.iadd, 1) := by decide +kernel
theorem dX5_isText_42 : decode cX5_isText 42 = .ok (.putfield 106, 3) := by decide +kernel
theorem dX5_isText_45 : decode cX5_isText 45 = .ok (.goto (-30), 3) := by decide +kernel
theorem dX5_isText_48 : decode cX5_isText 48 = .ok (.aload_n 0, 1) := by decide +kernel
theorem dX5_isText_49 : decode cX5_isText 49 = .ok (.getfield 106, 3) := by decide +kernel
theorem dX5_isText_52 : decode cX5_isText 52 = .ok (.ifCond .le 7, 3) := by decide +kernel
theorem dX5_isText_55 : decode cX5_isText 55 = .ok (.iconst 1, 1) := by decide +kernel
theorem dX5_isText_56 : decode cX5_isText 56 = .ok (.goto 4, 3) := by decide +kernel
theorem dX5_isText_59 : decode cX5_isText 59 = .ok (.iconst 0, 1) := by decide +kernel
theorem dX5_isText_60 : decode cX5_isText 60 = .ok (.ireturn, 1) := by decide +kernel
set_option maxRecDepth 20000 in
theorem ggX5_firstError_X5_isText : GoodIn wsX5_firstError wsX5_isText := goodIn_r _ [9, 3, 10, 2, 4, 11, 12, 13, 8, 14, 15, 16, 17, 18, 19, 20, 21, 22, 23, 24, 25, 26, 27, 28, 29, 30, 31, 32, 33, 34, 35, 36, 37, 38, 39, 40, 41] (by decide +kernel) (by decide +kernel)
set_option maxRecDepth 20000 in
theorem gX5_firstError_X5_isText : GoodIn wsX5_firstError (wsV RX5 112 RX5 yX5_isText wsX5_isText) := goodIn_app (goodIn_of _ (by decide +kernel)) ggX5_firstError_X5_isText
theorem dX5_firstError_0 : decode cX5_firstError 0 = .ok (.aload_n 0, 1) := by decide +kernel
theorem dX5_firstError_1 : decode cX5_firstError 1 = .ok (.iconst 0, 1) := by decide +kernel
theorem dX5_firstError_2 : decode cX5_firstError 2 = .ok (.putfield 22, 3) := by decide +kernel
theorem dX5_firstError_5 : decode cX5_firstError 5 = .ok (.aload_n 0, 1) := by decide +kernel
theorem dX5_firstError_6 : decode cX5_firstError 6 = .ok (.invokevirtual 112, 3) := by decide +kernel
theorem dX5_firstError_9 : decode cX5_firstError 9 = .ok (.istore_n 1, 1) := by decide +kernel
theorem dX5_firstError_10 : decode cX5_firstError 10 = .ok (.iload_n 1, 1) := by decide +kernel
theorem dX5_firstError_11 : decode cX5_firstError 11 = .ok (.ifCond .ne 17, 3) := by decide +kernel
theorem dX5_firstError_14 : decode cX5_firstError 14 = .ok (.aload_n 0, 1) := by decide +kernel
theorem dX5_firstError_15 : decode cX5_firstError 15 = .ok (.getfield 92, 3) := by decide +kernel
theorem dX5_firstError_18 : decode cX5_firstError 18 = .ok (.ifCond .eq 10, 3) := by decide +kernel
theorem dX5_firstError_21 : decode cX5_firstError 21 = .ok (.aload_n 0, 1) := by decide +kernel
theorem dX5_firstError_22 : decode cX5_firstError 22 = .ok (.getfield 89, 3) := by decide +kernel
theorem dX5_firstError_25 : decode cX5_firstError 25 = .ok (.goto 7, 3) := by decide +kernel
theorem dX5_firstError_28 : decode cX5_firstError 28 = .ok (.aload_n 0, 1) := by decide +kernel
theorem dX5_firstError_29 : decode cX5_firstError 29 = .ok (.getfield 86, 3) := by decide +kernel
theorem dX5_firstError_32 : decode cX5_firstError 32 = .ok (.ireturn, 1) := by decide +kernel
set_option maxRecDepth 20000 in
theorem ggX5_may_X5_mode : GoodIn wsX5_may wsX5_mode := goodIn_r _ [6, 1, 15, 16, 17, 18, 19, 20, 21, 22, 23, 24] (by decide +kernel) (by decide +kernel)
set_option maxRecDepth 20000 in
theorem gX5_may_X5_mode : GoodIn wsX5_may (wsV RX5 45 RX5 yX5_mode wsX5_mode) := goodIn_app (goodIn_of _ (by decide +kernel)) ggX5_may_X5_mode
set_option maxRecDepth 20000 in
theorem ggX5_may_X5_ofReading : GoodIn wsX5_may wsX5_ofReading := goodIn_r _ [10, 1, 11, 12, 13, 5, 14, 15, 16, 17, 18, 19, 20, 21, 22, 23, 24] (by decide +kernel) (by decide +kernel)
set_option maxRecDepth 20000 in
theorem gX5_may_X5_ofReading : GoodIn wsX5_may (wsV RX5 71 RX5 yX5_ofReading wsX5_ofReading) := goodIn_app (goodIn_of _ (by decide +kernel)) ggX5_may_X5_ofReading
theorem dX5_may_0 : decode cX5_may 0 = .ok (.iload_n 1, 1) := by decide +kernel
theorem dX5_may_1 : decode cX5_may 1 = .ok (.lookupswitch 102 #[(98, 88), (99, 43), (100, 57), (119, 72)], 43) := by decide +kernel
theorem dX5_may_44 : decode cX5_may 44 = .ok (.aload_n 0, 1) := by decide +kernel
theorem dX5_may_45 : decode cX5_may 45 = .ok (.iload_n 2, 1) := by decide +kernel
theorem dX5_may_46 : decode cX5_may 46 = .ok (.invokevirtual 45, 3) := by decide +kernel
theorem dX5_may_49 : decode cX5_may 49 = .ok (.ifCond .ne 7, 3) := by decide +kernel
theorem dX5_may_52 : decode cX5_may 52 = .ok (.iconst 1, 1) := by decide +kernel
theorem dX5_may_53 : decode cX5_may 53 = .ok (.goto 4, 3) := by decide +kernel
theorem dX5_may_56 : decode cX5_may 56 = .ok (.iconst 0, 1) := by decide +kernel
theorem dX5_may_57 : decode cX5_may 57 = .ok (.ireturn, 1) := by decide +kernel
theorem dX5_may_58 : decode cX5_may 58 = .ok (.aload_n 0, 1) := by decide +kernel
theorem dX5_may_59 : decode cX5_may 59 = .ok (.iload_n 2, 1) := by decide +kernel
theorem dX5_may_60 : decode cX5_may 60 = .ok (.invokevirtual 45, 3) := by decide +kernel
theorem dX5_may_63 : decode cX5_may 63 = .ok (.iconst 1, 1) := by decide +kernel
theorem dX5_may_64 : decode cX5_may 64 = .ok (.if_icmp .ne 7, 3) := by decide +kernel
theorem dX5_may_67 : decode cX5_may 67 = .ok (.iconst 1, 1) := by decide +kernel
theorem dX5_may_68 : decode cX5_may 68 = .ok (.goto 4, 3) := by decide +kernel
theorem dX5_may_71 : decode cX5_may 71 = .ok (.iconst 0, 1) := by decide +kernel
theorem dX5_may_72 : decode cX5_may 72 = .ok (.ireturn, 1) := by decide +kernel
theorem dX5_may_73 : decode cX5_may 73 = .ok (.aload_n 0, 1) := by decide +kernel
theorem dX5_may_74 : decode cX5_may 74 = .ok (.getfield 7, 3) := by decide +kernel
theorem dX5_may_77 : decode cX5_may 77 = .ok (.iconst 3, 1) := by decide +kernel
theorem dX5_may_78 : decode cX5_may 78 = .ok (.iaload, 1) := by decide +kernel
theorem dX5_may_79 : decode cX5_may 79 = .ok (.iconst (-1), 1) := by decide +kernel
theorem dX5_may_80 : decode cX5_may 80 = .ok (.if_icmp .eq 7, 3) := by decide +kernel
theorem dX5_may_83 : decode cX5_may 83 = .ok (.iconst 1, 1) := by decide +kernel
theorem dX5_may_84 : decode cX5_may 84 = .ok (.goto 4, 3) := by decide +kernel
theorem dX5_may_87 : decode cX5_may 87 = .ok (.iconst 0, 1) := by decide +kernel
theorem dX5_may_88 : decode cX5_may 88 = .ok (.ireturn, 1) := by decide +kernel
theorem dX5_may_89 : decode cX5_may 89 = .ok (.aload_n 0, 1) := by decide +kernel
theorem dX5_may_90 : decode cX5_may 90 = .ok (.iload_n 2, 1) := by decide +kernel
theorem dX5_may_91 : decode cX5_may 91 = .ok (.invokevirtual 71, 3) := by decide +kernel
theorem dX5_may_94 : decode cX5_may 94 = .ok (.ifCond .ne 7, 3) := by decide +kernel
theorem dX5_may_97 : decode cX5_may 97 = .ok (.iconst 1, 1) := by decide +kernel
theorem dX5_may_98 : decode cX5_may 98 = .ok (.goto 4, 3) := by decide +kernel
theorem dX5_may_101 : decode cX5_may 101 = .ok (.iconst 0, 1) := by decide +kernel
theorem dX5_may_102 : decode cX5_may 102 = .ok (.ireturn, 1) := by decide +kernel
theorem dX5_may_103 : decode cX5_may 103 = .ok (.aload_n 0, 1) := by decide +kernel
theorem dX5_may_104 : decode cX5_may 104 = .ok (.iload_n 2, 1) := by decide +kernel
theorem dX5_may_105 : decode cX5_may 105 = .ok (.invokevirtual 71, 3) := by decide +kernel
theorem dX5_may_108 : decode cX5_may 108 = .ok (.iconst 1, 1) := by decide +kernel
theorem dX5_may_109 : decode cX5_may 109 = .ok (.if_icmp .ne 7, 3) := by decide +kernel
theorem dX5_may_112 : decode cX5_may 112 = .ok (.iconst 1, 1) := by decide +kernel
theorem dX5_may_113 : decode cX5_may 113 = .ok (.goto 4, 3) := by decide +kernel
theorem dX5_may_116 : decode cX5_may 116 = .ok (.iconst 0, 1) := by decide +kernel
theorem dX5_may_117 : decode cX5_may 117 = .ok (.ireturn, 1) := by decide +kernel
set_option maxRecDepth 20000 in
theorem ggX5_does_X5_comes : GoodIn wsX5_does wsX5_comes := goodIn_r _ [6, 1, 7, 8, 9, 5, 10, 38, 39, 40, 41, 42, 43, 44, 45, 46, 47] (by decide +kernel) (by decide +kernel)
set_option maxRecDepth 20000 in
theorem gX5_does_X5_comes : GoodIn wsX5_does (wsV RX5 51 RX5 yX5_comes wsX5_comes) := goodIn_app (goodIn_of _ (by decide +kernel)) ggX5_does_X5_comes
set_option maxRecDepth 20000 in
theorem ggX5_does_X5_ends : GoodIn wsX5_does wsX5_ends := goodIn_r _ [14, 1, 38, 39, 40, 41, 42, 43, 44, 45, 46, 47] (by decide +kernel) (by decide +kernel)
set_option maxRecDepth 20000 in
theorem gX5_does_X5_ends : GoodIn wsX5_does (wsV RX5 57 RX5 yX5_ends wsX5_ends) := goodIn_app (goodIn_of _ (by decide +kernel)) ggX5_does_X5_ends
set_option maxRecDepth 20000 in
theorem ggX5_does_X5_begins : GoodIn wsX5_does wsX5_begins := goodIn_r _ [18, 1, 7, 8, 9, 5, 10, 19, 20, 21, 22, 38, 39, 40, 41, 42, 43, 44, 45, 46, 47] (by decide +kernel) (by decide +kernel)
set_option maxRecDepth 20000 in
theorem gX5_does_X5_begins : GoodIn wsX5_does (wsV RX5 74 RX5 yX5_begins wsX5_begins) := goodIn_app (goodIn_of _ (by decide +kernel)) ggX5_does_X5_begins
set_option maxRecDepth 20000 in
theorem ggX5_does_X5_looks : GoodIn wsX5_does wsX5_looks := goodIn_r _ [26, 1, 19, 20, 21, 5, 22, 27, 28, 29, 30, 31, 32, 33, 34, 35, 36, 37, 38, 39, 40, 41, 42, 43, 44, 45, 46, 47] (by decide +kernel) (by decide +kernel)
set_option maxRecDepth 20000 in
theorem gX5_does_X5_looks : GoodIn wsX5_does (wsV RX5 83 RX5 yX5_looks wsX5_looks) := goodIn_app (goodIn_of _ (by decide +kernel)) ggX5_does_X5_looks
theorem dX5_does_0 : decode cX5_does 0 = .ok (.iload_n 1, 1) := by decide +kernel
theorem dX5_does_1 : decode cX5_does 1 = .ok (.lookupswitch 83 #[(98, 74), (99, 43), (100, 52), (119, 61)], 43) := by decide +kernel
theorem dX5_does_44 : decode cX5_does 44 = .ok (.aload_n 0, 1) := by decide +kernel
theorem dX5_does_45 : decode cX5_does 45 = .ok (.iload_n 2, 1) := by decide +kernel
theorem dX5_does_46 : decode cX5_does 46 = .ok (.invokevirtual 51, 3) := by decide +kernel
theorem dX5_does_49 : decode cX5_does 49 = .ok (.pop, 1) := by decide +kernel
theorem dX5_does_50 : decode cX5_does 50 = .ok (.goto 40, 3) := by decide +kernel
theorem dX5_does_53 : decode cX5_does 53 = .ok (.aload_n 0, 1) := by decide +kernel
theorem dX5_does_54 : decode cX5_does 54 = .ok (.iload_n 2, 1) := by decide +kernel
theorem dX5_does_55 : decode cX5_does 55 = .ok (.invokevirtual 57, 3) := by decide +kernel
theorem dX5_does_58 : decode cX5_does 58 = .ok (.pop, 1) := by decide +kernel
theorem dX5_does_59 : decode cX5_does 59 = .ok (.goto 31, 3) := by decide +kernel
theorem dX5_does_62 : decode cX5_does 62 = .ok (.aload_n 0, 1) := by decide +kernel
theorem dX5_does_63 : decode cX5_does 63 = .ok (.getfield 7, 3) := by decide +kernel
theorem dX5_does_66 : decode cX5_does 66 = .ok (.bipush 7, 2) := by decide +kernel
theorem dX5_does_68 : decode cX5_does 68 = .ok (.iload_n 2, 1) := by decide +kernel
theorem dX5_does_69 : decode cX5_does 69 = .ok (.iadd, 1) := by decide +kernel
theorem dX5_does_70 : decode cX5_does 70 = .ok (.iload_n 3, 1) := by decide +kernel
theorem dX5_does_71 : decode cX5_does 71 = .ok (.iastore, 1) := by decide +kernel
theorem dX5_does_72 : decode cX5_does 72 = .ok (.goto 18, 3) := by decide +kernel
theorem dX5_does_75 : decode cX5_does 75 = .ok (.aload_n 0, 1) := by decide +kernel
theorem dX5_does_76 : decode cX5_does 76 = .ok (.iload_n 2, 1) := by decide +kernel
theorem dX5_does_77 : decode cX5_does 77 = .ok (.invokevirtual 74, 3) := by decide +kernel
theorem dX5_does_80 : decode cX5_does 80 = .ok (.pop, 1) := by decide +kernel
theorem dX5_does_81 : decode cX5_does 81 = .ok (.goto 9, 3) := by decide +kernel
theorem dX5_does_84 : decode cX5_does 84 = .ok (.aload_n 0, 1) := by decide +kernel
theorem dX5_does_85 : decode cX5_does 85 = .ok (.iload_n 2, 1) := by decide +kernel
theorem dX5_does_86 : decode cX5_does 86 = .ok (.invokevirtual 83, 3) := by decide +kernel
theorem dX5_does_89 : decode cX5_does 89 = .ok (.pop, 1) := by decide +kernel
theorem dX5_does_90 : decode cX5_does 90 = .ok (.return_, 1) := by decide +kernel
set_option maxRecDepth 20000 in
theorem ggX5_play_X5_isText : GoodIn wsX5_play wsX5_isText := goodIn_r _ [9, 10, 3, 11, 2, 12, 13, 14, 8, 15, 16, 4, 17, 18, 19, 20, 21, 22, 23, 24, 25, 26, 27, 28, 29, 30, 31, 95, 96, 97, 98, 99, 100, 101, 102, 103, 104] (by decide +kernel) (by decide +kernel)
set_option maxRecDepth 20000 in
theorem gX5_play_X5_isText : GoodIn wsX5_play (wsV RX5 112 RX5 yX5_isText wsX5_isText) := goodIn_app (goodIn_of _ (by decide +kernel)) ggX5_play_X5_isText
set_option maxRecDepth 20000 in
theorem ggX5_play_X5_fails : GoodIn wsX5_play wsX5_fails := goodIn_r _ [35, 1, 95, 96, 97, 98, 99, 100, 101, 102, 103, 104] (by decide +kernel) (by decide +kernel)
set_option maxRecDepth 20000 in
theorem gX5_play_X5_fails : GoodIn wsX5_play (wsV RX5 33 RX5 yX5_fails wsX5_fails) := goodIn_app (goodIn_of _ (by decide +kernel)) ggX5_play_X5_fails
set_option maxRecDepth 20000 in
theorem ggX5_play_X5_saves : GoodIn wsX5_play wsX5_saves := goodIn_r _ [39, 40, 41, 42, 95, 96, 97, 98, 99, 100, 101, 102, 103, 104] (by decide +kernel) (by decide +kernel)
set_option maxRecDepth 20000 in
theorem gX5_play_X5_saves : GoodIn wsX5_play (wsV RX5 48 RX5 yX5_saves wsX5_saves) := goodIn_app (goodIn_of _ (by decide +kernel)) ggX5_play_X5_saves
set_option maxRecDepth 20000 in
theorem ggX5_play_X5_may : GoodIn wsX5_play wsX5_may := goodIn_r _ [46, 42, 47, 48, 49, 8, 50, 51, 52, 53, 54, 55, 56, 57, 58, 95, 96, 97, 98, 99, 100, 101, 102, 103, 104] (by decide +kernel) (by decide +kernel)
set_option maxRecDepth 20000 in
theorem gX5_play_X5_may : GoodIn wsX5_play (wsV RX5 115 RX5 yX5_may wsX5_may) := goodIn_app (goodIn_of _ (by decide +kernel)) ggX5_play_X5_may
set_option maxRecDepth 20000 in
theorem ggX5_play_X5_does : GoodIn wsX5_play wsX5_does := goodIn_r _ [62, 42, 63, 64, 65, 8, 66, 67, 68, 69, 70, 71, 72, 73, 74, 75, 76, 77, 78, 79, 80, 81, 82, 83, 84, 85, 86, 87, 88, 89, 90, 91, 92, 93, 94, 29, 30, 31, 95, 96, 97, 98, 99, 100, 101, 102, 103, 104] (by decide +kernel) (by decide +kernel)
set_option maxRecDepth 20000 in
theorem gX5_play_X5_does : GoodIn wsX5_play (wsV RX5 118 RX5 yX5_does wsX5_does) := goodIn_app (goodIn_of _ (by decide +kernel)) ggX5_play_X5_does
theorem dX5_play_0 : decode cX5_play 0 = .ok (.aload_n 0, 1) := by decide +kernel
theorem dX5_play_1 : decode cX5_play 1 = .ok (.iconst 0, 1) := by decide +kernel
theorem dX5_play_2 : decode cX5_play 2 = .ok (.putfield 22, 3) := by decide +kernel
theorem dX5_play_5 : decode cX5_play 5 = .ok (.aload_n 0, 1) := by decide +kernel
theorem dX5_play_6 : decode cX5_play 6 = .ok (.invokevirtual 112, 3) := by decide +kernel
theorem dX5_play_9 : decode cX5_play 9 = .ok (.ifCond .ne 9, 3) := by decide +kernel
theorem dX5_play_12 : decode cX5_play 12 = .ok (.aload_n 0, 1) := by decide +kernel
theorem dX5_play_13 : decode cX5_play 13 = .ok (.iconst 1, 1) := by decide +kernel
theorem dX5_play_14 : decode cX5_play 14 = .ok (.invokevirtual 33, 3) := by decide +kernel
theorem dX5_play_17 : decode cX5_play 17 = .ok (.ireturn, 1) := by decide +kernel
theorem dX5_play_18 : decode cX5_play 18 = .ok (.aload_n 0, 1) := by decide +kernel
theorem dX5_play_19 : decode cX5_play 19 = .ok (.invokevirtual 48, 3) := by decide +kernel
theorem dX5_play_22 : decode cX5_play 22 = .ok (.aload_n 0, 1) := by decide +kernel
theorem dX5_play_23 : decode cX5_play 23 = .ok (.iconst 0, 1) := by decide +kernel
theorem dX5_play_24 : decode cX5_play 24 = .ok (.putfield 86, 3) := by decide +kernel
theorem dX5_play_27 : decode cX5_play 27 = .ok (.iconst 0, 1) := by decide +kernel
theorem dX5_play_28 : decode cX5_play 28 = .ok (.istore_n 1, 1) := by decide +kernel
theorem dX5_play_29 : decode cX5_play 29 = .ok (.iload_n 1, 1) := by decide +kernel
theorem dX5_play_30 : decode cX5_play 30 = .ok (.aload_n 0, 1) := by decide +kernel
theorem dX5_play_31 : decode cX5_play 31 = .ok (.getfield 106, 3) := by decide +kernel
theorem dX5_play_34 : decode cX5_play 34 = .ok (.if_icmp .ge 66, 3) := by decide +kernel
theorem dX5_play_37 : decode cX5_play 37 = .ok (.aload_n 0, 1) := by decide +kernel
theorem dX5_play_38 : decode cX5_play 38 = .ok (.aload_n 0, 1) := by decide +kernel
theorem dX5_play_39 : decode cX5_play 39 = .ok (.getfield 19, 3) := by decide +kernel
theorem dX5_play_42 : decode cX5_play 42 = .ok (.iconst 3, 1) := by decide +kernel
theorem dX5_play_43 : decode cX5_play 43 = .ok (.iload_n 1, 1) := by decide +kernel
theorem dX5_play_44 : decode cX5_play 44 = .ok (.imul, 1) := by decide +kernel
theorem dX5_play_45 : decode cX5_play 45 = .ok (.iaload, 1) := by decide +kernel
theorem dX5_play_46 : decode cX5_play 46 = .ok (.aload_n 0, 1) := by decide +kernel
theorem dX5_play_47 : decode cX5_play 47 = .ok (.getfield 19, 3) := by decide +kernel
theorem dX5_play_50 : decode cX5_play 50 = .ok (.iconst 3, 1) := by decide +kernel
theorem dX5_play_51 : decode cX5_play 51 = .ok (.iload_n 1, 1) := by decide +kernel
theorem dX5_play_52 : decode cX5_play 52 = .ok (.imul, 1) := by decide +kernel
theorem dX5_play_53 : decode cX5_play 53 = .ok (.iconst 1, 1) := by decide +kernel
theorem dX5_play_54 : decode cX5_play 54 = .ok (.iadd, 1) := by decide +kernel
theorem dX5_play_55 : decode cX5_play 55 = .ok (.iaload, 1) := by decide +kernel
theorem dX5_play_56 : decode cX5_play 56 = .ok (.invokevirtual 115, 3) := by decide +kernel
theorem dX5_play_59 : decode cX5_play 59 = .ok (.ifCond .eq 41, 3) := by decide +kernel
theorem dX5_play_62 : decode cX5_play 62 = .ok (.aload_n 0, 1) := by decide +kernel
theorem dX5_play_63 : decode cX5_play 63 = .ok (.aload_n 0, 1) := by decide +kernel
theorem dX5_play_64 : decode cX5_play 64 = .ok (.getfield 19, 3) := by decide +kernel
theorem dX5_play_67 : decode cX5_play 67 = .ok (.iconst 3, 1) := by decide +kernel
theorem dX5_play_68 : decode cX5_play 68 = .ok (.iload_n 1, 1) := by decide +kernel
theorem dX5_play_69 : decode cX5_play 69 = .ok (.imul, 1) := by decide +kernel
theorem dX5_play_70 : decode cX5_play 70 = .ok (.iaload, 1) := by decide +kernel
theorem dX5_play_71 : decode cX5_play 71 = .ok (.aload_n 0, 1) := by decide +kernel
theorem dX5_play_72 : decode cX5_play 72 = .ok (.getfield 19, 3) := by decide +kernel
theorem dX5_play_75 : decode cX5_play 75 = .ok (.iconst 3, 1) := by decide +kernel
theorem dX5_play_76 : decode cX5_play 76 = .ok (.iload_n 1, 1) := by decide +kernel
theorem dX5_play_77 : decode cX5_play 77 = .ok (.imul, 1) := by decide +kernel
theorem dX5_play_78 : decode cX5_play 78 = .ok (.iconst 1, 1) := by decide +kernel
theorem dX5_play_79 : decode cX5_play 79 = .ok (.iadd, 1) := by decide +kernel
theorem dX5_play_80 : decode cX5_play 80 = .ok (.iaload, 1) := by decide +kernel
theorem dX5_play_81 : decode cX5_play 81 = .ok (.aload_n 0, 1) := by decide +kernel
theorem dX5_play_82 : decode cX5_play 82 = .ok (.getfield 19, 3) := by decide +kernel
theorem dX5_play_85 : decode cX5_play 85 = .ok (.iconst 3, 1) := by decide +kernel
theorem dX5_play_86 : decode cX5_play 86 = .ok (.iload_n 1, 1) := by decide +kernel
theorem dX5_play_87 : decode cX5_play 87 = .ok (.imul, 1) := by decide +kernel
theorem dX5_play_88 : decode cX5_play 88 = .ok (.iconst 2, 1) := by decide +kernel
theorem dX5_play_89 : decode cX5_play 89 = .ok (.iadd, 1) := by decide +kernel
theorem dX5_play_90 : decode cX5_play 90 = .ok (.iaload, 1) := by decide +kernel
theorem dX5_play_91 : decode cX5_play 91 = .ok (.invokevirtual 118, 3) := by decide +kernel
theorem dX5_play_94 : decode cX5_play 94 = .ok (.iinc 1 1, 3) := by decide +kernel
theorem dX5_play_97 : decode cX5_play 97 = .ok (.goto (-68), 3) := by decide +kernel
theorem dX5_play_100 : decode cX5_play 100 = .ok (.iload_n 1, 1) := by decide +kernel
theorem dX5_play_101 : decode cX5_play 101 = .ok (.ireturn, 1) := by decide +kernel
set_option maxRecDepth 20000 in
theorem ggX5_field_X5_isField : GoodIn wsX5_field wsX5_isField := goodIn_r _ [6, 7, 8, 5, 9] (by decide +kernel) (by decide +kernel)
set_option maxRecDepth 20000 in
theorem gX5_field_X5_isField : GoodIn wsX5_field (va_wsS RX5 54 yX5_isField wsX5_isField) := goodIn_app (goodIn_of _ (by decide +kernel)) ggX5_field_X5_isField
set_option maxRecDepth 20000 in
theorem ggX5_field_X5_fails : GoodIn wsX5_field wsX5_fails := goodIn_r _ [13, 1, 14, 15, 16, 17, 18, 19, 20, 21, 22, 23] (by decide +kernel) (by decide +kernel)
set_option maxRecDepth 20000 in
theorem gX5_field_X5_fails : GoodIn wsX5_field (wsV RX5 33 RX5 yX5_fails wsX5_fails) := goodIn_app (goodIn_of _ (by decide +kernel)) ggX5_field_X5_fails
