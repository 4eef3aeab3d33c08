theorem dX12_rods_89 : decode cX12_rods 89 = .ok (.getfield 22, 3) := by decide +kernel
theorem dX12_rods_92 : decode cX12_rods 92 = .ok (.iconst 3, 1) := by decide +kernel
theorem dX12_rods_93 : decode cX12_rods 93 = .ok (.iaload, 1) := by decide +kernel
theorem dX12_rods_94 : decode cX12_rods 94 = .ok (.if_icmp .ge 41, 3) := by decide +kernel
theorem dX12_rods_97 : decode cX12_rods 97 = .ok (.aload_n 0, 1) := by decide +kernel
theorem dX12_rods_98 : decode cX12_rods 98 = .ok (.getfield 28, 3) := by decide +kernel
theorem dX12_rods_101 : decode cX12_rods 101 = .ok (.iconst 5, 1) := by decide +kernel
theorem dX12_rods_102 : decode cX12_rods 102 = .ok (.iload 7, 2) := by decide +kernel
theorem dX12_rods_104 : decode cX12_rods 104 = .ok (.iadd, 1) := by decide +kernel
theorem dX12_rods_105 : decode cX12_rods 105 = .ok (.iload 6, 2) := by decide +kernel
theorem dX12_rods_107 : decode cX12_rods 107 = .ok (.iload 7, 2) := by decide +kernel
theorem dX12_rods_109 : decode cX12_rods 109 = .ok (.invokestatic 163, 3) := by decide +kernel
theorem dX12_rods_112 : decode cX12_rods 112 = .ok (.ifCond .eq 7, 3) := by decide +kernel
theorem dX12_rods_115 : decode cX12_rods 115 = .ok (.iconst 4, 1) := by decide +kernel
theorem dX12_rods_116 : decode cX12_rods 116 = .ok (.goto 12, 3) := by decide +kernel
theorem dX12_rods_119 : decode cX12_rods 119 = .ok (.aload_n 0, 1) := by decide +kernel
theorem dX12_rods_120 : decode cX12_rods 120 = .ok (.getfield 28, 3) := by decide +kernel
theorem dX12_rods_123 : decode cX12_rods 123 = .ok (.iconst 5, 1) := by decide +kernel
theorem dX12_rods_124 : decode cX12_rods 124 = .ok (.iload 7, 2) := by decide +kernel
theorem dX12_rods_126 : decode cX12_rods 126 = .ok (.iadd, 1) := by decide +kernel
theorem dX12_rods_127 : decode cX12_rods 127 = .ok (.iaload, 1) := by decide +kernel
theorem dX12_rods_128 : decode cX12_rods 128 = .ok (.iastore, 1) := by decide +kernel
theorem dX12_rods_129 : decode cX12_rods 129 = .ok (.iinc 7 1, 3) := by decide +kernel
theorem dX12_rods_132 : decode cX12_rods 132 = .ok (.goto (-46), 3) := by decide +kernel
theorem dX12_rods_135 : decode cX12_rods 135 = .ok (.aload_n 0, 1) := by decide +kernel
theorem dX12_rods_136 : decode cX12_rods 136 = .ok (.iload_n 3, 1) := by decide +kernel
theorem dX12_rods_137 : decode cX12_rods 137 = .ok (.invokevirtual 195, 3) := by decide +kernel
theorem dX12_rods_140 : decode cX12_rods 140 = .ok (.aload_n 0, 1) := by decide +kernel
theorem dX12_rods_141 : decode cX12_rods 141 = .ok (.getfield 28, 3) := by decide +kernel
theorem dX12_rods_144 : decode cX12_rods 144 = .ok (.bipush 21, 2) := by decide +kernel
theorem dX12_rods_146 : decode cX12_rods 146 = .ok (.iload_n 1, 1) := by decide +kernel
theorem dX12_rods_147 : decode cX12_rods 147 = .ok (.iadd, 1) := by decide +kernel
theorem dX12_rods_148 : decode cX12_rods 148 = .ok (.iaload, 1) := by decide +kernel
theorem dX12_rods_149 : decode cX12_rods 149 = .ok (.iload_n 2, 1) := by decide +kernel
theorem dX12_rods_150 : decode cX12_rods 150 = .ok (.if_icmp .ne 8, 3) := by decide +kernel
theorem dX12_rods_153 : decode cX12_rods 153 = .ok (.iload 6, 2) := by decide +kernel
theorem dX12_rods_155 : decode cX12_rods 155 = .ok (.goto 5, 3) := by decide +kernel
theorem dX12_rods_158 : decode cX12_rods 158 = .ok (.iload 5, 2) := by decide +kernel
theorem dX12_rods_160 : decode cX12_rods 160 = .ok (.istore 5, 2) := by decide +kernel
theorem dX12_rods_162 : decode cX12_rods 162 = .ok (.iinc 6 1, 3) := by decide +kernel
theorem dX12_rods_165 : decode cX12_rods 165 = .ok (.goto (-119), 3) := by decide +kernel
theorem dX12_rods_168 : decode cX12_rods 168 = .ok (.iload 5, 2) := by decide +kernel
theorem dX12_rods_170 : decode cX12_rods 170 = .ok (.ldc 137, 2) := by decide +kernel
theorem dX12_rods_172 : decode cX12_rods 172 = .ok (.if_icmp .ne 8, 3) := by decide +kernel
theorem dX12_rods_175 : decode cX12_rods 175 = .ok (.ldc 137, 2) := by decide +kernel
theorem dX12_rods_177 : decode cX12_rods 177 = .ok (.goto 18, 3) := by decide +kernel
theorem dX12_rods_180 : decode cX12_rods 180 = .ok (.iload 4, 2) := by decide +kernel
theorem dX12_rods_182 : decode cX12_rods 182 = .ok (.ifCond .ne 11, 3) := by decide +kernel
theorem dX12_rods_185 : decode cX12_rods 185 = .ok (.iload 5, 2) := by decide +kernel
theorem dX12_rods_187 : decode cX12_rods 187 = .ok (.invokestatic 203, 3) := by decide +kernel
theorem dX12_rods_190 : decode cX12_rods 190 = .ok (.goto 5, 3) := by decide +kernel
theorem dX12_rods_193 : decode cX12_rods 193 = .ok (.iload 5, 2) := by decide +kernel
theorem dX12_rods_195 : decode cX12_rods 195 = .ok (.ireturn, 1) := by decide +kernel
set_option maxRecDepth 20000 in
theorem ggX12_tour_X12_isThere : GoodIn wsX12_tour wsX12_isThere := goodIn_r _ [10, 3, 69, 70, 71, 72, 73, 74, 75, 76, 77, 78, 79, 80, 81, 82, 83, 84, 85, 86, 87, 88, 89, 90, 91, 92] (by decide +kernel) (by decide +kernel)
set_option maxRecDepth 20000 in
theorem gX12_tour_X12_isThere : GoodIn wsX12_tour (wsV RX12 169 RX12 yX12_isThere wsX12_isThere) := goodIn_app (goodIn_of _ (by decide +kernel)) ggX12_tour_X12_isThere
set_option maxRecDepth 20000 in
theorem ggX12_tour_X12_in : GoodIn wsX12_tour wsX12_in := goodIn_r _ [13] (by decide +kernel) (by decide +kernel)
set_option maxRecDepth 20000 in
theorem gX12_tour_X12_in : GoodIn wsX12_tour (va_wsS RX12 53 yX12_in wsX12_in) := goodIn_app (goodIn_of _ (by decide +kernel)) ggX12_tour_X12_in
set_option maxRecDepth 20000 in
theorem ggX12_tour_X12_begin : GoodIn wsX12_tour wsX12_begin := goodIn_r _ [17, 3, 5, 18, 19, 9, 20, 69, 70, 71, 72, 73, 74, 75, 76, 77, 78, 79, 80, 81, 82, 83, 84, 85, 86, 87, 88, 89, 90, 91, 92] (by decide +kernel) (by decide +kernel)
set_option maxRecDepth 20000 in
theorem gX12_tour_X12_begin : GoodIn wsX12_tour (wsV RX12 192 RX12 yX12_begin wsX12_begin) := goodIn_app (goodIn_of _ (by decide +kernel)) ggX12_tour_X12_begin
set_option maxRecDepth 20000 in
theorem ggX12_tour_X12_cardsIn : GoodIn wsX12_tour wsX12_cardsIn := goodIn_r _ [23] (by decide +kernel) (by decide +kernel)
set_option maxRecDepth 20000 in
theorem gX12_tour_X12_cardsIn : GoodIn wsX12_tour (va_wsS RX12 189 yX12_cardsIn wsX12_cardsIn) := goodIn_app (goodIn_of _ (by decide +kernel)) ggX12_tour_X12_cardsIn
set_option maxRecDepth 20000 in
theorem ggX12_tour_X12_goOn : GoodIn wsX12_tour wsX12_goOn := goodIn_r _ [27, 5, 28, 29, 9, 30, 31, 32, 33, 34, 35, 36, 37, 38, 39, 40, 41, 42, 43, 44, 45, 46, 47, 48, 49, 50, 51, 52, 53, 54, 55, 56, 57, 58, 59, 60, 61, 69, 70, 71, 72, 73, 74, 75, 76, 77, 78, 79, 80, 81, 82, 83, 84, 85, 86, 87, 88, 89, 90, 91, 92] (by decide +kernel) (by decide +kernel)
set_option maxRecDepth 20000 in
theorem gX12_tour_X12_goOn : GoodIn wsX12_tour (wsV RX12 195 RX12 yX12_goOn wsX12_goOn) := goodIn_app (goodIn_of _ (by decide +kernel)) ggX12_tour_X12_goOn
set_option maxRecDepth 20000 in
theorem ggX12_tour_X12_isDrawer : GoodIn wsX12_tour wsX12_isDrawer := goodIn_r _ [65, 3, 11, 12, 9, 13, 69, 70, 71, 72, 73, 74, 75, 76, 77, 78, 79, 80, 81, 82, 83, 84, 85, 86, 87, 88, 89, 90, 91, 92] (by decide +kernel) (by decide +kernel)
set_option maxRecDepth 20000 in
theorem gX12_tour_X12_isDrawer : GoodIn wsX12_tour (wsV RX12 186 RX12 yX12_isDrawer wsX12_isDrawer) := goodIn_app (goodIn_of _ (by decide +kernel)) ggX12_tour_X12_isDrawer
set_option maxRecDepth 20000 in
theorem ggX12_tour_X12_bits : GoodIn wsX12_tour wsX12_bits := goodIn_r _ [68] (by decide +kernel) (by decide +kernel)
set_option maxRecDepth 20000 in
theorem gX12_tour_X12_bits : GoodIn wsX12_tour (va_wsS RX12 203 yX12_bits wsX12_bits) := goodIn_app (goodIn_of _ (by decide +kernel)) ggX12_tour_X12_bits
theorem dX12_tour_0 : decode cX12_tour 0 = .ok (.aload_n 0, 1) := by decide +kernel
theorem dX12_tour_1 : decode cX12_tour 1 = .ok (.invokevirtual 169, 3) := by decide +kernel
theorem dX12_tour_4 : decode cX12_tour 4 = .ok (.ifCond .ne 6, 3) := by decide +kernel
theorem dX12_tour_7 : decode cX12_tour 7 = .ok (.ldc 172, 2) := by decide +kernel
theorem dX12_tour_9 : decode cX12_tour 9 = .ok (.ireturn, 1) := by decide +kernel
theorem dX12_tour_10 : decode cX12_tour 10 = .ok (.iload_n 1, 1) := by decide +kernel
theorem dX12_tour_11 : decode cX12_tour 11 = .ok (.iconst 1, 1) := by decide +kernel
theorem dX12_tour_12 : decode cX12_tour 12 = .ok (.iconst 4, 1) := by decide +kernel
theorem dX12_tour_13 : decode cX12_tour 13 = .ok (.invokestatic 53, 3) := by decide +kernel
theorem dX12_tour_16 : decode cX12_tour 16 = .ok (.ifCond .eq 12, 3) := by decide +kernel
theorem dX12_tour_19 : decode cX12_tour 19 = .ok (.iload_n 2, 1) := by decide +kernel
theorem dX12_tour_20 : decode cX12_tour 20 = .ok (.iconst 0, 1) := by decide +kernel
theorem dX12_tour_21 : decode cX12_tour 21 = .ok (.iconst 1, 1) := by decide +kernel
theorem dX12_tour_22 : decode cX12_tour 22 = .ok (.invokestatic 53, 3) := by decide +kernel
theorem dX12_tour_25 : decode cX12_tour 25 = .ok (.ifCond .ne 6, 3) := by decide +kernel
theorem dX12_tour_28 : decode cX12_tour 28 = .ok (.ldc 66, 2) := by decide +kernel
theorem dX12_tour_30 : decode cX12_tour 30 = .ok (.ireturn, 1) := by decide +kernel
theorem dX12_tour_31 : decode cX12_tour 31 = .ok (.aload_n 0, 1) := by decide +kernel
theorem dX12_tour_32 : decode cX12_tour 32 = .ok (.invokevirtual 192, 3) := by decide +kernel
theorem dX12_tour_35 : decode cX12_tour 35 = .ok (.iconst 1, 1) := by decide +kernel
theorem dX12_tour_36 : decode cX12_tour 36 = .ok (.istore_n 3, 1) := by decide +kernel
theorem dX12_tour_37 : decode cX12_tour 37 = .ok (.iconst 0, 1) := by decide +kernel
theorem dX12_tour_38 : decode cX12_tour 38 = .ok (.istore 4, 2) := by decide +kernel
theorem dX12_tour_40 : decode cX12_tour 40 = .ok (.iload 4, 2) := by decide +kernel
theorem dX12_tour_42 : decode cX12_tour 42 = .ok (.iload_n 1, 1) := by decide +kernel
theorem dX12_tour_43 : decode cX12_tour 43 = .ok (.if_icmp .ge 61, 3) := by decide +kernel
theorem dX12_tour_46 : decode cX12_tour 46 = .ok (.iconst 0, 1) := by decide +kernel
theorem dX12_tour_47 : decode cX12_tour 47 = .ok (.istore 5, 2) := by decide +kernel
theorem dX12_tour_49 : decode cX12_tour 49 = .ok (.iload 5, 2) := by decide +kernel
theorem dX12_tour_51 : decode cX12_tour 51 = .ok (.aload_n 0, 1) := by decide +kernel
theorem dX12_tour_52 : decode cX12_tour 52 = .ok (.getfield 22, 3) := by decide +kernel
theorem dX12_tour_55 : decode cX12_tour 55 = .ok (.iconst 1, 1) := by decide +kernel
theorem dX12_tour_56 : decode cX12_tour 56 = .ok (.iaload, 1) := by decide +kernel
theorem dX12_tour_57 : decode cX12_tour 57 = .ok (.if_icmp .ge 31, 3) := by decide +kernel
theorem dX12_tour_60 : decode cX12_tour 60 = .ok (.aload_n 0, 1) := by decide +kernel
theorem dX12_tour_61 : decode cX12_tour 61 = .ok (.getfield 50, 3) := by decide +kernel
theorem dX12_tour_64 : decode cX12_tour 64 = .ok (.bipush 6, 2) := by decide +kernel
theorem dX12_tour_66 : decode cX12_tour 66 = .ok (.iload 4, 2) := by decide +kernel
theorem dX12_tour_68 : decode cX12_tour 68 = .ok (.imul, 1) := by decide +kernel
theorem dX12_tour_69 : decode cX12_tour 69 = .ok (.iload 5, 2) := by decide +kernel
theorem dX12_tour_71 : decode cX12_tour 71 = .ok (.iadd, 1) := by decide +kernel
theorem dX12_tour_72 : decode cX12_tour 72 = .ok (.aload_n 0, 1) := by decide +kernel
theorem dX12_tour_73 : decode cX12_tour 73 = .ok (.getfield 28, 3) := by decide +kernel
theorem dX12_tour_76 : decode cX12_tour 76 = .ok (.iload 5, 2) := by decide +kernel
theorem dX12_tour_78 : decode cX12_tour 78 = .ok (.invokestatic 189, 3) := by decide +kernel
theorem dX12_tour_81 : decode cX12_tour 81 = .ok (.iastore, 1) := by decide +kernel
theorem dX12_tour_82 : decode cX12_tour 82 = .ok (.iinc 5 1, 3) := by decide +kernel
theorem dX12_tour_85 : decode cX12_tour 85 = .ok (.goto (-36), 3) := by decide +kernel
theorem dX12_tour_88 : decode cX12_tour 88 = .ok (.iload_n 3, 1) := by decide +kernel
theorem dX12_tour_89 : decode cX12_tour 89 = .ok (.bipush 6, 2) := by decide +kernel
theorem dX12_tour_91 : decode cX12_tour 91 = .ok (.imul, 1) := by decide +kernel
theorem dX12_tour_92 : decode cX12_tour 92 = .ok (.istore_n 3, 1) := by decide +kernel
theorem dX12_tour_93 : decode cX12_tour 93 = .ok (.aload_n 0, 1) := by decide +kernel
theorem dX12_tour_94 : decode cX12_tour 94 = .ok (.iconst 1, 1) := by decide +kernel
theorem dX12_tour_95 : decode cX12_tour 95 = .ok (.invokevirtual 195, 3) := by decide +kernel
theorem dX12_tour_98 : decode cX12_tour 98 = .ok (.iinc 4 1, 3) := by decide +kernel
theorem dX12_tour_101 : decode cX12_tour 101 = .ok (.goto (-61), 3) := by decide +kernel
theorem dX12_tour_104 : decode cX12_tour 104 = .ok (.iconst (-1), 1) := by decide +kernel
theorem dX12_tour_105 : decode cX12_tour 105 = .ok (.istore 4, 2) := by decide +kernel
theorem dX12_tour_107 : decode cX12_tour 107 = .ok (.iconst 0, 1) := by decide +kernel
theorem dX12_tour_108 : decode cX12_tour 108 = .ok (.istore 5, 2) := by decide +kernel
theorem dX12_tour_110 : decode cX12_tour 110 = .ok (.iconst 0, 1) := by decide +kernel
theorem dX12_tour_111 : decode cX12_tour 111 = .ok (.istore 6, 2) := by decide +kernel
theorem dX12_tour_113 : decode cX12_tour 113 = .ok (.iload 6, 2) := by decide +kernel
theorem dX12_tour_115 : decode cX12_tour 115 = .ok (.iload_n 3, 1) := by decide +kernel
theorem dX12_tour_116 : decode cX12_tour 116 = .ok (.if_icmp .ge 146, 3) := by decide +kernel
theorem dX12_tour_119 : decode cX12_tour 119 = .ok (.iload 6, 2) := by decide +kernel
theorem dX12_tour_121 : decode cX12_tour 121 = .ok (.istore 7, 2) := by decide +kernel
theorem dX12_tour_123 : decode cX12_tour 123 = .ok (.iconst 0, 1) := by decide +kernel
theorem dX12_tour_124 : decode cX12_tour 124 = .ok (.istore 8, 2) := by decide +kernel
theorem dX12_tour_126 : decode cX12_tour 126 = .ok (.iconst 0, 1) := by decide +kernel
theorem dX12_tour_127 : decode cX12_tour 127 = .ok (.istore 9, 2) := by decide +kernel
theorem dX12_tour_129 : decode cX12_tour 129 = .ok (.iconst 1, 1) := by decide +kernel
theorem dX12_tour_130 : decode cX12_tour 130 = .ok (.istore 10, 2) := by decide +kernel
theorem dX12_tour_132 : decode cX12_tour 132 = .ok (.iconst 1, 1) := by decide +kernel
theorem dX12_tour_133 : decode cX12_tour 133 = .ok (.istore 11, 2) := by decide +kernel
theorem dX12_tour_135 : decode cX12_tour 135 = .ok (.iload_n 1, 1) := by decide +kernel
theorem dX12_tour_136 : decode cX12_tour 136 = .ok (.iconst 1, 1) := by decide +kernel
theorem dX12_tour_137 : decode cX12_tour 137 = .ok (.isub, 1) := by decide +kernel
theorem dX12_tour_138 : decode cX12_tour 138 = .ok (.istore 12, 2) := by decide +kernel
theorem dX12_tour_140 : decode cX12_tour 140 = .ok (.iload 12, 2) := by decide +kernel
theorem dX12_tour_142 : decode cX12_tour 142 = .ok (.ifCond .lt 88, 3) := by decide +kernel
theorem dX12_tour_145 : decode cX12_tour 145 = .ok (.iload 7, 2) := by decide +kernel
theorem dX12_tour_147 : decode cX12_tour 147 = .ok (.bipush 6, 2) := by decide +kernel
theorem dX12_tour_149 : decode cX12_tour 149 = .ok (.irem, 1) := by decide +kernel
theorem dX12_tour_150 : decode cX12_tour 150 = .ok (.istore 13, 2) := by decide +kernel
theorem dX12_tour_152 : decode cX12_tour 152 = .ok (.iload 7, 2) := by decide +kernel
theorem dX12_tour_154 : decode cX12_tour 154 = .ok (.bipush 6, 2) := by decide +kernel
theorem dX12_tour_156 : decode cX12_tour 156 = .ok (.idiv, 1) := by decide +kernel
theorem dX12_tour_157 : decode cX12_tour 157 = .ok (.istore 7, 2) := by decide +kernel
theorem dX12_tour_159 : decode cX12_tour 159 = .ok (.iload 11, 2) := by decide +kernel
theorem dX12_tour_161 : decode cX12_tour 161 = .ok (.ifCond .eq 16, 3) := by decide +kernel
theorem dX12_tour_164 : decode cX12_tour 164 = .ok (.aload_n 0, 1) := by decide +kernel
theorem dX12_tour_165 : decode cX12_tour 165 = .ok (.iload 13, 2) := by decide +kernel
theorem dX12_tour_167 : decode cX12_tour 167 = .ok (.invokevirtual 186, 3) := by decide +kernel
theorem dX12_tour_170 : decode cX12_tour 170 = .ok (.ifCond .eq 7, 3) := by decide +kernel
theorem dX12_tour_173 : decode cX12_tour 173 = .ok (.iconst 1, 1) := by decide +kernel
theorem dX12_tour_174 : decode cX12_tour 174 = .ok (.goto 4, 3) := by decide +kernel
theorem dX12_tour_177 : decode cX12_tour 177 = .ok (.iconst 0, 1) := by decide +kernel
theorem dX12_tour_178 : decode cX12_tour 178 = .ok (.istore 11, 2) := by decide +kernel
theorem dX12_tour_180 : decode cX12_tour 180 = .ok (.iload 8, 2) := by decide +kernel
theorem dX12_tour_182 : decode cX12_tour 182 = .ok (.iload 11, 2) := by decide +kernel
theorem dX12_tour_184 : decode cX12_tour 184 = .ok (.ifCond .eq 19, 3) := by decide +kernel
theorem dX12_tour_187 : decode cX12_tour 187 = .ok (.aload_n 0, 1) := by decide +kernel
theorem dX12_tour_188 : decode cX12_tour 188 = .ok (.getfield 50, 3) := by decide +kernel
theorem dX12_tour_191 : decode cX12_tour 191 = .ok (.bipush 6, 2) := by decide +kernel
theorem dX12_tour_193 : decode cX12_tour 193 = .ok (.iload 12, 2) := by decide +kernel
theorem dX12_tour_195 : decode cX12_tour 195 = .ok (.imul, 1) := by decide +kernel
theorem dX12_tour_196 : decode cX12_tour 196 = .ok (.iload 13, 2) := by decide +kernel
theorem dX12_tour_198 : decode cX12_tour 198 = .ok (.iadd, 1) := by decide +kernel
theorem dX12_tour_199 : decode cX12_tour 199 = .ok (.iaload, 1) := by decide +kernel
theorem dX12_tour_200 : decode cX12_tour 200 = .ok (.goto 4, 3) := by decide +kernel
theorem dX12_tour_203 : decode cX12_tour 203 = .ok (.iconst 0, 1) := by decide +kernel
theorem dX12_tour_204 : decode cX12_tour 204 = .ok (.ior, 1) := by decide +kernel
theorem dX12_tour_205 : decode cX12_tour 205 = .ok (.istore 8, 2) := by decide +kernel
theorem dX12_tour_207 : decode cX12_tour 207 = .ok (.iload 9, 2) := by decide +kernel
theorem dX12_tour_209 : decode cX12_tour 209 = .ok (.iload 13, 2) := by decide +kernel
theorem dX12_tour_211 : decode cX12_tour 211 = .ok (.iload 10, 2) := by decide +kernel
theorem dX12_tour_213 : decode cX12_tour 213 = .ok (.imul, 1) := by decide +kernel
theorem dX12_tour_214 : decode cX12_tour 214 = .ok (.iadd, 1) := by decide +kernel
theorem dX12_tour_215 : decode cX12_tour 215 = .ok (.istore 9, 2) := by decide +kernel
theorem dX12_tour_217 : decode cX12_tour 217 = .ok (.iload 10, 2) := by decide +kernel
theorem dX12_tour_219 : decode cX12_tour 219 = .ok (.bipush 10, 2) := by decide +kernel
theorem dX12_tour_221 : decode cX12_tour 221 = .ok (.imul, 1) := by decide +kernel
theorem dX12_tour_222 : decode cX12_tour 222 = .ok (.istore 10, 2) := by decide +kernel
theorem dX12_tour_224 : decode cX12_tour 224 = .ok (.iinc 12 (-1), 3) := by decide +kernel
theorem dX12_tour_227 : decode cX12_tour 227 = .ok (.goto (-87), 3) := by decide +kernel
theorem dX12_tour_230 : decode cX12_tour 230 = .ok (.iload 11, 2) := by decide +kernel
theorem dX12_tour_232 : decode cX12_tour 232 = .ok (.ifCond .eq 24, 3) := by decide +kernel
theorem dX12_tour_235 : decode cX12_tour 235 = .ok (.iload 8, 2) := by decide +kernel
theorem dX12_tour_237 : decode cX12_tour 237 = .ok (.invokestatic 203, 3) := by decide +kernel
theorem dX12_tour_240 : decode cX12_tour 240 = .ok (.iload 4, 2) := by decide +kernel
theorem dX12_tour_242 : decode cX12_tour 242 = .ok (.if_icmp .le 14, 3) := by decide +kernel
theorem dX12_tour_245 : decode cX12_tour 245 = .ok (.iload 8, 2) := by decide +kernel
theorem dX12_tour_247 : decode cX12_tour 247 = .ok (.invokestatic 203, 3) := by decide +kernel
theorem dX12_tour_250 : decode cX12_tour 250 = .ok (.istore 4, 2) := by decide +kernel
theorem dX12_tour_252 : decode cX12_tour 252 = .ok (.iload 9, 2) := by decide +kernel
theorem dX12_tour_254 : decode cX12_tour 254 = .ok (.istore 5, 2) := by decide +kernel
theorem dX12_tour_256 : decode cX12_tour 256 = .ok (.iinc 6 1, 3) := by decide +kernel
theorem dX12_tour_259 : decode cX12_tour 259 = .ok (.goto (-146), 3) := by decide +kernel
theorem dX12_tour_262 : decode cX12_tour 262 = .ok (.iload_n 2, 1) := by decide +kernel
theorem dX12_tour_263 : decode cX12_tour 263 = .ok (.ifCond .ne 8, 3) := by decide +kernel
theorem dX12_tour_266 : decode cX12_tour 266 = .ok (.iload 4, 2) := by decide +kernel
theorem dX12_tour_268 : decode cX12_tour 268 = .ok (.goto 5, 3) := by decide +kernel
theorem dX12_tour_271 : decode cX12_tour 271 = .ok (.iload 5, 2) := by decide +kernel
theorem dX12_tour_273 : decode cX12_tour 273 = .ok (.ireturn, 1) := by decide +kernel
set_option maxRecDepth 20000 in
theorem ggX12_takeOut_X12_finds : GoodIn wsX12_takeOut wsX12_finds := goodIn_r _ [9, 10, 11, 15, 16, 17, 18, 19, 20, 21, 22, 23, 24, 25, 26, 27, 28, 29, 30, 31, 32, 33, 34, 35, 36, 37, 38] (by decide +kernel) (by decide +kernel)
set_option maxRecDepth 20000 in
theorem gX12_takeOut_X12_finds : GoodIn wsX12_takeOut (wsV RX12 67 RX12 yX12_finds wsX12_finds) := goodIn_app (goodIn_of _ (by decide +kernel)) ggX12_takeOut_X12_finds
set_option maxRecDepth 20000 in
theorem ggX12_takeOut_X12_isPart : GoodIn wsX12_takeOut wsX12_isPart := goodIn_r _ [14] (by decide +kernel) (by decide +kernel)
set_option maxRecDepth 20000 in
theorem gX12_takeOut_X12_isPart : GoodIn wsX12_takeOut (va_wsS RX12 74 yX12_isPart wsX12_isPart) := goodIn_app (goodIn_of _ (by decide +kernel)) ggX12_takeOut_X12_isPart
theorem dX12_takeOut_0 : decode cX12_takeOut 0 = .ok (.aload_n 0, 1) := by decide +kernel
theorem dX12_takeOut_1 : decode cX12_takeOut 1 = .ok (.getfield 7, 3) := by decide +kernel
theorem dX12_takeOut_4 : decode cX12_takeOut 4 = .ok (.iload_n 1, 1) := by decide +kernel
theorem dX12_takeOut_5 : decode cX12_takeOut 5 = .ok (.iaload, 1) := by decide +kernel
theorem dX12_takeOut_6 : decode cX12_takeOut 6 = .ok (.ifCond .ge 9, 3) := by decide +kernel
theorem dX12_takeOut_9 : decode cX12_takeOut 9 = .ok (.aload_n 0, 1) := by decide +kernel
theorem dX12_takeOut_10 : decode cX12_takeOut 10 = .ok (.iconst 1, 1) := by decide +kernel
theorem dX12_takeOut_11 : decode cX12_takeOut 11 = .ok (.invokevirtual 67, 3) := by decide +kernel
theorem dX12_takeOut_14 : decode cX12_takeOut 14 = .ok (.ireturn, 1) := by decide +kernel
theorem dX12_takeOut_15 : decode cX12_takeOut 15 = .ok (.iload_n 2, 1) := by decide +kernel
theorem dX12_takeOut_16 : decode cX12_takeOut 16 = .ok (.iload_n 3, 1) := by decide +kernel
theorem dX12_takeOut_17 : decode cX12_takeOut 17 = .ok (.aload_n 0, 1) := by decide +kernel
theorem dX12_takeOut_18 : decode cX12_takeOut 18 = .ok (.getfield 13, 3) := by decide +kernel
theorem dX12_takeOut_21 : decode cX12_takeOut 21 = .ok (.iload_n 1, 1) := by decide +kernel
theorem dX12_takeOut_22 : decode cX12_takeOut 22 = .ok (.iaload, 1) := by decide +kernel
theorem dX12_takeOut_23 : decode cX12_takeOut 23 = .ok (.invokestatic 74, 3) := by decide +kernel
theorem dX12_takeOut_26 : decode cX12_takeOut 26 = .ok (.ifCond .ne 9, 3) := by decide +kernel
theorem dX12_takeOut_29 : decode cX12_takeOut 29 = .ok (.aload_n 0, 1) := by decide +kernel
theorem dX12_takeOut_30 : decode cX12_takeOut 30 = .ok (.iconst 2, 1) := by decide +kernel
theorem dX12_takeOut_31 : decode cX12_takeOut 31 = .ok (.invokevirtual 67, 3) := by decide +kernel
theorem dX12_takeOut_34 : decode cX12_takeOut 34 = .ok (.ireturn, 1) := by decide +kernel
theorem dX12_takeOut_35 : decode cX12_takeOut 35 = .ok (.iconst 0, 1) := by decide +kernel
theorem dX12_takeOut_36 : decode cX12_takeOut 36 = .ok (.istore 4, 2) := by decide +kernel
theorem dX12_takeOut_38 : decode cX12_takeOut 38 = .ok (.iload 4, 2) := by decide +kernel
theorem dX12_takeOut_40 : decode cX12_takeOut 40 = .ok (.iload_n 3, 1) := by decide +kernel
theorem dX12_takeOut_41 : decode cX12_takeOut 41 = .ok (.if_icmp .ge 30, 3) := by decide +kernel
theorem dX12_takeOut_44 : decode cX12_takeOut 44 = .ok (.aload_n 0, 1) := by decide +kernel
theorem dX12_takeOut_45 : decode cX12_takeOut 45 = .ok (.getfield 47, 3) := by decide +kernel
theorem dX12_takeOut_48 : decode cX12_takeOut 48 = .ok (.iload 4, 2) := by decide +kernel
theorem dX12_takeOut_50 : decode cX12_takeOut 50 = .ok (.aload_n 0, 1) := by decide +kernel
theorem dX12_takeOut_51 : decode cX12_takeOut 51 = .ok (.getfield 16, 3) := by decide +kernel
theorem dX12_takeOut_54 : decode cX12_takeOut 54 = .ok (.bipush 40, 2) := by decide +kernel
theorem dX12_takeOut_56 : decode cX12_takeOut 56 = .ok (.iload_n 1, 1) := by decide +kernel
theorem dX12_takeOut_57 : decode cX12_takeOut 57 = .ok (.imul, 1) := by decide +kernel
theorem dX12_takeOut_58 : decode cX12_takeOut 58 = .ok (.iload_n 2, 1) := by decide +kernel
theorem dX12_takeOut_59 : decode cX12_takeOut 59 = .ok (.iadd, 1) := by decide +kernel
theorem dX12_takeOut_60 : decode cX12_takeOut 60 = .ok (.iload 4, 2) := by decide +kernel
theorem dX12_takeOut_62 : decode cX12_takeOut 62 = .ok (.iadd, 1) := by decide +kernel
theorem dX12_takeOut_63 : decode cX12_takeOut 63 = .ok (.iaload, 1) := by decide +kernel
theorem dX12_takeOut_64 : decode cX12_takeOut 64 = .ok (.iastore, 1) := by decide +kernel
theorem dX12_takeOut_65 : decode cX12_takeOut 65 = .ok (.iinc 4 1, 3) := by decide +kernel
theorem dX12_takeOut_68 : decode cX12_takeOut 68 = .ok (.goto (-30), 3) := by decide +kernel
theorem dX12_takeOut_71 : decode cX12_takeOut 71 = .ok (.iconst 0, 1) := by decide +kernel
theorem dX12_takeOut_72 : decode cX12_takeOut 72 = .ok (.ireturn, 1) := by decide +kernel
set_option maxRecDepth 20000 in
theorem ggX12_isSo_X12_goOn : GoodIn wsX12_isSo wsX12_goOn := goodIn_r _ [7, 1, 8, 9, 6, 10, 11, 12, 13, 14, 15, 16, 17, 18, 19, 20, 21, 22, 23, 24, 25, 26, 27, 28, 29, 30, 31, 32, 33, 34, 35, 36, 37, 38, 39, 40, 41, 42, 43, 44, 45, 46, 47, 48, 49, 50, 51, 52, 53, 54, 55, 56, 57, 58, 59, 60, 61, 62, 63, 64, 65] (by decide +kernel) (by decide +kernel)
set_option maxRecDepth 20000 in
theorem gX12_isSo_X12_goOn : GoodIn wsX12_isSo (wsV RX12 195 RX12 yX12_goOn wsX12_goOn) := goodIn_app (goodIn_of _ (by decide +kernel)) ggX12_isSo_X12_goOn
theorem dX12_isSo_0 : decode cX12_isSo 0 = .ok (.iconst 0, 1) := by decide +kernel
theorem dX12_isSo_1 : decode cX12_isSo 1 = .ok (.istore_n 3, 1) := by decide +kernel
theorem dX12_isSo_2 : decode cX12_isSo 2 = .ok (.iload_n 3, 1) := by decide +kernel
theorem dX12_isSo_3 : decode cX12_isSo 3 = .ok (.iload_n 2, 1) := by decide +kernel
theorem dX12_isSo_4 : decode cX12_isSo 4 = .ok (.if_icmp .ge 34, 3) := by decide +kernel
theorem dX12_isSo_7 : decode cX12_isSo 7 = .ok (.aload_n 0, 1) := by decide +kernel
theorem dX12_isSo_8 : decode cX12_isSo 8 = .ok (.iconst 1, 1) := by decide +kernel
theorem dX12_isSo_9 : decode cX12_isSo 9 = .ok (.invokevirtual 195, 3) := by decide +kernel
theorem dX12_isSo_12 : decode cX12_isSo 12 = .ok (.aload_n 0, 1) := by decide +kernel
theorem dX12_isSo_13 : decode cX12_isSo 13 = .ok (.getfield 28, 3) := by decide +kernel
theorem dX12_isSo_16 : decode cX12_isSo 16 = .ok (.bipush 21, 2) := by decide +kernel
theorem dX12_isSo_18 : decode cX12_isSo 18 = .ok (.iload_n 1, 1) := by decide +kernel
theorem dX12_isSo_19 : decode cX12_isSo 19 = .ok (.iadd, 1) := by decide +kernel
theorem dX12_isSo_20 : decode cX12_isSo 20 = .ok (.iaload, 1) := by decide +kernel
theorem dX12_isSo_21 : decode cX12_isSo 21 = .ok (.aload_n 0, 1) := by decide +kernel
theorem dX12_isSo_22 : decode cX12_isSo 22 = .ok (.getfield 47, 3) := by decide +kernel
theorem dX12_isSo_25 : decode cX12_isSo 25 = .ok (.iload_n 3, 1) := by decide +kernel
theorem dX12_isSo_26 : decode cX12_isSo 26 = .ok (.iaload, 1) := by decide +kernel
theorem dX12_isSo_27 : decode cX12_isSo 27 = .ok (.if_icmp .eq 5, 3) := by decide +kernel
theorem dX12_isSo_30 : decode cX12_isSo 30 = .ok (.iconst 0, 1) := by decide +kernel
theorem dX12_isSo_31 : decode cX12_isSo 31 = .ok (.ireturn, 1) := by decide +kernel
theorem dX12_isSo_32 : decode cX12_isSo 32 = .ok (.iinc 3 1, 3) := by decide +kernel
theorem dX12_isSo_35 : decode cX12_isSo 35 = .ok (.goto (-33), 3) := by decide +kernel
theorem dX12_isSo_38 : decode cX12_isSo 38 = .ok (.iconst 1, 1) := by decide +kernel
theorem dX12_isSo_39 : decode cX12_isSo 39 = .ok (.ireturn, 1) := by decide +kernel
set_option maxRecDepth 20000 in
theorem ggX12_fits_X12_isOne : GoodIn wsX12_fits wsX12_isOne := goodIn_r _ [8, 2, 9, 10, 7, 11, 85, 86, 87, 88, 89, 90, 91, 92, 93, 94, 95, 96, 97, 98, 99, 100, 101, 102, 103, 104, 105, 106, 107, 108] (by decide +kernel) (by decide +kernel)
set_option maxRecDepth 20000 in
theorem gX12_fits_X12_isOne : GoodIn wsX12_fits (wsV RX12 183 RX12 yX12_isOne wsX12_isOne) := goodIn_app (goodIn_of _ (by decide +kernel)) ggX12_fits_X12_isOne
set_option maxRecDepth 20000 in
theorem ggX12_fits_X12_isRow : GoodIn wsX12_fits wsX12_isRow := goodIn_r _ [14, 9, 10, 7, 11] (by decide +kernel) (by decide +kernel)
set_option maxRecDepth 20000 in
theorem gX12_fits_X12_isRow : GoodIn wsX12_fits (va_wsS RX12 62 yX12_isRow wsX12_isRow) := goodIn_app (goodIn_of _ (by decide +kernel)) ggX12_fits_X12_isRow
set_option maxRecDepth 20000 in
theorem ggX12_fits_X12_in : GoodIn wsX12_fits wsX12_in := goodIn_r _ [11] (by decide +kernel) (by decide +kernel)
set_option maxRecDepth 20000 in
theorem gX12_fits_X12_in : GoodIn wsX12_fits (va_wsS RX12 53 yX12_in wsX12_in) := goodIn_app (goodIn_of _ (by decide +kernel)) ggX12_fits_X12_in
set_option maxRecDepth 20000 in
theorem ggX12_fits_X12_takeOut : GoodIn wsX12_fits wsX12_takeOut := goodIn_r _ [18, 19, 20, 21, 22, 23, 24, 25, 7, 26, 27, 28, 29, 30, 31, 85, 86, 87, 88, 89, 90, 91, 92, 93, 94, 95, 96, 97, 98, 99, 100, 101, 102, 103, 104, 105, 106, 107, 108] (by decide +kernel) (by decide +kernel)
set_option maxRecDepth 20000 in
theorem gX12_fits_X12_takeOut : GoodIn wsX12_fits (wsV RX12 206 RX12 yX12_takeOut wsX12_takeOut) := goodIn_app (goodIn_of _ (by decide +kernel)) ggX12_fits_X12_takeOut
set_option maxRecDepth 20000 in
theorem ggX12_fits_X12_begin : GoodIn wsX12_fits wsX12_begin := goodIn_r _ [35, 2, 3, 36, 37, 7, 38, 85, 86, 87, 88, 89, 90, 91, 92, 93, 94, 95, 96, 97, 98, 99, 100, 101, 102, 103, 104, 105, 106, 107, 108] (by decide +kernel) (by decide +kernel)
set_option maxRecDepth 20000 in
theorem gX12_fits_X12_begin : GoodIn wsX12_fits (wsV RX12 192 RX12 yX12_begin wsX12_begin) := goodIn_app (goodIn_of _ (by decide +kernel)) ggX12_fits_X12_begin
set_option maxRecDepth 20000 in
theorem ggX12_fits_X12_goesBehind : GoodIn wsX12_fits wsX12_goesBehind := goodIn_r _ [41, 42, 43, 7, 44, 45, 46, 47, 48, 49, 50] (by decide +kernel) (by decide +kernel)
set_option maxRecDepth 20000 in
theorem gX12_fits_X12_goesBehind : GoodIn wsX12_fits (va_wsS RX12 150 yX12_goesBehind wsX12_goesBehind) := goodIn_app (goodIn_of _ (by decide +kernel)) ggX12_fits_X12_goesBehind
set_option maxRecDepth 20000 in
theorem ggX12_fits_X12_isSo : GoodIn wsX12_fits wsX12_isSo := goodIn_r _ [54, 3, 21, 55, 56, 57, 7, 58, 59, 60, 61, 62, 63, 64, 65, 66, 67, 68, 69, 70, 71, 72, 73, 74, 75, 76, 77, 78, 79, 80, 42, 43, 44, 48, 49, 50, 45, 46, 47, 39, 40, 41, 85, 86, 87, 88, 89, 90, 91, 92, 93, 94, 95, 96, 97, 98, 99, 100, 101, 102, 103, 104, 105, 106, 107, 108] (by decide +kernel) (by decide +kernel)
set_option maxRecDepth 20000 in
theorem gX12_fits_X12_isSo : GoodIn wsX12_fits (wsV RX12 210 RX12 yX12_isSo wsX12_isSo) := goodIn_app (goodIn_of _ (by decide +kernel)) ggX12_fits_X12_isSo
set_option maxRecDepth 20000 in
theorem ggX12_fits_X12_done : GoodIn wsX12_fits wsX12_done := goodIn_r _ [84, 27, 85, 86, 87, 88, 89, 90, 91, 92, 93, 94, 95, 96, 97, 98, 99, 100, 101, 102, 103, 104, 105, 106, 107, 108] (by decide +kernel) (by decide +kernel)
set_option maxRecDepth 20000 in
theorem gX12_fits_X12_done : GoodIn wsX12_fits (wsV RX12 71 RX12 yX12_done wsX12_done) := goodIn_app (goodIn_of _ (by decide +kernel)) ggX12_fits_X12_done
theorem dX12_fits_0 : decode cX12_fits 0 = .ok (.aload_n 0, 1) := by decide +kernel
theorem dX12_fits_1 : decode cX12_fits 1 = .ok (.iload_n 1, 1) := by decide +kernel
theorem dX12_fits_2 : decode cX12_fits 2 = .ok (.invokevirtual 183, 3) := by decide +kernel
theorem dX12_fits_5 : decode cX12_fits 5 = .ok (.ifCond .eq 31, 3) := by decide +kernel
theorem dX12_fits_8 : decode cX12_fits 8 = .ok (.iload_n 2, 1) := by decide +kernel
theorem dX12_fits_9 : decode cX12_fits 9 = .ok (.invokestatic 62, 3) := by decide +kernel
theorem dX12_fits_12 : decode cX12_fits 12 = .ok (.ifCond .eq 24, 3) := by decide +kernel
theorem dX12_fits_15 : decode cX12_fits 15 = .ok (.iload 4, 2) := by decide +kernel
theorem dX12_fits_17 : decode cX12_fits 17 = .ok (.iconst 1, 1) := by decide +kernel
theorem dX12_fits_18 : decode cX12_fits 18 = .ok (.bipush 12, 2) := by decide +kernel
theorem dX12_fits_20 : decode cX12_fits 20 = .ok (.invokestatic 53, 3) := by decide +kernel
theorem dX12_fits_23 : decode cX12_fits 23 = .ok (.ifCond .eq 13, 3) := by decide +kernel
theorem dX12_fits_26 : decode cX12_fits 26 = .ok (.iload 5, 2) := by decide +kernel
theorem dX12_fits_28 : decode cX12_fits 28 = .ok (.iconst 0, 1) := by decide +kernel
theorem dX12_fits_29 : decode cX12_fits 29 = .ok (.iconst 3, 1) := by decide +kernel
theorem dX12_fits_30 : decode cX12_fits 30 = .ok (.invokestatic 53, 3) := by decide +kernel
theorem dX12_fits_33 : decode cX12_fits 33 = .ok (.ifCond .ne 6, 3) := by decide +kernel
theorem dX12_fits_36 : decode cX12_fits 36 = .ok (.ldc 66, 2) := by decide +kernel
theorem dX12_fits_38 : decode cX12_fits 38 = .ok (.ireturn, 1) := by decide +kernel
theorem dX12_fits_39 : decode cX12_fits 39 = .ok (.aload_n 0, 1) := by decide +kernel
theorem dX12_fits_40 : decode cX12_fits 40 = .ok (.iload_n 2, 1) := by decide +kernel
theorem dX12_fits_41 : decode cX12_fits 41 = .ok (.iload_n 3, 1) := by decide +kernel
theorem dX12_fits_42 : decode cX12_fits 42 = .ok (.iload 4, 2) := by decide +kernel
theorem dX12_fits_44 : decode cX12_fits 44 = .ok (.invokevirtual 206, 3) := by decide +kernel
theorem dX12_fits_47 : decode cX12_fits 47 = .ok (.istore 6, 2) := by decide +kernel
theorem dX12_fits_49 : decode cX12_fits 49 = .ok (.iload 6, 2) := by decide +kernel
theorem dX12_fits_51 : decode cX12_fits 51 = .ok (.ifCond .ge 6, 3) := by decide +kernel
theorem dX12_fits_54 : decode cX12_fits 54 = .ok (.iload 6, 2) := by decide +kernel
theorem dX12_fits_56 : decode cX12_fits 56 = .ok (.ireturn, 1) := by decide +kernel
theorem dX12_fits_57 : decode cX12_fits 57 = .ok (.iload 5, 2) := by decide +kernel
theorem dX12_fits_59 : decode cX12_fits 59 = .ok (.ifCond .eq 9, 3) := by decide +kernel
theorem dX12_fits_62 : decode cX12_fits 62 = .ok (.iload 5, 2) := by decide +kernel
theorem dX12_fits_64 : decode cX12_fits 64 = .ok (.iconst 2, 1) := by decide +kernel
theorem dX12_fits_65 : decode cX12_fits 65 = .ok (.if_icmp .ne 7, 3) := by decide +kernel
theorem dX12_fits_68 : decode cX12_fits 68 = .ok (.iconst 1, 1) := by decide +kernel
theorem dX12_fits_69 : decode cX12_fits 69 = .ok (.goto 4, 3) := by decide +kernel
theorem dX12_fits_72 : decode cX12_fits 72 = .ok (.iconst 0, 1) := by decide +kernel
theorem dX12_fits_73 : decode cX12_fits 73 = .ok (.istore 7, 2) := by decide +kernel
theorem dX12_fits_75 : decode cX12_fits 75 = .ok (.iload 5, 2) := by decide +kernel
theorem dX12_fits_77 : decode cX12_fits 77 = .ok (.ifCond .ne 7, 3) := by decide +kernel
theorem dX12_fits_80 : decode cX12_fits 80 = .ok (.iconst 5, 1) := by decide +kernel
theorem dX12_fits_81 : decode cX12_fits 81 = .ok (.goto 33, 3) := by decide +kernel
theorem dX12_fits_84 : decode cX12_fits 84 = .ok (.iload 5, 2) := by decide +kernel
theorem dX12_fits_86 : decode cX12_fits 86 = .ok (.iconst 1, 1) := by decide +kernel
theorem dX12_fits_87 : decode cX12_fits 87 = .ok (.if_icmp .ne 8, 3) := by decide +kernel
theorem dX12_fits_90 : decode cX12_fits 90 = .ok (.bipush 7, 2) := by decide +kernel
theorem dX12_fits_92 : decode cX12_fits 92 = .ok (.goto 22, 3) := by decide +kernel
theorem dX12_fits_95 : decode cX12_fits 95 = .ok (.iload 5, 2) := by decide +kernel
theorem dX12_fits_97 : decode cX12_fits 97 = .ok (.iconst 2, 1) := by decide +kernel
theorem dX12_fits_98 : decode cX12_fits 98 = .ok (.if_icmp .ne 8, 3) := by decide +kernel
theorem dX12_fits_101 : decode cX12_fits 101 = .ok (.bipush 8, 2) := by decide +kernel
theorem dX12_fits_103 : decode cX12_fits 103 = .ok (.goto 11, 3) := by decide +kernel
theorem dX12_fits_106 : decode cX12_fits 106 = .ok (.aload_n 0, 1) := by decide +kernel
theorem dX12_fits_107 : decode cX12_fits 107 = .ok (.getfield 22, 3) := by decide +kernel
theorem dX12_fits_110 : decode cX12_fits 110 = .ok (.iconst 1, 1) := by decide +kernel
theorem dX12_fits_111 : decode cX12_fits 111 = .ok (.iaload, 1) := by decide +kernel
theorem dX12_fits_112 : decode cX12_fits 112 = .ok (.iconst 1, 1) := by decide +kernel
theorem dX12_fits_113 : decode cX12_fits 113 = .ok (.isub, 1) := by decide +kernel
theorem dX12_fits_114 : decode cX12_fits 114 = .ok (.istore 8, 2) := by decide +kernel
theorem dX12_fits_116 : decode cX12_fits 116 = .ok (.iconst 0, 1) := by decide +kernel
theorem dX12_fits_117 : decode cX12_fits 117 = .ok (.istore 9, 2) := by decide +kernel
theorem dX12_fits_119 : decode cX12_fits 119 = .ok (.iload 7, 2) := by decide +kernel
theorem dX12_fits_121 : decode cX12_fits 121 = .ok (.istore 10, 2) := by decide +kernel
theorem dX12_fits_123 : decode cX12_fits 123 = .ok (.iload 10, 2) := by decide +kernel
theorem dX12_fits_125 : decode cX12_fits 125 = .ok (.iload 8, 2) := by decide +kernel
theorem dX12_fits_127 : decode cX12_fits 127 = .ok (.if_icmp .gt 125, 3) := by decide +kernel
theorem dX12_fits_130 : decode cX12_fits 130 = .ok (.aload_n 0, 1) := by decide +kernel
theorem dX12_fits_131 : decode cX12_fits 131 = .ok (.invokevirtual 192, 3) := by decide +kernel
theorem dX12_fits_134 : decode cX12_fits 134 = .ok (.iload 5, 2) := by decide +kernel
theorem dX12_fits_136 : decode cX12_fits 136 = .ok (.iconst 3, 1) := by decide +kernel
theorem dX12_fits_137 : decode cX12_fits 137 = .ok (.if_icmp .ne 30, 3) := by decide +kernel
theorem dX12_fits_140 : decode cX12_fits 140 = .ok (.iload 10, 2) := by decide +kernel
theorem dX12_fits_142 : decode cX12_fits 142 = .ok (.aload_n 0, 1) := by decide +kernel
theorem dX12_fits_143 : decode cX12_fits 143 = .ok (.getfield 22, 3) := by decide +kernel
theorem dX12_fits_146 : decode cX12_fits 146 = .ok (.bipush 21, 2) := by decide +kernel
theorem dX12_fits_148 : decode cX12_fits 148 = .ok (.iload_n 1, 1) := by decide +kernel
theorem dX12_fits_149 : decode cX12_fits 149 = .ok (.iadd, 1) := by decide +kernel
theorem dX12_fits_150 : decode cX12_fits 150 = .ok (.iaload, 1) := by decide +kernel
theorem dX12_fits_151 : decode cX12_fits 151 = .ok (.if_icmp .eq 48, 3) := by decide +kernel
theorem dX12_fits_154 : decode cX12_fits 154 = .ok (.aload_n 0, 1) := by decide +kernel
theorem dX12_fits_155 : decode cX12_fits 155 = .ok (.getfield 28, 3) := by decide +kernel
theorem dX12_fits_158 : decode cX12_fits 158 = .ok (.iload_n 1, 1) := by decide +kernel
theorem dX12_fits_159 : decode cX12_fits 159 = .ok (.iload 10, 2) := by decide +kernel
theorem dX12_fits_161 : decode cX12_fits 161 = .ok (.invokestatic 150, 3) := by decide +kernel
theorem dX12_fits_164 : decode cX12_fits 164 = .ok (.goto 35, 3) := by decide +kernel
theorem dX12_fits_167 : decode cX12_fits 167 = .ok (.aload_n 0, 1) := by decide +kernel
theorem dX12_fits_168 : decode cX12_fits 168 = .ok (.getfield 28, 3) := by decide +kernel
theorem dX12_fits_171 : decode cX12_fits 171 = .ok (.iload 5, 2) := by decide +kernel
theorem dX12_fits_173 : decode cX12_fits 173 = .ok (.ifCond .ne 9, 3) := by decide +kernel
theorem dX12_fits_176 : decode cX12_fits 176 = .ok (.iconst 5, 1) := by decide +kernel
theorem dX12_fits_177 : decode cX12_fits 177 = .ok (.iload_n 1, 1) := by decide +kernel
theorem dX12_fits_178 : decode cX12_fits 178 = .ok (.iadd, 1) := by decide +kernel
theorem dX12_fits_179 : decode cX12_fits 179 = .ok (.goto 17, 3) := by decide +kernel
theorem dX12_fits_182 : decode cX12_fits 182 = .ok (.iload 5, 2) := by decide +kernel
theorem dX12_fits_184 : decode cX12_fits 184 = .ok (.iconst 1, 1) := by decide +kernel
theorem dX12_fits_185 : decode cX12_fits 185 = .ok (.if_icmp .ne 10, 3) := by decide +kernel
theorem dX12_fits_188 : decode cX12_fits 188 = .ok (.bipush 13, 2) := by decide +kernel
theorem dX12_fits_190 : decode cX12_fits 190 = .ok (.iload_n 1, 1) := by decide +kernel
theorem dX12_fits_191 : decode cX12_fits 191 = .ok (.iadd, 1) := by decide +kernel
theorem dX12_fits_192 : decode cX12_fits 192 = .ok (.goto 4, 3) := by decide +kernel
theorem dX12_fits_195 : decode cX12_fits 195 = .ok (.iconst 2, 1) := by decide +kernel
theorem dX12_fits_196 : decode cX12_fits 196 = .ok (.iload 10, 2) := by decide +kernel
theorem dX12_fits_198 : decode cX12_fits 198 = .ok (.iastore, 1) := by decide +kernel
theorem dX12_fits_199 : decode cX12_fits 199 = .ok (.iload 5, 2) := by decide +kernel
theorem dX12_fits_201 : decode cX12_fits 201 = .ok (.iconst 1, 1) := by decide +kernel
theorem dX12_fits_202 : decode cX12_fits 202 = .ok (.if_icmp .ne 9, 3) := by decide +kernel
theorem dX12_fits_205 : decode cX12_fits 205 = .ok (.iload 10, 2) := by decide +kernel
theorem dX12_fits_207 : decode cX12_fits 207 = .ok (.iload_n 1, 1) := by decide +kernel
theorem dX12_fits_208 : decode cX12_fits 208 = .ok (.if_icmp .eq 17, 3) := by decide +kernel
theorem dX12_fits_211 : decode cX12_fits 211 = .ok (.aload_n 0, 1) := by decide +kernel
theorem dX12_fits_212 : decode cX12_fits 212 = .ok (.iload_n 1, 1) := by decide +kernel
theorem dX12_fits_213 : decode cX12_fits 213 = .ok (.iload 4, 2) := by decide +kernel
theorem dX12_fits_215 : decode cX12_fits 215 = .ok (.invokevirtual 210, 3) := by decide +kernel
theorem dX12_fits_218 : decode cX12_fits 218 = .ok (.ifCond .eq 7, 3) := by decide +kernel
theorem dX12_fits_221 : decode cX12_fits 221 = .ok (.iconst 1, 1) := by decide +kernel
theorem dX12_fits_222 : decode cX12_fits 222 = .ok (.goto 4, 3) := by decide +kernel
theorem dX12_fits_225 : decode cX12_fits 225 = .ok (.iconst 0, 1) := by decide +kernel
theorem dX12_fits_226 : decode cX12_fits 226 = .ok (.istore 11, 2) := by decide +kernel
theorem dX12_fits_228 : decode cX12_fits 228 = .ok (.iload 9, 2) := by decide +kernel
theorem dX12_fits_230 : decode cX12_fits 230 = .ok (.iload 11, 2) := by decide +kernel
theorem dX12_fits_232 : decode cX12_fits 232 = .ok (.ifCond .eq 10, 3) := by decide +kernel
theorem dX12_fits_235 : decode cX12_fits 235 = .ok (.iconst 1, 1) := by decide +kernel
theorem dX12_fits_236 : decode cX12_fits 236 = .ok (.iload 10, 2) := by decide +kernel
theorem dX12_fits_238 : decode cX12_fits 238 = .ok (.ishl, 1) := by decide +kernel
theorem dX12_fits_239 : decode cX12_fits 239 = .ok (.goto 4, 3) := by decide +kernel
theorem dX12_fits_242 : decode cX12_fits 242 = .ok (.iconst 0, 1) := by decide +kernel
theorem dX12_fits_243 : decode cX12_fits 243 = .ok (.ior, 1) := by decide +kernel
theorem dX12_fits_244 : decode cX12_fits 244 = .ok (.istore 9, 2) := by decide +kernel
theorem dX12_fits_246 : decode cX12_fits 246 = .ok (.iinc 10 1, 3) := by decide +kernel
theorem dX12_fits_249 : decode cX12_fits 249 = .ok (.goto (-126), 3) := by decide +kernel
theorem dX12_fits_252 : decode cX12_fits 252 = .ok (.aload_n 0, 1) := by decide +kernel
theorem dX12_fits_253 : decode cX12_fits 253 = .ok (.iload 9, 2) := by decide +kernel
theorem dX12_fits_255 : decode cX12_fits 255 = .ok (.invokevirtual 71, 3) := by decide +kernel
theorem dX12_fits_258 : decode cX12_fits 258 = .ok (.ireturn, 1) := by decide +kernel
set_option maxRecDepth 20000 in
theorem ggX12_asleep_X12_isOne : GoodIn wsX12_asleep wsX12_isOne := goodIn_r _ [8, 2, 9, 10, 7, 11, 57, 58, 59, 60, 61, 62, 63, 64, 65, 66, 67, 68, 69, 70, 71, 72, 73, 74, 75, 76, 77, 78, 79, 80] (by decide +kernel) (by decide +kernel)
set_option maxRecDepth 20000 in
theorem gX12_asleep_X12_isOne : GoodIn wsX12_asleep (wsV RX12 183 RX12 yX12_isOne wsX12_isOne) := goodIn_app (goodIn_of _ (by decide +kernel)) ggX12_asleep_X12_isOne
set_option maxRecDepth 20000 in
theorem ggX12_asleep_X12_isDrawer : GoodIn wsX12_asleep wsX12_isDrawer := goodIn_r _ [15, 2, 9, 10, 7, 11, 57, 58, 59, 60, 61, 62, 63, 64, 65, 66, 67, 68, 69, 70, 71, 72, 73, 74, 75, 76, 77, 78, 79, 80] (by decide +kernel) (by decide +kernel)
set_option maxRecDepth 20000 in
theorem gX12_asleep_X12_isDrawer : GoodIn wsX12_asleep (wsV RX12 186 RX12 yX12_isDrawer wsX12_isDrawer) := goodIn_app (goodIn_of _ (by decide +kernel)) ggX12_asleep_X12_isDrawer
set_option maxRecDepth 20000 in
theorem ggX12_asleep_X12_in : GoodIn wsX12_asleep wsX12_in := goodIn_r _ [11] (by decide +kernel) (by decide +kernel)
set_option maxRecDepth 20000 in
theorem gX12_asleep_X12_in : GoodIn wsX12_asleep (va_wsS RX12 53 yX12_in wsX12_in) := goodIn_app (goodIn_of _ (by decide +kernel)) ggX12_asleep_X12_in
set_option maxRecDepth 20000 in
theorem ggX12_asleep_X12_isIn : GoodIn wsX12_asleep wsX12_isIn := goodIn_r _ [18] (by decide +kernel) (by decide +kernel)
set_option maxRecDepth 20000 in
theorem gX12_asleep_X12_isIn : GoodIn wsX12_asleep (va_wsS RX12 163 yX12_isIn wsX12_isIn) := goodIn_app (goodIn_of _ (by decide +kernel)) ggX12_asleep_X12_isIn
set_option maxRecDepth 20000 in
theorem ggX12_asleep_X12_begin : GoodIn wsX12_asleep wsX12_begin := goodIn_r _ [22, 2, 3, 23, 24, 7, 25, 57, 58, 59, 60, 61, 62, 63, 64, 65, 66, 67, 68, 69, 70, 71, 72, 73, 74, 75, 76, 77, 78, 79, 80] (by decide +kernel) (by decide +kernel)
set_option maxRecDepth 20000 in
theorem gX12_asleep_X12_begin : GoodIn wsX12_asleep (wsV RX12 192 RX12 yX12_begin wsX12_begin) := goodIn_app (goodIn_of _ (by decide +kernel)) ggX12_asleep_X12_begin
set_option maxRecDepth 20000 in
theorem ggX12_asleep_X12_nightIn : GoodIn wsX12_asleep wsX12_nightIn := goodIn_r _ [28, 16, 17, 7, 18, 29, 30, 31, 32, 33, 34, 35, 36, 37, 38, 39, 40, 41, 42, 43, 44, 45, 46, 47, 48, 49, 50, 51, 52, 53, 54, 55, 56] (by decide +kernel) (by decide +kernel)
set_option maxRecDepth 20000 in
theorem gX12_asleep_X12_nightIn : GoodIn wsX12_asleep (va_wsS RX12 176 yX12_nightIn wsX12_nightIn) := goodIn_app (goodIn_of _ (by decide +kernel)) ggX12_asleep_X12_nightIn
theorem dX12_asleep_0 : decode cX12_asleep 0 = .ok (.aload_n 0, 1) := by decide +kernel
theorem dX12_asleep_1 : decode cX12_asleep 1 = .ok (.iload_n 1, 1) := by decide +kernel
theorem dX12_asleep_2 : decode cX12_asleep 2 = .ok (.invokevirtual 183, 3) := by decide +kernel
theorem dX12_asleep_5 : decode cX12_asleep 5 = .ok (.ifCond .eq 31, 3) := by decide +kernel
theorem dX12_asleep_8 : decode cX12_asleep 8 = .ok (.aload_n 0, 1) := by decide +kernel
theorem dX12_asleep_9 : decode cX12_asleep 9 = .ok (.iload_n 2, 1) := by decide +kernel
theorem dX12_asleep_10 : decode cX12_asleep 10 = .ok (.invokevirtual 186, 3) := by decide +kernel
theorem dX12_asleep_13 : decode cX12_asleep 13 = .ok (.ifCond .eq 23, 3) := by decide +kernel
theorem dX12_asleep_16 : decode cX12_asleep 16 = .ok (.iload_n 3, 1) := by decide +kernel
theorem dX12_asleep_17 : decode cX12_asleep 17 = .ok (.iconst 0, 1) := by decide +kernel
theorem dX12_asleep_18 : decode cX12_asleep 18 = .ok (.bipush 10, 2) := by decide +kernel
theorem dX12_asleep_20 : decode cX12_asleep 20 = .ok (.invokestatic 53, 3) := by decide +kernel
theorem dX12_asleep_23 : decode cX12_asleep 23 = .ok (.ifCond .eq 13, 3) := by decide +kernel
theorem dX12_asleep_26 : decode cX12_asleep 26 = .ok (.iload 4, 2) := by decide +kernel
theorem dX12_asleep_28 : decode cX12_asleep 28 = .ok (.iconst 0, 1) := by decide +kernel
theorem dX12_asleep_29 : decode cX12_asleep 29 = .ok (.iconst 1, 1) := by decide +kernel
theorem dX12_asleep_30 : decode cX12_asleep 30 = .ok (.invokestatic 53, 3) := by decide +kernel
theorem dX12_asleep_33 : decode cX12_asleep 33 = .ok (.ifCond .ne 6, 3) := by decide +kernel
theorem dX12_asleep_36 : decode cX12_asleep 36 = .ok (.ldc 66, 2) := by decide +kernel
theorem dX12_asleep_38 : decode cX12_asleep 38 = .ok (.ireturn, 1) := by decide +kernel
theorem dX12_asleep_39 : decode cX12_asleep 39 = .ok (.iconst 0, 1) := by decide +kernel
theorem dX12_asleep_40 : decode cX12_asleep 40 = .ok (.istore 5, 2) := by decide +kernel
theorem dX12_asleep_42 : decode cX12_asleep 42 = .ok (.iconst 1, 1) := by decide +kernel
theorem dX12_asleep_43 : decode cX12_asleep 43 = .ok (.istore 6, 2) := by decide +kernel
theorem dX12_asleep_45 : decode cX12_asleep 45 = .ok (.iconst 0, 1) := by decide +kernel
theorem dX12_asleep_46 : decode cX12_asleep 46 = .ok (.istore 7, 2) := by decide +kernel
theorem dX12_asleep_48 : decode cX12_asleep 48 = .ok (.iload 7, 2) := by decide +kernel
theorem dX12_asleep_50 : decode cX12_asleep 50 = .ok (.aload_n 0, 1) := by decide +kernel
theorem dX12_asleep_51 : decode cX12_asleep 51 = .ok (.getfield 22, 3) := by decide +kernel
theorem dX12_asleep_54 : decode cX12_asleep 54 = .ok (.iconst 3, 1) := by decide +kernel
theorem dX12_asleep_55 : decode cX12_asleep 55 = .ok (.iaload, 1) := by decide +kernel
theorem dX12_asleep_56 : decode cX12_asleep 56 = .ok (.if_icmp .ge 16, 3) := by decide +kernel
theorem dX12_asleep_59 : decode cX12_asleep 59 = .ok (.iload 6, 2) := by decide +kernel
theorem dX12_asleep_61 : decode cX12_asleep 61 = .ok (.bipush 10, 2) := by decide +kernel
theorem dX12_asleep_63 : decode cX12_asleep 63 = .ok (.imul, 1) := by decide +kernel
theorem dX12_asleep_64 : decode cX12_asleep 64 = .ok (.istore 6, 2) := by decide +kernel
theorem dX12_asleep_66 : decode cX12_asleep 66 = .ok (.iinc 7 1, 3) := by decide +kernel
theorem dX12_asleep_69 : decode cX12_asleep 69 = .ok (.goto (-21), 3) := by decide +kernel
theorem dX12_asleep_72 : decode cX12_asleep 72 = .ok (.iconst 0, 1) := by decide +kernel
theorem dX12_asleep_73 : decode cX12_asleep 73 = .ok (.istore 7, 2) := by decide +kernel
theorem dX12_asleep_75 : decode cX12_asleep 75 = .ok (.iload 7, 2) := by decide +kernel
theorem dX12_asleep_77 : decode cX12_asleep 77 = .ok (.iconst 1, 1) := by decide +kernel
theorem dX12_asleep_78 : decode cX12_asleep 78 = .ok (.aload_n 0, 1) := by decide +kernel
theorem dX12_asleep_79 : decode cX12_asleep 79 = .ok (.getfield 22, 3) := by decide +kernel
theorem dX12_asleep_82 : decode cX12_asleep 82 = .ok (.iconst 3, 1) := by decide +kernel
theorem dX12_asleep_83 : decode cX12_asleep 83 = .ok (.iaload, 1) := by decide +kernel
theorem dX12_asleep_84 : decode cX12_asleep 84 = .ok (.ishl, 1) := by decide +kernel
theorem dX12_asleep_85 : decode cX12_asleep 85 = .ok (.if_icmp .ge 92, 3) := by decide +kernel
theorem dX12_asleep_88 : decode cX12_asleep 88 = .ok (.iconst 1, 1) := by decide +kernel
theorem dX12_asleep_89 : decode cX12_asleep 89 = .ok (.istore 8, 2) := by decide +kernel
theorem dX12_asleep_91 : decode cX12_asleep 91 = .ok (.iconst 0, 1) := by decide +kernel
theorem dX12_asleep_92 : decode cX12_asleep 92 = .ok (.istore 9, 2) := by decide +kernel
theorem dX12_asleep_94 : decode cX12_asleep 94 = .ok (.iload 9, 2) := by decide +kernel
theorem dX12_asleep_96 : decode cX12_asleep 96 = .ok (.aload_n 0, 1) := by decide +kernel
theorem dX12_asleep_97 : decode cX12_asleep 97 = .ok (.getfield 22, 3) := by decide +kernel
theorem dX12_asleep_100 : decode cX12_asleep 100 = .ok (.iconst 3, 1) := by decide +kernel
theorem dX12_asleep_101 : decode cX12_asleep 101 = .ok (.iaload, 1) := by decide +kernel
theorem dX12_asleep_102 : decode cX12_asleep 102 = .ok (.if_icmp .ge 32, 3) := by decide +kernel
theorem dX12_asleep_105 : decode cX12_asleep 105 = .ok (.iload 8, 2) := by decide +kernel
theorem dX12_asleep_107 : decode cX12_asleep 107 = .ok (.iload 7, 2) := by decide +kernel
theorem dX12_asleep_109 : decode cX12_asleep 109 = .ok (.iload 9, 2) := by decide +kernel
theorem dX12_asleep_111 : decode cX12_asleep 111 = .ok (.invokestatic 163, 3) := by decide +kernel
theorem dX12_asleep_114 : decode cX12_asleep 114 = .ok (.ifCond .eq 7, 3) := by decide +kernel
theorem dX12_asleep_117 : decode cX12_asleep 117 = .ok (.iload_n 3, 1) := by decide +kernel
theorem dX12_asleep_118 : decode cX12_asleep 118 = .ok (.goto 7, 3) := by decide +kernel
theorem dX12_asleep_121 : decode cX12_asleep 121 = .ok (.bipush 10, 2) := by decide +kernel
theorem dX12_asleep_123 : decode cX12_asleep 123 = .ok (.iload_n 3, 1) := by decide +kernel
theorem dX12_asleep_124 : decode cX12_asleep 124 = .ok (.isub, 1) := by decide +kernel
theorem dX12_asleep_125 : decode cX12_asleep 125 = .ok (.imul, 1) := by decide +kernel
theorem dX12_asleep_126 : decode cX12_asleep 126 = .ok (.istore 8, 2) := by decide +kernel
theorem dX12_asleep_128 : decode cX12_asleep 128 = .ok (.iinc 9 1, 3) := by decide +kernel
theorem dX12_asleep_131 : decode cX12_asleep 131 = .ok (.goto (-37), 3) := by decide +kernel
theorem dX12_asleep_134 : decode cX12_asleep 134 = .ok (.aload_n 0, 1) := by decide +kernel
theorem dX12_asleep_135 : decode cX12_asleep 135 = .ok (.invokevirtual 192, 3) := by decide +kernel
theorem dX12_asleep_138 : decode cX12_asleep 138 = .ok (.aload_n 0, 1) := by decide +kernel
theorem dX12_asleep_139 : decode cX12_asleep 139 = .ok (.getfield 28, 3) := by decide +kernel
theorem dX12_asleep_142 : decode cX12_asleep 142 = .ok (.iload 7, 2) := by decide +kernel
theorem dX12_asleep_144 : decode cX12_asleep 144 = .ok (.invokestatic 176, 3) := by decide +kernel
theorem dX12_asleep_147 : decode cX12_asleep 147 = .ok (.iload 5, 2) := by decide +kernel
theorem dX12_asleep_149 : decode cX12_asleep 149 = .ok (.aload_n 0, 1) := by decide +kernel
theorem dX12_asleep_150 : decode cX12_asleep 150 = .ok (.getfield 28, 3) := by decide +kernel
theorem dX12_asleep_153 : decode cX12_asleep 153 = .ok (.bipush 21, 2) := by decide +kernel
theorem dX12_asleep_155 : decode cX12_asleep 155 = .ok (.iload_n 1, 1) := by decide +kernel
theorem dX12_asleep_156 : decode cX12_asleep 156 = .ok (.iadd, 1) := by decide +kernel
theorem dX12_asleep_157 : decode cX12_asleep 157 = .ok (.iaload, 1) := by decide +kernel
theorem dX12_asleep_158 : decode cX12_asleep 158 = .ok (.iload_n 2, 1) := by decide +kernel
theorem dX12_asleep_159 : decode cX12_asleep 159 = .ok (.if_icmp .ne 8, 3) := by decide +kernel
theorem dX12_asleep_162 : decode cX12_asleep 162 = .ok (.iload 8, 2) := by decide +kernel
theorem dX12_asleep_164 : decode cX12_asleep 164 = .ok (.goto 4, 3) := by decide +kernel
theorem dX12_asleep_167 : decode cX12_asleep 167 = .ok (.iconst 0, 1) := by decide +kernel
theorem dX12_asleep_168 : decode cX12_asleep 168 = .ok (.iadd, 1) := by decide +kernel
theorem dX12_asleep_169 : decode cX12_asleep 169 = .ok (.istore 5, 2) := by decide +kernel
theorem dX12_asleep_171 : decode cX12_asleep 171 = .ok (.iinc 7 1, 3) := by decide +kernel
theorem dX12_asleep_174 : decode cX12_asleep 174 = .ok (.goto (-99), 3) := by decide +kernel
theorem dX12_asleep_177 : decode cX12_asleep 177 = .ok (.iload 5, 2) := by decide +kernel
theorem dX12_asleep_179 : decode cX12_asleep 179 = .ok (.istore 7, 2) := by decide +kernel
theorem dX12_asleep_181 : decode cX12_asleep 181 = .ok (.iload 6, 2) := by decide +kernel
theorem dX12_asleep_183 : decode cX12_asleep 183 = .ok (.istore 8, 2) := by decide +kernel
theorem dX12_asleep_185 : decode cX12_asleep 185 = .ok (.iload 8, 2) := by decide +kernel
theorem dX12_asleep_187 : decode cX12_asleep 187 = .ok (.ifCond .le 21, 3) := by decide +kernel
theorem dX12_asleep_190 : decode cX12_asleep 190 = .ok (.iload 7, 2) := by decide +kernel
theorem dX12_asleep_192 : decode cX12_asleep 192 = .ok (.iload 8, 2) := by decide +kernel
theorem dX12_asleep_194 : decode cX12_asleep 194 = .ok (.irem, 1) := by decide +kernel
theorem dX12_asleep_195 : decode cX12_asleep 195 = .ok (.istore 9, 2) := by decide +kernel
theorem dX12_asleep_197 : decode cX12_asleep 197 = .ok (.iload 8, 2) := by decide +kernel
theorem dX12_asleep_199 : decode cX12_asleep 199 = .ok (.istore 7, 2) := by decide +kernel
theorem dX12_asleep_201 : decode cX12_asleep 201 = .ok (.iload 9, 2) := by decide +kernel
theorem dX12_asleep_203 : decode cX12_asleep 203 = .ok (.istore 8, 2) := by decide +kernel
theorem dX12_asleep_205 : decode cX12_asleep 205 = .ok (.goto (-20), 3) := by decide +kernel
theorem dX12_asleep_208 : decode cX12_asleep 208 = .ok (.iload 4, 2) := by decide +kernel
theorem dX12_asleep_210 : decode cX12_asleep 210 = .ok (.ifCond .ne 8, 3) := by decide +kernel
theorem dX12_asleep_213 : decode cX12_asleep 213 = .ok (.iload 5, 2) := by decide +kernel
theorem dX12_asleep_215 : decode cX12_asleep 215 = .ok (.goto 5, 3) := by decide +kernel
theorem dX12_asleep_218 : decode cX12_asleep 218 = .ok (.iload 6, 2) := by decide +kernel
theorem dX12_asleep_220 : decode cX12_asleep 220 = .ok (.iload 7, 2) := by decide +kernel
theorem dX12_asleep_222 : decode cX12_asleep 222 = .ok (.idiv, 1) := by decide +kernel
theorem dX12_asleep_223 : decode cX12_asleep 223 = .ok (.ireturn, 1) := by decide +kernel
theorem dX12_figuresOf_0 : decode cX12_figuresOf 0 = .ok (.iconst 0, 1) := by decide +kernel
theorem dX12_figuresOf_1 : decode cX12_figuresOf 1 = .ok (.istore_n 1, 1) := by decide +kernel
theorem dX12_figuresOf_2 : decode cX12_figuresOf 2 = .ok (.iconst 0, 1) := by decide +kernel
theorem dX12_figuresOf_3 : decode cX12_figuresOf 3 = .ok (.istore_n 2, 1) := by decide +kernel
theorem dX12_figuresOf_4 : decode cX12_figuresOf 4 = .ok (.iload_n 2, 1) := by decide +kernel
theorem dX12_figuresOf_5 : decode cX12_figuresOf 5 = .ok (.aload_n 0, 1) := by decide +kernel
theorem dX12_figuresOf_6 : decode cX12_figuresOf 6 = .ok (.iconst 3, 1) := by decide +kernel
theorem dX12_figuresOf_7 : decode cX12_figuresOf 7 = .ok (.iaload, 1) := by decide +kernel
theorem dX12_figuresOf_8 : decode cX12_figuresOf 8 = .ok (.if_icmp .ge 21, 3) := by decide +kernel
theorem dX12_figuresOf_11 : decode cX12_figuresOf 11 = .ok (.bipush 10, 2) := by decide +kernel
theorem dX12_figuresOf_13 : decode cX12_figuresOf 13 = .ok (.iload_n 1, 1) := by decide +kernel
theorem dX12_figuresOf_14 : decode cX12_figuresOf 14 = .ok (.imul, 1) := by decide +kernel
theorem dX12_figuresOf_15 : decode cX12_figuresOf 15 = .ok (.aload_n 0, 1) := by decide +kernel
theorem dX12_figuresOf_16 : decode cX12_figuresOf 16 = .ok (.bipush 21, 2) := by decide +kernel
theorem dX12_figuresOf_18 : decode cX12_figuresOf 18 = .ok (.iload_n 2, 1) := by decide +kernel
theorem dX12_figuresOf_19 : decode cX12_figuresOf 19 = .ok (.iadd, 1) := by decide +kernel
theorem dX12_figuresOf_20 : decode cX12_figuresOf 20 = .ok (.iaload, 1) := by decide +kernel
theorem dX12_figuresOf_21 : decode cX12_figuresOf 21 = .ok (.iadd, 1) := by decide +kernel
theorem dX12_figuresOf_22 : decode cX12_figuresOf 22 = .ok (.istore_n 1, 1) := by decide +kernel
theorem dX12_figuresOf_23 : decode cX12_figuresOf 23 = .ok (.iinc 2 1, 3) := by decide +kernel
theorem dX12_figuresOf_26 : decode cX12_figuresOf 26 = .ok (.goto (-22), 3) := by decide +kernel
theorem dX12_figuresOf_29 : decode cX12_figuresOf 29 = .ok (.iload_n 1, 1) := by decide +kernel
theorem dX12_figuresOf_30 : decode cX12_figuresOf 30 = .ok (.ireturn, 1) := by decide +kernel
set_option maxRecDepth 20000 in
theorem ggX12_drawn_X12_isThere : GoodIn wsX12_drawn wsX12_isThere := goodIn_r _ [12, 6, 70, 71, 72, 73, 74, 75, 76, 77, 78, 79, 80, 81, 82, 83, 84, 85, 86, 87, 88, 89, 90, 91, 92, 93] (by decide +kernel) (by decide +kernel)
set_option maxRecDepth 20000 in
theorem gX12_drawn_X12_isThere : GoodIn wsX12_drawn (wsV RX12 169 RX12 yX12_isThere wsX12_isThere) := goodIn_app (goodIn_of _ (by decide +kernel)) ggX12_drawn_X12_isThere
set_option maxRecDepth 20000 in
theorem ggX12_drawn_X12_in : GoodIn wsX12_drawn wsX12_in := goodIn_r _ [15] (by decide +kernel) (by decide +kernel)
set_option maxRecDepth 20000 in
theorem gX12_drawn_X12_in : GoodIn wsX12_drawn (va_wsS RX12 53 yX12_in wsX12_in) := goodIn_app (goodIn_of _ (by decide +kernel)) ggX12_drawn_X12_in
set_option maxRecDepth 20000 in
theorem ggX12_drawn_X12_begin : GoodIn wsX12_drawn wsX12_begin := goodIn_r _ [19, 6, 7, 20, 21, 11, 22, 70, 71, 72, 73, 74, 75, 76, 77, 78, 79, 80, 81, 82, 83, 84, 85, 86, 87, 88, 89, 90, 91, 92, 93] (by decide +kernel) (by decide +kernel)
set_option maxRecDepth 20000 in
theorem gX12_drawn_X12_begin : GoodIn wsX12_drawn (wsV RX12 192 RX12 yX12_begin wsX12_begin) := goodIn_app (goodIn_of _ (by decide +kernel)) ggX12_drawn_X12_begin
set_option maxRecDepth 20000 in
theorem ggX12_drawn_X12_inDrawer : GoodIn wsX12_drawn wsX12_inDrawer := goodIn_r _ [25] (by decide +kernel) (by decide +kernel)
set_option maxRecDepth 20000 in
theorem gX12_drawn_X12_inDrawer : GoodIn wsX12_drawn (va_wsS RX12 112 yX12_inDrawer wsX12_inDrawer) := goodIn_app (goodIn_of _ (by decide +kernel)) ggX12_drawn_X12_inDrawer
set_option maxRecDepth 20000 in
theorem ggX12_drawn_X12_goesBehind : GoodIn wsX12_drawn wsX12_goesBehind := goodIn_r _ [28, 29, 30, 11, 31, 23, 24, 25, 32, 33, 34] (by decide +kernel) (by decide +kernel)
set_option maxRecDepth 20000 in
theorem gX12_drawn_X12_goesBehind : GoodIn wsX12_drawn (va_wsS RX12 150 yX12_goesBehind wsX12_goesBehind) := goodIn_app (goodIn_of _ (by decide +kernel)) ggX12_drawn_X12_goesBehind
set_option maxRecDepth 20000 in
theorem ggX12_drawn_X12_goOn : GoodIn wsX12_drawn wsX12_goOn := goodIn_r _ [38, 7, 39, 40, 11, 41, 42, 43, 44, 45, 46, 47, 48, 49, 50, 51, 52, 53, 54, 55, 56, 57, 58, 59, 60, 29, 30, 31, 32, 33, 34, 23, 24, 25, 26, 27, 28, 70, 71, 72, 73, 74, 75, 76, 77, 78, 79, 80, 81, 82, 83, 84, 85, 86, 87, 88, 89, 90, 91, 92, 93] (by decide +kernel) (by decide +kernel)
set_option maxRecDepth 20000 in
theorem gX12_drawn_X12_goOn : GoodIn wsX12_drawn (wsV RX12 195 RX12 yX12_goOn wsX12_goOn) := goodIn_app (goodIn_of _ (by decide +kernel)) ggX12_drawn_X12_goOn
set_option maxRecDepth 20000 in
theorem ggX12_drawn_X12_matesIn : GoodIn wsX12_drawn wsX12_matesIn := goodIn_r _ [63, 51, 52, 11, 53, 54] (by decide +kernel) (by decide +kernel)
set_option maxRecDepth 20000 in
theorem gX12_drawn_X12_matesIn : GoodIn wsX12_drawn (va_wsS RX12 179 yX12_matesIn wsX12_matesIn) := goodIn_app (goodIn_of _ (by decide +kernel)) ggX12_drawn_X12_matesIn
set_option maxRecDepth 20000 in
theorem ggX12_drawn_X12_bits : GoodIn wsX12_drawn wsX12_bits := goodIn_r _ [66] (by decide +kernel) (by decide +kernel)
set_option maxRecDepth 20000 in
theorem gX12_drawn_X12_bits : GoodIn wsX12_drawn (va_wsS RX12 203 yX12_bits wsX12_bits) := goodIn_app (goodIn_of _ (by decide +kernel)) ggX12_drawn_X12_bits
set_option maxRecDepth 20000 in
theorem ggX12_drawn_X12_figuresOf : GoodIn wsX12_drawn wsX12_figuresOf := goodIn_r _ [69] (by decide +kernel) (by decide +kernel)
set_option maxRecDepth 20000 in
theorem gX12_drawn_X12_figuresOf : GoodIn wsX12_drawn (va_wsS RX12 218 yX12_figuresOf wsX12_figuresOf) := goodIn_app (goodIn_of _ (by decide +kernel)) ggX12_drawn_X12_figuresOf
theorem dX12_drawn_0 : decode cX12_drawn 0 = .ok (.aload_n 0, 1) := by decide +kernel
theorem dX12_drawn_1 : decode cX12_drawn 1 = .ok (.invokevirtual 169, 3) := by decide +kernel
theorem dX12_drawn_4 : decode cX12_drawn 4 = .ok (.ifCond .ne 6, 3) := by decide +kernel
theorem dX12_drawn_7 : decode cX12_drawn 7 = .ok (.ldc 172, 2) := by decide +kernel
theorem dX12_drawn_9 : decode cX12_drawn 9 = .ok (.ireturn, 1) := by decide +kernel
theorem dX12_drawn_10 : decode cX12_drawn 10 = .ok (.iload_n 1, 1) := by decide +kernel
theorem dX12_drawn_11 : decode cX12_drawn 11 = .ok (.iconst 0, 1) := by decide +kernel
theorem dX12_drawn_12 : decode cX12_drawn 12 = .ok (.bipush 60, 2) := by decide +kernel
theorem dX12_drawn_14 : decode cX12_drawn 14 = .ok (.invokestatic 53, 3) := by decide +kernel
theorem dX12_drawn_17 : decode cX12_drawn 17 = .ok (.ifCond .eq 22, 3) := by decide +kernel
theorem dX12_drawn_20 : decode cX12_drawn 20 = .ok (.iload_n 2, 1) := by decide +kernel
theorem dX12_drawn_21 : decode cX12_drawn 21 = .ok (.iconst 1, 1) := by decide +kernel
theorem dX12_drawn_22 : decode cX12_drawn 22 = .ok (.ldc 213, 2) := by decide +kernel
theorem dX12_drawn_24 : decode cX12_drawn 24 = .ok (.invokestatic 53, 3) := by decide +kernel
theorem dX12_drawn_27 : decode cX12_drawn 27 = .ok (.ifCond .eq 12, 3) := by decide +kernel
theorem dX12_drawn_30 : decode cX12_drawn 30 = .ok (.iload_n 3, 1) := by decide +kernel
theorem dX12_drawn_31 : decode cX12_drawn 31 = .ok (.iconst 0, 1) := by decide +kernel
theorem dX12_drawn_32 : decode cX12_drawn 32 = .ok (.iconst 1, 1) := by decide +kernel
theorem dX12_drawn_33 : decode cX12_drawn 33 = .ok (.invokestatic 53, 3) := by decide +kernel
theorem dX12_drawn_36 : decode cX12_drawn 36 = .ok (.ifCond .ne 6, 3) := by decide +kernel
theorem dX12_drawn_39 : decode cX12_drawn 39 = .ok (.ldc 66, 2) := by decide +kernel
theorem dX12_drawn_41 : decode cX12_drawn 41 = .ok (.ireturn, 1) := by decide +kernel
theorem dX12_drawn_42 : decode cX12_drawn 42 = .ok (.aload_n 0, 1) := by decide +kernel
theorem dX12_drawn_43 : decode cX12_drawn 43 = .ok (.invokevirtual 192, 3) := by decide +kernel
theorem dX12_drawn_46 : decode cX12_drawn 46 = .ok (.iload_n 2, 1) := by decide +kernel
theorem dX12_drawn_47 : decode cX12_drawn 47 = .ok (.i2l, 1) := by decide +kernel
theorem dX12_drawn_48 : decode cX12_drawn 48 = .ok (.lstore 4, 2) := by decide +kernel
theorem dX12_drawn_50 : decode cX12_drawn 50 = .ok (.iconst 0, 1) := by decide +kernel
theorem dX12_drawn_51 : decode cX12_drawn 51 = .ok (.istore 6, 2) := by decide +kernel
theorem dX12_drawn_53 : decode cX12_drawn 53 = .ok (.iconst 0, 1) := by decide +kernel
theorem dX12_drawn_54 : decode cX12_drawn 54 = .ok (.istore 7, 2) := by decide +kernel
theorem dX12_drawn_56 : decode cX12_drawn 56 = .ok (.iload 7, 2) := by decide +kernel
theorem dX12_drawn_58 : decode cX12_drawn 58 = .ok (.iload_n 1, 1) := by decide +kernel
theorem dX12_drawn_59 : decode cX12_drawn 59 = .ok (.if_icmp .ge 111, 3) := by decide +kernel
theorem dX12_drawn_62 : decode cX12_drawn 62 = .ok (.lload 4, 2) := by decide +kernel
theorem dX12_drawn_64 : decode cX12_drawn 64 = .ok (.ldc2_w 214, 3) := by decide +kernel
theorem dX12_drawn_67 : decode cX12_drawn 67 = .ok (.lmul, 1) := by decide +kernel
theorem dX12_drawn_68 : decode cX12_drawn 68 = .ok (.ldc2_w 216, 3) := by decide +kernel
theorem dX12_drawn_71 : decode cX12_drawn 71 = .ok (.lrem, 1) := by decide +kernel
theorem dX12_drawn_72 : decode cX12_drawn 72 = .ok (.lstore 4, 2) := by decide +kernel
theorem dX12_drawn_74 : decode cX12_drawn 74 = .ok (.lload 4, 2) := by decide +kernel
theorem dX12_drawn_76 : decode cX12_drawn 76 = .ok (.aload_n 0, 1) := by decide +kernel
theorem dX12_drawn_77 : decode cX12_drawn 77 = .ok (.getfield 22, 3) := by decide +kernel
theorem dX12_drawn_80 : decode cX12_drawn 80 = .ok (.iconst 3, 1) := by decide +kernel
theorem dX12_drawn_81 : decode cX12_drawn 81 = .ok (.iaload, 1) := by decide +kernel
theorem dX12_drawn_82 : decode cX12_drawn 82 = .ok (.i2l, 1) := by decide +kernel
theorem dX12_drawn_83 : decode cX12_drawn 83 = .ok (.lrem, 1) := by decide +kernel
theorem dX12_drawn_84 : decode cX12_drawn 84 = .ok (.l2i, 1) := by decide +kernel
theorem dX12_drawn_85 : decode cX12_drawn 85 = .ok (.istore 8, 2) := by decide +kernel
theorem dX12_drawn_87 : decode cX12_drawn 87 = .ok (.lload 4, 2) := by decide +kernel
theorem dX12_drawn_89 : decode cX12_drawn 89 = .ok (.aload_n 0, 1) := by decide +kernel
theorem dX12_drawn_90 : decode cX12_drawn 90 = .ok (.getfield 22, 3) := by decide +kernel
theorem dX12_drawn_93 : decode cX12_drawn 93 = .ok (.iconst 1, 1) := by decide +kernel
theorem dX12_drawn_94 : decode cX12_drawn 94 = .ok (.iaload, 1) := by decide +kernel
theorem dX12_drawn_95 : decode cX12_drawn 95 = .ok (.i2l, 1) := by decide +kernel
theorem dX12_drawn_96 : decode cX12_drawn 96 = .ok (.lrem, 1) := by decide +kernel
theorem dX12_drawn_97 : decode cX12_drawn 97 = .ok (.l2i, 1) := by decide +kernel
theorem dX12_drawn_98 : decode cX12_drawn 98 = .ok (.istore 9, 2) := by decide +kernel
theorem dX12_drawn_100 : decode cX12_drawn 100 = .ok (.aload_n 0, 1) := by decide +kernel
theorem dX12_drawn_101 : decode cX12_drawn 101 = .ok (.getfield 28, 3) := by decide +kernel
theorem dX12_drawn_104 : decode cX12_drawn 104 = .ok (.bipush 21, 2) := by decide +kernel
theorem dX12_drawn_106 : decode cX12_drawn 106 = .ok (.iload 8, 2) := by decide +kernel
theorem dX12_drawn_108 : decode cX12_drawn 108 = .ok (.iadd, 1) := by decide +kernel
theorem dX12_drawn_109 : decode cX12_drawn 109 = .ok (.iaload, 1) := by decide +kernel
theorem dX12_drawn_110 : decode cX12_drawn 110 = .ok (.iload 9, 2) := by decide +kernel
theorem dX12_drawn_112 : decode cX12_drawn 112 = .ok (.if_icmp .eq 21, 3) := by decide +kernel
theorem dX12_drawn_115 : decode cX12_drawn 115 = .ok (.aload_n 0, 1) := by decide +kernel
theorem dX12_drawn_116 : decode cX12_drawn 116 = .ok (.getfield 28, 3) := by decide +kernel
theorem dX12_drawn_119 : decode cX12_drawn 119 = .ok (.iload 9, 2) := by decide +kernel
theorem dX12_drawn_121 : decode cX12_drawn 121 = .ok (.invokestatic 112, 3) := by decide +kernel
theorem dX12_drawn_124 : decode cX12_drawn 124 = .ok (.aload_n 0, 1) := by decide +kernel
theorem dX12_drawn_125 : decode cX12_drawn 125 = .ok (.getfield 28, 3) := by decide +kernel
theorem dX12_drawn_128 : decode cX12_drawn 128 = .ok (.iconst 2, 1) := by decide +kernel
theorem dX12_drawn_129 : decode cX12_drawn 129 = .ok (.iaload, 1) := by decide +kernel
theorem dX12_drawn_130 : decode cX12_drawn 130 = .ok (.if_icmp .ge 14, 3) := by decide +kernel
theorem dX12_drawn_133 : decode cX12_drawn 133 = .ok (.aload_n 0, 1) := by decide +kernel
theorem dX12_drawn_134 : decode cX12_drawn 134 = .ok (.getfield 28, 3) := by decide +kernel
theorem dX12_drawn_137 : decode cX12_drawn 137 = .ok (.iload 8, 2) := by decide +kernel
theorem dX12_drawn_139 : decode cX12_drawn 139 = .ok (.iload 9, 2) := by decide +kernel
theorem dX12_drawn_141 : decode cX12_drawn 141 = .ok (.invokestatic 150, 3) := by decide +kernel
theorem dX12_drawn_144 : decode cX12_drawn 144 = .ok (.aload_n 0, 1) := by decide +kernel
theorem dX12_drawn_145 : decode cX12_drawn 145 = .ok (.iconst 1, 1) := by decide +kernel
theorem dX12_drawn_146 : decode cX12_drawn 146 = .ok (.invokevirtual 195, 3) := by decide +kernel
theorem dX12_drawn_149 : decode cX12_drawn 149 = .ok (.iload 6, 2) := by decide +kernel
theorem dX12_drawn_151 : decode cX12_drawn 151 = .ok (.aload_n 0, 1) := by decide +kernel
theorem dX12_drawn_152 : decode cX12_drawn 152 = .ok (.getfield 28, 3) := by decide +kernel
theorem dX12_drawn_155 : decode cX12_drawn 155 = .ok (.invokestatic 179, 3) := by decide +kernel
theorem dX12_drawn_158 : decode cX12_drawn 158 = .ok (.invokestatic 203, 3) := by decide +kernel
theorem dX12_drawn_161 : decode cX12_drawn 161 = .ok (.iadd, 1) := by decide +kernel
theorem dX12_drawn_162 : decode cX12_drawn 162 = .ok (.istore 6, 2) := by decide +kernel
theorem dX12_drawn_164 : decode cX12_drawn 164 = .ok (.iinc 7 1, 3) := by decide +kernel
theorem dX12_drawn_167 : decode cX12_drawn 167 = .ok (.goto (-111), 3) := by decide +kernel
theorem dX12_drawn_170 : decode cX12_drawn 170 = .ok (.iload_n 3, 1) := by decide +kernel
theorem dX12_drawn_171 : decode cX12_drawn 171 = .ok (.ifCond .ne 13, 3) := by decide +kernel
theorem dX12_drawn_174 : decode cX12_drawn 174 = .ok (.aload_n 0, 1) := by decide +kernel
theorem dX12_drawn_175 : decode cX12_drawn 175 = .ok (.getfield 28, 3) := by decide +kernel
theorem dX12_drawn_178 : decode cX12_drawn 178 = .ok (.invokestatic 218, 3) := by decide +kernel
theorem dX12_drawn_181 : decode cX12_drawn 181 = .ok (.goto 5, 3) := by decide +kernel
theorem dX12_drawn_184 : decode cX12_drawn 184 = .ok (.iload 6, 2) := by decide +kernel
theorem dX12_drawn_186 : decode cX12_drawn 186 = .ok (.ireturn, 1) := by decide +kernel
set_option maxRecDepth 20000 in
theorem ggX12_image_X12_in : GoodIn wsX12_image wsX12_in := goodIn_r _ [9] (by decide +kernel) (by decide +kernel)
set_option maxRecDepth 20000 in
theorem gX12_image_X12_in : GoodIn wsX12_image (va_wsS RX12 53 yX12_in wsX12_in) := goodIn_app (goodIn_of _ (by decide +kernel)) ggX12_image_X12_in
set_option maxRecDepth 20000 in
theorem ggX12_image_X12_isThere : GoodIn wsX12_image wsX12_isThere := goodIn_r _ [13, 3, 17, 18, 19, 20, 21, 22, 23, 24, 25, 26, 27, 28, 29, 30, 31, 32, 33, 34, 35, 36, 37, 38, 39, 40] (by decide +kernel) (by decide +kernel)
set_option maxRecDepth 20000 in
theorem gX12_image_X12_isThere : GoodIn wsX12_image (wsV RX12 169 RX12 yX12_isThere wsX12_isThere) := goodIn_app (goodIn_of _ (by decide +kernel)) ggX12_image_X12_isThere
set_option maxRecDepth 20000 in
theorem ggX12_image_X12_lay : GoodIn wsX12_image wsX12_lay := goodIn_r _ [16] (by decide +kernel) (by decide +kernel)
set_option maxRecDepth 20000 in
theorem gX12_image_X12_lay : GoodIn wsX12_image (va_wsS RX12 130 yX12_lay wsX12_lay) := goodIn_app (goodIn_of _ (by decide +kernel)) ggX12_image_X12_lay
theorem dX12_image_0 : decode cX12_image 0 = .ok (.iload_n 1, 1) := by decide +kernel
theorem dX12_image_1 : decode cX12_image 1 = .ok (.iconst 0, 1) := by decide +kernel
theorem dX12_image_2 : decode cX12_image 2 = .ok (.iconst 1, 1) := by decide +kernel
theorem dX12_image_3 : decode cX12_image 3 = .ok (.invokestatic 53, 3) := by decide +kernel
theorem dX12_image_6 : decode cX12_image 6 = .ok (.ifCond .ne 6, 3) := by decide +kernel
theorem dX12_image_9 : decode cX12_image 9 = .ok (.ldc 66, 2) := by decide +kernel
theorem dX12_image_11 : decode cX12_image 11 = .ok (.ireturn, 1) := by decide +kernel
theorem dX12_image_12 : decode cX12_image 12 = .ok (.aload_n 0, 1) := by decide +kernel
theorem dX12_image_13 : decode cX12_image 13 = .ok (.invokevirtual 169, 3) := by decide +kernel
theorem dX12_image_16 : decode cX12_image 16 = .ok (.ifCond .ne 6, 3) := by decide +kernel
theorem dX12_image_19 : decode cX12_image 19 = .ok (.ldc 172, 2) := by decide +kernel
theorem dX12_image_21 : decode cX12_image 21 = .ok (.ireturn, 1) := by decide +kernel
theorem dX12_image_22 : decode cX12_image 22 = .ok (.aload_n 0, 1) := by decide +kernel
theorem dX12_image_23 : decode cX12_image 23 = .ok (.getfield 22, 3) := by decide +kernel
theorem dX12_image_26 : decode cX12_image 26 = .ok (.iconst 0, 1) := by decide +kernel
theorem dX12_image_27 : decode cX12_image 27 = .ok (.aload_n 0, 1) := by decide +kernel
theorem dX12_image_28 : decode cX12_image 28 = .ok (.getfield 34, 3) := by decide +kernel
theorem dX12_image_31 : decode cX12_image 31 = .ok (.bipush 37, 2) := by decide +kernel
theorem dX12_image_33 : decode cX12_image 33 = .ok (.iload_n 1, 1) := by decide +kernel
theorem dX12_image_34 : decode cX12_image 34 = .ok (.imul, 1) := by decide +kernel
theorem dX12_image_35 : decode cX12_image 35 = .ok (.invokestatic 130, 3) := by decide +kernel
theorem dX12_image_38 : decode cX12_image 38 = .ok (.aload_n 0, 1) := by decide +kernel
theorem dX12_image_39 : decode cX12_image 39 = .ok (.getfield 37, 3) := by decide +kernel
theorem dX12_image_42 : decode cX12_image 42 = .ok (.iload_n 1, 1) := by decide +kernel
theorem dX12_image_43 : decode cX12_image 43 = .ok (.iconst 1, 1) := by decide +kernel
theorem dX12_image_44 : decode cX12_image 44 = .ok (.bastore, 1) := by decide +kernel
theorem dX12_image_45 : decode cX12_image 45 = .ok (.iconst 1, 1) := by decide +kernel
theorem dX12_image_46 : decode cX12_image 46 = .ok (.ireturn, 1) := by decide +kernel
set_option maxRecDepth 20000 in
theorem ggX12_restore_X12_in : GoodIn wsX12_restore wsX12_in := goodIn_r _ [10] (by decide +kernel) (by decide +kernel)
set_option maxRecDepth 20000 in
theorem gX12_restore_X12_in : GoodIn wsX12_restore (va_wsS RX12 53 yX12_in wsX12_in) := goodIn_app (goodIn_of _ (by decide +kernel)) ggX12_restore_X12_in
set_option maxRecDepth 20000 in
theorem ggX12_restore_X12_lay : GoodIn wsX12_restore wsX12_lay := goodIn_r _ [13] (by decide +kernel) (by decide +kernel)
set_option maxRecDepth 20000 in
theorem gX12_restore_X12_lay : GoodIn wsX12_restore (va_wsS RX12 130 yX12_lay wsX12_lay) := goodIn_app (goodIn_of _ (by decide +kernel)) ggX12_restore_X12_lay
theorem dX12_restore_0 : decode cX12_restore 0 = .ok (.iload_n 1, 1) := by decide +kernel
theorem dX12_restore_1 : decode cX12_restore 1 = .ok (.iconst 0, 1) := by decide +kernel
theorem dX12_restore_2 : decode cX12_restore 2 = .ok (.iconst 1, 1) := by decide +kernel
theorem dX12_restore_3 : decode cX12_restore 3 = .ok (.invokestatic 53, 3) := by decide +kernel
theorem dX12_restore_6 : decode cX12_restore 6 = .ok (.ifCond .ne 6, 3) := by decide +kernel
theorem dX12_restore_9 : decode cX12_restore 9 = .ok (.ldc 66, 2) := by decide +kernel
theorem dX12_restore_11 : decode cX12_restore 11 = .ok (.ireturn, 1) := by decide +kernel
theorem dX12_restore_12 : decode cX12_restore 12 = .ok (.aload_n 0, 1) := by decide +kernel
theorem dX12_restore_13 : decode cX12_restore 13 = .ok (.getfield 37, 3) := by decide +kernel
theorem dX12_restore_16 : decode cX12_restore 16 = .ok (.iload_n 1, 1) := by decide +kernel
theorem dX12_restore_17 : decode cX12_restore 17 = .ok (.baload, 1) := by decide +kernel
theorem dX12_restore_18 : decode cX12_restore 18 = .ok (.ifCond .ne 6, 3) := by decide +kernel
theorem dX12_restore_21 : decode cX12_restore 21 = .ok (.ldc 172, 2) := by decide +kernel
theorem dX12_restore_23 : decode cX12_restore 23 = .ok (.ireturn, 1) := by decide +kernel
theorem dX12_restore_24 : decode cX12_restore 24 = .ok (.aload_n 0, 1) := by decide +kernel
theorem dX12_restore_25 : decode cX12_restore 25 = .ok (.getfield 34, 3) := by decide +kernel
theorem dX12_restore_28 : decode cX12_restore 28 = .ok (.bipush 37, 2) := by decide +kernel
theorem dX12_restore_30 : decode cX12_restore 30 = .ok (.iload_n 1, 1) := by decide +kernel
theorem dX12_restore_31 : decode cX12_restore 31 = .ok (.imul, 1) := by decide +kernel
theorem dX12_restore_32 : decode cX12_restore 32 = .ok (.aload_n 0, 1) := by decide +kernel
theorem dX12_restore_33 : decode cX12_restore 33 = .ok (.getfield 22, 3) := by decide +kernel
theorem dX12_restore_36 : decode cX12_restore 36 = .ok (.iconst 0, 1) := by decide +kernel
theorem dX12_restore_37 : decode cX12_restore 37 = .ok (.invokestatic 130, 3) := by decide +kernel
theorem dX12_restore_40 : decode cX12_restore 40 = .ok (.aload_n 0, 1) := by decide +kernel
theorem dX12_restore_41 : decode cX12_restore 41 = .ok (.iconst 0, 1) := by decide +kernel
theorem dX12_restore_42 : decode cX12_restore 42 = .ok (.putfield 134, 3) := by decide +kernel
theorem dX12_restore_45 : decode cX12_restore 45 = .ok (.iconst 1, 1) := by decide +kernel
theorem dX12_restore_46 : decode cX12_restore 46 = .ok (.ireturn, 1) := by decide +kernel
set_option maxRecDepth 20000 in
theorem ggX12_kind_X12_isOne : GoodIn wsX12_kind wsX12_isOne := goodIn_r _ [7, 1, 8, 9, 6, 10, 11, 12, 13, 14, 15, 16, 17, 18, 19, 20, 21, 22, 23, 24, 25, 26, 27, 28, 29, 30, 31, 32, 33, 34] (by decide +kernel) (by decide +kernel)
set_option maxRecDepth 20000 in
theorem gX12_kind_X12_isOne : GoodIn wsX12_kind (wsV RX12 183 RX12 yX12_isOne wsX12_isOne) := goodIn_app (goodIn_of _ (by decide +kernel)) ggX12_kind_X12_isOne
theorem dX12_kind_0 : decode cX12_kind 0 = .ok (.aload_n 0, 1) := by decide +kernel
theorem dX12_kind_1 : decode cX12_kind 1 = .ok (.iload_n 1, 1) := by decide +kernel
theorem dX12_kind_2 : decode cX12_kind 2 = .ok (.invokevirtual 183, 3) := by decide +kernel
theorem dX12_kind_5 : decode cX12_kind 5 = .ok (.ifCond .eq 14, 3) := by decide +kernel
theorem dX12_kind_8 : decode cX12_kind 8 = .ok (.aload_n 0, 1) := by decide +kernel
theorem dX12_kind_9 : decode cX12_kind 9 = .ok (.getfield 22, 3) := by decide +kernel
theorem dX12_kind_12 : decode cX12_kind 12 = .ok (.iconst 5, 1) := by decide +kernel
theorem dX12_kind_13 : decode cX12_kind 13 = .ok (.iload_n 1, 1) := by decide +kernel
theorem dX12_kind_14 : decode cX12_kind 14 = .ok (.iadd, 1) := by decide +kernel
theorem dX12_kind_15 : decode cX12_kind 15 = .ok (.iaload, 1) := by decide +kernel
theorem dX12_kind_16 : decode cX12_kind 16 = .ok (.goto 5, 3) := by decide +kernel
theorem dX12_kind_19 : decode cX12_kind 19 = .ok (.ldc 66, 2) := by decide +kernel
theorem dX12_kind_21 : decode cX12_kind 21 = .ok (.ireturn, 1) := by decide +kernel
theorem dX12_parentOf_0 : decode cX12_parentOf 0 = .ok (.iload_n 0, 1) := by decide +kernel
theorem dX12_parentOf_1 : decode cX12_parentOf 1 = .ok (.iconst 1, 1) := by decide +kernel
theorem dX12_parentOf_2 : decode cX12_parentOf 2 = .ok (.if_icmp .eq 8, 3) := by decide +kernel
theorem dX12_parentOf_5 : decode cX12_parentOf 5 = .ok (.iload_n 0, 1) := by decide +kernel
theorem dX12_parentOf_6 : decode cX12_parentOf 6 = .ok (.iconst 4, 1) := by decide +kernel
theorem dX12_parentOf_7 : decode cX12_parentOf 7 = .ok (.if_icmp .ne 7, 3) := by decide +kernel
theorem dX12_parentOf_10 : decode cX12_parentOf 10 = .ok (.iconst 0, 1) := by decide +kernel
theorem dX12_parentOf_11 : decode cX12_parentOf 11 = .ok (.goto 13, 3) := by decide +kernel
theorem dX12_parentOf_14 : decode cX12_parentOf 14 = .ok (.iload_n 0, 1) := by decide +kernel
theorem dX12_parentOf_15 : decode cX12_parentOf 15 = .ok (.iconst 5, 1) := by decide +kernel
theorem dX12_parentOf_16 : decode cX12_parentOf 16 = .ok (.if_icmp .ne 7, 3) := by decide +kernel
theorem dX12_parentOf_19 : decode cX12_parentOf 19 = .ok (.iconst 4, 1) := by decide +kernel
theorem dX12_parentOf_20 : decode cX12_parentOf 20 = .ok (.goto 4, 3) := by decide +kernel
theorem dX12_parentOf_23 : decode cX12_parentOf 23 = .ok (.iconst 1, 1) := by decide +kernel
theorem dX12_parentOf_24 : decode cX12_parentOf 24 = .ok (.ireturn, 1) := by decide +kernel
set_option maxRecDepth 20000 in
theorem ggX12_as_X12_isOne : GoodIn wsX12_as wsX12_isOne := goodIn_r _ [7, 2, 8, 9, 6, 10, 24, 25, 26, 27, 28, 29, 30, 31, 32, 33, 34, 35, 36, 37, 38, 39, 40, 41, 42, 43, 44, 45, 46, 47] (by decide +kernel) (by decide +kernel)
set_option maxRecDepth 20000 in
theorem gX12_as_X12_isOne : GoodIn wsX12_as (wsV RX12 183 RX12 yX12_isOne wsX12_isOne) := goodIn_app (goodIn_of _ (by decide +kernel)) ggX12_as_X12_isOne
set_option maxRecDepth 20000 in
theorem ggX12_as_X12_in : GoodIn wsX12_as wsX12_in := goodIn_r _ [10] (by decide +kernel) (by decide +kernel)
set_option maxRecDepth 20000 in
theorem gX12_as_X12_in : GoodIn wsX12_as (va_wsS RX12 53 yX12_in wsX12_in) := goodIn_app (goodIn_of _ (by decide +kernel)) ggX12_as_X12_in
set_option maxRecDepth 20000 in
theorem ggX12_as_X12_parentOf : GoodIn wsX12_as wsX12_parentOf := goodIn_r _ [13] (by decide +kernel) (by decide +kernel)
set_option maxRecDepth 20000 in
theorem gX12_as_X12_parentOf : GoodIn wsX12_as (va_wsS RX12 221 yX12_parentOf wsX12_parentOf) := goodIn_app (goodIn_of _ (by decide +kernel)) ggX12_as_X12_parentOf
set_option maxRecDepth 20000 in
theorem ggX12_as_X12_done : GoodIn wsX12_as wsX12_done := goodIn_r _ [17, 18, 24, 25, 26, 27, 28, 29, 30, 31, 32, 33, 34, 35, 36, 37, 38, 39, 40, 41, 42, 43, 44, 45, 46, 47] (by decide +kernel) (by decide +kernel)
set_option maxRecDepth 20000 in
theorem gX12_as_X12_done : GoodIn wsX12_as (wsV RX12 71 RX12 yX12_done wsX12_done) := goodIn_app (goodIn_of _ (by decide +kernel)) ggX12_as_X12_done
set_option maxRecDepth 20000 in
theorem ggX12_as_X12_finds : GoodIn wsX12_as wsX12_finds := goodIn_r _ [22, 18, 23, 24, 25, 26, 27, 28, 29, 30, 31, 32, 33, 34, 35, 36, 37, 38, 39, 40, 41, 42, 43, 44, 45, 46, 47] (by decide +kernel) (by decide +kernel)
set_option maxRecDepth 20000 in
theorem gX12_as_X12_finds : GoodIn wsX12_as (wsV RX12 67 RX12 yX12_finds wsX12_finds) := goodIn_app (goodIn_of _ (by decide +kernel)) ggX12_as_X12_finds
theorem dX12_as_0 : decode cX12_as 0 = .ok (.aload_n 0, 1) := by decide +kernel
theorem dX12_as_1 : decode cX12_as 1 = .ok (.iload_n 1, 1) := by decide +kernel
theorem dX12_as_2 : decode cX12_as 2 = .ok (.invokevirtual 183, 3) := by decide +kernel
theorem dX12_as_5 : decode cX12_as 5 = .ok (.ifCond .eq 12, 3) := by decide +kernel
theorem dX12_as_8 : decode cX12_as 8 = .ok (.iload_n 2, 1) := by decide +kernel
theorem dX12_as_9 : decode cX12_as 9 = .ok (.iconst 0, 1) := by decide +kernel
theorem dX12_as_10 : decode cX12_as 10 = .ok (.iconst 5, 1) := by decide +kernel
theorem dX12_as_11 : decode cX12_as 11 = .ok (.invokestatic 53, 3) := by decide +kernel
theorem dX12_as_14 : decode cX12_as 14 = .ok (.ifCond .ne 6, 3) := by decide +kernel
theorem dX12_as_17 : decode cX12_as 17 = .ok (.ldc 66, 2) := by decide +kernel
theorem dX12_as_19 : decode cX12_as 19 = .ok (.ireturn, 1) := by decide +kernel
theorem dX12_as_20 : decode cX12_as 20 = .ok (.aload_n 0, 1) := by decide +kernel
theorem dX12_as_21 : decode cX12_as 21 = .ok (.getfield 22, 3) := by decide +kernel
theorem dX12_as_24 : decode cX12_as 24 = .ok (.iconst 5, 1) := by decide +kernel
theorem dX12_as_25 : decode cX12_as 25 = .ok (.iload_n 1, 1) := by decide +kernel
theorem dX12_as_26 : decode cX12_as 26 = .ok (.iadd, 1) := by decide +kernel
theorem dX12_as_27 : decode cX12_as 27 = .ok (.iaload, 1) := by decide +kernel
theorem dX12_as_28 : decode cX12_as 28 = .ok (.istore_n 3, 1) := by decide +kernel
theorem dX12_as_29 : decode cX12_as 29 = .ok (.iload_n 2, 1) := by decide +kernel
theorem dX12_as_30 : decode cX12_as 30 = .ok (.ifCond .eq 16, 3) := by decide +kernel
theorem dX12_as_33 : decode cX12_as 33 = .ok (.iload_n 3, 1) := by decide +kernel
theorem dX12_as_34 : decode cX12_as 34 = .ok (.iload_n 2, 1) := by decide +kernel
theorem dX12_as_35 : decode cX12_as 35 = .ok (.if_icmp .eq 11, 3) := by decide +kernel
theorem dX12_as_38 : decode cX12_as 38 = .ok (.iload_n 3, 1) := by decide +kernel
theorem dX12_as_39 : decode cX12_as 39 = .ok (.invokestatic 221, 3) := by decide +kernel
theorem dX12_as_42 : decode cX12_as 42 = .ok (.iload_n 2, 1) := by decide +kernel
theorem dX12_as_43 : decode cX12_as 43 = .ok (.if_icmp .ne 7, 3) := by decide +kernel
theorem dX12_as_46 : decode cX12_as 46 = .ok (.iconst 1, 1) := by decide +kernel
theorem dX12_as_47 : decode cX12_as 47 = .ok (.goto 4, 3) := by decide +kernel
theorem dX12_as_50 : decode cX12_as 50 = .ok (.iconst 0, 1) := by decide +kernel
theorem dX12_as_51 : decode cX12_as 51 = .ok (.istore 4, 2) := by decide +kernel
theorem dX12_as_53 : decode cX12_as 53 = .ok (.iload 4, 2) := by decide +kernel
theorem dX12_as_55 : decode cX12_as 55 = .ok (.ifCond .eq 11, 3) := by decide +kernel
theorem dX12_as_58 : decode cX12_as 58 = .ok (.aload_n 0, 1) := by decide +kernel
theorem dX12_as_59 : decode cX12_as 59 = .ok (.iload_n 1, 1) := by decide +kernel
theorem dX12_as_60 : decode cX12_as 60 = .ok (.invokevirtual 71, 3) := by decide +kernel
theorem dX12_as_63 : decode cX12_as 63 = .ok (.goto 8, 3) := by decide +kernel
theorem dX12_as_66 : decode cX12_as 66 = .ok (.aload_n 0, 1) := by decide +kernel
theorem dX12_as_67 : decode cX12_as 67 = .ok (.iconst 3, 1) := by decide +kernel
theorem dX12_as_68 : decode cX12_as 68 = .ok (.invokevirtual 67, 3) := by decide +kernel
theorem dX12_as_71 : decode cX12_as 71 = .ok (.ireturn, 1) := by decide +kernel
theorem dX12_begins_0 : decode cX12_begins 0 = .ok (.aload_n 0, 1) := by decide +kernel
theorem dX12_begins_1 : decode cX12_begins 1 = .ok (.getfield 224, 3) := by decide +kernel
theorem dX12_begins_4 : decode cX12_begins 4 = .ok (.bipush 16, 2) := by decide +kernel
theorem dX12_begins_6 : decode cX12_begins 6 = .ok (.if_icmp .ge 23, 3) := by decide +kernel
theorem dX12_begins_9 : decode cX12_begins 9 = .ok (.aload_n 0, 1) := by decide +kernel
theorem dX12_begins_10 : decode cX12_begins 10 = .ok (.getfield 44, 3) := by decide +kernel
theorem dX12_begins_13 : decode cX12_begins 13 = .ok (.aload_n 0, 1) := by decide +kernel
theorem dX12_begins_14 : decode cX12_begins 14 = .ok (.getfield 224, 3) := by decide +kernel
theorem dX12_begins_17 : decode cX12_begins 17 = .ok (.iload_n 1, 1) := by decide +kernel
theorem dX12_begins_18 : decode cX12_begins 18 = .ok (.iastore, 1) := by decide +kernel
theorem dX12_begins_19 : decode cX12_begins 19 = .ok (.aload_n 0, 1) := by decide +kernel
theorem dX12_begins_20 : decode cX12_begins 20 = .ok (.dup, 1) := by decide +kernel
theorem dX12_begins_21 : decode cX12_begins 21 = .ok (.getfield 224, 3) := by decide +kernel
theorem dX12_begins_24 : decode cX12_begins 24 = .ok (.iconst 1, 1) := by decide +kernel
theorem dX12_begins_25 : decode cX12_begins 25 = .ok (.iadd, 1) := by decide +kernel
theorem dX12_begins_26 : decode cX12_begins 26 = .ok (.putfield 224, 3) := by decide +kernel
theorem dX12_begins_29 : decode cX12_begins 29 = .ok (.return_, 1) := by decide +kernel
set_option maxRecDepth 20000 in
theorem ggX12_markFree_X12_begins : GoodIn wsX12_markFree wsX12_begins := goodIn_r _ [6, 7, 8, 9, 10, 11, 12, 13, 14, 15, 16, 17, 18, 19, 20, 21, 22, 23, 24, 25, 26, 27, 28, 29, 30, 31, 32] (by decide +kernel) (by decide +kernel)
set_option maxRecDepth 20000 in
theorem gX12_markFree_X12_begins : GoodIn wsX12_markFree (wsV RX12 227 RX12 yX12_begins wsX12_begins) := goodIn_app (goodIn_of _ (by decide +kernel)) ggX12_markFree_X12_begins
theorem dX12_markFree_0 : decode cX12_markFree 0 = .ok (.aload_n 0, 1) := by decide +kernel
theorem dX12_markFree_1 : decode cX12_markFree 1 = .ok (.bipush 21, 2) := by decide +kernel
theorem dX12_markFree_3 : decode cX12_markFree 3 = .ok (.invokevirtual 227, 3) := by decide +kernel
theorem dX12_markFree_6 : decode cX12_markFree 6 = .ok (.aload_n 0, 1) := by decide +kernel
theorem dX12_markFree_7 : decode cX12_markFree 7 = .ok (.bipush 20, 2) := by decide +kernel
theorem dX12_markFree_9 : decode cX12_markFree 9 = .ok (.invokevirtual 227, 3) := by decide +kernel
theorem dX12_markFree_12 : decode cX12_markFree 12 = .ok (.iload_n 1, 1) := by decide +kernel
theorem dX12_markFree_13 : decode cX12_markFree 13 = .ok (.aload_n 0, 1) := by decide +kernel
theorem dX12_markFree_14 : decode cX12_markFree 14 = .ok (.getfield 22, 3) := by decide +kernel
theorem dX12_markFree_17 : decode cX12_markFree 17 = .ok (.bipush 29, 2) := by decide +kernel
theorem dX12_markFree_19 : decode cX12_markFree 19 = .ok (.iload_n 1, 1) := by decide +kernel
theorem dX12_markFree_20 : decode cX12_markFree 20 = .ok (.iadd, 1) := by decide +kernel
theorem dX12_markFree_21 : decode cX12_markFree 21 = .ok (.iaload, 1) := by decide +kernel
theorem dX12_markFree_22 : decode cX12_markFree 22 = .ok (.iadd, 1) := by decide +kernel
theorem dX12_markFree_23 : decode cX12_markFree 23 = .ok (.ireturn, 1) := by decide +kernel
set_option maxRecDepth 20000 in
theorem ggX12_markNew_X12_begins : GoodIn wsX12_markNew wsX12_begins := goodIn_r _ [6, 7, 8, 13, 14, 15, 16, 17, 18, 19, 20, 21, 22, 23, 24, 25, 26, 27, 28, 29, 30, 31, 32, 33, 34, 35, 36] (by decide +kernel) (by decide +kernel)
set_option maxRecDepth 20000 in
theorem gX12_markNew_X12_begins : GoodIn wsX12_markNew (wsV RX12 227 RX12 yX12_begins wsX12_begins) := goodIn_app (goodIn_of _ (by decide +kernel)) ggX12_markNew_X12_begins
set_option maxRecDepth 20000 in
theorem ggX12_markNew_X12_markFree : GoodIn wsX12_markNew wsX12_markFree := goodIn_r _ [12, 1, 2, 3, 4, 5, 6, 7, 8, 13, 14, 15, 16, 17, 18, 19, 20, 21, 22, 23, 24, 25, 26, 27, 28, 29, 30, 31, 32, 33, 34, 35, 36] (by decide +kernel) (by decide +kernel)
set_option maxRecDepth 20000 in
theorem gX12_markNew_X12_markFree : GoodIn wsX12_markNew (wsV RX12 230 RX12 yX12_markFree wsX12_markFree) := goodIn_app (goodIn_of _ (by decide +kernel)) ggX12_markNew_X12_markFree
theorem dX12_markNew_0 : decode cX12_markNew 0 = .ok (.aload_n 0, 1) := by decide +kernel
theorem dX12_markNew_1 : decode cX12_markNew 1 = .ok (.getfield 22, 3) := by decide +kernel
theorem dX12_markNew_4 : decode cX12_markNew 4 = .ok (.iconst 5, 1) := by decide +kernel
theorem dX12_markNew_5 : decode cX12_markNew 5 = .ok (.iload_n 1, 1) := by decide +kernel
theorem dX12_markNew_6 : decode cX12_markNew 6 = .ok (.iadd, 1) := by decide +kernel
theorem dX12_markNew_7 : decode cX12_markNew 7 = .ok (.iaload, 1) := by decide +kernel
theorem dX12_markNew_8 : decode cX12_markNew 8 = .ok (.istore_n 2, 1) := by decide +kernel
theorem dX12_markNew_9 : decode cX12_markNew 9 = .ok (.iload_n 2, 1) := by decide +kernel
theorem dX12_markNew_10 : decode cX12_markNew 10 = .ok (.iconst 2, 1) := by decide +kernel
theorem dX12_markNew_11 : decode cX12_markNew 11 = .ok (.if_icmp .ne 17, 3) := by decide +kernel
theorem dX12_markNew_14 : decode cX12_markNew 14 = .ok (.aload_n 0, 1) := by decide +kernel
theorem dX12_markNew_15 : decode cX12_markNew 15 = .ok (.bipush 24, 2) := by decide +kernel
theorem dX12_markNew_17 : decode cX12_markNew 17 = .ok (.invokevirtual 227, 3) := by decide +kernel
theorem dX12_markNew_20 : decode cX12_markNew 20 = .ok (.iconst 2, 1) := by decide +kernel
theorem dX12_markNew_21 : decode cX12_markNew 21 = .ok (.aload_n 0, 1) := by decide +kernel
theorem dX12_markNew_22 : decode cX12_markNew 22 = .ok (.iload_n 1, 1) := by decide +kernel
theorem dX12_markNew_23 : decode cX12_markNew 23 = .ok (.invokevirtual 230, 3) := by decide +kernel
theorem dX12_markNew_26 : decode cX12_markNew 26 = .ok (.imul, 1) := by decide +kernel
theorem dX12_markNew_27 : decode cX12_markNew 27 = .ok (.ireturn, 1) := by decide +kernel
theorem dX12_markNew_28 : decode cX12_markNew 28 = .ok (.iload_n 2, 1) := by decide +kernel
theorem dX12_markNew_29 : decode cX12_markNew 29 = .ok (.iconst 3, 1) := by decide +kernel
theorem dX12_markNew_30 : decode cX12_markNew 30 = .ok (.if_icmp .ne 19, 3) := by decide +kernel
theorem dX12_markNew_33 : decode cX12_markNew 33 = .ok (.aload_n 0, 1) := by decide +kernel
theorem dX12_markNew_34 : decode cX12_markNew 34 = .ok (.bipush 22, 2) := by decide +kernel
theorem dX12_markNew_36 : decode cX12_markNew 36 = .ok (.invokevirtual 227, 3) := by decide +kernel
theorem dX12_markNew_39 : decode cX12_markNew 39 = .ok (.aload_n 0, 1) := by decide +kernel
theorem dX12_markNew_40 : decode cX12_markNew 40 = .ok (.iload_n 1, 1) := by decide +kernel
theorem dX12_markNew_41 : decode cX12_markNew 41 = .ok (.invokevirtual 230, 3) := by decide +kernel
theorem dX12_markNew_44 : decode cX12_markNew 44 = .ok (.sipush 1000, 3) := by decide +kernel
theorem dX12_markNew_47 : decode cX12_markNew 47 = .ok (.isub, 1) := by decide +kernel
theorem dX12_markNew_48 : decode cX12_markNew 48 = .ok (.ireturn, 1) := by decide +kernel
theorem dX12_markNew_49 : decode cX12_markNew 49 = .ok (.aload_n 0, 1) := by decide +kernel
theorem dX12_markNew_50 : decode cX12_markNew 50 = .ok (.iload_n 1, 1) := by decide +kernel
theorem dX12_markNew_51 : decode cX12_markNew 51 = .ok (.invokevirtual 230, 3) := by decide +kernel
theorem dX12_markNew_54 : decode cX12_markNew 54 = .ok (.ireturn, 1) := by decide +kernel
set_option maxRecDepth 20000 in
theorem ggX12_sizeRod_X12_begins : GoodIn wsX12_sizeRod wsX12_begins := goodIn_r _ [6, 7, 8, 9, 10, 11, 12, 13, 14, 15, 16, 17, 18, 19, 20, 21, 22, 23, 24, 25, 26, 27, 28, 29, 30, 31, 32] (by decide +kernel) (by decide +kernel)
set_option maxRecDepth 20000 in
theorem gX12_sizeRod_X12_begins : GoodIn wsX12_sizeRod (wsV RX12 227 RX12 yX12_begins wsX12_begins) := goodIn_app (goodIn_of _ (by decide +kernel)) ggX12_sizeRod_X12_begins
theorem dX12_sizeRod_0 : decode cX12_sizeRod 0 = .ok (.aload_n 0, 1) := by decide +kernel
theorem dX12_sizeRod_1 : decode cX12_sizeRod 1 = .ok (.bipush 13, 2) := by decide +kernel
theorem dX12_sizeRod_3 : decode cX12_sizeRod 3 = .ok (.invokevirtual 227, 3) := by decide +kernel
theorem dX12_sizeRod_6 : decode cX12_sizeRod 6 = .ok (.aload_n 0, 1) := by decide +kernel
theorem dX12_sizeRod_7 : decode cX12_sizeRod 7 = .ok (.bipush 10, 2) := by decide +kernel
theorem dX12_sizeRod_9 : decode cX12_sizeRod 9 = .ok (.invokevirtual 227, 3) := by decide +kernel
theorem dX12_sizeRod_12 : decode cX12_sizeRod 12 = .ok (.aload_n 0, 1) := by decide +kernel
theorem dX12_sizeRod_13 : decode cX12_sizeRod 13 = .ok (.getfield 22, 3) := by decide +kernel
theorem dX12_sizeRod_16 : decode cX12_sizeRod 16 = .ok (.bipush 13, 2) := by decide +kernel
theorem dX12_sizeRod_18 : decode cX12_sizeRod 18 = .ok (.iload_n 1, 1) := by decide +kernel
theorem dX12_sizeRod_19 : decode cX12_sizeRod 19 = .ok (.iadd, 1) := by decide +kernel
theorem dX12_sizeRod_20 : decode cX12_sizeRod 20 = .ok (.iaload, 1) := by decide +kernel
theorem dX12_sizeRod_21 : decode cX12_sizeRod 21 = .ok (.bipush 100, 2) := by decide +kernel
theorem dX12_sizeRod_23 : decode cX12_sizeRod 23 = .ok (.isub, 1) := by decide +kernel
theorem dX12_sizeRod_24 : decode cX12_sizeRod 24 = .ok (.ireturn, 1) := by decide +kernel
set_option maxRecDepth 20000 in
theorem ggX12_sizeOf_X12_begins : GoodIn wsX12_sizeOf wsX12_begins := goodIn_r _ [6, 7, 8, 21, 22, 23, 24, 25, 26, 27, 28, 29, 30, 31, 32, 33, 34, 35, 36, 37, 38, 39, 40, 41, 42, 43, 44] (by decide +kernel) (by decide +kernel)
set_option maxRecDepth 20000 in
theorem gX12_sizeOf_X12_begins : GoodIn wsX12_sizeOf (wsV RX12 227 RX12 yX12_begins wsX12_begins) := goodIn_app (goodIn_of _ (by decide +kernel)) ggX12_sizeOf_X12_begins
set_option maxRecDepth 20000 in
theorem ggX12_sizeOf_X12_sizeRod : GoodIn wsX12_sizeOf wsX12_sizeRod := goodIn_r _ [12, 1, 2, 3, 4, 5, 6, 7, 8, 21, 22, 23, 24, 25, 26, 27, 28, 29, 30, 31, 32, 33, 34, 35, 36, 37, 38, 39, 40, 41, 42, 43, 44] (by decide +kernel) (by decide +kernel)
set_option maxRecDepth 20000 in
theorem gX12_sizeOf_X12_sizeRod : GoodIn wsX12_sizeOf (wsV RX12 233 RX12 yX12_sizeRod wsX12_sizeRod) := goodIn_app (goodIn_of _ (by decide +kernel)) ggX12_sizeOf_X12_sizeRod
set_option maxRecDepth 20000 in
theorem ggX12_sizeOf_X12_markNew : GoodIn wsX12_sizeOf wsX12_markNew := goodIn_r _ [16, 1, 2, 3, 4, 5, 6, 7, 8, 17, 18, 19, 20, 21, 22, 23, 24, 25, 26, 27, 28, 29, 30, 31, 32, 33, 34, 35, 36, 37, 38, 39, 40, 41, 42, 43, 44] (by decide +kernel) (by decide +kernel)
set_option maxRecDepth 20000 in
theorem gX12_sizeOf_X12_markNew : GoodIn wsX12_sizeOf (wsV RX12 236 RX12 yX12_markNew wsX12_markNew) := goodIn_app (goodIn_of _ (by decide +kernel)) ggX12_sizeOf_X12_markNew
theorem dX12_sizeOf_0 : decode cX12_sizeOf 0 = .ok (.aload_n 0, 1) := by decide +kernel
theorem dX12_sizeOf_1 : decode cX12_sizeOf 1 = .ok (.getfield 22, 3) := by decide +kernel
theorem dX12_sizeOf_4 : decode cX12_sizeOf 4 = .ok (.iconst 5, 1) := by decide +kernel
theorem dX12_sizeOf_5 : decode cX12_sizeOf 5 = .ok (.iload_n 1, 1) := by decide +kernel
theorem dX12_sizeOf_6 : decode cX12_sizeOf 6 = .ok (.iadd, 1) := by decide +kernel
theorem dX12_sizeOf_7 : decode cX12_sizeOf 7 = .ok (.iaload, 1) := by decide +kernel
theorem dX12_sizeOf_8 : decode cX12_sizeOf 8 = .ok (.istore_n 2, 1) := by decide +kernel
theorem dX12_sizeOf_9 : decode cX12_sizeOf 9 = .ok (.iload_n 2, 1) := by decide +kernel
theorem dX12_sizeOf_10 : decode cX12_sizeOf 10 = .ok (.iconst 5, 1) := by decide +kernel
theorem dX12_sizeOf_11 : decode cX12_sizeOf 11 = .ok (.if_icmp .ne 17, 3) := by decide +kernel
theorem dX12_sizeOf_14 : decode cX12_sizeOf 14 = .ok (.aload_n 0, 1) := by decide +kernel
theorem dX12_sizeOf_15 : decode cX12_sizeOf 15 = .ok (.bipush 14, 2) := by decide +kernel
theorem dX12_sizeOf_17 : decode cX12_sizeOf 17 = .ok (.invokevirtual 227, 3) := by decide +kernel
theorem dX12_sizeOf_20 : decode cX12_sizeOf 20 = .ok (.iconst 2, 1) := by decide +kernel
theorem dX12_sizeOf_21 : decode cX12_sizeOf 21 = .ok (.aload_n 0, 1) := by decide +kernel
theorem dX12_sizeOf_22 : decode cX12_sizeOf 22 = .ok (.iload_n 1, 1) := by decide +kernel
theorem dX12_sizeOf_23 : decode cX12_sizeOf 23 = .ok (.invokevirtual 233, 3) := by decide +kernel
theorem dX12_sizeOf_26 : decode cX12_sizeOf 26 = .ok (.imul, 1) := by decide +kernel
theorem dX12_sizeOf_27 : decode cX12_sizeOf 27 = .ok (.ireturn, 1) := by decide +kernel
theorem dX12_sizeOf_28 : decode cX12_sizeOf 28 = .ok (.iload_n 2, 1) := by decide +kernel
theorem dX12_sizeOf_29 : decode cX12_sizeOf 29 = .ok (.iconst 4, 1) := by decide +kernel
theorem dX12_sizeOf_30 : decode cX12_sizeOf 30 = .ok (.if_icmp .ne 9, 3) := by decide +kernel
theorem dX12_sizeOf_33 : decode cX12_sizeOf 33 = .ok (.aload_n 0, 1) := by decide +kernel
theorem dX12_sizeOf_34 : decode cX12_sizeOf 34 = .ok (.iload_n 1, 1) := by decide +kernel
theorem dX12_sizeOf_35 : decode cX12_sizeOf 35 = .ok (.invokevirtual 233, 3) := by decide +kernel
theorem dX12_sizeOf_38 : decode cX12_sizeOf 38 = .ok (.ireturn, 1) := by decide +kernel
theorem dX12_sizeOf_39 : decode cX12_sizeOf 39 = .ok (.iload_n 2, 1) := by decide +kernel
theorem dX12_sizeOf_40 : decode cX12_sizeOf 40 = .ok (.iconst 2, 1) := by decide +kernel
theorem dX12_sizeOf_41 : decode cX12_sizeOf 41 = .ok (.if_icmp .ne 9, 3) := by decide +kernel
theorem dX12_sizeOf_44 : decode cX12_sizeOf 44 = .ok (.aload_n 0, 1) := by decide +kernel
theorem dX12_sizeOf_45 : decode cX12_sizeOf 45 = .ok (.bipush 12, 2) := by decide +kernel
theorem dX12_sizeOf_47 : decode cX12_sizeOf 47 = .ok (.invokevirtual 227, 3) := by decide +kernel
theorem dX12_sizeOf_50 : decode cX12_sizeOf 50 = .ok (.aload_n 0, 1) := by decide +kernel
theorem dX12_sizeOf_51 : decode cX12_sizeOf 51 = .ok (.bipush 11, 2) := by decide +kernel
theorem dX12_sizeOf_53 : decode cX12_sizeOf 53 = .ok (.invokevirtual 227, 3) := by decide +kernel
theorem dX12_sizeOf_56 : decode cX12_sizeOf 56 = .ok (.aload_n 0, 1) := by decide +kernel
theorem dX12_sizeOf_57 : decode cX12_sizeOf 57 = .ok (.bipush 10, 2) := by decide +kernel
theorem dX12_sizeOf_59 : decode cX12_sizeOf 59 = .ok (.invokevirtual 227, 3) := by decide +kernel
theorem dX12_sizeOf_62 : decode cX12_sizeOf 62 = .ok (.aload_n 0, 1) := by decide +kernel
theorem dX12_sizeOf_63 : decode cX12_sizeOf 63 = .ok (.getfield 22, 3) := by decide +kernel
theorem dX12_sizeOf_66 : decode cX12_sizeOf 66 = .ok (.bipush 13, 2) := by decide +kernel
theorem dX12_sizeOf_68 : decode cX12_sizeOf 68 = .ok (.iload_n 1, 1) := by decide +kernel
theorem dX12_sizeOf_69 : decode cX12_sizeOf 69 = .ok (.iadd, 1) := by decide +kernel
theorem dX12_sizeOf_70 : decode cX12_sizeOf 70 = .ok (.iaload, 1) := by decide +kernel
theorem dX12_sizeOf_71 : decode cX12_sizeOf 71 = .ok (.aload_n 0, 1) := by decide +kernel
theorem dX12_sizeOf_72 : decode cX12_sizeOf 72 = .ok (.iload_n 1, 1) := by decide +kernel
theorem dX12_sizeOf_73 : decode cX12_sizeOf 73 = .ok (.invokevirtual 236, 3) := by decide +kernel
theorem dX12_sizeOf_76 : decode cX12_sizeOf 76 = .ok (.iadd, 1) := by decide +kernel
theorem dX12_sizeOf_77 : decode cX12_sizeOf 77 = .ok (.istore_n 3, 1) := by decide +kernel
theorem dX12_sizeOf_78 : decode cX12_sizeOf 78 = .ok (.iload_n 2, 1) := by decide +kernel
theorem dX12_sizeOf_79 : decode cX12_sizeOf 79 = .ok (.iconst 2, 1) := by decide +kernel
theorem dX12_sizeOf_80 : decode cX12_sizeOf 80 = .ok (.if_icmp .ne 8, 3) := by decide +kernel
theorem dX12_sizeOf_83 : decode cX12_sizeOf 83 = .ok (.iload_n 3, 1) := by decide +kernel
theorem dX12_sizeOf_84 : decode cX12_sizeOf 84 = .ok (.ineg, 1) := by decide +kernel
theorem dX12_sizeOf_85 : decode cX12_sizeOf 85 = .ok (.goto 4, 3) := by decide +kernel
theorem dX12_sizeOf_88 : decode cX12_sizeOf 88 = .ok (.iload_n 3, 1) := by decide +kernel
theorem dX12_sizeOf_89 : decode cX12_sizeOf 89 = .ok (.ireturn, 1) := by decide +kernel
set_option maxRecDepth 20000 in
theorem ggX12_markOf_X12_markNew : GoodIn wsX12_markOf wsX12_markNew := goodIn_r _ [6, 1, 7, 8, 9, 5, 10, 11, 12, 13, 14, 15, 16, 25, 26, 27, 28, 29, 30, 31, 32, 33, 34, 35, 36, 37, 38, 39, 40, 41, 42, 43, 44, 45, 46, 47, 48] (by decide +kernel) (by decide +kernel)
set_option maxRecDepth 20000 in
theorem gX12_markOf_X12_markNew : GoodIn wsX12_markOf (wsV RX12 236 RX12 yX12_markNew wsX12_markNew) := goodIn_app (goodIn_of _ (by decide +kernel)) ggX12_markOf_X12_markNew
set_option maxRecDepth 20000 in
theorem ggX12_markOf_X12_begins : GoodIn wsX12_markOf wsX12_begins := goodIn_r _ [10, 11, 12, 25, 26, 27, 28, 29, 30, 31, 32, 33, 34, 35, 36, 37, 38, 39, 40, 41, 42, 43, 44, 45, 46, 47, 48] (by decide +kernel) (by decide +kernel)
set_option maxRecDepth 20000 in
theorem gX12_markOf_X12_begins : GoodIn wsX12_markOf (wsV RX12 227 RX12 yX12_begins wsX12_begins) := goodIn_app (goodIn_of _ (by decide +kernel)) ggX12_markOf_X12_begins
set_option maxRecDepth 20000 in
theorem ggX12_markOf_X12_sizeOf : GoodIn wsX12_markOf wsX12_sizeOf := goodIn_r _ [20, 1, 7, 8, 9, 5, 10, 11, 12, 21, 22, 23, 24, 2, 3, 4, 6, 13, 14, 15, 16, 25, 26, 27, 28, 29, 30, 31, 32, 33, 34, 35, 36, 37, 38, 39, 40, 41, 42, 43, 44, 45, 46, 47, 48] (by decide +kernel) (by decide +kernel)
set_option maxRecDepth 20000 in
theorem gX12_markOf_X12_sizeOf : GoodIn wsX12_markOf (wsV RX12 239 RX12 yX12_sizeOf wsX12_sizeOf) := goodIn_app (goodIn_of _ (by decide +kernel)) ggX12_markOf_X12_sizeOf
theorem dX12_markOf_0 : decode cX12_markOf 0 = .ok (.aload_n 0, 1) := by decide +kernel
theorem dX12_markOf_1 : decode cX12_markOf 1 = .ok (.getfield 22, 3) := by decide +kernel
theorem dX12_markOf_4 : decode cX12_markOf 4 = .ok (.iconst 5, 1) := by decide +kernel
theorem dX12_markOf_5 : decode cX12_markOf 5 = .ok (.iload_n 1, 1) := by decide +kernel
theorem dX12_markOf_6 : decode cX12_markOf 6 = .ok (.iadd, 1) := by decide +kernel
theorem dX12_markOf_7 : decode cX12_markOf 7 = .ok (.iaload, 1) := by decide +kernel
theorem dX12_markOf_8 : decode cX12_markOf 8 = .ok (.iconst 4, 1) := by decide +kernel
theorem dX12_markOf_9 : decode cX12_markOf 9 = .ok (.if_icmp .ge 9, 3) := by decide +kernel
theorem dX12_markOf_12 : decode cX12_markOf 12 = .ok (.aload_n 0, 1) := by decide +kernel
theorem dX12_markOf_13 : decode cX12_markOf 13 = .ok (.iload_n 1, 1) := by decide +kernel
theorem dX12_markOf_14 : decode cX12_markOf 14 = .ok (.invokevirtual 236, 3) := by decide +kernel
theorem dX12_markOf_17 : decode cX12_markOf 17 = .ok (.ireturn, 1) := by decide +kernel
theorem dX12_markOf_18 : decode cX12_markOf 18 = .ok (.aload_n 0, 1) := by decide +kernel
theorem dX12_markOf_19 : decode cX12_markOf 19 = .ok (.bipush 23, 2) := by decide +kernel
theorem dX12_markOf_21 : decode cX12_markOf 21 = .ok (.invokevirtual 227, 3) := by decide +kernel
theorem dX12_markOf_24 : decode cX12_markOf 24 = .ok (.aload_n 0, 1) := by decide +kernel
theorem dX12_markOf_25 : decode cX12_markOf 25 = .ok (.bipush 20, 2) := by decide +kernel
theorem dX12_markOf_27 : decode cX12_markOf 27 = .ok (.invokevirtual 227, 3) := by decide +kernel
theorem dX12_markOf_30 : decode cX12_markOf 30 = .ok (.iload_n 1, 1) := by decide +kernel
theorem dX12_markOf_31 : decode cX12_markOf 31 = .ok (.aload_n 0, 1) := by decide +kernel
theorem dX12_markOf_32 : decode cX12_markOf 32 = .ok (.iload_n 1, 1) := by decide +kernel
theorem dX12_markOf_33 : decode cX12_markOf 33 = .ok (.invokevirtual 239, 3) := by decide +kernel
theorem dX12_markOf_36 : decode cX12_markOf 36 = .ok (.isub, 1) := by decide +kernel
theorem dX12_markOf_37 : decode cX12_markOf 37 = .ok (.ireturn, 1) := by decide +kernel
set_option maxRecDepth 20000 in
theorem ggX12_ask_X12_isOne : GoodIn wsX12_ask wsX12_isOne := goodIn_r _ [7, 8, 9, 10, 6, 11, 37, 38, 39, 40, 41, 42, 43, 44, 45, 46, 47, 48, 49, 50, 51, 52, 53, 54, 55, 56, 57, 58, 59, 60] (by decide +kernel) (by decide +kernel)
set_option maxRecDepth 20000 in
theorem gX12_ask_X12_isOne : GoodIn wsX12_ask (wsV RX12 183 RX12 yX12_isOne wsX12_isOne) := goodIn_app (goodIn_of _ (by decide +kernel)) ggX12_ask_X12_isOne
set_option maxRecDepth 20000 in
theorem ggX12_ask_X12_in : GoodIn wsX12_ask wsX12_in := goodIn_r _ [11] (by decide +kernel) (by decide +kernel)
set_option maxRecDepth 20000 in
theorem gX12_ask_X12_in : GoodIn wsX12_ask (va_wsS RX12 53 yX12_in wsX12_in) := goodIn_app (goodIn_of _ (by decide +kernel)) ggX12_ask_X12_in
set_option maxRecDepth 20000 in
theorem ggX12_ask_X12_sizeOf : GoodIn wsX12_ask wsX12_sizeOf := goodIn_r _ [15, 8, 16, 17, 18, 6, 19, 2, 20, 21, 22, 23, 24, 25, 26, 27, 28, 29, 30, 31, 32, 37, 38, 39, 40, 41, 42, 43, 44, 45, 46, 47, 48, 49, 50, 51, 52, 53, 54, 55, 56, 57, 58, 59, 60] (by decide +kernel) (by decide +kernel)
set_option maxRecDepth 20000 in
theorem gX12_ask_X12_sizeOf : GoodIn wsX12_ask (wsV RX12 239 RX12 yX12_sizeOf wsX12_sizeOf) := goodIn_app (goodIn_of _ (by decide +kernel)) ggX12_ask_X12_sizeOf
set_option maxRecDepth 20000 in
theorem ggX12_ask_X12_markOf : GoodIn wsX12_ask wsX12_markOf := goodIn_r _ [36, 8, 25, 26, 27, 6, 28, 16, 17, 18, 19, 2, 20, 29, 30, 31, 32, 12, 13, 14, 15, 21, 22, 23, 24, 37, 38, 39, 40, 41, 42, 43, 44, 45, 46, 47, 48, 49, 50, 51, 52, 53, 54, 55, 56, 57, 58, 59, 60] (by decide +kernel) (by decide +kernel)
set_option maxRecDepth 20000 in
theorem gX12_ask_X12_markOf : GoodIn wsX12_ask (wsV RX12 242 RX12 yX12_markOf wsX12_markOf) := goodIn_app (goodIn_of _ (by decide +kernel)) ggX12_ask_X12_markOf
theorem dX12_ask_0 : decode cX12_ask 0 = .ok (.aload_n 0, 1) := by decide +kernel
theorem dX12_ask_1 : decode cX12_ask 1 = .ok (.iload_n 1, 1) := by decide +kernel
theorem dX12_ask_2 : decode cX12_ask 2 = .ok (.invokevirtual 183, 3) := by decide +kernel
theorem dX12_ask_5 : decode cX12_ask 5 = .ok (.ifCond .eq 12, 3) := by decide +kernel
theorem dX12_ask_8 : decode cX12_ask 8 = .ok (.iload_n 2, 1) := by decide +kernel
theorem dX12_ask_9 : decode cX12_ask 9 = .ok (.iconst 0, 1) := by decide +kernel
theorem dX12_ask_10 : decode cX12_ask 10 = .ok (.iconst 1, 1) := by decide +kernel
theorem dX12_ask_11 : decode cX12_ask 11 = .ok (.invokestatic 53, 3) := by decide +kernel
theorem dX12_ask_14 : decode cX12_ask 14 = .ok (.ifCond .ne 6, 3) := by decide +kernel
theorem dX12_ask_17 : decode cX12_ask 17 = .ok (.ldc 66, 2) := by decide +kernel
theorem dX12_ask_19 : decode cX12_ask 19 = .ok (.ireturn, 1) := by decide +kernel
theorem dX12_ask_20 : decode cX12_ask 20 = .ok (.aload_n 0, 1) := by decide +kernel
theorem dX12_ask_21 : decode cX12_ask 21 = .ok (.iconst 0, 1) := by decide +kernel
theorem dX12_ask_22 : decode cX12_ask 22 = .ok (.putfield 224, 3) := by decide +kernel
theorem dX12_ask_25 : decode cX12_ask 25 = .ok (.iload_n 2, 1) := by decide +kernel
theorem dX12_ask_26 : decode cX12_ask 26 = .ok (.ifCond .ne 11, 3) := by decide +kernel
theorem dX12_ask_29 : decode cX12_ask 29 = .ok (.aload_n 0, 1) := by decide +kernel
theorem dX12_ask_30 : decode cX12_ask 30 = .ok (.iload_n 1, 1) := by decide +kernel
theorem dX12_ask_31 : decode cX12_ask 31 = .ok (.invokevirtual 239, 3) := by decide +kernel
theorem dX12_ask_34 : decode cX12_ask 34 = .ok (.goto 8, 3) := by decide +kernel
theorem dX12_ask_37 : decode cX12_ask 37 = .ok (.aload_n 0, 1) := by decide +kernel
theorem dX12_ask_38 : decode cX12_ask 38 = .ok (.iload_n 1, 1) := by decide +kernel
theorem dX12_ask_39 : decode cX12_ask 39 = .ok (.invokevirtual 242, 3) := by decide +kernel
theorem dX12_ask_42 : decode cX12_ask 42 = .ok (.ireturn, 1) := by decide +kernel
set_option maxRecDepth 20000 in
theorem ggX12_trace_X12_in : GoodIn wsX12_trace wsX12_in := goodIn_r _ [7] (by decide +kernel) (by decide +kernel)
set_option maxRecDepth 20000 in
theorem gX12_trace_X12_in : GoodIn wsX12_trace (va_wsS RX12 53 yX12_in wsX12_in) := goodIn_app (goodIn_of _ (by decide +kernel)) ggX12_trace_X12_in
theorem dX12_trace_0 : decode cX12_trace 0 = .ok (.iload_n 1, 1) := by decide +kernel
theorem dX12_trace_1 : decode cX12_trace 1 = .ok (.iconst 0, 1) := by decide +kernel
theorem dX12_trace_2 : decode cX12_trace 2 = .ok (.aload_n 0, 1) := by decide +kernel
theorem dX12_trace_3 : decode cX12_trace 3 = .ok (.getfield 224, 3) := by decide +kernel
theorem dX12_trace_6 : decode cX12_trace 6 = .ok (.iconst 1, 1) := by decide +kernel
theorem dX12_trace_7 : decode cX12_trace 7 = .ok (.isub, 1) := by decide +kernel
theorem dX12_trace_8 : decode cX12_trace 8 = .ok (.invokestatic 53, 3) := by decide +kernel
theorem dX12_trace_11 : decode cX12_trace 11 = .ok (.ifCond .eq 12, 3) := by decide +kernel
theorem dX12_trace_14 : decode cX12_trace 14 = .ok (.aload_n 0, 1) := by decide +kernel
theorem dX12_trace_15 : decode cX12_trace 15 = .ok (.getfield 44, 3) := by decide +kernel
theorem dX12_trace_18 : decode cX12_trace 18 = .ok (.iload_n 1, 1) := by decide +kernel
theorem dX12_trace_19 : decode cX12_trace 19 = .ok (.iaload, 1) := by decide +kernel
theorem dX12_trace_20 : decode cX12_trace 20 = .ok (.goto 5, 3) := by decide +kernel
theorem dX12_trace_23 : decode cX12_trace 23 = .ok (.ldc 137, 2) := by decide +kernel
theorem dX12_trace_25 : decode cX12_trace 25 = .ok (.ireturn, 1) := by decide +kernel
set_option maxRecDepth 20000 in
theorem ggX12_count_X12_figuresOf : GoodIn wsX12_count wsX12_figuresOf := goodIn_r _ [9] (by decide +kernel) (by decide +kernel)
set_option maxRecDepth 20000 in
theorem gX12_count_X12_figuresOf : GoodIn wsX12_count (va_wsS RX12 218 yX12_figuresOf wsX12_figuresOf) := goodIn_app (goodIn_of _ (by decide +kernel)) ggX12_count_X12_figuresOf
theorem dX12_count_0 : decode cX12_count 0 = .ok (.iconst 0, 1) := by decide +kernel
theorem dX12_count_1 : decode cX12_count 1 = .ok (.istore_n 2, 1) := by decide +kernel
theorem dX12_count_2 : decode cX12_count 2 = .ok (.iconst 0, 1) := by decide +kernel
theorem dX12_count_3 : decode cX12_count 3 = .ok (.istore_n 3, 1) := by decide +kernel
theorem dX12_count_4 : decode cX12_count 4 = .ok (.iload_n 3, 1) := by decide +kernel
theorem dX12_count_5 : decode cX12_count 5 = .ok (.bipush 8, 2) := by decide +kernel
theorem dX12_count_7 : decode cX12_count 7 = .ok (.if_icmp .ge 26, 3) := by decide +kernel
theorem dX12_count_10 : decode cX12_count 10 = .ok (.iload_n 2, 1) := by decide +kernel
theorem dX12_count_11 : decode cX12_count 11 = .ok (.aload_n 0, 1) := by decide +kernel
theorem dX12_count_12 : decode cX12_count 12 = .ok (.getfield 7, 3) := by decide +kernel
theorem dX12_count_15 : decode cX12_count 15 = .ok (.iload_n 3, 1) := by decide +kernel
theorem dX12_count_16 : decode cX12_count 16 = .ok (.iaload, 1) := by decide +kernel
theorem dX12_count_17 : decode cX12_count 17 = .ok (.ifCond .ge 7, 3) := by decide +kernel
theorem dX12_count_20 : decode cX12_count 20 = .ok (.iconst 0, 1) := by decide +kernel
theorem dX12_count_21 : decode cX12_count 21 = .ok (.goto 4, 3) := by decide +kernel
theorem dX12_count_24 : decode cX12_count 24 = .ok (.iconst 1, 1) := by decide +kernel
theorem dX12_count_25 : decode cX12_count 25 = .ok (.iadd, 1) := by decide +kernel
theorem dX12_count_26 : decode cX12_count 26 = .ok (.istore_n 2, 1) := by decide +kernel
theorem dX12_count_27 : decode cX12_count 27 = .ok (.iinc 3 1, 3) := by decide +kernel
theorem dX12_count_30 : decode cX12_count 30 = .ok (.goto (-26), 3) := by decide +kernel
theorem dX12_count_33 : decode cX12_count 33 = .ok (.iload_n 1, 1) := by decide +kernel
theorem dX12_count_34 : decode cX12_count 34 = .ok (.tableswitch 94 0 7 #[46, 48, 55, 62, 69, 76, 81, 86], 46) := by decide +kernel
theorem dX12_count_80 : decode cX12_count 80 = .ok (.iload_n 2, 1) := by decide +kernel
theorem dX12_count_81 : decode cX12_count 81 = .ok (.ireturn, 1) := by decide +kernel
theorem dX12_count_82 : decode cX12_count 82 = .ok (.aload_n 0, 1) := by decide +kernel
theorem dX12_count_83 : decode cX12_count 83 = .ok (.getfield 22, 3) := by decide +kernel
theorem dX12_count_86 : decode cX12_count 86 = .ok (.iconst 1, 1) := by decide +kernel
theorem dX12_count_87 : decode cX12_count 87 = .ok (.iaload, 1) := by decide +kernel
theorem dX12_count_88 : decode cX12_count 88 = .ok (.ireturn, 1) := by decide +kernel
theorem dX12_count_89 : decode cX12_count 89 = .ok (.aload_n 0, 1) := by decide +kernel
theorem dX12_count_90 : decode cX12_count 90 = .ok (.getfield 22, 3) := by decide +kernel
theorem dX12_count_93 : decode cX12_count 93 = .ok (.iconst 3, 1) := by decide +kernel
theorem dX12_count_94 : decode cX12_count 94 = .ok (.iaload, 1) := by decide +kernel
theorem dX12_count_95 : decode cX12_count 95 = .ok (.ireturn, 1) := by decide +kernel
theorem dX12_count_96 : decode cX12_count 96 = .ok (.aload_n 0, 1) := by decide +kernel
theorem dX12_count_97 : decode cX12_count 97 = .ok (.getfield 22, 3) := by decide +kernel
theorem dX12_count_100 : decode cX12_count 100 = .ok (.iconst 0, 1) := by decide +kernel
theorem dX12_count_101 : decode cX12_count 101 = .ok (.iaload, 1) := by decide +kernel
theorem dX12_count_102 : decode cX12_count 102 = .ok (.ireturn, 1) := by decide +kernel
theorem dX12_count_103 : decode cX12_count 103 = .ok (.aload_n 0, 1) := by decide +kernel
theorem dX12_count_104 : decode cX12_count 104 = .ok (.getfield 22, 3) := by decide +kernel
theorem dX12_count_107 : decode cX12_count 107 = .ok (.iconst 2, 1) := by decide +kernel
theorem dX12_count_108 : decode cX12_count 108 = .ok (.iaload, 1) := by decide +kernel
theorem dX12_count_109 : decode cX12_count 109 = .ok (.ireturn, 1) := by decide +kernel
theorem dX12_count_110 : decode cX12_count 110 = .ok (.aload_n 0, 1) := by decide +kernel
theorem dX12_count_111 : decode cX12_count 111 = .ok (.getfield 134, 3) := by decide +kernel
theorem dX12_count_114 : decode cX12_count 114 = .ok (.ireturn, 1) := by decide +kernel
theorem dX12_count_115 : decode cX12_count 115 = .ok (.aload_n 0, 1) := by decide +kernel
theorem dX12_count_116 : decode cX12_count 116 = .ok (.getfield 77, 3) := by decide +kernel
theorem dX12_count_119 : decode cX12_count 119 = .ok (.ireturn, 1) := by decide +kernel
theorem dX12_count_120 : decode cX12_count 120 = .ok (.aload_n 0, 1) := by decide +kernel
theorem dX12_count_121 : decode cX12_count 121 = .ok (.getfield 22, 3) := by decide +kernel
theorem dX12_count_124 : decode cX12_count 124 = .ok (.invokestatic 218, 3) := by decide +kernel
theorem dX12_count_127 : decode cX12_count 127 = .ok (.ireturn, 1) := by decide +kernel
theorem dX12_count_128 : decode cX12_count 128 = .ok (.ldc 66, 2) := by decide +kernel
theorem dX12_count_130 : decode cX12_count 130 = .ok (.ireturn, 1) := by decide +kernel
theorem dX12_status_0 : decode cX12_status 0 = .ok (.aload_n 0, 1) := by decide +kernel
theorem dX12_status_1 : decode cX12_status 1 = .ok (.getfield 57, 3) := by decide +kernel
theorem dX12_status_4 : decode cX12_status 4 = .ok (.ireturn, 1) := by decide +kernel
theorem dJ6_bitCount_0f7a4_0 : decode cJ6_bitCount_0f7a4 0 = .ok (.iload_n 0, 1) := by decide +kernel
theorem dJ6_bitCount_0f7a4_1 : decode cJ6_bitCount_0f7a4 1 = .ok (.iload_n 0, 1) := by decide +kernel
theorem dJ6_bitCount_0f7a4_2 : decode cJ6_bitCount_0f7a4 2 = .ok (.iconst 1, 1) := by decide +kernel
theorem dJ6_bitCount_0f7a4_3 : decode cJ6_bitCount_0f7a4 3 = .ok (.iushr, 1) := by decide +kernel
theorem dJ6_bitCount_0f7a4_4 : decode cJ6_bitCount_0f7a4 4 = .ok (.ldc_w 265, 3) := by decide +kernel
theorem dJ6_bitCount_0f7a4_7 : decode cJ6_bitCount_0f7a4 7 = .ok (.iand, 1) := by decide +kernel
theorem dJ6_bitCount_0f7a4_8 : decode cJ6_bitCount_0f7a4 8 = .ok (.isub, 1) := by decide +kernel
theorem dJ6_bitCount_0f7a4_9 : decode cJ6_bitCount_0f7a4 9 = .ok (.istore_n 0, 1) := by decide +kernel
theorem dJ6_bitCount_0f7a4_10 : decode cJ6_bitCount_0f7a4 10 = .ok (.iload_n 0, 1) := by decide +kernel
theorem dJ6_bitCount_0f7a4_11 : decode cJ6_bitCount_0f7a4 11 = .ok (.ldc_w 266, 3) := by decide +kernel
theorem dJ6_bitCount_0f7a4_14 : decode cJ6_bitCount_0f7a4 14 = .ok (.iand, 1) := by decide +kernel
theorem dJ6_bitCount_0f7a4_15 : decode cJ6_bitCount_0f7a4 15 = .ok (.iload_n 0, 1) := by decide +kernel
theorem dJ6_bitCount_0f7a4_16 : decode cJ6_bitCount_0f7a4 16 = .ok (.iconst 2, 1) := by decide +kernel
theorem dJ6_bitCount_0f7a4_17 : decode cJ6_bitCount_0f7a4 17 = .ok (.iushr, 1) := by decide +kernel
theorem dJ6_bitCount_0f7a4_18 : decode cJ6_bitCount_0f7a4 18 = .ok (.ldc_w 266, 3) := by decide +kernel
theorem dJ6_bitCount_0f7a4_21 : decode cJ6_bitCount_0f7a4 21 = .ok (.iand, 1) := by decide +kernel
theorem dJ6_bitCount_0f7a4_22 : decode cJ6_bitCount_0f7a4 22 = .ok (.iadd, 1) := by decide +kernel
theorem dJ6_bitCount_0f7a4_23 : decode cJ6_bitCount_0f7a4 23 = .ok (.istore_n 0, 1) := by decide +kernel
theorem dJ6_bitCount_0f7a4_24 : decode cJ6_bitCount_0f7a4 24 = .ok (.iload_n 0, 1) := by decide +kernel
theorem dJ6_bitCount_0f7a4_25 : decode cJ6_bitCount_0f7a4 25 = .ok (.iload_n 0, 1) := by decide +kernel
theorem dJ6_bitCount_0f7a4_26 : decode cJ6_bitCount_0f7a4 26 = .ok (.iconst 4, 1) := by decide +kernel
theorem dJ6_bitCount_0f7a4_27 : decode cJ6_bitCount_0f7a4 27 = .ok (.iushr, 1) := by decide +kernel
theorem dJ6_bitCount_0f7a4_28 : decode cJ6_bitCount_0f7a4 28 = .ok (.iadd, 1) := by decide +kernel
theorem dJ6_bitCount_0f7a4_29 : decode cJ6_bitCount_0f7a4 29 = .ok (.ldc_w 267, 3) := by decide +kernel
theorem dJ6_bitCount_0f7a4_32 : decode cJ6_bitCount_0f7a4 32 = .ok (.iand, 1) := by decide +kernel
theorem dJ6_bitCount_0f7a4_33 : decode cJ6_bitCount_0f7a4 33 = .ok (.istore_n 0, 1) := by decide +kernel
theorem dJ6_bitCount_0f7a4_34 : decode cJ6_bitCount_0f7a4 34 = .ok (.iload_n 0, 1) := by decide +kernel
theorem dJ6_bitCount_0f7a4_35 : decode cJ6_bitCount_0f7a4 35 = .ok (.iload_n 0, 1) := by decide +kernel
theorem dJ6_bitCount_0f7a4_36 : decode cJ6_bitCount_0f7a4 36 = .ok (.bipush 8, 2) := by decide +kernel
theorem dJ6_bitCount_0f7a4_38 : decode cJ6_bitCount_0f7a4 38 = .ok (.iushr, 1) := by decide +kernel
theorem dJ6_bitCount_0f7a4_39 : decode cJ6_bitCount_0f7a4 39 = .ok (.iadd, 1) := by decide +kernel
theorem dJ6_bitCount_0f7a4_40 : decode cJ6_bitCount_0f7a4 40 = .ok (.istore_n 0, 1) := by decide +kernel
